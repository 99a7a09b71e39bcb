def f_X4_noteAt (mu : Mem) (x0 : Nat) (x1 : Int32) (x2 : Int32) (x3 : Int32) : Option (Nat ⊕ Int32) := (chk mu 6 x0).bind fun _ => (f_X4_knownPart mu x0 x1).bind fun t2 => sml t2 (fun e4 => some (.inl e4)) (fun v5 => (chk mu 6 x0).bind fun _ => (f_X4_knownBar mu x0 x2).bind fun t7 => sml t7 (fun e9 => some (.inl e9)) (fun v10 => (chk mu 6 x0).bind fun _ => (f_X4_knownNoteInOrder mu x0 x1 x2 x3).bind fun t12 => sml t12 (fun e14 => some (.inl e14)) (fun v15 => some (.inr v15))))
set_option maxHeartbeats 1000000 in
set_option maxRecDepth 100000 in
theorem k_X4_noteAt (l : Launch) (hsl : l.stackTraces = false) (G : GG) (A : Nat → Prop) (mu : Mem) (x0 : Nat) (x1 : Int32) (x2 : Int32) (x3 : Int32) (r : Nat ⊕ Int32) (hf : f_X4_noteAt mu x0 x1 x2 x3 = some r) : Ok l yX4_noteAt wsX4_noteAt ({ frames := 12, cells := 3, slots := 18, locals := 230 } : Room) [.ref x0, .int x1, .int x2, .int x3] G A mu (dP (rIx r) mu) := by
  refine Ok.start (cc := cX4_noteAt) (maxL := 4) (ret := (some .int)) rfl (by decide +kernel) hsl (by first | exact Nat.le_of_ble_eq_true rfl | simp [lg_sl, cat_rf, Value.category]) ?_
  intro p e s m args below meth c ls X hr hname hW hl
  have X : BX p l s m args meth c cX4_noteAt 4 RX4 wsX4_noteAt G A := X
  have hx := X.1
  have hb := X.2.1
  have hts := X.2.2.2.2.1
  have hl : lv_has ls 4 [(0, .ref x0), (1, .int x1), (2, .int x2), (3, .int x3)] := hl
  unfold f_X4_noteAt at hf
  refine lv_aload_n hx hb dX4_noteAt_0 rfl (lv_at hl 0 rfl) ?_
  refine lv_iload_n hx hb dX4_noteAt_1 rfl (lv_at hl 1 rfl) ?_
  replace hf := bnd hf
  obtain ⟨_, h1, hf⟩ := hf
  replace hf := bnd hf
  obtain ⟨t2, h3, hf⟩ := hf
  replace hf := smc hf
  rcases hf with ⟨e4, hq, hf⟩ | ⟨v5, hq, hf⟩
  · subst hq
    exact r_callV_thr X hW hl.1 (k_X4_knownPart l hsl G A mu x0 x1 _ h3) gX4_noteAt_X4_knownPart rfl (chk_ok h1) (by decide) rfl (by decide +kernel) (n := 1) rfl (by decide) (Nat.le_of_ble_eq_true rfl) dX4_noteAt_2 rfl rfl (by cases hf; exact ⟨rfl, rfl⟩)
  · subst hq
    refine r_callV_ok X hW hl.1 (k_X4_knownPart l hsl G A mu x0 x1 _ h3) gX4_noteAt_X4_knownPart rfl (chk_ok h1) (by decide) rfl (by decide +kernel) (n := 1) rfl (by decide) (Nat.le_of_ble_eq_true rfl) dX4_noteAt_2 rfl rfl (stk := [va_rf v5]) rfl (fun H locs hW => ?_)
    refine lv_pop hx hb dX4_noteAt_5 (cat_rf _) ?_
    refine lv_aload_n hx hb dX4_noteAt_6 rfl (lv_at hl 0 rfl) ?_
    refine lv_iload_n hx hb dX4_noteAt_7 rfl (lv_at hl 2 rfl) ?_
    replace hf := bnd hf
    obtain ⟨_, h6, hf⟩ := hf
    replace hf := bnd hf
    obtain ⟨t7, h8, hf⟩ := hf
    replace hf := smc hf
    rcases hf with ⟨e9, hq, hf⟩ | ⟨v10, hq, hf⟩
    · subst hq
      exact r_callV_thr X hW hl.1 (k_X4_knownBar l hsl G A mu x0 x2 _ h8) gX4_noteAt_X4_knownBar rfl (chk_ok h6) (by decide) rfl (by decide +kernel) (n := 1) rfl (by decide) (Nat.le_of_ble_eq_true rfl) dX4_noteAt_8 rfl rfl (by cases hf; exact ⟨rfl, rfl⟩)
    · subst hq
      refine r_callV_ok X hW hl.1 (k_X4_knownBar l hsl G A mu x0 x2 _ h8) gX4_noteAt_X4_knownBar rfl (chk_ok h6) (by decide) rfl (by decide +kernel) (n := 1) rfl (by decide) (Nat.le_of_ble_eq_true rfl) dX4_noteAt_8 rfl rfl (stk := [va_rf v10]) rfl (fun H locs hW => ?_)
      refine lv_pop hx hb dX4_noteAt_11 (cat_rf _) ?_
      refine lv_aload_n hx hb dX4_noteAt_12 rfl (lv_at hl 0 rfl) ?_
      refine lv_iload_n hx hb dX4_noteAt_13 rfl (lv_at hl 1 rfl) ?_
      refine lv_iload_n hx hb dX4_noteAt_14 rfl (lv_at hl 2 rfl) ?_
      refine lv_iload_n hx hb dX4_noteAt_15 rfl (lv_at hl 3 rfl) ?_
      replace hf := bnd hf
      obtain ⟨_, h11, hf⟩ := hf
      replace hf := bnd hf
      obtain ⟨t12, h13, hf⟩ := hf
      replace hf := smc hf
      rcases hf with ⟨e14, hq, hf⟩ | ⟨v15, hq, hf⟩
      · subst hq
        exact r_callV_thr X hW hl.1 (k_X4_knownNoteInOrder l hsl G A mu x0 x1 x2 x3 _ h13) gX4_noteAt_X4_knownNoteInOrder rfl (chk_ok h11) (by decide) rfl (by decide +kernel) (n := 3) rfl (by decide) (Nat.le_of_ble_eq_true rfl) dX4_noteAt_16 rfl rfl (by cases hf; exact ⟨rfl, rfl⟩)
      · subst hq
        refine r_callV_ok X hW hl.1 (k_X4_knownNoteInOrder l hsl G A mu x0 x1 x2 x3 _ h13) gX4_noteAt_X4_knownNoteInOrder rfl (chk_ok h11) (by decide) rfl (by decide +kernel) (n := 3) rfl (by decide) (Nat.le_of_ble_eq_true rfl) dX4_noteAt_16 rfl rfl (stk := [.int v15]) rfl (fun H locs hW => ?_)
        exact r_iret X hr hW (by cases hf; exact ⟨rfl, rfl⟩) (by decide) (by decide) dX4_noteAt_19

def f_X4_pitchOf (mu : Mem) (x0 : Nat) (x1 : Int32) : Option (Nat ⊕ Int32) := (chk mu 6 x0).bind fun _ => (f_X4_knownNote mu x0 x1).bind fun t2 => sml t2 (fun e4 => some (.inl e4)) (fun v5 => v5.bind fun a6 => (getI mu 4 5 a6).bind fun t8 => some (.inr t8))
set_option maxHeartbeats 1000000 in
set_option maxRecDepth 100000 in
theorem k_X4_pitchOf (l : Launch) (hsl : l.stackTraces = false) (G : GG) (A : Nat → Prop) (mu : Mem) (x0 : Nat) (x1 : Int32) (r : Nat ⊕ Int32) (hf : f_X4_pitchOf mu x0 x1 = some r) : Ok l yX4_pitchOf wsX4_pitchOf ({ frames := 10, cells := 1, slots := 6, locals := 190 } : Room) [.ref x0, .int x1] G A mu (dP (rIx r) mu) := by
  refine Ok.start (cc := cX4_pitchOf) (maxL := 2) (ret := (some .int)) rfl (by decide +kernel) hsl (by first | exact Nat.le_of_ble_eq_true rfl | simp [lg_sl, cat_rf, Value.category]) ?_
  intro p e s m args below meth c ls X hr hname hW hl
  have X : BX p l s m args meth c cX4_pitchOf 2 RX4 wsX4_pitchOf G A := X
  have hx := X.1
  have hb := X.2.1
  have hts := X.2.2.2.2.1
  have hl : lv_has ls 2 [(0, .ref x0), (1, .int x1)] := hl
  have hinX2 : ∀ w ∈ wsX20, w ∈ wsX4_pitchOf := by decide +kernel
  have hF125 : (Cond.fieldLink RX4 125 "PartcopyistBench$Note" "pitch" "I").before args s = true := hts _ (by decide +kernel)
  unfold f_X4_pitchOf at hf
  refine lv_aload_n hx hb dX4_pitchOf_0 rfl (lv_at hl 0 rfl) ?_
  refine lv_iload_n hx hb dX4_pitchOf_1 rfl (lv_at hl 1 rfl) ?_
  replace hf := bnd hf
  obtain ⟨_, h1, hf⟩ := hf
  replace hf := bnd hf
  obtain ⟨t2, h3, hf⟩ := hf
  replace hf := smc hf
  rcases hf with ⟨e4, hq, hf⟩ | ⟨v5, hq, hf⟩
  · subst hq
    exact r_callV_thr X hW hl.1 (k_X4_knownNote l hsl G A mu x0 x1 _ h3) gX4_pitchOf_X4_knownNote rfl (chk_ok h1) (by decide) rfl (by decide +kernel) (n := 1) rfl (by decide) (Nat.le_of_ble_eq_true rfl) dX4_pitchOf_2 rfl rfl (by cases hf; exact ⟨rfl, rfl⟩)
  · subst hq
    refine r_callV_ok X hW hl.1 (k_X4_knownNote l hsl G A mu x0 x1 _ h3) gX4_pitchOf_X4_knownNote rfl (chk_ok h1) (by decide) rfl (by decide +kernel) (n := 1) rfl (by decide) (Nat.le_of_ble_eq_true rfl) dX4_pitchOf_2 rfl rfl (stk := [va_rf v5]) rfl (fun H locs hW => ?_)
    replace hf := bnd hf
    obtain ⟨a6, h7, hf⟩ := hf
    subst h7
    replace hf := bnd hf
    obtain ⟨t8, h9, hf⟩ := hf
    refine g_4_5 X hW hinX2 hF125 h9 dX4_pitchOf_5 ?_
    exact r_iret X hr hW (by cases hf; exact ⟨rfl, rfl⟩) (by decide) (by decide) dX4_pitchOf_8

def f_X4_lengthOf (mu : Mem) (x0 : Nat) (x1 : Int32) : Option (Nat ⊕ Int32) := (chk mu 6 x0).bind fun _ => (f_X4_knownNote mu x0 x1).bind fun t2 => sml t2 (fun e4 => some (.inl e4)) (fun v5 => v5.bind fun a6 => (getI mu 4 4 a6).bind fun t8 => some (.inr t8))
set_option maxHeartbeats 1000000 in
set_option maxRecDepth 100000 in
theorem k_X4_lengthOf (l : Launch) (hsl : l.stackTraces = false) (G : GG) (A : Nat → Prop) (mu : Mem) (x0 : Nat) (x1 : Int32) (r : Nat ⊕ Int32) (hf : f_X4_lengthOf mu x0 x1 = some r) : Ok l yX4_lengthOf wsX4_lengthOf ({ frames := 10, cells := 1, slots := 6, locals := 190 } : Room) [.ref x0, .int x1] G A mu (dP (rIx r) mu) := by
  refine Ok.start (cc := cX4_lengthOf) (maxL := 2) (ret := (some .int)) rfl (by decide +kernel) hsl (by first | exact Nat.le_of_ble_eq_true rfl | simp [lg_sl, cat_rf, Value.category]) ?_
  intro p e s m args below meth c ls X hr hname hW hl
  have X : BX p l s m args meth c cX4_lengthOf 2 RX4 wsX4_lengthOf G A := X
  have hx := X.1
  have hb := X.2.1
  have hts := X.2.2.2.2.1
  have hl : lv_has ls 2 [(0, .ref x0), (1, .int x1)] := hl
  have hinX2 : ∀ w ∈ wsX20, w ∈ wsX4_lengthOf := by decide +kernel
  have hF144 : (Cond.fieldLink RX4 144 "PartcopyistBench$Note" "length" "I").before args s = true := hts _ (by decide +kernel)
  unfold f_X4_lengthOf at hf
  refine lv_aload_n hx hb dX4_lengthOf_0 rfl (lv_at hl 0 rfl) ?_
  refine lv_iload_n hx hb dX4_lengthOf_1 rfl (lv_at hl 1 rfl) ?_
  replace hf := bnd hf
  obtain ⟨_, h1, hf⟩ := hf
  replace hf := bnd hf
  obtain ⟨t2, h3, hf⟩ := hf
  replace hf := smc hf
  rcases hf with ⟨e4, hq, hf⟩ | ⟨v5, hq, hf⟩
  · subst hq
    exact r_callV_thr X hW hl.1 (k_X4_knownNote l hsl G A mu x0 x1 _ h3) gX4_lengthOf_X4_knownNote rfl (chk_ok h1) (by decide) rfl (by decide +kernel) (n := 1) rfl (by decide) (Nat.le_of_ble_eq_true rfl) dX4_lengthOf_2 rfl rfl (by cases hf; exact ⟨rfl, rfl⟩)
  · subst hq
    refine r_callV_ok X hW hl.1 (k_X4_knownNote l hsl G A mu x0 x1 _ h3) gX4_lengthOf_X4_knownNote rfl (chk_ok h1) (by decide) rfl (by decide +kernel) (n := 1) rfl (by decide) (Nat.le_of_ble_eq_true rfl) dX4_lengthOf_2 rfl rfl (stk := [va_rf v5]) rfl (fun H locs hW => ?_)
    replace hf := bnd hf
    obtain ⟨a6, h7, hf⟩ := hf
    subst h7
    replace hf := bnd hf
    obtain ⟨t8, h9, hf⟩ := hf
    refine g_4_4 X hW hinX2 hF144 h9 dX4_lengthOf_5 ?_
    exact r_iret X hr hW (by cases hf; exact ⟨rfl, rfl⟩) (by decide) (by decide) dX4_lengthOf_8

def f_X4_isDivided (mu : Mem) (x0 : Nat) (x1 : Int32) (x2 : Int32) : Option (Nat ⊕ Int32) := (chk mu 6 x0).bind fun _ => (f_X4_knownPart mu x0 x1).bind fun t2 => sml t2 (fun e4 => some (.inl e4)) (fun v5 => (chk mu 6 x0).bind fun _ => (f_X4_knownBar mu x0 x2).bind fun t7 => sml t7 (fun e9 => some (.inl e9)) (fun v10 => (chk mu 6 x0).bind fun _ => (f_X4_hasVoice mu x0 x1 x2 0).bind fun t12 => if t12 = 0 then (some (.inr 0)) else ((chk mu 6 x0).bind fun _ => (f_X4_hasVoice mu x0 x1 x2 1).bind fun t15 => if t15 = 0 then (some (.inr 0)) else (some (.inr 1)))))
set_option maxHeartbeats 1000000 in
set_option maxRecDepth 100000 in
theorem k_X4_isDivided (l : Launch) (hsl : l.stackTraces = false) (G : GG) (A : Nat → Prop) (mu : Mem) (x0 : Nat) (x1 : Int32) (x2 : Int32) (r : Nat ⊕ Int32) (hf : f_X4_isDivided mu x0 x1 x2 = some r) : Ok l yX4_isDivided wsX4_isDivided ({ frames := 10, cells := 2, slots := 12, locals := 190 } : Room) [.ref x0, .int x1, .int x2] G A mu (dP (rIx r) mu) := by
  refine Ok.start (cc := cX4_isDivided) (maxL := 3) (ret := (some .boolean)) rfl (by decide +kernel) hsl (by first | exact Nat.le_of_ble_eq_true rfl | simp [lg_sl, cat_rf, Value.category]) ?_
  intro p e s m args below meth c ls X hr hname hW hl
  have X : BX p l s m args meth c cX4_isDivided 3 RX4 wsX4_isDivided G A := X
  have hx := X.1
  have hb := X.2.1
  have hts := X.2.2.2.2.1
  have hl : lv_has ls 3 [(0, .ref x0), (1, .int x1), (2, .int x2)] := hl
  unfold f_X4_isDivided at hf
  refine lv_aload_n hx hb dX4_isDivided_0 rfl (lv_at hl 0 rfl) ?_
  refine lv_iload_n hx hb dX4_isDivided_1 rfl (lv_at hl 1 rfl) ?_
  replace hf := bnd hf
  obtain ⟨_, h1, hf⟩ := hf
  replace hf := bnd hf
  obtain ⟨t2, h3, hf⟩ := hf
  replace hf := smc hf
  rcases hf with ⟨e4, hq, hf⟩ | ⟨v5, hq, hf⟩
  · subst hq
    exact r_callV_thr X hW hl.1 (k_X4_knownPart l hsl G A mu x0 x1 _ h3) gX4_isDivided_X4_knownPart rfl (chk_ok h1) (by decide) rfl (by decide +kernel) (n := 1) rfl (by decide) (Nat.le_of_ble_eq_true rfl) dX4_isDivided_2 rfl rfl (by cases hf; exact ⟨rfl, rfl⟩)
  · subst hq
    refine r_callV_ok X hW hl.1 (k_X4_knownPart l hsl G A mu x0 x1 _ h3) gX4_isDivided_X4_knownPart rfl (chk_ok h1) (by decide) rfl (by decide +kernel) (n := 1) rfl (by decide) (Nat.le_of_ble_eq_true rfl) dX4_isDivided_2 rfl rfl (stk := [va_rf v5]) rfl (fun H locs hW => ?_)
    refine lv_pop hx hb dX4_isDivided_5 (cat_rf _) ?_
    refine lv_aload_n hx hb dX4_isDivided_6 rfl (lv_at hl 0 rfl) ?_
    refine lv_iload_n hx hb dX4_isDivided_7 rfl (lv_at hl 2 rfl) ?_
    replace hf := bnd hf
    obtain ⟨_, h6, hf⟩ := hf
    replace hf := bnd hf
    obtain ⟨t7, h8, hf⟩ := hf
    replace hf := smc hf
    rcases hf with ⟨e9, hq, hf⟩ | ⟨v10, hq, hf⟩
    · subst hq
      exact r_callV_thr X hW hl.1 (k_X4_knownBar l hsl G A mu x0 x2 _ h8) gX4_isDivided_X4_knownBar rfl (chk_ok h6) (by decide) rfl (by decide +kernel) (n := 1) rfl (by decide) (Nat.le_of_ble_eq_true rfl) dX4_isDivided_8 rfl rfl (by cases hf; exact ⟨rfl, rfl⟩)
    · subst hq
      refine r_callV_ok X hW hl.1 (k_X4_knownBar l hsl G A mu x0 x2 _ h8) gX4_isDivided_X4_knownBar rfl (chk_ok h6) (by decide) rfl (by decide +kernel) (n := 1) rfl (by decide) (Nat.le_of_ble_eq_true rfl) dX4_isDivided_8 rfl rfl (stk := [va_rf v10]) rfl (fun H locs hW => ?_)
      refine lv_pop hx hb dX4_isDivided_11 (cat_rf _) ?_
      refine lv_aload_n hx hb dX4_isDivided_12 rfl (lv_at hl 0 rfl) ?_
      refine lv_iload_n hx hb dX4_isDivided_13 rfl (lv_at hl 1 rfl) ?_
      refine lv_iload_n hx hb dX4_isDivided_14 rfl (lv_at hl 2 rfl) ?_
      refine lv_iconst (v := 0) hx hb dX4_isDivided_15 (by decide) ?_
      replace hf := bnd hf
      obtain ⟨_, h11, hf⟩ := hf
      replace hf := bnd hf
      obtain ⟨t12, h13, hf⟩ := hf
      refine r_callV_ok X hW hl.1 (k_X4_hasVoice l hsl G A mu x0 x1 x2 0 _ h13) gX4_isDivided_X4_hasVoice rfl (chk_ok h11) (by decide) rfl (by decide +kernel) (n := 3) rfl (by decide) (Nat.le_of_ble_eq_true rfl) dX4_isDivided_16 rfl rfl (stk := [.int t12]) rfl (fun H locs hW => ?_)
      refine lv_if_eq (tgt := 36) hx hb dX4_isDivided_19 (by decide) (fun hc => ?_) (fun hc => ?_)
      · replace hf := itp hc hf
        refine lv_iconst (v := 0) hx hb dX4_isDivided_36 (by decide) ?_
        exact r_zret X hr hW (Or.inl rfl) (by cases hf; exact ⟨rfl, rfl⟩) (by decide) (by decide) dX4_isDivided_37
      · replace hf := itn hc hf
        refine lv_aload_n hx hb dX4_isDivided_22 rfl (lv_at hl 0 rfl) ?_
        refine lv_iload_n hx hb dX4_isDivided_23 rfl (lv_at hl 1 rfl) ?_
        refine lv_iload_n hx hb dX4_isDivided_24 rfl (lv_at hl 2 rfl) ?_
        refine lv_iconst (v := 1) hx hb dX4_isDivided_25 (by decide) ?_
        replace hf := bnd hf
        obtain ⟨_, h14, hf⟩ := hf
        replace hf := bnd hf
        obtain ⟨t15, h16, hf⟩ := hf
        refine r_callV_ok X hW hl.1 (k_X4_hasVoice l hsl G A mu x0 x1 x2 1 _ h16) gX4_isDivided_X4_hasVoice rfl (chk_ok h14) (by decide) rfl (by decide +kernel) (n := 3) rfl (by decide) (Nat.le_of_ble_eq_true rfl) dX4_isDivided_26 rfl rfl (stk := [.int t15]) rfl (fun H locs hW => ?_)
        refine lv_if_eq (tgt := 36) hx hb dX4_isDivided_29 (by decide) (fun hc => ?_) (fun hc => ?_)
        · replace hf := itp hc hf
          refine lv_iconst (v := 0) hx hb dX4_isDivided_36 (by decide) ?_
          exact r_zret X hr hW (Or.inl rfl) (by cases hf; exact ⟨rfl, rfl⟩) (by decide) (by decide) dX4_isDivided_37
        · replace hf := itn hc hf
          refine lv_iconst (v := 1) hx hb dX4_isDivided_32 (by decide) ?_
          refine lv_goto (tgt := 37) hx hb dX4_isDivided_33 (by decide) ?_
          exact r_zret X hr hW (Or.inr rfl) (by cases hf; exact ⟨rfl, rfl⟩) (by decide) (by decide) dX4_isDivided_37

def f_X4_written (mu : Mem) (x0 : Nat) (x1 : Int32) : Option (Nat ⊕ Int32) := (chk mu 6 x0).bind fun _ => (f_X4_knownNote mu x0 x1).bind fun t2 => sml t2 (fun e4 => some (.inl e4)) (fun v5 => (chk mu 6 x0).bind fun _ => (f_X4_writtenPitch mu x0 v5).bind fun t7 => some (.inr t7))
set_option maxHeartbeats 1000000 in
set_option maxRecDepth 100000 in
theorem k_X4_written (l : Launch) (hsl : l.stackTraces = false) (G : GG) (A : Nat → Prop) (mu : Mem) (x0 : Nat) (x1 : Int32) (r : Nat ⊕ Int32) (hf : f_X4_written mu x0 x1 = some r) : Ok l yX4_written wsX4_written ({ frames := 10, cells := 1, slots := 6, locals := 190 } : Room) [.ref x0, .int x1] G A mu (dP (rIx r) mu) := by
  refine Ok.start (cc := cX4_written) (maxL := 2) (ret := (some .int)) rfl (by decide +kernel) hsl (by first | exact Nat.le_of_ble_eq_true rfl | simp [lg_sl, cat_rf, Value.category]) ?_
  intro p e s m args below meth c ls X hr hname hW hl
  have X : BX p l s m args meth c cX4_written 2 RX4 wsX4_written G A := X
  have hx := X.1
  have hb := X.2.1
  have hts := X.2.2.2.2.1
  have hl : lv_has ls 2 [(0, .ref x0), (1, .int x1)] := hl
  unfold f_X4_written at hf
  refine lv_aload_n hx hb dX4_written_0 rfl (lv_at hl 0 rfl) ?_
  refine lv_aload_n hx hb dX4_written_1 rfl (lv_at hl 0 rfl) ?_
  refine lv_iload_n hx hb dX4_written_2 rfl (lv_at hl 1 rfl) ?_
  replace hf := bnd hf
  obtain ⟨_, h1, hf⟩ := hf
  replace hf := bnd hf
  obtain ⟨t2, h3, hf⟩ := hf
  replace hf := smc hf
  rcases hf with ⟨e4, hq, hf⟩ | ⟨v5, hq, hf⟩
  · subst hq
    exact r_callV_thr X hW hl.1 (k_X4_knownNote l hsl G A mu x0 x1 _ h3) gX4_written_X4_knownNote rfl (chk_ok h1) (by decide) rfl (by decide +kernel) (n := 1) rfl (by decide) (Nat.le_of_ble_eq_true rfl) dX4_written_3 rfl rfl (by cases hf; exact ⟨rfl, rfl⟩)
  · subst hq
    refine r_callV_ok X hW hl.1 (k_X4_knownNote l hsl G A mu x0 x1 _ h3) gX4_written_X4_knownNote rfl (chk_ok h1) (by decide) rfl (by decide +kernel) (n := 1) rfl (by decide) (Nat.le_of_ble_eq_true rfl) dX4_written_3 rfl rfl (stk := [va_rf v5, .ref x0]) rfl (fun H locs hW => ?_)
    replace hf := bnd hf
    obtain ⟨_, h6, hf⟩ := hf
    replace hf := bnd hf
    obtain ⟨t7, h8, hf⟩ := hf
    refine r_callV_ok X hW hl.1 (k_X4_writtenPitch l hsl G A mu x0 v5 _ h8) gX4_written_X4_writtenPitch rfl (chk_ok h6) (by decide) rfl (by decide +kernel) (n := 1) rfl (by decide) (Nat.le_of_ble_eq_true rfl) dX4_written_6 rfl rfl (stk := [.int t7]) rfl (fun H locs hW => ?_)
    exact r_iret X hr hW (by cases hf; exact ⟨rfl, rfl⟩) (by decide) (by decide) dX4_written_9

def f_X4_writtenKey (mu : Mem) (x0 : Nat) (x1 : Int32) (x2 : Int32) : Option (Nat ⊕ Int32) := (chk mu 6 x0).bind fun _ => (f_X4_knownPart mu x0 x1).bind fun t2 => sml t2 (fun e4 => some (.inl e4)) (fun v5 => v5.bind fun a6 => (getI mu 5 0 a6).bind fun t8 => (chk mu 6 x0).bind fun _ => (f_X4_knownBar mu x0 x2).bind fun t11 => sml t11 (fun e13 => some (.inl e13)) (fun v14 => v14.bind fun a15 => (getI mu 2 1 a15).bind fun t17 => (f_X4_shiftedKey mu t17 t8).bind fun t19 => some (.inr t19)))
set_option maxHeartbeats 1000000 in
set_option maxRecDepth 100000 in
theorem k_X4_writtenKey (l : Launch) (hsl : l.stackTraces = false) (G : GG) (A : Nat → Prop) (mu : Mem) (x0 : Nat) (x1 : Int32) (x2 : Int32) (r : Nat ⊕ Int32) (hf : f_X4_writtenKey mu x0 x1 x2 = some r) : Ok l yX4_writtenKey wsX4_writtenKey ({ frames := 10, cells := 2, slots := 12, locals := 190 } : Room) [.ref x0, .int x1, .int x2] G A mu (dP (rIx r) mu) := by
  refine Ok.start (cc := cX4_writtenKey) (maxL := 5) (ret := (some .int)) rfl (by decide +kernel) hsl (by first | exact Nat.le_of_ble_eq_true rfl | simp [lg_sl, cat_rf, Value.category]) ?_
  intro p e s m args below meth c ls X hr hname hW hl
  have X : BX p l s m args meth c cX4_writtenKey 5 RX4 wsX4_writtenKey G A := X
  have hx := X.1
  have hb := X.2.1
  have hts := X.2.2.2.2.1
  have hl : lv_has ls 5 [(0, .ref x0), (1, .int x1), (2, .int x2)] := hl
  have hinX0 : ∀ w ∈ wsX00, w ∈ wsX4_writtenKey := by decide +kernel
  have hinX3 : ∀ w ∈ wsX30, w ∈ wsX4_writtenKey := by decide +kernel
  have hF173 : (Cond.fieldLink RX4 173 "PartcopyistBench$Part" "shift" "I").before args s = true := hts _ (by decide +kernel)
  have hF89 : (Cond.fieldLink RX4 89 "PartcopyistBench$Bar" "key" "I").before args s = true := hts _ (by decide +kernel)
  unfold f_X4_writtenKey at hf
  refine lv_aload_n hx hb dX4_writtenKey_0 rfl (lv_at hl 0 rfl) ?_
  refine lv_iload_n hx hb dX4_writtenKey_1 rfl (lv_at hl 1 rfl) ?_
  replace hf := bnd hf
  obtain ⟨_, h1, hf⟩ := hf
  replace hf := bnd hf
  obtain ⟨t2, h3, hf⟩ := hf
  replace hf := smc hf
  rcases hf with ⟨e4, hq, hf⟩ | ⟨v5, hq, hf⟩
  · subst hq
    exact r_callV_thr X hW hl.1 (k_X4_knownPart l hsl G A mu x0 x1 _ h3) gX4_writtenKey_X4_knownPart rfl (chk_ok h1) (by decide) rfl (by decide +kernel) (n := 1) rfl (by decide) (Nat.le_of_ble_eq_true rfl) dX4_writtenKey_2 rfl rfl (by cases hf; exact ⟨rfl, rfl⟩)
  · subst hq
    refine r_callV_ok X hW hl.1 (k_X4_knownPart l hsl G A mu x0 x1 _ h3) gX4_writtenKey_X4_knownPart rfl (chk_ok h1) (by decide) rfl (by decide +kernel) (n := 1) rfl (by decide) (Nat.le_of_ble_eq_true rfl) dX4_writtenKey_2 rfl rfl (stk := [va_rf v5]) rfl (fun H locs hW => ?_)
    replace hf := bnd hf
    obtain ⟨a6, h7, hf⟩ := hf
    subst h7
    replace hf := bnd hf
    obtain ⟨t8, h9, hf⟩ := hf
    refine g_5_0 X hW hinX3 hF173 h9 dX4_writtenKey_5 ?_
    refine lv_istore_n (lv' := [(3, .int t8), (0, .ref x0), (1, .int x1), (2, .int x2)]) hx hb dX4_writtenKey_8 rfl hl (by decide) rfl (fun ls hl => ?_)
    refine lv_aload_n hx hb dX4_writtenKey_9 rfl (lv_at hl 1 rfl) ?_
    refine lv_iload_n hx hb dX4_writtenKey_10 rfl (lv_at hl 3 rfl) ?_
    replace hf := bnd hf
    obtain ⟨_, h10, hf⟩ := hf
    replace hf := bnd hf
    obtain ⟨t11, h12, hf⟩ := hf
    replace hf := smc hf
    rcases hf with ⟨e13, hq, hf⟩ | ⟨v14, hq, hf⟩
    · subst hq
      exact r_callV_thr X hW hl.1 (k_X4_knownBar l hsl G A mu x0 x2 _ h12) gX4_writtenKey_X4_knownBar rfl (chk_ok h10) (by decide) rfl (by decide +kernel) (n := 1) rfl (by decide) (Nat.le_of_ble_eq_true rfl) dX4_writtenKey_11 rfl rfl (by cases hf; exact ⟨rfl, rfl⟩)
    · subst hq
      refine r_callV_ok X hW hl.1 (k_X4_knownBar l hsl G A mu x0 x2 _ h12) gX4_writtenKey_X4_knownBar rfl (chk_ok h10) (by decide) rfl (by decide +kernel) (n := 1) rfl (by decide) (Nat.le_of_ble_eq_true rfl) dX4_writtenKey_11 rfl rfl (stk := [va_rf v14]) rfl (fun H locs hW => ?_)
      replace hf := bnd hf
      obtain ⟨a15, h16, hf⟩ := hf
      subst h16
      replace hf := bnd hf
      obtain ⟨t17, h18, hf⟩ := hf
      refine g_2_1 X hW hinX0 hF89 h18 dX4_writtenKey_14 ?_
      refine lv_istore (lv' := [(4, .int t17), (3, .int t8), (0, .ref x0), (1, .int x1), (2, .int x2)]) hx hb dX4_writtenKey_17 hl (by decide) rfl (fun ls hl => ?_)
      refine lv_iload hx hb dX4_writtenKey_19 (lv_at hl 0 rfl) ?_
      refine lv_iload_n hx hb dX4_writtenKey_21 rfl (lv_at hl 1 rfl) ?_
      replace hf := bnd hf
      obtain ⟨t19, h20, hf⟩ := hf
      refine r_callS_ok X hW hl.1 (k_X4_shiftedKey l hsl G A mu t17 t8 _ h20) gX4_writtenKey_X4_shiftedKey rfl (by decide +kernel) (n := 2) rfl (by decide) (Nat.le_of_ble_eq_true rfl) dX4_writtenKey_22 rfl rfl (stk := [.int t19]) rfl (fun H locs hW => ?_)
      exact r_iret X hr hW (by cases hf; exact ⟨rfl, rfl⟩) (by decide) (by decide) dX4_writtenKey_25

def f_X4_letterOf (mu : Mem) (x0 : Nat) (x1 : Int32) : Option (Nat ⊕ Int32) := (chk mu 6 x0).bind fun _ => (f_X4_knownNote mu x0 x1).bind fun t2 => sml t2 (fun e4 => some (.inl e4)) (fun v5 => (chk mu 6 x0).bind fun _ => (f_X4_placeOf mu x0 v5).bind fun t7 => (f_X4_letterOfPlace mu t7).bind fun t9 => (nc t9).bind fun t11 => some (.inr t11))
set_option maxHeartbeats 1000000 in
set_option maxRecDepth 100000 in
theorem k_X4_letterOf (l : Launch) (hsl : l.stackTraces = false) (G : GG) (A : Nat → Prop) (mu : Mem) (x0 : Nat) (x1 : Int32) (r : Nat ⊕ Int32) (hf : f_X4_letterOf mu x0 x1 = some r) : Ok l yX4_letterOf wsX4_letterOf ({ frames := 12, cells := 1, slots := 6, locals := 230 } : Room) [.ref x0, .int x1] G A mu (dP (rIx r) mu) := by
  refine Ok.start (cc := cX4_letterOf) (maxL := 2) (ret := (some .char)) rfl (by decide +kernel) hsl (by first | exact Nat.le_of_ble_eq_true rfl | simp [lg_sl, cat_rf, Value.category]) ?_
  intro p e s m args below meth c ls X hr hname hW hl
  have X : BX p l s m args meth c cX4_letterOf 2 RX4 wsX4_letterOf G A := X
  have hx := X.1
  have hb := X.2.1
  have hts := X.2.2.2.2.1
  have hl : lv_has ls 2 [(0, .ref x0), (1, .int x1)] := hl
  unfold f_X4_letterOf at hf
  refine lv_aload_n hx hb dX4_letterOf_0 rfl (lv_at hl 0 rfl) ?_
  refine lv_aload_n hx hb dX4_letterOf_1 rfl (lv_at hl 0 rfl) ?_
  refine lv_iload_n hx hb dX4_letterOf_2 rfl (lv_at hl 1 rfl) ?_
  replace hf := bnd hf
  obtain ⟨_, h1, hf⟩ := hf
  replace hf := bnd hf
  obtain ⟨t2, h3, hf⟩ := hf
  replace hf := smc hf
  rcases hf with ⟨e4, hq, hf⟩ | ⟨v5, hq, hf⟩
  · subst hq
    exact r_callV_thr X hW hl.1 (k_X4_knownNote l hsl G A mu x0 x1 _ h3) gX4_letterOf_X4_knownNote rfl (chk_ok h1) (by decide) rfl (by decide +kernel) (n := 1) rfl (by decide) (Nat.le_of_ble_eq_true rfl) dX4_letterOf_3 rfl rfl (by cases hf; exact ⟨rfl, rfl⟩)
  · subst hq
    refine r_callV_ok X hW hl.1 (k_X4_knownNote l hsl G A mu x0 x1 _ h3) gX4_letterOf_X4_knownNote rfl (chk_ok h1) (by decide) rfl (by decide +kernel) (n := 1) rfl (by decide) (Nat.le_of_ble_eq_true rfl) dX4_letterOf_3 rfl rfl (stk := [va_rf v5, .ref x0]) rfl (fun H locs hW => ?_)
    replace hf := bnd hf
    obtain ⟨_, h6, hf⟩ := hf
    replace hf := bnd hf
    obtain ⟨t7, h8, hf⟩ := hf
    refine r_callV_ok X hW hl.1 (k_X4_placeOf l hsl G A mu x0 v5 _ h8) gX4_letterOf_X4_placeOf rfl (chk_ok h6) (by decide) rfl (by decide +kernel) (n := 1) rfl (by decide) (Nat.le_of_ble_eq_true rfl) dX4_letterOf_6 rfl rfl (stk := [.int t7]) rfl (fun H locs hW => ?_)
    replace hf := bnd hf
    obtain ⟨t9, h10, hf⟩ := hf
    refine r_callS_ok X hW hl.1 (k_X4_letterOfPlace l hsl G A mu t7 _ h10) gX4_letterOf_X4_letterOfPlace rfl (by decide +kernel) (n := 1) rfl (by decide) (Nat.le_of_ble_eq_true rfl) dX4_letterOf_9 rfl rfl (stk := [.int t9]) rfl (fun H locs hW => ?_)
    replace hf := bnd hf
    obtain ⟨t11, h12, hf⟩ := hf
    obtain ⟨hcc, hce⟩ := ifs h12
    subst hce
    exact r_cret X hr hW hcc (by cases hf; exact ⟨rfl, rfl⟩) (by decide) (by decide) dX4_letterOf_12

def f_X4_accidentalOf (mu : Mem) (x0 : Nat) (x1 : Int32) : Option (Nat ⊕ Int32) := (chk mu 6 x0).bind fun _ => (f_X4_knownNote mu x0 x1).bind fun t2 => sml t2 (fun e4 => some (.inl e4)) (fun v5 => (chk mu 6 x0).bind fun _ => (f_X4_placeOf mu x0 v5).bind fun t7 => (f_X4_sharpsOfPlace mu t7).bind fun t9 => some (.inr t9))
set_option maxHeartbeats 1000000 in
set_option maxRecDepth 100000 in
theorem k_X4_accidentalOf (l : Launch) (hsl : l.stackTraces = false) (G : GG) (A : Nat → Prop) (mu : Mem) (x0 : Nat) (x1 : Int32) (r : Nat ⊕ Int32) (hf : f_X4_accidentalOf mu x0 x1 = some r) : Ok l yX4_accidentalOf wsX4_accidentalOf ({ frames := 12, cells := 1, slots := 6, locals := 230 } : Room) [.ref x0, .int x1] G A mu (dP (rIx r) mu) := by
  refine Ok.start (cc := cX4_accidentalOf) (maxL := 2) (ret := (some .int)) rfl (by decide +kernel) hsl (by first | exact Nat.le_of_ble_eq_true rfl | simp [lg_sl, cat_rf, Value.category]) ?_
  intro p e s m args below meth c ls X hr hname hW hl
  have X : BX p l s m args meth c cX4_accidentalOf 2 RX4 wsX4_accidentalOf G A := X
  have hx := X.1
  have hb := X.2.1
  have hts := X.2.2.2.2.1
  have hl : lv_has ls 2 [(0, .ref x0), (1, .int x1)] := hl
  unfold f_X4_accidentalOf at hf
  refine lv_aload_n hx hb dX4_accidentalOf_0 rfl (lv_at hl 0 rfl) ?_
  refine lv_aload_n hx hb dX4_accidentalOf_1 rfl (lv_at hl 0 rfl) ?_
  refine lv_iload_n hx hb dX4_accidentalOf_2 rfl (lv_at hl 1 rfl) ?_
  replace hf := bnd hf
  obtain ⟨_, h1, hf⟩ := hf
  replace hf := bnd hf
  obtain ⟨t2, h3, hf⟩ := hf
  replace hf := smc hf
  rcases hf with ⟨e4, hq, hf⟩ | ⟨v5, hq, hf⟩
  · subst hq
    exact r_callV_thr X hW hl.1 (k_X4_knownNote l hsl G A mu x0 x1 _ h3) gX4_accidentalOf_X4_knownNote rfl (chk_ok h1) (by decide) rfl (by decide +kernel) (n := 1) rfl (by decide) (Nat.le_of_ble_eq_true rfl) dX4_accidentalOf_3 rfl rfl (by cases hf; exact ⟨rfl, rfl⟩)
  · subst hq
    refine r_callV_ok X hW hl.1 (k_X4_knownNote l hsl G A mu x0 x1 _ h3) gX4_accidentalOf_X4_knownNote rfl (chk_ok h1) (by decide) rfl (by decide +kernel) (n := 1) rfl (by decide) (Nat.le_of_ble_eq_true rfl) dX4_accidentalOf_3 rfl rfl (stk := [va_rf v5, .ref x0]) rfl (fun H locs hW => ?_)
    replace hf := bnd hf
    obtain ⟨_, h6, hf⟩ := hf
    replace hf := bnd hf
    obtain ⟨t7, h8, hf⟩ := hf
    refine r_callV_ok X hW hl.1 (k_X4_placeOf l hsl G A mu x0 v5 _ h8) gX4_accidentalOf_X4_placeOf rfl (chk_ok h6) (by decide) rfl (by decide +kernel) (n := 1) rfl (by decide) (Nat.le_of_ble_eq_true rfl) dX4_accidentalOf_6 rfl rfl (stk := [.int t7]) rfl (fun H locs hW => ?_)
    replace hf := bnd hf
    obtain ⟨t9, h10, hf⟩ := hf
    refine r_callS_ok X hW hl.1 (k_X4_sharpsOfPlace l hsl G A mu t7 _ h10) gX4_accidentalOf_X4_sharpsOfPlace rfl (by decide +kernel) (n := 1) rfl (by decide) (Nat.le_of_ble_eq_true rfl) dX4_accidentalOf_9 rfl rfl (stk := [.int t9]) rfl (fun H locs hW => ?_)
    exact r_iret X hr hW (by cases hf; exact ⟨rfl, rfl⟩) (by decide) (by decide) dX4_accidentalOf_12

def f_X4_rests (mu : Mem) (x0 : Nat) (x1 : Int32) : Option ((Nat ⊕ Int32) × Mem) := (chk mu 6 x0).bind fun _ => (f_X4_knownPart mu x0 x1).bind fun t2 => sml t2 (fun e4 => some ((.inl e4), mu)) (fun v5 => (chk mu 6 x0).bind fun _ => bi2 (f_X4_makeBlocks mu x0 x1) (fun (t7 : (Unit)) m9 => (getQ m9 6 3 x0).bind fun t10 => t10.bind fun a12 => (chk m9 3 a12).bind fun _ => (f_X1_countOfRests m9 a12).bind fun t15 => some ((.inr t15), m9)))
set_option maxHeartbeats 1000000 in
set_option maxRecDepth 100000 in
theorem k_X4_rests (l : Launch) (hsl : l.stackTraces = false) (G : GG) (A : Nat → Prop) (mu : Mem) (x0 : Nat) (x1 : Int32) (r : (Nat ⊕ Int32) × Mem) (hf : f_X4_rests mu x0 x1 = some r) : Ok l yX4_rests wsX4_rests ({ frames := 14, cells := 1, slots := 6, locals := 270 } : Room) [.ref x0, .int x1] G A mu (dP (rIx r.1) r.2) := by
  refine Ok.start (cc := cX4_rests) (maxL := 2) (ret := (some .int)) rfl (by decide +kernel) hsl (by first | exact Nat.le_of_ble_eq_true rfl | simp [lg_sl, cat_rf, Value.category]) ?_
  intro p e s m args below meth c ls X hr hname hW hl
  have X : BX p l s m args meth c cX4_rests 2 RX4 wsX4_rests G A := X
  have hx := X.1
  have hb := X.2.1
  have hts := X.2.2.2.2.1
  have hl : lv_has ls 2 [(0, .ref x0), (1, .int x1)] := hl
  have hinX4 : ∀ w ∈ wsX40, w ∈ wsX4_rests := by decide +kernel
  have hF30 : (Cond.fieldLink RX4 30 "PartcopyistBench" "blocks" "LPartcopyistBench$Blocks;").before args s = true := hts _ (by decide +kernel)
  unfold f_X4_rests at hf
  refine lv_aload_n hx hb dX4_rests_0 rfl (lv_at hl 0 rfl) ?_
  refine lv_iload_n hx hb dX4_rests_1 rfl (lv_at hl 1 rfl) ?_
  replace hf := bnd hf
  obtain ⟨_, h1, hf⟩ := hf
  replace hf := bnd hf
  obtain ⟨t2, h3, hf⟩ := hf
  replace hf := smc hf
  rcases hf with ⟨e4, hq, hf⟩ | ⟨v5, hq, hf⟩
  · subst hq
    exact r_callV_thr X hW hl.1 (k_X4_knownPart l hsl G A mu x0 x1 _ h3) gX4_rests_X4_knownPart rfl (chk_ok h1) (by decide) rfl (by decide +kernel) (n := 1) rfl (by decide) (Nat.le_of_ble_eq_true rfl) dX4_rests_2 rfl rfl (by cases hf; exact ⟨rfl, rfl⟩)
  · subst hq
    refine r_callV_ok X hW hl.1 (k_X4_knownPart l hsl G A mu x0 x1 _ h3) gX4_rests_X4_knownPart rfl (chk_ok h1) (by decide) rfl (by decide +kernel) (n := 1) rfl (by decide) (Nat.le_of_ble_eq_true rfl) dX4_rests_2 rfl rfl (stk := [va_rf v5]) rfl (fun H locs hW => ?_)
    refine lv_pop hx hb dX4_rests_5 (cat_rf _) ?_
    refine lv_aload_n hx hb dX4_rests_6 rfl (lv_at hl 0 rfl) ?_
    refine lv_iload_n hx hb dX4_rests_7 rfl (lv_at hl 1 rfl) ?_
    replace hf := bnd hf
    obtain ⟨_, h6, hf⟩ := hf
    replace hf := bnd2 hf
    obtain ⟨t7, m9, h8, hf⟩ := hf
    refine r_callV_ok (μ9 := m9) X hW hl.1 (k_X4_makeBlocks l hsl G A mu x0 x1 _ h8) gX4_rests_X4_makeBlocks rfl (chk_ok h6) (by decide) rfl (by decide +kernel) (n := 1) rfl (by decide) (Nat.le_of_ble_eq_true rfl) dX4_rests_8 rfl rfl (stk := []) rfl (fun H locs hW => ?_)
    refine lv_aload_n hx hb dX4_rests_11 rfl (lv_at hl 0 rfl) ?_
    replace hf := bnd hf
    obtain ⟨t10, h11, hf⟩ := hf
    refine g_6_3 X hW hinX4 hF30 h11 dX4_rests_12 ?_
    replace hf := bnd hf
    obtain ⟨a12, h13, hf⟩ := hf
    subst h13
    replace hf := bnd hf
    obtain ⟨_, h14, hf⟩ := hf
    replace hf := bnd hf
    obtain ⟨t15, h16, hf⟩ := hf
    refine r_callV_ok X hW hl.1 (k_X1_countOfRests l hsl G A m9 a12 _ h16) gX4_rests_X1_countOfRests rfl (chk_ok h14) (by decide) rfl (by decide +kernel) (n := 0) rfl (by decide) (Nat.le_of_ble_eq_true rfl) dX4_rests_15 rfl rfl (stk := [.int t15]) rfl (fun H locs hW => ?_)
    exact r_iret X hr hW (by cases hf; exact ⟨rfl, rfl⟩) (by decide) (by decide) dX4_rests_18
