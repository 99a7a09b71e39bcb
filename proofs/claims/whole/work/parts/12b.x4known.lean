def f_X4_knownBar (mu : Mem) (x0 : Nat) (x1 : Int32) : Option (Nat ⊕ (Option Nat)) := (chk mu 6 x0).bind fun _ => (f_X4_barOrNull mu x0 x1).bind fun t2 => onl t2 (some (.inl 3)) (fun a4 => some (.inr (some a4)))
set_option maxHeartbeats 1000000 in
set_option maxRecDepth 100000 in
theorem k_X4_knownBar (l : Launch) (hsl : l.stackTraces = false) (G : GG) (A : Nat → Prop) (mu : Mem) (x0 : Nat) (x1 : Int32) (r : Nat ⊕ (Option Nat)) (hf : f_X4_knownBar mu x0 x1 = some r) : Ok l yX4_knownBar wsX4_knownBar ({ frames := 8, cells := 1, slots := 6, locals := 150 } : Room) [.ref x0, .int x1] G A mu (dP (rAx r) mu) := by
  refine Ok.start (cc := cX4_knownBar) (maxL := 3) (ret := (some (.object "PartcopyistBench$Bar"))) rfl (by decide +kernel) hsl (by first | exact Nat.le_of_ble_eq_true rfl | simp [lg_sl, cat_rf, Value.category]) ?_
  intro p e s m args below meth c ls X hr hname hW hl
  have X : BX p l s m args meth c cX4_knownBar 3 RX4 wsX4_knownBar G A := X
  have hx := X.1
  have hb := X.2.1
  have hts := X.2.2.2.2.1
  have hl : lv_has ls 3 [(0, .ref x0), (1, .int x1)] := hl
  have hk3 : (Cond.classLink RX4 292 "java/lang/IndexOutOfBoundsException").before args s = true := hts _ (by decide +kernel)
  have hi3 : (Cond.initialized "java/lang/IndexOutOfBoundsException").before args s = true := hts _ (by decide +kernel)
  have hg3 : ∀ w ∈ (vx_atS RX4 296 "java/lang/IndexOutOfBoundsException" ["java/lang/RuntimeException", "java/lang/Exception"]).filter goodWord, w ∈ wsX4_knownBar := by decide +kernel
  unfold f_X4_knownBar at hf
  refine lv_aload_n hx hb dX4_knownBar_0 rfl (lv_at hl 0 rfl) ?_
  refine lv_iload_n hx hb dX4_knownBar_1 rfl (lv_at hl 1 rfl) ?_
  replace hf := bnd hf
  obtain ⟨_, h1, hf⟩ := hf
  replace hf := bnd hf
  obtain ⟨t2, h3, hf⟩ := hf
  refine r_callV_ok X hW hl.1 (k_X4_barOrNull l hsl G A mu x0 x1 _ h3) gX4_knownBar_X4_barOrNull rfl (chk_ok h1) (by decide) rfl (by decide +kernel) (n := 1) rfl (by decide) (Nat.le_of_ble_eq_true rfl) dX4_knownBar_2 rfl rfl (stk := [va_rf t2]) rfl (fun H locs hW => ?_)
  refine r_astore_nq (lv' := [(2, va_rf t2), (0, .ref x0), (1, .int x1)]) hx hb dX4_knownBar_5 rfl hl (by decide) rfl (fun ls hl => ?_)
  refine r_aload_nq hx hb dX4_knownBar_6 rfl (lv_at hl 0 rfl) ?_
  replace hf := onl_c hf
  rcases hf with ⟨hq, hf⟩ | ⟨a4, hq, hf⟩
  · subst hq
    refine lv_ifnonnullN hx hb dX4_knownBar_7 ?_
    exact r_thrw (cls := "java/lang/IndexOutOfBoundsException") (e9 := 3) (is := 297) (text := "there is no such bar") X hsl hl.1 hW rfl (by decide +kernel) (by decide +kernel) hk3 hi3 hg3 hbad3 hgood3 (by decide +kernel) dX4_knownBar_10 dX4_knownBar_13 dX4_knownBar_14 dX4_knownBar_17 dX4_knownBar_20 (by decide) (by cases hf; exact ⟨rfl, rfl⟩) (by decide) (by decide)
  · subst hq
    refine lv_ifnonnull (tgt := 21) hx hb dX4_knownBar_7 (by decide) ?_
    refine lv_aload_n hx hb dX4_knownBar_21 rfl (lv_at hl 0 rfl) ?_
    exact r_aret (v := (some a4)) X hr (Or.inl ⟨_, rfl⟩) hW (by cases hf; exact ⟨rfl, rfl⟩) (by decide) (by decide) dX4_knownBar_22

def f_X4_knownPart (mu : Mem) (x0 : Nat) (x1 : Int32) : Option (Nat ⊕ (Option Nat)) := (chk mu 6 x0).bind fun _ => (f_X4_partOrNull mu x0 x1).bind fun t2 => onl t2 (some (.inl 3)) (fun a4 => some (.inr (some a4)))
set_option maxHeartbeats 1000000 in
set_option maxRecDepth 100000 in
theorem k_X4_knownPart (l : Launch) (hsl : l.stackTraces = false) (G : GG) (A : Nat → Prop) (mu : Mem) (x0 : Nat) (x1 : Int32) (r : Nat ⊕ (Option Nat)) (hf : f_X4_knownPart mu x0 x1 = some r) : Ok l yX4_knownPart wsX4_knownPart ({ frames := 8, cells := 1, slots := 6, locals := 150 } : Room) [.ref x0, .int x1] G A mu (dP (rAx r) mu) := by
  refine Ok.start (cc := cX4_knownPart) (maxL := 3) (ret := (some (.object "PartcopyistBench$Part"))) rfl (by decide +kernel) hsl (by first | exact Nat.le_of_ble_eq_true rfl | simp [lg_sl, cat_rf, Value.category]) ?_
  intro p e s m args below meth c ls X hr hname hW hl
  have X : BX p l s m args meth c cX4_knownPart 3 RX4 wsX4_knownPart G A := X
  have hx := X.1
  have hb := X.2.1
  have hts := X.2.2.2.2.1
  have hl : lv_has ls 3 [(0, .ref x0), (1, .int x1)] := hl
  have hk3 : (Cond.classLink RX4 292 "java/lang/IndexOutOfBoundsException").before args s = true := hts _ (by decide +kernel)
  have hi3 : (Cond.initialized "java/lang/IndexOutOfBoundsException").before args s = true := hts _ (by decide +kernel)
  have hg3 : ∀ w ∈ (vx_atS RX4 296 "java/lang/IndexOutOfBoundsException" ["java/lang/RuntimeException", "java/lang/Exception"]).filter goodWord, w ∈ wsX4_knownPart := by decide +kernel
  unfold f_X4_knownPart at hf
  refine lv_aload_n hx hb dX4_knownPart_0 rfl (lv_at hl 0 rfl) ?_
  refine lv_iload_n hx hb dX4_knownPart_1 rfl (lv_at hl 1 rfl) ?_
  replace hf := bnd hf
  obtain ⟨_, h1, hf⟩ := hf
  replace hf := bnd hf
  obtain ⟨t2, h3, hf⟩ := hf
  refine r_callV_ok X hW hl.1 (k_X4_partOrNull l hsl G A mu x0 x1 _ h3) gX4_knownPart_X4_partOrNull rfl (chk_ok h1) (by decide) rfl (by decide +kernel) (n := 1) rfl (by decide) (Nat.le_of_ble_eq_true rfl) dX4_knownPart_2 rfl rfl (stk := [va_rf t2]) rfl (fun H locs hW => ?_)
  refine r_astore_nq (lv' := [(2, va_rf t2), (0, .ref x0), (1, .int x1)]) hx hb dX4_knownPart_5 rfl hl (by decide) rfl (fun ls hl => ?_)
  refine r_aload_nq hx hb dX4_knownPart_6 rfl (lv_at hl 0 rfl) ?_
  replace hf := onl_c hf
  rcases hf with ⟨hq, hf⟩ | ⟨a4, hq, hf⟩
  · subst hq
    refine lv_ifnonnullN hx hb dX4_knownPart_7 ?_
    exact r_thrw (cls := "java/lang/IndexOutOfBoundsException") (e9 := 3) (is := 294) (text := "there is no such part") X hsl hl.1 hW rfl (by decide +kernel) (by decide +kernel) hk3 hi3 hg3 hbad3 hgood3 (by decide +kernel) dX4_knownPart_10 dX4_knownPart_13 dX4_knownPart_14 dX4_knownPart_17 dX4_knownPart_20 (by decide) (by cases hf; exact ⟨rfl, rfl⟩) (by decide) (by decide)
  · subst hq
    refine lv_ifnonnull (tgt := 21) hx hb dX4_knownPart_7 (by decide) ?_
    refine lv_aload_n hx hb dX4_knownPart_21 rfl (lv_at hl 0 rfl) ?_
    exact r_aret (v := (some a4)) X hr (Or.inl ⟨_, rfl⟩) hW (by cases hf; exact ⟨rfl, rfl⟩) (by decide) (by decide) dX4_knownPart_22

def f_X4_knownNote (mu : Mem) (x0 : Nat) (x1 : Int32) : Option (Nat ⊕ (Option Nat)) := (chk mu 6 x0).bind fun _ => (f_X4_noteOrNull mu x0 x1).bind fun t2 => onl t2 (some (.inl 4)) (fun a4 => (getI mu 4 6 a4).bind fun t5 => if t5 = 0 then (some (.inl 4)) else (some (.inr (some a4))))
set_option maxHeartbeats 1000000 in
set_option maxRecDepth 100000 in
theorem k_X4_knownNote (l : Launch) (hsl : l.stackTraces = false) (G : GG) (A : Nat → Prop) (mu : Mem) (x0 : Nat) (x1 : Int32) (r : Nat ⊕ (Option Nat)) (hf : f_X4_knownNote mu x0 x1 = some r) : Ok l yX4_knownNote wsX4_knownNote ({ frames := 8, cells := 1, slots := 6, locals := 150 } : Room) [.ref x0, .int x1] G A mu (dP (rAx r) mu) := by
  refine Ok.start (cc := cX4_knownNote) (maxL := 3) (ret := (some (.object "PartcopyistBench$Note"))) rfl (by decide +kernel) hsl (by first | exact Nat.le_of_ble_eq_true rfl | simp [lg_sl, cat_rf, Value.category]) ?_
  intro p e s m args below meth c ls X hr hname hW hl
  have X : BX p l s m args meth c cX4_knownNote 3 RX4 wsX4_knownNote G A := X
  have hx := X.1
  have hb := X.2.1
  have hts := X.2.2.2.2.1
  have hl : lv_has ls 3 [(0, .ref x0), (1, .int x1)] := hl
  have hinX2 : ∀ w ∈ wsX20, w ∈ wsX4_knownNote := by decide +kernel
  have hF147 : (Cond.fieldLink RX4 147 "PartcopyistBench$Note" "isIn" "Z").before args s = true := hts _ (by decide +kernel)
  have hk4 : (Cond.classLink RX4 224 "java/util/NoSuchElementException").before args s = true := hts _ (by decide +kernel)
  have hi4 : (Cond.initialized "java/util/NoSuchElementException").before args s = true := hts _ (by decide +kernel)
  have hg4 : ∀ w ∈ vz_at9.filter goodWord, w ∈ wsX4_knownNote := by decide +kernel
  unfold f_X4_knownNote at hf
  refine lv_aload_n hx hb dX4_knownNote_0 rfl (lv_at hl 0 rfl) ?_
  refine lv_iload_n hx hb dX4_knownNote_1 rfl (lv_at hl 1 rfl) ?_
  replace hf := bnd hf
  obtain ⟨_, h1, hf⟩ := hf
  replace hf := bnd hf
  obtain ⟨t2, h3, hf⟩ := hf
  refine r_callV_ok X hW hl.1 (k_X4_noteOrNull l hsl G A mu x0 x1 _ h3) gX4_knownNote_X4_noteOrNull rfl (chk_ok h1) (by decide) rfl (by decide +kernel) (n := 1) rfl (by decide) (Nat.le_of_ble_eq_true rfl) dX4_knownNote_2 rfl rfl (stk := [va_rf t2]) rfl (fun H locs hW => ?_)
  refine r_astore_nq (lv' := [(2, va_rf t2), (0, .ref x0), (1, .int x1)]) hx hb dX4_knownNote_5 rfl hl (by decide) rfl (fun ls hl => ?_)
  refine r_aload_nq hx hb dX4_knownNote_6 rfl (lv_at hl 0 rfl) ?_
  replace hf := onl_c hf
  rcases hf with ⟨hq, hf⟩ | ⟨a4, hq, hf⟩
  · subst hq
    refine lv_ifnullN (tgt := 17) hx hb dX4_knownNote_7 (by decide) ?_
    exact r_thrwN (is := 299) (text := "there is no such note") X hsl hl.1 hW rfl (by decide +kernel) (by decide +kernel) hk4 hi4 hg4 hbad4 hgood4 (by decide +kernel) dX4_knownNote_17 dX4_knownNote_20 dX4_knownNote_21 dX4_knownNote_24 dX4_knownNote_27 (by decide) (by cases hf; exact ⟨rfl, rfl⟩) (by decide) (by decide)
  · subst hq
    refine lv_ifnull hx hb dX4_knownNote_7 ?_
    refine lv_aload_n hx hb dX4_knownNote_10 rfl (lv_at hl 0 rfl) ?_
    replace hf := bnd hf
    obtain ⟨t5, h6, hf⟩ := hf
    refine g_4_6 X hW hinX2 hF147 h6 dX4_knownNote_11 ?_
    refine lv_if_ne (tgt := 28) hx hb dX4_knownNote_14 (by decide) (fun hc => ?_) (fun hc => ?_)
    · replace hf := itn hc hf
      refine lv_aload_n hx hb dX4_knownNote_28 rfl (lv_at hl 0 rfl) ?_
      exact r_aret (v := (some a4)) X hr (Or.inl ⟨_, rfl⟩) hW (by cases hf; exact ⟨rfl, rfl⟩) (by decide) (by decide) dX4_knownNote_29
    · replace hf := itp hc hf
      exact r_thrwN (is := 299) (text := "there is no such note") X hsl hl.1 hW rfl (by decide +kernel) (by decide +kernel) hk4 hi4 hg4 hbad4 hgood4 (by decide +kernel) dX4_knownNote_17 dX4_knownNote_20 dX4_knownNote_21 dX4_knownNote_24 dX4_knownNote_27 (by decide) (by cases hf; exact ⟨rfl, rfl⟩) (by decide) (by decide)

def f_X4_knownNoteInOrder_L3 (mu : Mem) (u0_3 : Nat) (u1_3 : Int32) (u2_3 : Int32) (u3_3 : Int32) (k9 : Int32 → Option (Nat ⊕ Int32)) : Nat → Int32 → Option (Nat ⊕ Int32)
  | 0, _ => none
  | n + 1, w4_3 => (getQ mu 6 2 u0_3).bind fun t1 => t1.bind fun a3 => (alen mu a3).bind fun t5 => if t5 ≤ w4_3 then (some (.inl 4)) else ((getQ mu 6 2 u0_3).bind fun t7 => t7.bind fun a9 => (qld mu a9 w4_3).bind fun t11 => onl t11 (f_X4_knownNoteInOrder_L3 mu u0_3 u1_3 u2_3 u3_3 k9 n (w4_3 + 1)) (fun a13 => (chk mu 4 a13).bind fun _ => (f_X2_isAt mu a13 u1_3 u2_3).bind fun t15 => if t15 = 0 then (f_X4_knownNoteInOrder_L3 mu u0_3 u1_3 u2_3 u3_3 k9 n (w4_3 + 1)) else ((chk mu 6 u0_3).bind fun _ => (f_X4_countAhead mu u0_3 (some a13)).bind fun t18 => if t18 = u3_3 then (some (.inr w4_3)) else (f_X4_knownNoteInOrder_L3 mu u0_3 u1_3 u2_3 u3_3 k9 n (w4_3 + 1)))))
def f_X4_knownNoteInOrder (mu : Mem) (x0 : Nat) (x1 : Int32) (x2 : Int32) (x3 : Int32) : Option (Nat ⊕ Int32) := f_X4_knownNoteInOrder_L3 mu x0 x1 x2 x3 (fun (zw4_3 : Int32) => none) 200 0
set_option maxHeartbeats 1000000 in
set_option maxRecDepth 100000 in
theorem k_X4_knownNoteInOrder (l : Launch) (hsl : l.stackTraces = false) (G : GG) (A : Nat → Prop) (mu : Mem) (x0 : Nat) (x1 : Int32) (x2 : Int32) (x3 : Int32) (r : Nat ⊕ Int32) (hf : f_X4_knownNoteInOrder mu x0 x1 x2 x3 = some r) : Ok l yX4_knownNoteInOrder wsX4_knownNoteInOrder ({ frames := 10, cells := 1, slots := 6, locals := 190 } : Room) [.ref x0, .int x1, .int x2, .int x3] G A mu (dP (rIx r) mu) := by
  refine Ok.start (cc := cX4_knownNoteInOrder) (maxL := 6) (ret := (some .int)) rfl (by decide +kernel) hsl (by first | exact Nat.le_of_ble_eq_true rfl | simp [lg_sl, cat_rf, Value.category]) ?_
  intro p e s m args below meth c ls X hr hname hW hl
  have X : BX p l s m args meth c cX4_knownNoteInOrder 6 RX4 wsX4_knownNoteInOrder G A := X
  have hx := X.1
  have hb := X.2.1
  have hts := X.2.2.2.2.1
  have hl : lv_has ls 6 [(0, .ref x0), (1, .int x1), (2, .int x2), (3, .int x3)] := hl
  have hinX4 : ∀ w ∈ wsX40, w ∈ wsX4_knownNoteInOrder := by decide +kernel
  have hF23 : (Cond.fieldLink RX4 23 "PartcopyistBench" "notes" "[LPartcopyistBench$Note;").before args s = true := hts _ (by decide +kernel)
  have hk4 : (Cond.classLink RX4 224 "java/util/NoSuchElementException").before args s = true := hts _ (by decide +kernel)
  have hi4 : (Cond.initialized "java/util/NoSuchElementException").before args s = true := hts _ (by decide +kernel)
  have hg4 : ∀ w ∈ vz_at9.filter goodWord, w ∈ wsX4_knownNoteInOrder := by decide +kernel
  unfold f_X4_knownNoteInOrder at hf
  refine lv_iconst (v := 0) hx hb dX4_knownNoteInOrder_0 (by decide) ?_
  refine lv_istore (lv' := [(4, .int 0), (0, .ref x0), (1, .int x1), (2, .int x2), (3, .int x3)]) hx hb dX4_knownNoteInOrder_1 hl (by decide) rfl (fun ls hl => ?_)
  have L3 : ∀ (u0_3 : Nat) (u1_3 : Int32) (u2_3 : Int32) (u3_3 : Int32) (k9 : Int32 → Option (Nat ⊕ Int32)),
      (∀ (w4_3 : Int32) (H : Heap) (locs : List Loc) (ls : Array Slot), k9 w4_3 = some r → MW G A mu s.heap H locs → lv_has ls 6 [(0, .ref u0_3), (1, .int u1_3), (2, .int u2_3), (3, .int u3_3), (4, .int w4_3)] → W p l e ({ frames := 10, cells := 1, slots := 6, locals := 190 } : Room) s m args below meth c H locs 0 0 (QQ below G A (dP (rIx r) mu) args s 1 6) (F0 m 3 ls [])) →
      ∀ (n : Nat) (w4_3 : Int32) (H : Heap) (locs : List Loc) (ls : Array Slot), f_X4_knownNoteInOrder_L3 mu u0_3 u1_3 u2_3 u3_3 k9 n w4_3 = some r → MW G A mu s.heap H locs → lv_has ls 6 [(0, .ref u0_3), (1, .int u1_3), (2, .int u2_3), (3, .int u3_3), (4, .int w4_3)] → W p l e ({ frames := 10, cells := 1, slots := 6, locals := 190 } : Room) s m args below meth c H locs 0 0 (QQ below G A (dP (rIx r) mu) args s 1 6) (F0 m 3 ls []) := by
    intro u0_3 u1_3 u2_3 u3_3 k9 hk3 n
    induction n with
    | zero => intro w4_3 H locs ls hf hW hl; rw [f_X4_knownNoteInOrder_L3] at hf; cases hf
    | succ n ih3 =>
      intro w4_3 H locs ls hf hW hl
      rw [f_X4_knownNoteInOrder_L3] at hf
      refine lv_iload hx hb dX4_knownNoteInOrder_3 (lv_at hl 4 rfl) ?_
      refine lv_aload_n hx hb dX4_knownNoteInOrder_5 rfl (lv_at hl 0 rfl) ?_
      replace hf := bnd hf
      obtain ⟨t1, h2, hf⟩ := hf
      refine g_6_2 X hW hinX4 hF23 h2 dX4_knownNoteInOrder_6 ?_
      replace hf := bnd hf
      obtain ⟨a3, h4, hf⟩ := hf
      subst h4
      replace hf := bnd hf
      obtain ⟨t5, h6, hf⟩ := hf
      refine r_alen X hW h6 dX4_knownNoteInOrder_9 ?_
      refine lv_icmp_ge (tgt := 56) hx hb dX4_knownNoteInOrder_10 (by decide) (fun hc => ?_) (fun hc => ?_)
      · replace hf := itp hc hf
        exact r_thrwN (is := 315) (text := "there is no such index") X hsl hl.1 hW rfl (by decide +kernel) (by decide +kernel) hk4 hi4 hg4 hbad4 hgood4 (by decide +kernel) dX4_knownNoteInOrder_56 dX4_knownNoteInOrder_59 dX4_knownNoteInOrder_60 dX4_knownNoteInOrder_63 dX4_knownNoteInOrder_66 (by decide) (by cases hf; exact ⟨rfl, rfl⟩) (by decide) (by decide)
      · replace hf := itn hc hf
        refine lv_aload_n hx hb dX4_knownNoteInOrder_13 rfl (lv_at hl 0 rfl) ?_
        replace hf := bnd hf
        obtain ⟨t7, h8, hf⟩ := hf
        refine g_6_2 X hW hinX4 hF23 h8 dX4_knownNoteInOrder_14 ?_
        refine lv_iload hx hb dX4_knownNoteInOrder_17 (lv_at hl 4 rfl) ?_
        replace hf := bnd hf
        obtain ⟨a9, h10, hf⟩ := hf
        subst h10
        replace hf := bnd hf
        obtain ⟨t11, h12, hf⟩ := hf
        refine r_qld X hW h12 dX4_knownNoteInOrder_19 ?_
        refine r_astoreq (lv' := [(5, va_rf t11), (0, .ref u0_3), (1, .int u1_3), (2, .int u2_3), (3, .int u3_3), (4, .int w4_3)]) hx hb dX4_knownNoteInOrder_20 hl (by decide) rfl (fun ls hl => ?_)
        refine r_aloadq hx hb dX4_knownNoteInOrder_22 (lv_at hl 0 rfl) ?_
        replace hf := onl_c hf
        rcases hf with ⟨hq, hf⟩ | ⟨a13, hq, hf⟩
        · subst hq
          refine lv_ifnullN (tgt := 50) hx hb dX4_knownNoteInOrder_24 (by decide) ?_
          refine lv_iinc (v := (w4_3 + 1)) (lv' := [(4, .int (w4_3 + 1)), (5, .null), (0, .ref u0_3), (1, .int u1_3), (2, .int u2_3), (3, .int u3_3)]) hx hb dX4_knownNoteInOrder_50 hl (k := 5) rfl rfl (by decide) rfl (fun ls hl => ?_)
          refine lv_goto (tgt := 3) hx hb dX4_knownNoteInOrder_53 (by decide) ?_
          exact ih3 _ _ _ _ hf hW (lv_sub hl [2, 3, 4, 5, 0] rfl)
        · subst hq
          refine lv_ifnull hx hb dX4_knownNoteInOrder_24 ?_
          refine lv_aload hx hb dX4_knownNoteInOrder_27 (lv_at hl 0 rfl) ?_
          refine lv_iload_n hx hb dX4_knownNoteInOrder_29 rfl (lv_at hl 2 rfl) ?_
          refine lv_iload_n hx hb dX4_knownNoteInOrder_30 rfl (lv_at hl 3 rfl) ?_
          replace hf := bnd hf
          obtain ⟨_, h14, hf⟩ := hf
          replace hf := bnd hf
          obtain ⟨t15, h16, hf⟩ := hf
          refine r_callV_ok X hW hl.1 (k_X2_isAt l hsl G A mu a13 u1_3 u2_3 _ h16) gX4_knownNoteInOrder_X2_isAt rfl (chk_ok h14) (by decide) rfl (by decide +kernel) (n := 2) rfl (by decide) (Nat.le_of_ble_eq_true rfl) dX4_knownNoteInOrder_31 rfl rfl (stk := [.int t15]) rfl (fun H locs hW => ?_)
          refine lv_if_eq (tgt := 50) hx hb dX4_knownNoteInOrder_34 (by decide) (fun hc => ?_) (fun hc => ?_)
          · replace hf := itp hc hf
            refine lv_iinc (v := (w4_3 + 1)) (lv' := [(4, .int (w4_3 + 1)), (5, .ref a13), (0, .ref u0_3), (1, .int u1_3), (2, .int u2_3), (3, .int u3_3)]) hx hb dX4_knownNoteInOrder_50 hl (k := 5) rfl rfl (by decide) rfl (fun ls hl => ?_)
            refine lv_goto (tgt := 3) hx hb dX4_knownNoteInOrder_53 (by decide) ?_
            exact ih3 _ _ _ _ hf hW (lv_sub hl [2, 3, 4, 5, 0] rfl)
          · replace hf := itn hc hf
            refine lv_aload_n hx hb dX4_knownNoteInOrder_37 rfl (lv_at hl 1 rfl) ?_
            refine lv_aload hx hb dX4_knownNoteInOrder_38 (lv_at hl 0 rfl) ?_
            replace hf := bnd hf
            obtain ⟨_, h17, hf⟩ := hf
            replace hf := bnd hf
            obtain ⟨t18, h19, hf⟩ := hf
            refine r_callV_ok X hW hl.1 (k_X4_countAhead l hsl G A mu u0_3 (some a13) _ h19) gX4_knownNoteInOrder_X4_countAhead rfl (chk_ok h17) (by decide) rfl (by decide +kernel) (n := 1) rfl (by decide) (Nat.le_of_ble_eq_true rfl) dX4_knownNoteInOrder_40 rfl rfl (stk := [.int t18]) rfl (fun H locs hW => ?_)
            refine lv_iload_n hx hb dX4_knownNoteInOrder_43 rfl (lv_at hl 4 rfl) ?_
            refine lv_icmp_ne (tgt := 50) hx hb dX4_knownNoteInOrder_44 (by decide) (fun hc => ?_) (fun hc => ?_)
            · replace hf := itn hc hf
              refine lv_iinc (v := (w4_3 + 1)) (lv' := [(4, .int (w4_3 + 1)), (5, .ref a13), (0, .ref u0_3), (1, .int u1_3), (2, .int u2_3), (3, .int u3_3)]) hx hb dX4_knownNoteInOrder_50 hl (k := 5) rfl rfl (by decide) rfl (fun ls hl => ?_)
              refine lv_goto (tgt := 3) hx hb dX4_knownNoteInOrder_53 (by decide) ?_
              exact ih3 _ _ _ _ hf hW (lv_sub hl [2, 3, 4, 5, 0] rfl)
            · replace hf := itp hc hf
              refine lv_iload hx hb dX4_knownNoteInOrder_47 (lv_at hl 5 rfl) ?_
              exact r_iret X hr hW (by cases hf; exact ⟨rfl, rfl⟩) (by decide) (by decide) dX4_knownNoteInOrder_49
  refine L3 x0 x1 x2 x3 _ ?_ 200 0 _ _ _ hf hW (lv_sub hl [1, 2, 3, 4, 0] rfl)
  intro zw4_3 H locs ls hf hW hl
  cases hf

def f_X4_knownRest (mu : Mem) (x0 : Nat) (x1 : Int32) (x2 : Int32) : Option ((Nat ⊕ Int32) × Mem) := (chk mu 6 x0).bind fun _ => bi2 (f_X4_makeBlocks mu x0 x1) (fun (t2 : (Unit)) m4 => (getQ m4 6 3 x0).bind fun t5 => t5.bind fun a7 => (chk m4 3 a7).bind fun _ => (f_X1_blockOfRest m4 a7 x2).bind fun t10 => if 0 ≤ t10 then (some ((.inr t10), m4)) else (some ((.inl 3), m4)))
set_option maxHeartbeats 1000000 in
set_option maxRecDepth 100000 in
theorem k_X4_knownRest (l : Launch) (hsl : l.stackTraces = false) (G : GG) (A : Nat → Prop) (mu : Mem) (x0 : Nat) (x1 : Int32) (x2 : Int32) (r : (Nat ⊕ Int32) × Mem) (hf : f_X4_knownRest mu x0 x1 x2 = some r) : Ok l yX4_knownRest wsX4_knownRest ({ frames := 14, cells := 1, slots := 6, locals := 270 } : Room) [.ref x0, .int x1, .int x2] G A mu (dP (rIx r.1) r.2) := by
  refine Ok.start (cc := cX4_knownRest) (maxL := 4) (ret := (some .int)) rfl (by decide +kernel) hsl (by first | exact Nat.le_of_ble_eq_true rfl | simp [lg_sl, cat_rf, Value.category]) ?_
  intro p e s m args below meth c ls X hr hname hW hl
  have X : BX p l s m args meth c cX4_knownRest 4 RX4 wsX4_knownRest G A := X
  have hx := X.1
  have hb := X.2.1
  have hts := X.2.2.2.2.1
  have hl : lv_has ls 4 [(0, .ref x0), (1, .int x1), (2, .int x2)] := hl
  have hinX4 : ∀ w ∈ wsX40, w ∈ wsX4_knownRest := by decide +kernel
  have hF30 : (Cond.fieldLink RX4 30 "PartcopyistBench" "blocks" "LPartcopyistBench$Blocks;").before args s = true := hts _ (by decide +kernel)
  have hk3 : (Cond.classLink RX4 292 "java/lang/IndexOutOfBoundsException").before args s = true := hts _ (by decide +kernel)
  have hi3 : (Cond.initialized "java/lang/IndexOutOfBoundsException").before args s = true := hts _ (by decide +kernel)
  have hg3 : ∀ w ∈ (vx_atS RX4 296 "java/lang/IndexOutOfBoundsException" ["java/lang/RuntimeException", "java/lang/Exception"]).filter goodWord, w ∈ wsX4_knownRest := by decide +kernel
  unfold f_X4_knownRest at hf
  refine lv_aload_n hx hb dX4_knownRest_0 rfl (lv_at hl 0 rfl) ?_
  refine lv_iload_n hx hb dX4_knownRest_1 rfl (lv_at hl 1 rfl) ?_
  replace hf := bnd hf
  obtain ⟨_, h1, hf⟩ := hf
  replace hf := bnd2 hf
  obtain ⟨t2, m4, h3, hf⟩ := hf
  refine r_callV_ok (μ9 := m4) X hW hl.1 (k_X4_makeBlocks l hsl G A mu x0 x1 _ h3) gX4_knownRest_X4_makeBlocks rfl (chk_ok h1) (by decide) rfl (by decide +kernel) (n := 1) rfl (by decide) (Nat.le_of_ble_eq_true rfl) dX4_knownRest_2 rfl rfl (stk := []) rfl (fun H locs hW => ?_)
  refine lv_aload_n hx hb dX4_knownRest_5 rfl (lv_at hl 0 rfl) ?_
  replace hf := bnd hf
  obtain ⟨t5, h6, hf⟩ := hf
  refine g_6_3 X hW hinX4 hF30 h6 dX4_knownRest_6 ?_
  refine lv_iload_n hx hb dX4_knownRest_9 rfl (lv_at hl 2 rfl) ?_
  replace hf := bnd hf
  obtain ⟨a7, h8, hf⟩ := hf
  subst h8
  replace hf := bnd hf
  obtain ⟨_, h9, hf⟩ := hf
  replace hf := bnd hf
  obtain ⟨t10, h11, hf⟩ := hf
  refine r_callV_ok X hW hl.1 (k_X1_blockOfRest l hsl G A m4 a7 x2 _ h11) gX4_knownRest_X1_blockOfRest rfl (chk_ok h9) (by decide) rfl (by decide +kernel) (n := 1) rfl (by decide) (Nat.le_of_ble_eq_true rfl) dX4_knownRest_10 rfl rfl (stk := [.int t10]) rfl (fun H locs hW => ?_)
  refine lv_istore_n (lv' := [(3, .int t10), (0, .ref x0), (1, .int x1), (2, .int x2)]) hx hb dX4_knownRest_13 rfl hl (by decide) rfl (fun ls hl => ?_)
  refine lv_iload_n hx hb dX4_knownRest_14 rfl (lv_at hl 0 rfl) ?_
  refine lv_if_ge (tgt := 29) hx hb dX4_knownRest_15 (by decide) (fun hc => ?_) (fun hc => ?_)
  · replace hf := itp hc hf
    refine lv_iload_n hx hb dX4_knownRest_29 rfl (lv_at hl 0 rfl) ?_
    exact r_iret X hr hW (by cases hf; exact ⟨rfl, rfl⟩) (by decide) (by decide) dX4_knownRest_30
  · replace hf := itn hc hf
    exact r_thrw (cls := "java/lang/IndexOutOfBoundsException") (e9 := 3) (is := 356) (text := "there is no such long rest") X hsl hl.1 hW rfl (by decide +kernel) (by decide +kernel) hk3 hi3 hg3 hbad3 hgood3 (by decide +kernel) dX4_knownRest_18 dX4_knownRest_21 dX4_knownRest_22 dX4_knownRest_25 dX4_knownRest_28 (by decide) (by cases hf; exact ⟨rfl, rfl⟩) (by decide) (by decide)

def f_X4_knownCue (mu : Mem) (x0 : Nat) (x1 : Int32) (x2 : Int32) : Option (Nat ⊕ Int32) := (getQ mu 6 3 x0).bind fun t1 => t1.bind fun a3 => (chk mu 3 a3).bind fun _ => (f_X1_lastBarOf mu a3 x2).bind fun t6 => (getQ mu 6 3 x0).bind fun t8 => t8.bind fun a10 => (chk mu 3 a10).bind fun _ => (f_X1_barsOf mu a10 x2).bind fun t13 => (getI mu 6 9 x0).bind fun t15 => if t13 < t15 then ((getI mu 6 5 x0).bind fun t17 => if t17 ≤ (t6 + 1) then (some (.inl 5)) else (some (.inl 5))) else ((getI mu 6 5 x0).bind fun t19 => if t19 ≤ (t6 + 1) then (some (.inl 5)) else ((chk mu 6 x0).bind fun _ => (f_X4_fullestOtherPart mu x0 x1 t6).bind fun t22 => if 0 ≤ t22 then (some (.inr t22)) else (some (.inl 5))))
set_option maxHeartbeats 1000000 in
set_option maxRecDepth 100000 in
theorem k_X4_knownCue (l : Launch) (hsl : l.stackTraces = false) (G : GG) (A : Nat → Prop) (mu : Mem) (x0 : Nat) (x1 : Int32) (x2 : Int32) (r : Nat ⊕ Int32) (hf : f_X4_knownCue mu x0 x1 x2 = some r) : Ok l yX4_knownCue wsX4_knownCue ({ frames := 12, cells := 1, slots := 6, locals := 230 } : Room) [.ref x0, .int x1, .int x2] G A mu (dP (rIx r) mu) := by
  refine Ok.start (cc := cX4_knownCue) (maxL := 7) (ret := (some .int)) rfl (by decide +kernel) hsl (by first | exact Nat.le_of_ble_eq_true rfl | simp [lg_sl, cat_rf, Value.category]) ?_
  intro p e s m args below meth c ls X hr hname hW hl
  have X : BX p l s m args meth c cX4_knownCue 7 RX4 wsX4_knownCue G A := X
  have hx := X.1
  have hb := X.2.1
  have hts := X.2.2.2.2.1
  have hl : lv_has ls 7 [(0, .ref x0), (1, .int x1), (2, .int x2)] := hl
  have hinX4 : ∀ w ∈ wsX40, w ∈ wsX4_knownCue := by decide +kernel
  have hF30 : (Cond.fieldLink RX4 30 "PartcopyistBench" "blocks" "LPartcopyistBench$Blocks;").before args s = true := hts _ (by decide +kernel)
  have hF38 : (Cond.fieldLink RX4 38 "PartcopyistBench" "barCount" "I").before args s = true := hts _ (by decide +kernel)
  have hF50 : (Cond.fieldLink RX4 50 "PartcopyistBench" "cueBars" "I").before args s = true := hts _ (by decide +kernel)
  have hk5 : (Cond.classLink RX4 112 "java/lang/UnsupportedOperationException").before args s = true := hts _ (by decide +kernel)
  have hi5 : (Cond.initialized "java/lang/UnsupportedOperationException").before args s = true := hts _ (by decide +kernel)
  have hg5 : ∀ w ∈ (vx_atS RX4 116 "java/lang/UnsupportedOperationException" ["java/lang/RuntimeException", "java/lang/Exception"]).filter goodWord, w ∈ wsX4_knownCue := by decide +kernel
  unfold f_X4_knownCue at hf
  refine lv_aload_n hx hb dX4_knownCue_0 rfl (lv_at hl 0 rfl) ?_
  replace hf := bnd hf
  obtain ⟨t1, h2, hf⟩ := hf
  refine g_6_3 X hW hinX4 hF30 h2 dX4_knownCue_1 ?_
  refine lv_iload_n hx hb dX4_knownCue_4 rfl (lv_at hl 2 rfl) ?_
  replace hf := bnd hf
  obtain ⟨a3, h4, hf⟩ := hf
  subst h4
  replace hf := bnd hf
  obtain ⟨_, h5, hf⟩ := hf
  replace hf := bnd hf
  obtain ⟨t6, h7, hf⟩ := hf
  refine r_callV_ok X hW hl.1 (k_X1_lastBarOf l hsl G A mu a3 x2 _ h7) gX4_knownCue_X1_lastBarOf rfl (chk_ok h5) (by decide) rfl (by decide +kernel) (n := 1) rfl (by decide) (Nat.le_of_ble_eq_true rfl) dX4_knownCue_5 rfl rfl (stk := [.int t6]) rfl (fun H locs hW => ?_)
  refine lv_istore_n (lv' := [(3, .int t6), (0, .ref x0), (1, .int x1), (2, .int x2)]) hx hb dX4_knownCue_8 rfl hl (by decide) rfl (fun ls hl => ?_)
  refine lv_aload_n hx hb dX4_knownCue_9 rfl (lv_at hl 1 rfl) ?_
  replace hf := bnd hf
  obtain ⟨t8, h9, hf⟩ := hf
  refine g_6_3 X hW hinX4 hF30 h9 dX4_knownCue_10 ?_
  refine lv_iload_n hx hb dX4_knownCue_13 rfl (lv_at hl 3 rfl) ?_
  replace hf := bnd hf
  obtain ⟨a10, h11, hf⟩ := hf
  subst h11
  replace hf := bnd hf
  obtain ⟨_, h12, hf⟩ := hf
  replace hf := bnd hf
  obtain ⟨t13, h14, hf⟩ := hf
  refine r_callV_ok X hW hl.1 (k_X1_barsOf l hsl G A mu a10 x2 _ h14) gX4_knownCue_X1_barsOf rfl (chk_ok h12) (by decide) rfl (by decide +kernel) (n := 1) rfl (by decide) (Nat.le_of_ble_eq_true rfl) dX4_knownCue_14 rfl rfl (stk := [.int t13]) rfl (fun H locs hW => ?_)
  refine lv_aload_n hx hb dX4_knownCue_17 rfl (lv_at hl 1 rfl) ?_
  replace hf := bnd hf
  obtain ⟨t15, h16, hf⟩ := hf
  refine g_6_9 X hW hinX4 hF50 h16 dX4_knownCue_18 ?_
  refine lv_icmp_lt (tgt := 28) hx hb dX4_knownCue_21 (by decide) (fun hc => ?_) (fun hc => ?_)
  · replace hf := itp hc hf
    refine lv_iconst (v := 0) hx hb dX4_knownCue_28 (by decide) ?_
    refine lv_istore (lv' := [(4, .int 0), (3, .int t6), (0, .ref x0), (1, .int x1), (2, .int x2)]) hx hb dX4_knownCue_29 hl (by decide) rfl (fun ls hl => ?_)
    refine lv_iload_n hx hb dX4_knownCue_31 rfl (lv_at hl 1 rfl) ?_
    refine lv_iconst (v := 1) hx hb dX4_knownCue_32 (by decide) ?_
    refine lv_iadd hx hb dX4_knownCue_33 ?_
    refine lv_aload_n hx hb dX4_knownCue_34 rfl (lv_at hl 2 rfl) ?_
    replace hf := bnd hf
    obtain ⟨t17, h18, hf⟩ := hf
    refine g_6_5 X hW hinX4 hF38 h18 dX4_knownCue_35 ?_
    refine lv_icmp_ge (tgt := 45) hx hb dX4_knownCue_38 (by decide) (fun hc => ?_) (fun hc => ?_)
    · replace hf := itp hc hf
      refine lv_iconst (v := 0) hx hb dX4_knownCue_45 (by decide) ?_
      refine lv_istore (lv' := [(5, .int 0), (4, .int 0), (3, .int t6), (0, .ref x0), (1, .int x1), (2, .int x2)]) hx hb dX4_knownCue_46 hl (by decide) rfl (fun ls hl => ?_)
      refine lv_iload hx hb dX4_knownCue_48 (lv_at hl 1 rfl) ?_
      refine lv_if_eq (tgt := 67) hx hb dX4_knownCue_50 (by decide) (fun _ => ?_) (fun hc => absurd hc (by decide))
      refine lv_iconst (v := (-1)) hx hb dX4_knownCue_67 (by decide) ?_
      refine lv_istore (lv' := [(6, .int (-1)), (5, .int 0), (4, .int 0), (3, .int t6), (0, .ref x0), (1, .int x1), (2, .int x2)]) hx hb dX4_knownCue_68 hl (by decide) rfl (fun ls hl => ?_)
      refine lv_iload hx hb dX4_knownCue_70 (lv_at hl 0 rfl) ?_
      refine lv_if_ge (tgt := 86) hx hb dX4_knownCue_72 (by decide) (fun hc => absurd hc (by decide)) (fun _ => ?_)
      exact r_thrw (cls := "java/lang/UnsupportedOperationException") (e9 := 5) (is := 361) (text := "the long rest has no cue") X hsl hl.1 hW rfl (by decide +kernel) (by decide +kernel) hk5 hi5 hg5 hbad5 hgood5 (by decide +kernel) dX4_knownCue_75 dX4_knownCue_78 dX4_knownCue_79 dX4_knownCue_82 dX4_knownCue_85 (by decide) (by cases hf; exact ⟨rfl, rfl⟩) (by decide) (by decide)
    · replace hf := itn hc hf
      refine lv_iconst (v := 1) hx hb dX4_knownCue_41 (by decide) ?_
      refine lv_goto (tgt := 46) hx hb dX4_knownCue_42 (by decide) ?_
      refine lv_istore (lv' := [(5, .int 1), (4, .int 0), (3, .int t6), (0, .ref x0), (1, .int x1), (2, .int x2)]) hx hb dX4_knownCue_46 hl (by decide) rfl (fun ls hl => ?_)
      refine lv_iload hx hb dX4_knownCue_48 (lv_at hl 1 rfl) ?_
      refine lv_if_eq (tgt := 67) hx hb dX4_knownCue_50 (by decide) (fun _ => ?_) (fun hc => absurd hc (by decide))
      refine lv_iconst (v := (-1)) hx hb dX4_knownCue_67 (by decide) ?_
      refine lv_istore (lv' := [(6, .int (-1)), (5, .int 1), (4, .int 0), (3, .int t6), (0, .ref x0), (1, .int x1), (2, .int x2)]) hx hb dX4_knownCue_68 hl (by decide) rfl (fun ls hl => ?_)
      refine lv_iload hx hb dX4_knownCue_70 (lv_at hl 0 rfl) ?_
      refine lv_if_ge (tgt := 86) hx hb dX4_knownCue_72 (by decide) (fun hc => absurd hc (by decide)) (fun _ => ?_)
      exact r_thrw (cls := "java/lang/UnsupportedOperationException") (e9 := 5) (is := 361) (text := "the long rest has no cue") X hsl hl.1 hW rfl (by decide +kernel) (by decide +kernel) hk5 hi5 hg5 hbad5 hgood5 (by decide +kernel) dX4_knownCue_75 dX4_knownCue_78 dX4_knownCue_79 dX4_knownCue_82 dX4_knownCue_85 (by decide) (by cases hf; exact ⟨rfl, rfl⟩) (by decide) (by decide)
  · replace hf := itn hc hf
    refine lv_iconst (v := 1) hx hb dX4_knownCue_24 (by decide) ?_
    refine lv_goto (tgt := 29) hx hb dX4_knownCue_25 (by decide) ?_
    refine lv_istore (lv' := [(4, .int 1), (3, .int t6), (0, .ref x0), (1, .int x1), (2, .int x2)]) hx hb dX4_knownCue_29 hl (by decide) rfl (fun ls hl => ?_)
    refine lv_iload_n hx hb dX4_knownCue_31 rfl (lv_at hl 1 rfl) ?_
    refine lv_iconst (v := 1) hx hb dX4_knownCue_32 (by decide) ?_
    refine lv_iadd hx hb dX4_knownCue_33 ?_
    refine lv_aload_n hx hb dX4_knownCue_34 rfl (lv_at hl 2 rfl) ?_
    replace hf := bnd hf
    obtain ⟨t19, h20, hf⟩ := hf
    refine g_6_5 X hW hinX4 hF38 h20 dX4_knownCue_35 ?_
    refine lv_icmp_ge (tgt := 45) hx hb dX4_knownCue_38 (by decide) (fun hc => ?_) (fun hc => ?_)
    · replace hf := itp hc hf
      refine lv_iconst (v := 0) hx hb dX4_knownCue_45 (by decide) ?_
      refine lv_istore (lv' := [(5, .int 0), (4, .int 1), (3, .int t6), (0, .ref x0), (1, .int x1), (2, .int x2)]) hx hb dX4_knownCue_46 hl (by decide) rfl (fun ls hl => ?_)
      refine lv_iload hx hb dX4_knownCue_48 (lv_at hl 1 rfl) ?_
      refine lv_if_eq (tgt := 67) hx hb dX4_knownCue_50 (by decide) (fun hc => absurd hc (by decide)) (fun _ => ?_)
      refine lv_iload hx hb dX4_knownCue_53 (lv_at hl 0 rfl) ?_
      refine lv_if_eq (tgt := 67) hx hb dX4_knownCue_55 (by decide) (fun _ => ?_) (fun hc => absurd hc (by decide))
      refine lv_iconst (v := (-1)) hx hb dX4_knownCue_67 (by decide) ?_
      refine lv_istore (lv' := [(6, .int (-1)), (5, .int 0), (4, .int 1), (3, .int t6), (0, .ref x0), (1, .int x1), (2, .int x2)]) hx hb dX4_knownCue_68 hl (by decide) rfl (fun ls hl => ?_)
      refine lv_iload hx hb dX4_knownCue_70 (lv_at hl 0 rfl) ?_
      refine lv_if_ge (tgt := 86) hx hb dX4_knownCue_72 (by decide) (fun hc => absurd hc (by decide)) (fun _ => ?_)
      exact r_thrw (cls := "java/lang/UnsupportedOperationException") (e9 := 5) (is := 361) (text := "the long rest has no cue") X hsl hl.1 hW rfl (by decide +kernel) (by decide +kernel) hk5 hi5 hg5 hbad5 hgood5 (by decide +kernel) dX4_knownCue_75 dX4_knownCue_78 dX4_knownCue_79 dX4_knownCue_82 dX4_knownCue_85 (by decide) (by cases hf; exact ⟨rfl, rfl⟩) (by decide) (by decide)
    · replace hf := itn hc hf
      refine lv_iconst (v := 1) hx hb dX4_knownCue_41 (by decide) ?_
      refine lv_goto (tgt := 46) hx hb dX4_knownCue_42 (by decide) ?_
      refine lv_istore (lv' := [(5, .int 1), (4, .int 1), (3, .int t6), (0, .ref x0), (1, .int x1), (2, .int x2)]) hx hb dX4_knownCue_46 hl (by decide) rfl (fun ls hl => ?_)
      refine lv_iload hx hb dX4_knownCue_48 (lv_at hl 1 rfl) ?_
      refine lv_if_eq (tgt := 67) hx hb dX4_knownCue_50 (by decide) (fun hc => absurd hc (by decide)) (fun _ => ?_)
      refine lv_iload hx hb dX4_knownCue_53 (lv_at hl 0 rfl) ?_
      refine lv_if_eq (tgt := 67) hx hb dX4_knownCue_55 (by decide) (fun hc => absurd hc (by decide)) (fun _ => ?_)
      refine lv_aload_n hx hb dX4_knownCue_58 rfl (lv_at hl 3 rfl) ?_
      refine lv_iload_n hx hb dX4_knownCue_59 rfl (lv_at hl 4 rfl) ?_
      refine lv_iload_n hx hb dX4_knownCue_60 rfl (lv_at hl 2 rfl) ?_
      replace hf := bnd hf
      obtain ⟨_, h21, hf⟩ := hf
      replace hf := bnd hf
      obtain ⟨t22, h23, hf⟩ := hf
      refine r_callV_ok X hW hl.1 (k_X4_fullestOtherPart l hsl G A mu x0 x1 t6 _ h23) gX4_knownCue_X4_fullestOtherPart rfl (chk_ok h21) (by decide) rfl (by decide +kernel) (n := 2) rfl (by decide) (Nat.le_of_ble_eq_true rfl) dX4_knownCue_61 rfl rfl (stk := [.int t22]) rfl (fun H locs hW => ?_)
      refine lv_goto (tgt := 68) hx hb dX4_knownCue_64 (by decide) ?_
      refine lv_istore (lv' := [(6, .int t22), (5, .int 1), (4, .int 1), (3, .int t6), (0, .ref x0), (1, .int x1), (2, .int x2)]) hx hb dX4_knownCue_68 hl (by decide) rfl (fun ls hl => ?_)
      refine lv_iload hx hb dX4_knownCue_70 (lv_at hl 0 rfl) ?_
      refine lv_if_ge (tgt := 86) hx hb dX4_knownCue_72 (by decide) (fun hc => ?_) (fun hc => ?_)
      · replace hf := itp hc hf
        refine lv_iload hx hb dX4_knownCue_86 (lv_at hl 0 rfl) ?_
        exact r_iret X hr hW (by cases hf; exact ⟨rfl, rfl⟩) (by decide) (by decide) dX4_knownCue_88
      · replace hf := itn hc hf
        exact r_thrw (cls := "java/lang/UnsupportedOperationException") (e9 := 5) (is := 361) (text := "the long rest has no cue") X hsl hl.1 hW rfl (by decide +kernel) (by decide +kernel) hk5 hi5 hg5 hbad5 hgood5 (by decide +kernel) dX4_knownCue_75 dX4_knownCue_78 dX4_knownCue_79 dX4_knownCue_82 dX4_knownCue_85 (by decide) (by cases hf; exact ⟨rfl, rfl⟩) (by decide) (by decide)

def f_X4_knownCopy (mu : Mem) (x0 : Nat) (x1 : Int32) : Option (Nat ⊕ Unit) := (chk mu 6 x0).bind fun _ => (f_X4_knownPart mu x0 x1).bind fun t2 => sml t2 (fun e4 => some (.inl e4)) (fun v5 => v5.bind fun a6 => (getI mu 5 1 a6).bind fun t8 => if t8 = 0 then (some (.inl 2)) else (some (.inr ())))
set_option maxHeartbeats 1000000 in
set_option maxRecDepth 100000 in
theorem k_X4_knownCopy (l : Launch) (hsl : l.stackTraces = false) (G : GG) (A : Nat → Prop) (mu : Mem) (x0 : Nat) (x1 : Int32) (r : Nat ⊕ Unit) (hf : f_X4_knownCopy mu x0 x1 = some r) : Ok l yX4_knownCopy wsX4_knownCopy ({ frames := 10, cells := 2, slots := 12, locals := 190 } : Room) [.ref x0, .int x1] G A mu (dP (rVx r) mu) := by
  refine Ok.start (cc := cX4_knownCopy) (maxL := 3) (ret := none) rfl (by decide +kernel) hsl (by first | exact Nat.le_of_ble_eq_true rfl | simp [lg_sl, cat_rf, Value.category]) ?_
  intro p e s m args below meth c ls X hr hname hW hl
  have X : BX p l s m args meth c cX4_knownCopy 3 RX4 wsX4_knownCopy G A := X
  have hx := X.1
  have hb := X.2.1
  have hts := X.2.2.2.2.1
  have hl : lv_has ls 3 [(0, .ref x0), (1, .int x1)] := hl
  have hinX3 : ∀ w ∈ wsX30, w ∈ wsX4_knownCopy := by decide +kernel
  have hF238 : (Cond.fieldLink RX4 238 "PartcopyistBench$Part" "isCopied" "Z").before args s = true := hts _ (by decide +kernel)
  have hk2 : (Cond.classLink RX4 60 "java/lang/IllegalStateException").before args s = true := hts _ (by decide +kernel)
  have hi2 : (Cond.initialized "java/lang/IllegalStateException").before args s = true := hts _ (by decide +kernel)
  have hg2 : ∀ w ∈ (vx_atS RX4 64 "java/lang/IllegalStateException" ["java/lang/RuntimeException", "java/lang/Exception"]).filter goodWord, w ∈ wsX4_knownCopy := by decide +kernel
  unfold f_X4_knownCopy at hf
  refine lv_aload_n hx hb dX4_knownCopy_0 rfl (lv_at hl 0 rfl) ?_
  refine lv_iload_n hx hb dX4_knownCopy_1 rfl (lv_at hl 1 rfl) ?_
  replace hf := bnd hf
  obtain ⟨_, h1, hf⟩ := hf
  replace hf := bnd hf
  obtain ⟨t2, h3, hf⟩ := hf
  replace hf := smc hf
  rcases hf with ⟨e4, hq, hf⟩ | ⟨v5, hq, hf⟩
  · subst hq
    exact r_callV_thr X hW hl.1 (k_X4_knownPart l hsl G A mu x0 x1 _ h3) gX4_knownCopy_X4_knownPart rfl (chk_ok h1) (by decide) rfl (by decide +kernel) (n := 1) rfl (by decide) (Nat.le_of_ble_eq_true rfl) dX4_knownCopy_2 rfl rfl (by cases hf; exact ⟨rfl, rfl⟩)
  · subst hq
    refine r_callV_ok X hW hl.1 (k_X4_knownPart l hsl G A mu x0 x1 _ h3) gX4_knownCopy_X4_knownPart rfl (chk_ok h1) (by decide) rfl (by decide +kernel) (n := 1) rfl (by decide) (Nat.le_of_ble_eq_true rfl) dX4_knownCopy_2 rfl rfl (stk := [va_rf v5]) rfl (fun H locs hW => ?_)
    refine r_astore_nq (lv' := [(2, va_rf v5), (0, .ref x0), (1, .int x1)]) hx hb dX4_knownCopy_5 rfl hl (by decide) rfl (fun ls hl => ?_)
    refine r_aload_nq hx hb dX4_knownCopy_6 rfl (lv_at hl 0 rfl) ?_
    replace hf := bnd hf
    obtain ⟨a6, h7, hf⟩ := hf
    subst h7
    replace hf := bnd hf
    obtain ⟨t8, h9, hf⟩ := hf
    refine g_5_1 X hW hinX3 hF238 h9 dX4_knownCopy_7 ?_
    refine lv_if_ne (tgt := 24) hx hb dX4_knownCopy_10 (by decide) (fun hc => ?_) (fun hc => ?_)
    · replace hf := itn hc hf
      exact r_vret X hr hW (by cases hf; exact ⟨rfl, rfl⟩) (by decide) (by decide) dX4_knownCopy_24
    · replace hf := itp hc hf
      exact r_thrw (cls := "java/lang/IllegalStateException") (e9 := 2) (is := 301) (text := "the part was not copied") X hsl hl.1 hW rfl (by decide +kernel) (by decide +kernel) hk2 hi2 hg2 hbad2 hgood2 (by decide +kernel) dX4_knownCopy_13 dX4_knownCopy_16 dX4_knownCopy_17 dX4_knownCopy_20 dX4_knownCopy_23 (by decide) (by cases hf; exact ⟨rfl, rfl⟩) (by decide) (by decide)
