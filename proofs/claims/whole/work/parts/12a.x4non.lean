def f_X4_isKey (mu : Mem) (x0 : Int32) : Option (Int32) := if x0 < (-6) then (some 0) else (if 6 < x0 then (some 0) else (some 1))
set_option maxHeartbeats 1000000 in
set_option maxRecDepth 100000 in
theorem k_X4_isKey (l : Launch) (hsl : l.stackTraces = false) (G : GG) (A : Nat → Prop) (mu : Mem) (x0 : Int32) (r : Int32) (hf : f_X4_isKey mu x0 = some r) : Ok l yX4_isKey wsX4_isKey ({ frames := 6, cells := 0, slots := 0, locals := 110 } : Room) [.int x0] G A mu (dP (.inr (rI r)) mu) := by
  refine Ok.start (cc := cX4_isKey) (maxL := 1) (ret := (some .boolean)) rfl (by decide +kernel) hsl (by first | exact Nat.le_of_ble_eq_true rfl | simp [lg_sl, cat_rf, Value.category]) ?_
  intro p e s m args below meth c ls X hr hname hW hl
  have X : BX p l s m args meth c cX4_isKey 1 RX4 wsX4_isKey G A := X
  have hx := X.1
  have hb := X.2.1
  have hts := X.2.2.2.2.1
  have hl : lv_has ls 1 [(0, .int x0)] := hl
  unfold f_X4_isKey at hf
  refine lv_iload_n hx hb dX4_isKey_0 rfl (lv_at hl 0 rfl) ?_
  refine lv_bipush (v := (-6)) hx hb dX4_isKey_1 (by decide) ?_
  refine lv_icmp_lt (tgt := 16) hx hb dX4_isKey_3 (by decide) (fun hc => ?_) (fun hc => ?_)
  · replace hf := itp hc hf
    refine lv_iconst (v := 0) hx hb dX4_isKey_16 (by decide) ?_
    exact r_zret X hr hW (Or.inl rfl) (by cases hf; exact ⟨rfl, rfl⟩) (by decide) (by decide) dX4_isKey_17
  · replace hf := itn hc hf
    refine lv_iload_n hx hb dX4_isKey_6 rfl (lv_at hl 0 rfl) ?_
    refine lv_bipush (v := 6) hx hb dX4_isKey_7 (by decide) ?_
    refine lv_icmp_gt (tgt := 16) hx hb dX4_isKey_9 (by decide) (fun hc => ?_) (fun hc => ?_)
    · replace hf := itp hc hf
      refine lv_iconst (v := 0) hx hb dX4_isKey_16 (by decide) ?_
      exact r_zret X hr hW (Or.inl rfl) (by cases hf; exact ⟨rfl, rfl⟩) (by decide) (by decide) dX4_isKey_17
    · replace hf := itn hc hf
      refine lv_iconst (v := 1) hx hb dX4_isKey_12 (by decide) ?_
      refine lv_goto (tgt := 17) hx hb dX4_isKey_13 (by decide) ?_
      exact r_zret X hr hW (Or.inr rfl) (by cases hf; exact ⟨rfl, rfl⟩) (by decide) (by decide) dX4_isKey_17

def f_X4_barOrNull (mu : Mem) (x0 : Nat) (x1 : Int32) : Option (Option Nat) := if x1 < 0 then (some none) else ((getQ mu 6 1 x0).bind fun t1 => t1.bind fun a3 => (alen mu a3).bind fun t5 => if t5 ≤ x1 then (some none) else ((getQ mu 6 1 x0).bind fun t7 => t7.bind fun a9 => (qld mu a9 x1).bind fun t11 => some t11))
set_option maxHeartbeats 1000000 in
set_option maxRecDepth 100000 in
theorem k_X4_barOrNull (l : Launch) (hsl : l.stackTraces = false) (G : GG) (A : Nat → Prop) (mu : Mem) (x0 : Nat) (x1 : Int32) (r : Option Nat) (hf : f_X4_barOrNull mu x0 x1 = some r) : Ok l yX4_barOrNull wsX4_barOrNull ({ frames := 6, cells := 0, slots := 0, locals := 110 } : Room) [.ref x0, .int x1] G A mu (dP (.inr (rA r)) mu) := by
  refine Ok.start (cc := cX4_barOrNull) (maxL := 2) (ret := (some (.object "PartcopyistBench$Bar"))) rfl (by decide +kernel) hsl (by first | exact Nat.le_of_ble_eq_true rfl | simp [lg_sl, cat_rf, Value.category]) ?_
  intro p e s m args below meth c ls X hr hname hW hl
  have X : BX p l s m args meth c cX4_barOrNull 2 RX4 wsX4_barOrNull G A := X
  have hx := X.1
  have hb := X.2.1
  have hts := X.2.2.2.2.1
  have hl : lv_has ls 2 [(0, .ref x0), (1, .int x1)] := hl
  have hinX4 : ∀ w ∈ wsX40, w ∈ wsX4_barOrNull := by decide +kernel
  have hF17 : (Cond.fieldLink RX4 17 "PartcopyistBench" "bars" "[LPartcopyistBench$Bar;").before args s = true := hts _ (by decide +kernel)
  unfold f_X4_barOrNull at hf
  refine lv_iload_n hx hb dX4_barOrNull_0 rfl (lv_at hl 1 rfl) ?_
  refine lv_if_lt (tgt := 22) hx hb dX4_barOrNull_1 (by decide) (fun hc => ?_) (fun hc => ?_)
  · replace hf := itp hc hf
    refine r_null hx hb dX4_barOrNull_22 ?_
    exact r_aret (v := none) X hr (Or.inl ⟨_, rfl⟩) hW (by cases hf; exact ⟨rfl, rfl⟩) (by decide) (by decide) dX4_barOrNull_23
  · replace hf := itn hc hf
    refine lv_iload_n hx hb dX4_barOrNull_4 rfl (lv_at hl 1 rfl) ?_
    refine lv_aload_n hx hb dX4_barOrNull_5 rfl (lv_at hl 0 rfl) ?_
    replace hf := bnd hf
    obtain ⟨t1, h2, hf⟩ := hf
    refine g_6_1 X hW hinX4 hF17 h2 dX4_barOrNull_6 ?_
    replace hf := bnd hf
    obtain ⟨a3, h4, hf⟩ := hf
    subst h4
    replace hf := bnd hf
    obtain ⟨t5, h6, hf⟩ := hf
    refine r_alen X hW h6 dX4_barOrNull_9 ?_
    refine lv_icmp_ge (tgt := 22) hx hb dX4_barOrNull_10 (by decide) (fun hc => ?_) (fun hc => ?_)
    · replace hf := itp hc hf
      refine r_null hx hb dX4_barOrNull_22 ?_
      exact r_aret (v := none) X hr (Or.inl ⟨_, rfl⟩) hW (by cases hf; exact ⟨rfl, rfl⟩) (by decide) (by decide) dX4_barOrNull_23
    · replace hf := itn hc hf
      refine lv_aload_n hx hb dX4_barOrNull_13 rfl (lv_at hl 0 rfl) ?_
      replace hf := bnd hf
      obtain ⟨t7, h8, hf⟩ := hf
      refine g_6_1 X hW hinX4 hF17 h8 dX4_barOrNull_14 ?_
      refine lv_iload_n hx hb dX4_barOrNull_17 rfl (lv_at hl 1 rfl) ?_
      replace hf := bnd hf
      obtain ⟨a9, h10, hf⟩ := hf
      subst h10
      replace hf := bnd hf
      obtain ⟨t11, h12, hf⟩ := hf
      refine r_qld X hW h12 dX4_barOrNull_18 ?_
      refine lv_goto (tgt := 23) hx hb dX4_barOrNull_19 (by decide) ?_
      exact r_aret (v := t11) X hr (Or.inl ⟨_, rfl⟩) hW (by cases hf; exact ⟨rfl, rfl⟩) (by decide) (by decide) dX4_barOrNull_23

def f_X4_partOrNull (mu : Mem) (x0 : Nat) (x1 : Int32) : Option (Option Nat) := if x1 < 0 then (some none) else ((getQ mu 6 0 x0).bind fun t1 => t1.bind fun a3 => (alen mu a3).bind fun t5 => if t5 ≤ x1 then (some none) else ((getQ mu 6 0 x0).bind fun t7 => t7.bind fun a9 => (qld mu a9 x1).bind fun t11 => some t11))
set_option maxHeartbeats 1000000 in
set_option maxRecDepth 100000 in
theorem k_X4_partOrNull (l : Launch) (hsl : l.stackTraces = false) (G : GG) (A : Nat → Prop) (mu : Mem) (x0 : Nat) (x1 : Int32) (r : Option Nat) (hf : f_X4_partOrNull mu x0 x1 = some r) : Ok l yX4_partOrNull wsX4_partOrNull ({ frames := 6, cells := 0, slots := 0, locals := 110 } : Room) [.ref x0, .int x1] G A mu (dP (.inr (rA r)) mu) := by
  refine Ok.start (cc := cX4_partOrNull) (maxL := 2) (ret := (some (.object "PartcopyistBench$Part"))) rfl (by decide +kernel) hsl (by first | exact Nat.le_of_ble_eq_true rfl | simp [lg_sl, cat_rf, Value.category]) ?_
  intro p e s m args below meth c ls X hr hname hW hl
  have X : BX p l s m args meth c cX4_partOrNull 2 RX4 wsX4_partOrNull G A := X
  have hx := X.1
  have hb := X.2.1
  have hts := X.2.2.2.2.1
  have hl : lv_has ls 2 [(0, .ref x0), (1, .int x1)] := hl
  have hinX4 : ∀ w ∈ wsX40, w ∈ wsX4_partOrNull := by decide +kernel
  have hF11 : (Cond.fieldLink RX4 11 "PartcopyistBench" "parts" "[LPartcopyistBench$Part;").before args s = true := hts _ (by decide +kernel)
  unfold f_X4_partOrNull at hf
  refine lv_iload_n hx hb dX4_partOrNull_0 rfl (lv_at hl 1 rfl) ?_
  refine lv_if_lt (tgt := 22) hx hb dX4_partOrNull_1 (by decide) (fun hc => ?_) (fun hc => ?_)
  · replace hf := itp hc hf
    refine r_null hx hb dX4_partOrNull_22 ?_
    exact r_aret (v := none) X hr (Or.inl ⟨_, rfl⟩) hW (by cases hf; exact ⟨rfl, rfl⟩) (by decide) (by decide) dX4_partOrNull_23
  · replace hf := itn hc hf
    refine lv_iload_n hx hb dX4_partOrNull_4 rfl (lv_at hl 1 rfl) ?_
    refine lv_aload_n hx hb dX4_partOrNull_5 rfl (lv_at hl 0 rfl) ?_
    replace hf := bnd hf
    obtain ⟨t1, h2, hf⟩ := hf
    refine g_6_0 X hW hinX4 hF11 h2 dX4_partOrNull_6 ?_
    replace hf := bnd hf
    obtain ⟨a3, h4, hf⟩ := hf
    subst h4
    replace hf := bnd hf
    obtain ⟨t5, h6, hf⟩ := hf
    refine r_alen X hW h6 dX4_partOrNull_9 ?_
    refine lv_icmp_ge (tgt := 22) hx hb dX4_partOrNull_10 (by decide) (fun hc => ?_) (fun hc => ?_)
    · replace hf := itp hc hf
      refine r_null hx hb dX4_partOrNull_22 ?_
      exact r_aret (v := none) X hr (Or.inl ⟨_, rfl⟩) hW (by cases hf; exact ⟨rfl, rfl⟩) (by decide) (by decide) dX4_partOrNull_23
    · replace hf := itn hc hf
      refine lv_aload_n hx hb dX4_partOrNull_13 rfl (lv_at hl 0 rfl) ?_
      replace hf := bnd hf
      obtain ⟨t7, h8, hf⟩ := hf
      refine g_6_0 X hW hinX4 hF11 h8 dX4_partOrNull_14 ?_
      refine lv_iload_n hx hb dX4_partOrNull_17 rfl (lv_at hl 1 rfl) ?_
      replace hf := bnd hf
      obtain ⟨a9, h10, hf⟩ := hf
      subst h10
      replace hf := bnd hf
      obtain ⟨t11, h12, hf⟩ := hf
      refine r_qld X hW h12 dX4_partOrNull_18 ?_
      refine lv_goto (tgt := 23) hx hb dX4_partOrNull_19 (by decide) ?_
      exact r_aret (v := t11) X hr (Or.inl ⟨_, rfl⟩) hW (by cases hf; exact ⟨rfl, rfl⟩) (by decide) (by decide) dX4_partOrNull_23

def f_X4_isPitch (mu : Mem) (x0 : Int32) : Option (Int32) := if x0 < 24 then (some 0) else (if 96 < x0 then (some 0) else (some 1))
set_option maxHeartbeats 1000000 in
set_option maxRecDepth 100000 in
theorem k_X4_isPitch (l : Launch) (hsl : l.stackTraces = false) (G : GG) (A : Nat → Prop) (mu : Mem) (x0 : Int32) (r : Int32) (hf : f_X4_isPitch mu x0 = some r) : Ok l yX4_isPitch wsX4_isPitch ({ frames := 6, cells := 0, slots := 0, locals := 110 } : Room) [.int x0] G A mu (dP (.inr (rI r)) mu) := by
  refine Ok.start (cc := cX4_isPitch) (maxL := 1) (ret := (some .boolean)) rfl (by decide +kernel) hsl (by first | exact Nat.le_of_ble_eq_true rfl | simp [lg_sl, cat_rf, Value.category]) ?_
  intro p e s m args below meth c ls X hr hname hW hl
  have X : BX p l s m args meth c cX4_isPitch 1 RX4 wsX4_isPitch G A := X
  have hx := X.1
  have hb := X.2.1
  have hts := X.2.2.2.2.1
  have hl : lv_has ls 1 [(0, .int x0)] := hl
  unfold f_X4_isPitch at hf
  refine lv_iload_n hx hb dX4_isPitch_0 rfl (lv_at hl 0 rfl) ?_
  refine lv_bipush (v := 24) hx hb dX4_isPitch_1 (by decide) ?_
  refine lv_icmp_lt (tgt := 16) hx hb dX4_isPitch_3 (by decide) (fun hc => ?_) (fun hc => ?_)
  · replace hf := itp hc hf
    refine lv_iconst (v := 0) hx hb dX4_isPitch_16 (by decide) ?_
    exact r_zret X hr hW (Or.inl rfl) (by cases hf; exact ⟨rfl, rfl⟩) (by decide) (by decide) dX4_isPitch_17
  · replace hf := itn hc hf
    refine lv_iload_n hx hb dX4_isPitch_6 rfl (lv_at hl 0 rfl) ?_
    refine lv_bipush (v := 96) hx hb dX4_isPitch_7 (by decide) ?_
    refine lv_icmp_gt (tgt := 16) hx hb dX4_isPitch_9 (by decide) (fun hc => ?_) (fun hc => ?_)
    · replace hf := itp hc hf
      refine lv_iconst (v := 0) hx hb dX4_isPitch_16 (by decide) ?_
      exact r_zret X hr hW (Or.inl rfl) (by cases hf; exact ⟨rfl, rfl⟩) (by decide) (by decide) dX4_isPitch_17
    · replace hf := itn hc hf
      refine lv_iconst (v := 1) hx hb dX4_isPitch_12 (by decide) ?_
      refine lv_goto (tgt := 17) hx hb dX4_isPitch_13 (by decide) ?_
      exact r_zret X hr hW (Or.inr rfl) (by cases hf; exact ⟨rfl, rfl⟩) (by decide) (by decide) dX4_isPitch_17

def f_X4_meetsAnother_L2 (mu : Mem) (u0_2 : Nat) (u1_2 : Option Nat) (u2_2 : Int32) (k9 : Int32 → Option (Int32)) : Nat → Int32 → Option (Int32)
  | 0, _ => none
  | n + 1, w3_2 => (getQ mu 6 2 u0_2).bind fun t1 => t1.bind fun a3 => (alen mu a3).bind fun t5 => if t5 ≤ w3_2 then (k9 w3_2) else ((getQ mu 6 2 u0_2).bind fun t7 => t7.bind fun a9 => (qld mu a9 w3_2).bind fun t11 => onl t11 (f_X4_meetsAnother_L2 mu u0_2 u1_2 u2_2 k9 n (w3_2 + 1)) (fun a13 => if (some a13) = u1_2 then (f_X4_meetsAnother_L2 mu u0_2 u1_2 u2_2 k9 n (w3_2 + 1)) else (u1_2.bind fun a14 => (getI mu 4 0 a14).bind fun t16 => (getI mu 4 1 a14).bind fun t18 => (chk mu 4 a13).bind fun _ => (f_X2_isAt mu a13 t16 t18).bind fun t21 => if t21 = 0 then (f_X4_meetsAnother_L2 mu u0_2 u1_2 u2_2 k9 n (w3_2 + 1)) else ((getI mu 4 2 a13).bind fun t23 => (getI mu 4 2 a14).bind fun t25 => if t23 = t25 then ((getI mu 4 3 a14).bind fun t27 => (chk mu 4 a13).bind fun _ => (f_X2_sharesTicks mu a13 t27 u2_2).bind fun t30 => if t30 = 0 then (f_X4_meetsAnother_L2 mu u0_2 u1_2 u2_2 k9 n (w3_2 + 1)) else (some 1)) else (f_X4_meetsAnother_L2 mu u0_2 u1_2 u2_2 k9 n (w3_2 + 1))))))
def f_X4_meetsAnother (mu : Mem) (x0 : Nat) (x1 : Option Nat) (x2 : Int32) : Option (Int32) := f_X4_meetsAnother_L2 mu x0 x1 x2 (fun (zw3_2 : Int32) => some 0) 200 0
set_option maxHeartbeats 1000000 in
set_option maxRecDepth 100000 in
theorem k_X4_meetsAnother (l : Launch) (hsl : l.stackTraces = false) (G : GG) (A : Nat → Prop) (mu : Mem) (x0 : Nat) (x1 : Option Nat) (x2 : Int32) (r : Int32) (hf : f_X4_meetsAnother mu x0 x1 x2 = some r) : Ok l yX4_meetsAnother wsX4_meetsAnother ({ frames := 8, cells := 0, slots := 0, locals := 150 } : Room) [.ref x0, va_rf x1, .int x2] G A mu (dP (.inr (rI r)) mu) := by
  refine Ok.start (cc := cX4_meetsAnother) (maxL := 5) (ret := (some .boolean)) rfl (by decide +kernel) hsl (by cases x1 <;> exact Nat.le_of_ble_eq_true rfl) ?_
  intro p e s m args below meth c ls X hr hname hW hl
  have X : BX p l s m args meth c cX4_meetsAnother 5 RX4 wsX4_meetsAnother G A := X
  have hx := X.1
  have hb := X.2.1
  have hts := X.2.2.2.2.1
  have hl : lv_has ls 5 [(0, .ref x0), (1, va_rf x1), (2, .int x2)] := by cases x1 <;> exact hl
  have hinX2 : ∀ w ∈ wsX20, w ∈ wsX4_meetsAnother := by decide +kernel
  have hinX4 : ∀ w ∈ wsX40, w ∈ wsX4_meetsAnother := by decide +kernel
  have hF131 : (Cond.fieldLink RX4 131 "PartcopyistBench$Note" "bar" "I").before args s = true := hts _ (by decide +kernel)
  have hF137 : (Cond.fieldLink RX4 137 "PartcopyistBench$Note" "tick" "I").before args s = true := hts _ (by decide +kernel)
  have hF150 : (Cond.fieldLink RX4 150 "PartcopyistBench$Note" "part" "I").before args s = true := hts _ (by decide +kernel)
  have hF23 : (Cond.fieldLink RX4 23 "PartcopyistBench" "notes" "[LPartcopyistBench$Note;").before args s = true := hts _ (by decide +kernel)
  have hF306 : (Cond.fieldLink RX4 306 "PartcopyistBench$Note" "voice" "I").before args s = true := hts _ (by decide +kernel)
  unfold f_X4_meetsAnother at hf
  refine lv_iconst (v := 0) hx hb dX4_meetsAnother_0 (by decide) ?_
  refine lv_istore_n (lv' := [(3, .int 0), (0, .ref x0), (1, va_rf x1), (2, .int x2)]) hx hb dX4_meetsAnother_1 rfl hl (by decide) rfl (fun ls hl => ?_)
  have L2 : ∀ (u0_2 : Nat) (u1_2 : Option Nat) (u2_2 : Int32) (k9 : Int32 → Option (Int32)),
      (∀ (w3_2 : Int32) (H : Heap) (locs : List Loc) (ls : Array Slot), k9 w3_2 = some r → MW G A mu s.heap H locs → lv_has ls 5 [(0, .ref u0_2), (1, va_rf u1_2), (2, .int u2_2), (3, .int w3_2)] → W p l e ({ frames := 8, cells := 0, slots := 0, locals := 150 } : Room) s m args below meth c H locs 0 0 (QQ below G A (dP (.inr (rI r)) mu) args s 0 0) (F0 m 79 ls [])) →
      ∀ (n : Nat) (w3_2 : Int32) (H : Heap) (locs : List Loc) (ls : Array Slot), f_X4_meetsAnother_L2 mu u0_2 u1_2 u2_2 k9 n w3_2 = some r → MW G A mu s.heap H locs → lv_has ls 5 [(0, .ref u0_2), (1, va_rf u1_2), (2, .int u2_2), (3, .int w3_2)] → W p l e ({ frames := 8, cells := 0, slots := 0, locals := 150 } : Room) s m args below meth c H locs 0 0 (QQ below G A (dP (.inr (rI r)) mu) args s 0 0) (F0 m 2 ls []) := by
    intro u0_2 u1_2 u2_2 k9 hk2 n
    induction n with
    | zero => intro w3_2 H locs ls hf hW hl; rw [f_X4_meetsAnother_L2] at hf; cases hf
    | succ n ih2 =>
      intro w3_2 H locs ls hf hW hl
      rw [f_X4_meetsAnother_L2] at hf
      refine lv_iload_n hx hb dX4_meetsAnother_2 rfl (lv_at hl 3 rfl) ?_
      refine lv_aload_n hx hb dX4_meetsAnother_3 rfl (lv_at hl 0 rfl) ?_
      replace hf := bnd hf
      obtain ⟨t1, h2, hf⟩ := hf
      refine g_6_2 X hW hinX4 hF23 h2 dX4_meetsAnother_4 ?_
      replace hf := bnd hf
      obtain ⟨a3, h4, hf⟩ := hf
      subst h4
      replace hf := bnd hf
      obtain ⟨t5, h6, hf⟩ := hf
      refine r_alen X hW h6 dX4_meetsAnother_7 ?_
      refine lv_icmp_ge (tgt := 79) hx hb dX4_meetsAnother_8 (by decide) (fun hc => ?_) (fun hc => ?_)
      · replace hf := itp hc hf
        exact hk2 _ _ _ _ hf hW (lv_sub hl [0, 1, 2, 3] rfl)
      · replace hf := itn hc hf
        refine lv_aload_n hx hb dX4_meetsAnother_11 rfl (lv_at hl 0 rfl) ?_
        replace hf := bnd hf
        obtain ⟨t7, h8, hf⟩ := hf
        refine g_6_2 X hW hinX4 hF23 h8 dX4_meetsAnother_12 ?_
        refine lv_iload_n hx hb dX4_meetsAnother_15 rfl (lv_at hl 3 rfl) ?_
        replace hf := bnd hf
        obtain ⟨a9, h10, hf⟩ := hf
        subst h10
        replace hf := bnd hf
        obtain ⟨t11, h12, hf⟩ := hf
        refine r_qld X hW h12 dX4_meetsAnother_16 ?_
        refine r_astoreq (lv' := [(4, va_rf t11), (0, .ref u0_2), (1, va_rf u1_2), (2, .int u2_2), (3, .int w3_2)]) hx hb dX4_meetsAnother_17 hl (by decide) rfl (fun ls hl => ?_)
        refine r_aloadq hx hb dX4_meetsAnother_19 (lv_at hl 0 rfl) ?_
        replace hf := onl_c hf
        rcases hf with ⟨hq, hf⟩ | ⟨a13, hq, hf⟩
        · subst hq
          refine lv_ifnullN (tgt := 73) hx hb dX4_meetsAnother_21 (by decide) ?_
          refine lv_iinc (v := (w3_2 + 1)) (lv' := [(3, .int (w3_2 + 1)), (4, .null), (0, .ref u0_2), (1, va_rf u1_2), (2, .int u2_2)]) hx hb dX4_meetsAnother_73 hl (k := 4) rfl rfl (by decide) rfl (fun ls hl => ?_)
          refine lv_goto (tgt := 2) hx hb dX4_meetsAnother_76 (by decide) ?_
          exact ih2 _ _ _ _ hf hW (lv_sub hl [2, 3, 4, 0] rfl)
        · subst hq
          refine lv_ifnull hx hb dX4_meetsAnother_21 ?_
          refine lv_aload hx hb dX4_meetsAnother_24 (lv_at hl 0 rfl) ?_
          refine r_aload_nq hx hb dX4_meetsAnother_26 rfl (lv_at hl 2 rfl) ?_
          refine lv_acmp_eq (rx := (some a13)) (ry := u1_2) (tgt := 73) hx hb dX4_meetsAnother_27 (by decide) (fun hc => ?_) (fun hc => ?_)
          · replace hf := itp hc hf
            refine lv_iinc (v := (w3_2 + 1)) (lv' := [(3, .int (w3_2 + 1)), (4, .ref a13), (0, .ref u0_2), (1, va_rf u1_2), (2, .int u2_2)]) hx hb dX4_meetsAnother_73 hl (k := 4) rfl rfl (by decide) rfl (fun ls hl => ?_)
            refine lv_goto (tgt := 2) hx hb dX4_meetsAnother_76 (by decide) ?_
            exact ih2 _ _ _ _ hf hW (lv_sub hl [2, 3, 4, 0] rfl)
          · replace hf := itn hc hf
            refine lv_aload hx hb dX4_meetsAnother_30 (lv_at hl 0 rfl) ?_
            refine r_aload_nq hx hb dX4_meetsAnother_32 rfl (lv_at hl 2 rfl) ?_
            replace hf := bnd hf
            obtain ⟨a14, h15, hf⟩ := hf
            subst h15
            replace hf := bnd hf
            obtain ⟨t16, h17, hf⟩ := hf
            refine g_4_0 X hW hinX2 hF150 h17 dX4_meetsAnother_33 ?_
            refine lv_aload_n hx hb dX4_meetsAnother_36 rfl (lv_at hl 2 rfl) ?_
            replace hf := bnd hf
            obtain ⟨t18, h19, hf⟩ := hf
            refine g_4_1 X hW hinX2 hF131 h19 dX4_meetsAnother_37 ?_
            replace hf := bnd hf
            obtain ⟨_, h20, hf⟩ := hf
            replace hf := bnd hf
            obtain ⟨t21, h22, hf⟩ := hf
            refine r_callV_ok X hW hl.1 (k_X2_isAt l hsl G A mu a13 t16 t18 _ h22) gX4_meetsAnother_X2_isAt rfl (chk_ok h20) (by decide) rfl (by decide +kernel) (n := 2) rfl (by decide) (Nat.le_of_ble_eq_true rfl) dX4_meetsAnother_40 rfl rfl (stk := [.int t21]) rfl (fun H locs hW => ?_)
            refine lv_if_eq (tgt := 73) hx hb dX4_meetsAnother_43 (by decide) (fun hc => ?_) (fun hc => ?_)
            · replace hf := itp hc hf
              refine lv_iinc (v := (w3_2 + 1)) (lv' := [(3, .int (w3_2 + 1)), (4, .ref a13), (0, .ref u0_2), (1, .ref a14), (2, .int u2_2)]) hx hb dX4_meetsAnother_73 hl (k := 4) rfl rfl (by decide) rfl (fun ls hl => ?_)
              refine lv_goto (tgt := 2) hx hb dX4_meetsAnother_76 (by decide) ?_
              exact ih2 _ _ _ _ hf hW (lv_sub hl [2, 3, 4, 0] rfl)
            · replace hf := itn hc hf
              refine lv_aload hx hb dX4_meetsAnother_46 (lv_at hl 0 rfl) ?_
              replace hf := bnd hf
              obtain ⟨t23, h24, hf⟩ := hf
              refine g_4_2 X hW hinX2 hF306 h24 dX4_meetsAnother_48 ?_
              refine lv_aload_n hx hb dX4_meetsAnother_51 rfl (lv_at hl 2 rfl) ?_
              replace hf := bnd hf
              obtain ⟨t25, h26, hf⟩ := hf
              refine g_4_2 X hW hinX2 hF306 h26 dX4_meetsAnother_52 ?_
              refine lv_icmp_ne (tgt := 73) hx hb dX4_meetsAnother_55 (by decide) (fun hc => ?_) (fun hc => ?_)
              · replace hf := itn hc hf
                refine lv_iinc (v := (w3_2 + 1)) (lv' := [(3, .int (w3_2 + 1)), (4, .ref a13), (0, .ref u0_2), (1, .ref a14), (2, .int u2_2)]) hx hb dX4_meetsAnother_73 hl (k := 4) rfl rfl (by decide) rfl (fun ls hl => ?_)
                refine lv_goto (tgt := 2) hx hb dX4_meetsAnother_76 (by decide) ?_
                exact ih2 _ _ _ _ hf hW (lv_sub hl [2, 3, 4, 0] rfl)
              · replace hf := itp hc hf
                refine lv_aload hx hb dX4_meetsAnother_58 (lv_at hl 0 rfl) ?_
                refine lv_aload_n hx hb dX4_meetsAnother_60 rfl (lv_at hl 2 rfl) ?_
                replace hf := bnd hf
                obtain ⟨t27, h28, hf⟩ := hf
                refine g_4_3 X hW hinX2 hF137 h28 dX4_meetsAnother_61 ?_
                refine lv_iload_n hx hb dX4_meetsAnother_64 rfl (lv_at hl 3 rfl) ?_
                replace hf := bnd hf
                obtain ⟨_, h29, hf⟩ := hf
                replace hf := bnd hf
                obtain ⟨t30, h31, hf⟩ := hf
                refine r_callV_ok X hW hl.1 (k_X2_sharesTicks l hsl G A mu a13 t27 u2_2 _ h31) gX4_meetsAnother_X2_sharesTicks rfl (chk_ok h29) (by decide) rfl (by decide +kernel) (n := 2) rfl (by decide) (Nat.le_of_ble_eq_true rfl) dX4_meetsAnother_65 rfl rfl (stk := [.int t30]) rfl (fun H locs hW => ?_)
                refine lv_if_eq (tgt := 73) hx hb dX4_meetsAnother_68 (by decide) (fun hc => ?_) (fun hc => ?_)
                · replace hf := itp hc hf
                  refine lv_iinc (v := (w3_2 + 1)) (lv' := [(3, .int (w3_2 + 1)), (4, .ref a13), (0, .ref u0_2), (1, .ref a14), (2, .int u2_2)]) hx hb dX4_meetsAnother_73 hl (k := 4) rfl rfl (by decide) rfl (fun ls hl => ?_)
                  refine lv_goto (tgt := 2) hx hb dX4_meetsAnother_76 (by decide) ?_
                  exact ih2 _ _ _ _ hf hW (lv_sub hl [2, 3, 4, 0] rfl)
                · replace hf := itn hc hf
                  refine lv_iconst (v := 1) hx hb dX4_meetsAnother_71 (by decide) ?_
                  exact r_zret X hr hW (Or.inr rfl) (by cases hf; exact ⟨rfl, rfl⟩) (by decide) (by decide) dX4_meetsAnother_72
  refine L2 x0 x1 x2 _ ?_ 200 0 _ _ _ hf hW (lv_sub hl [1, 2, 3, 0] rfl)
  intro zw3_2 H locs ls hf hW hl
  refine lv_iconst (v := 0) hx hb dX4_meetsAnother_79 (by decide) ?_
  exact r_zret X hr hW (Or.inl rfl) (by cases hf; exact ⟨rfl, rfl⟩) (by decide) (by decide) dX4_meetsAnother_80

def f_X4_noteOrNull (mu : Mem) (x0 : Nat) (x1 : Int32) : Option (Option Nat) := if x1 < 0 then (some none) else ((getQ mu 6 2 x0).bind fun t1 => t1.bind fun a3 => (alen mu a3).bind fun t5 => if t5 ≤ x1 then (some none) else ((getQ mu 6 2 x0).bind fun t7 => t7.bind fun a9 => (qld mu a9 x1).bind fun t11 => some t11))
set_option maxHeartbeats 1000000 in
set_option maxRecDepth 100000 in
theorem k_X4_noteOrNull (l : Launch) (hsl : l.stackTraces = false) (G : GG) (A : Nat → Prop) (mu : Mem) (x0 : Nat) (x1 : Int32) (r : Option Nat) (hf : f_X4_noteOrNull mu x0 x1 = some r) : Ok l yX4_noteOrNull wsX4_noteOrNull ({ frames := 6, cells := 0, slots := 0, locals := 110 } : Room) [.ref x0, .int x1] G A mu (dP (.inr (rA r)) mu) := by
  refine Ok.start (cc := cX4_noteOrNull) (maxL := 2) (ret := (some (.object "PartcopyistBench$Note"))) rfl (by decide +kernel) hsl (by first | exact Nat.le_of_ble_eq_true rfl | simp [lg_sl, cat_rf, Value.category]) ?_
  intro p e s m args below meth c ls X hr hname hW hl
  have X : BX p l s m args meth c cX4_noteOrNull 2 RX4 wsX4_noteOrNull G A := X
  have hx := X.1
  have hb := X.2.1
  have hts := X.2.2.2.2.1
  have hl : lv_has ls 2 [(0, .ref x0), (1, .int x1)] := hl
  have hinX4 : ∀ w ∈ wsX40, w ∈ wsX4_noteOrNull := by decide +kernel
  have hF23 : (Cond.fieldLink RX4 23 "PartcopyistBench" "notes" "[LPartcopyistBench$Note;").before args s = true := hts _ (by decide +kernel)
  unfold f_X4_noteOrNull at hf
  refine lv_iload_n hx hb dX4_noteOrNull_0 rfl (lv_at hl 1 rfl) ?_
  refine lv_if_lt (tgt := 22) hx hb dX4_noteOrNull_1 (by decide) (fun hc => ?_) (fun hc => ?_)
  · replace hf := itp hc hf
    refine r_null hx hb dX4_noteOrNull_22 ?_
    exact r_aret (v := none) X hr (Or.inl ⟨_, rfl⟩) hW (by cases hf; exact ⟨rfl, rfl⟩) (by decide) (by decide) dX4_noteOrNull_23
  · replace hf := itn hc hf
    refine lv_iload_n hx hb dX4_noteOrNull_4 rfl (lv_at hl 1 rfl) ?_
    refine lv_aload_n hx hb dX4_noteOrNull_5 rfl (lv_at hl 0 rfl) ?_
    replace hf := bnd hf
    obtain ⟨t1, h2, hf⟩ := hf
    refine g_6_2 X hW hinX4 hF23 h2 dX4_noteOrNull_6 ?_
    replace hf := bnd hf
    obtain ⟨a3, h4, hf⟩ := hf
    subst h4
    replace hf := bnd hf
    obtain ⟨t5, h6, hf⟩ := hf
    refine r_alen X hW h6 dX4_noteOrNull_9 ?_
    refine lv_icmp_ge (tgt := 22) hx hb dX4_noteOrNull_10 (by decide) (fun hc => ?_) (fun hc => ?_)
    · replace hf := itp hc hf
      refine r_null hx hb dX4_noteOrNull_22 ?_
      exact r_aret (v := none) X hr (Or.inl ⟨_, rfl⟩) hW (by cases hf; exact ⟨rfl, rfl⟩) (by decide) (by decide) dX4_noteOrNull_23
    · replace hf := itn hc hf
      refine lv_aload_n hx hb dX4_noteOrNull_13 rfl (lv_at hl 0 rfl) ?_
      replace hf := bnd hf
      obtain ⟨t7, h8, hf⟩ := hf
      refine g_6_2 X hW hinX4 hF23 h8 dX4_noteOrNull_14 ?_
      refine lv_iload_n hx hb dX4_noteOrNull_17 rfl (lv_at hl 1 rfl) ?_
      replace hf := bnd hf
      obtain ⟨a9, h10, hf⟩ := hf
      subst h10
      replace hf := bnd hf
      obtain ⟨t11, h12, hf⟩ := hf
      refine r_qld X hW h12 dX4_noteOrNull_18 ?_
      refine lv_goto (tgt := 23) hx hb dX4_noteOrNull_19 (by decide) ?_
      exact r_aret (v := t11) X hr (Or.inl ⟨_, rfl⟩) hW (by cases hf; exact ⟨rfl, rfl⟩) (by decide) (by decide) dX4_noteOrNull_23

def f_X4_countOfPart_L4 (mu : Mem) (u0_4 : Nat) (u1_4 : Int32) (k9 : Int32 → Int32 → Option (Int32)) : Nat → Int32 → Int32 → Option (Int32)
  | 0, _, _ => none
  | n + 1, w2_4, w3_4 => (getQ mu 6 2 u0_4).bind fun t1 => t1.bind fun a3 => (alen mu a3).bind fun t5 => if t5 ≤ w3_4 then (k9 w2_4 w3_4) else ((getQ mu 6 2 u0_4).bind fun t7 => t7.bind fun a9 => (qld mu a9 w3_4).bind fun t11 => onl t11 (f_X4_countOfPart_L4 mu u0_4 u1_4 k9 n w2_4 (w3_4 + 1)) (fun a13 => (getI mu 4 6 a13).bind fun t14 => if t14 = 0 then (f_X4_countOfPart_L4 mu u0_4 u1_4 k9 n w2_4 (w3_4 + 1)) else ((getI mu 4 0 a13).bind fun t16 => if t16 = u1_4 then (f_X4_countOfPart_L4 mu u0_4 u1_4 k9 n (w2_4 + 1) (w3_4 + 1)) else (f_X4_countOfPart_L4 mu u0_4 u1_4 k9 n w2_4 (w3_4 + 1)))))
def f_X4_countOfPart (mu : Mem) (x0 : Nat) (x1 : Int32) : Option (Int32) := f_X4_countOfPart_L4 mu x0 x1 (fun (zw2_4 : Int32) (zw3_4 : Int32) => some zw2_4) 200 0 0
set_option maxHeartbeats 1000000 in
set_option maxRecDepth 100000 in
theorem k_X4_countOfPart (l : Launch) (hsl : l.stackTraces = false) (G : GG) (A : Nat → Prop) (mu : Mem) (x0 : Nat) (x1 : Int32) (r : Int32) (hf : f_X4_countOfPart mu x0 x1 = some r) : Ok l yX4_countOfPart wsX4_countOfPart ({ frames := 6, cells := 0, slots := 0, locals := 110 } : Room) [.ref x0, .int x1] G A mu (dP (.inr (rI r)) mu) := by
  refine Ok.start (cc := cX4_countOfPart) (maxL := 5) (ret := (some .int)) rfl (by decide +kernel) hsl (by first | exact Nat.le_of_ble_eq_true rfl | simp [lg_sl, cat_rf, Value.category]) ?_
  intro p e s m args below meth c ls X hr hname hW hl
  have X : BX p l s m args meth c cX4_countOfPart 5 RX4 wsX4_countOfPart G A := X
  have hx := X.1
  have hb := X.2.1
  have hts := X.2.2.2.2.1
  have hl : lv_has ls 5 [(0, .ref x0), (1, .int x1)] := hl
  have hinX2 : ∀ w ∈ wsX20, w ∈ wsX4_countOfPart := by decide +kernel
  have hinX4 : ∀ w ∈ wsX40, w ∈ wsX4_countOfPart := by decide +kernel
  have hF147 : (Cond.fieldLink RX4 147 "PartcopyistBench$Note" "isIn" "Z").before args s = true := hts _ (by decide +kernel)
  have hF150 : (Cond.fieldLink RX4 150 "PartcopyistBench$Note" "part" "I").before args s = true := hts _ (by decide +kernel)
  have hF23 : (Cond.fieldLink RX4 23 "PartcopyistBench" "notes" "[LPartcopyistBench$Note;").before args s = true := hts _ (by decide +kernel)
  unfold f_X4_countOfPart at hf
  refine lv_iconst (v := 0) hx hb dX4_countOfPart_0 (by decide) ?_
  refine lv_istore_n (lv' := [(2, .int 0), (0, .ref x0), (1, .int x1)]) hx hb dX4_countOfPart_1 rfl hl (by decide) rfl (fun ls hl => ?_)
  refine lv_iconst (v := 0) hx hb dX4_countOfPart_2 (by decide) ?_
  refine lv_istore_n (lv' := [(3, .int 0), (2, .int 0), (0, .ref x0), (1, .int x1)]) hx hb dX4_countOfPart_3 rfl hl (by decide) rfl (fun ls hl => ?_)
  have L4 : ∀ (u0_4 : Nat) (u1_4 : Int32) (k9 : Int32 → Int32 → Option (Int32)),
      (∀ (w2_4 : Int32) (w3_4 : Int32) (H : Heap) (locs : List Loc) (ls : Array Slot), k9 w2_4 w3_4 = some r → MW G A mu s.heap H locs → lv_has ls 5 [(0, .ref u0_4), (1, .int u1_4), (2, .int w2_4), (3, .int w3_4)] → W p l e ({ frames := 6, cells := 0, slots := 0, locals := 110 } : Room) s m args below meth c H locs 0 0 (QQ below G A (dP (.inr (rI r)) mu) args s 0 0) (F0 m 52 ls [])) →
      ∀ (n : Nat) (w2_4 : Int32) (w3_4 : Int32) (H : Heap) (locs : List Loc) (ls : Array Slot), f_X4_countOfPart_L4 mu u0_4 u1_4 k9 n w2_4 w3_4 = some r → MW G A mu s.heap H locs → lv_has ls 5 [(0, .ref u0_4), (1, .int u1_4), (2, .int w2_4), (3, .int w3_4)] → W p l e ({ frames := 6, cells := 0, slots := 0, locals := 110 } : Room) s m args below meth c H locs 0 0 (QQ below G A (dP (.inr (rI r)) mu) args s 0 0) (F0 m 4 ls []) := by
    intro u0_4 u1_4 k9 hk4 n
    induction n with
    | zero => intro w2_4 w3_4 H locs ls hf hW hl; rw [f_X4_countOfPart_L4] at hf; cases hf
    | succ n ih4 =>
      intro w2_4 w3_4 H locs ls hf hW hl
      rw [f_X4_countOfPart_L4] at hf
      refine lv_iload_n hx hb dX4_countOfPart_4 rfl (lv_at hl 3 rfl) ?_
      refine lv_aload_n hx hb dX4_countOfPart_5 rfl (lv_at hl 0 rfl) ?_
      replace hf := bnd hf
      obtain ⟨t1, h2, hf⟩ := hf
      refine g_6_2 X hW hinX4 hF23 h2 dX4_countOfPart_6 ?_
      replace hf := bnd hf
      obtain ⟨a3, h4, hf⟩ := hf
      subst h4
      replace hf := bnd hf
      obtain ⟨t5, h6, hf⟩ := hf
      refine r_alen X hW h6 dX4_countOfPart_9 ?_
      refine lv_icmp_ge (tgt := 52) hx hb dX4_countOfPart_10 (by decide) (fun hc => ?_) (fun hc => ?_)
      · replace hf := itp hc hf
        exact hk4 _ _ _ _ _ hf hW (lv_sub hl [0, 1, 2, 3] rfl)
      · replace hf := itn hc hf
        refine lv_aload_n hx hb dX4_countOfPart_13 rfl (lv_at hl 0 rfl) ?_
        replace hf := bnd hf
        obtain ⟨t7, h8, hf⟩ := hf
        refine g_6_2 X hW hinX4 hF23 h8 dX4_countOfPart_14 ?_
        refine lv_iload_n hx hb dX4_countOfPart_17 rfl (lv_at hl 3 rfl) ?_
        replace hf := bnd hf
        obtain ⟨a9, h10, hf⟩ := hf
        subst h10
        replace hf := bnd hf
        obtain ⟨t11, h12, hf⟩ := hf
        refine r_qld X hW h12 dX4_countOfPart_18 ?_
        refine r_astoreq (lv' := [(4, va_rf t11), (0, .ref u0_4), (1, .int u1_4), (2, .int w2_4), (3, .int w3_4)]) hx hb dX4_countOfPart_19 hl (by decide) rfl (fun ls hl => ?_)
        refine r_aloadq hx hb dX4_countOfPart_21 (lv_at hl 0 rfl) ?_
        replace hf := onl_c hf
        rcases hf with ⟨hq, hf⟩ | ⟨a13, hq, hf⟩
        · subst hq
          refine lv_ifnullN (tgt := 46) hx hb dX4_countOfPart_23 (by decide) ?_
          refine lv_iinc (v := (w3_4 + 1)) (lv' := [(3, .int (w3_4 + 1)), (4, .null), (0, .ref u0_4), (1, .int u1_4), (2, .int w2_4)]) hx hb dX4_countOfPart_46 hl (k := 4) rfl rfl (by decide) rfl (fun ls hl => ?_)
          refine lv_goto (tgt := 4) hx hb dX4_countOfPart_49 (by decide) ?_
          exact ih4 _ _ _ _ _ hf hW (lv_sub hl [2, 3, 4, 0] rfl)
        · subst hq
          refine lv_ifnull hx hb dX4_countOfPart_23 ?_
          refine lv_aload hx hb dX4_countOfPart_26 (lv_at hl 0 rfl) ?_
          replace hf := bnd hf
          obtain ⟨t14, h15, hf⟩ := hf
          refine g_4_6 X hW hinX2 hF147 h15 dX4_countOfPart_28 ?_
          refine lv_if_eq (tgt := 46) hx hb dX4_countOfPart_31 (by decide) (fun hc => ?_) (fun hc => ?_)
          · replace hf := itp hc hf
            refine lv_iinc (v := (w3_4 + 1)) (lv' := [(3, .int (w3_4 + 1)), (4, .ref a13), (0, .ref u0_4), (1, .int u1_4), (2, .int w2_4)]) hx hb dX4_countOfPart_46 hl (k := 4) rfl rfl (by decide) rfl (fun ls hl => ?_)
            refine lv_goto (tgt := 4) hx hb dX4_countOfPart_49 (by decide) ?_
            exact ih4 _ _ _ _ _ hf hW (lv_sub hl [2, 3, 4, 0] rfl)
          · replace hf := itn hc hf
            refine lv_aload hx hb dX4_countOfPart_34 (lv_at hl 0 rfl) ?_
            replace hf := bnd hf
            obtain ⟨t16, h17, hf⟩ := hf
            refine g_4_0 X hW hinX2 hF150 h17 dX4_countOfPart_36 ?_
            refine lv_iload_n hx hb dX4_countOfPart_39 rfl (lv_at hl 2 rfl) ?_
            refine lv_icmp_ne (tgt := 46) hx hb dX4_countOfPart_40 (by decide) (fun hc => ?_) (fun hc => ?_)
            · replace hf := itn hc hf
              refine lv_iinc (v := (w3_4 + 1)) (lv' := [(3, .int (w3_4 + 1)), (4, .ref a13), (0, .ref u0_4), (1, .int u1_4), (2, .int w2_4)]) hx hb dX4_countOfPart_46 hl (k := 4) rfl rfl (by decide) rfl (fun ls hl => ?_)
              refine lv_goto (tgt := 4) hx hb dX4_countOfPart_49 (by decide) ?_
              exact ih4 _ _ _ _ _ hf hW (lv_sub hl [2, 3, 4, 0] rfl)
            · replace hf := itp hc hf
              refine lv_iinc (v := (w2_4 + 1)) (lv' := [(2, .int (w2_4 + 1)), (4, .ref a13), (0, .ref u0_4), (1, .int u1_4), (3, .int w3_4)]) hx hb dX4_countOfPart_43 hl (k := 3) rfl rfl (by decide) rfl (fun ls hl => ?_)
              refine lv_iinc (v := (w3_4 + 1)) (lv' := [(3, .int (w3_4 + 1)), (2, .int (w2_4 + 1)), (4, .ref a13), (0, .ref u0_4), (1, .int u1_4)]) hx hb dX4_countOfPart_46 hl (k := 4) rfl rfl (by decide) rfl (fun ls hl => ?_)
              refine lv_goto (tgt := 4) hx hb dX4_countOfPart_49 (by decide) ?_
              exact ih4 _ _ _ _ _ hf hW (lv_sub hl [3, 4, 1, 0] rfl)
  refine L4 x0 x1 _ ?_ 200 0 0 _ _ _ hf hW (lv_sub hl [2, 3, 1, 0] rfl)
  intro zw2_4 zw3_4 H locs ls hf hW hl
  refine lv_iload_n hx hb dX4_countOfPart_52 rfl (lv_at hl 2 rfl) ?_
  exact r_iret X hr hW (by cases hf; exact ⟨rfl, rfl⟩) (by decide) (by decide) dX4_countOfPart_53

def f_X4_countInBar_L5 (mu : Mem) (u0_5 : Nat) (u1_5 : Int32) (u2_5 : Int32) (k9 : Int32 → Int32 → Option (Int32)) : Nat → Int32 → Int32 → Option (Int32)
  | 0, _, _ => none
  | n + 1, w3_5, w4_5 => (getQ mu 6 2 u0_5).bind fun t1 => t1.bind fun a3 => (alen mu a3).bind fun t5 => if t5 ≤ w4_5 then (k9 w3_5 w4_5) else ((getQ mu 6 2 u0_5).bind fun t7 => t7.bind fun a9 => (qld mu a9 w4_5).bind fun t11 => onl t11 (f_X4_countInBar_L5 mu u0_5 u1_5 u2_5 k9 n w3_5 (w4_5 + 1)) (fun a13 => (chk mu 4 a13).bind fun _ => (f_X2_isAt mu a13 u1_5 u2_5).bind fun t15 => if t15 = 0 then (f_X4_countInBar_L5 mu u0_5 u1_5 u2_5 k9 n w3_5 (w4_5 + 1)) else (f_X4_countInBar_L5 mu u0_5 u1_5 u2_5 k9 n (w3_5 + 1) (w4_5 + 1))))
def f_X4_countInBar (mu : Mem) (x0 : Nat) (x1 : Int32) (x2 : Int32) : Option (Int32) := f_X4_countInBar_L5 mu x0 x1 x2 (fun (zw3_5 : Int32) (zw4_5 : Int32) => some zw3_5) 200 0 0
set_option maxHeartbeats 1000000 in
set_option maxRecDepth 100000 in
theorem k_X4_countInBar (l : Launch) (hsl : l.stackTraces = false) (G : GG) (A : Nat → Prop) (mu : Mem) (x0 : Nat) (x1 : Int32) (x2 : Int32) (r : Int32) (hf : f_X4_countInBar mu x0 x1 x2 = some r) : Ok l yX4_countInBar wsX4_countInBar ({ frames := 8, cells := 0, slots := 0, locals := 150 } : Room) [.ref x0, .int x1, .int x2] G A mu (dP (.inr (rI r)) mu) := by
  refine Ok.start (cc := cX4_countInBar) (maxL := 6) (ret := (some .int)) rfl (by decide +kernel) hsl (by first | exact Nat.le_of_ble_eq_true rfl | simp [lg_sl, cat_rf, Value.category]) ?_
  intro p e s m args below meth c ls X hr hname hW hl
  have X : BX p l s m args meth c cX4_countInBar 6 RX4 wsX4_countInBar G A := X
  have hx := X.1
  have hb := X.2.1
  have hts := X.2.2.2.2.1
  have hl : lv_has ls 6 [(0, .ref x0), (1, .int x1), (2, .int x2)] := hl
  have hinX4 : ∀ w ∈ wsX40, w ∈ wsX4_countInBar := by decide +kernel
  have hF23 : (Cond.fieldLink RX4 23 "PartcopyistBench" "notes" "[LPartcopyistBench$Note;").before args s = true := hts _ (by decide +kernel)
  unfold f_X4_countInBar at hf
  refine lv_iconst (v := 0) hx hb dX4_countInBar_0 (by decide) ?_
  refine lv_istore_n (lv' := [(3, .int 0), (0, .ref x0), (1, .int x1), (2, .int x2)]) hx hb dX4_countInBar_1 rfl hl (by decide) rfl (fun ls hl => ?_)
  refine lv_iconst (v := 0) hx hb dX4_countInBar_2 (by decide) ?_
  refine lv_istore (lv' := [(4, .int 0), (3, .int 0), (0, .ref x0), (1, .int x1), (2, .int x2)]) hx hb dX4_countInBar_3 hl (by decide) rfl (fun ls hl => ?_)
  have L5 : ∀ (u0_5 : Nat) (u1_5 : Int32) (u2_5 : Int32) (k9 : Int32 → Int32 → Option (Int32)),
      (∀ (w3_5 : Int32) (w4_5 : Int32) (H : Heap) (locs : List Loc) (ls : Array Slot), k9 w3_5 w4_5 = some r → MW G A mu s.heap H locs → lv_has ls 6 [(0, .ref u0_5), (1, .int u1_5), (2, .int u2_5), (3, .int w3_5), (4, .int w4_5)] → W p l e ({ frames := 8, cells := 0, slots := 0, locals := 150 } : Room) s m args below meth c H locs 0 0 (QQ below G A (dP (.inr (rI r)) mu) args s 0 0) (F0 m 48 ls [])) →
      ∀ (n : Nat) (w3_5 : Int32) (w4_5 : Int32) (H : Heap) (locs : List Loc) (ls : Array Slot), f_X4_countInBar_L5 mu u0_5 u1_5 u2_5 k9 n w3_5 w4_5 = some r → MW G A mu s.heap H locs → lv_has ls 6 [(0, .ref u0_5), (1, .int u1_5), (2, .int u2_5), (3, .int w3_5), (4, .int w4_5)] → W p l e ({ frames := 8, cells := 0, slots := 0, locals := 150 } : Room) s m args below meth c H locs 0 0 (QQ below G A (dP (.inr (rI r)) mu) args s 0 0) (F0 m 5 ls []) := by
    intro u0_5 u1_5 u2_5 k9 hk5 n
    induction n with
    | zero => intro w3_5 w4_5 H locs ls hf hW hl; rw [f_X4_countInBar_L5] at hf; cases hf
    | succ n ih5 =>
      intro w3_5 w4_5 H locs ls hf hW hl
      rw [f_X4_countInBar_L5] at hf
      refine lv_iload hx hb dX4_countInBar_5 (lv_at hl 4 rfl) ?_
      refine lv_aload_n hx hb dX4_countInBar_7 rfl (lv_at hl 0 rfl) ?_
      replace hf := bnd hf
      obtain ⟨t1, h2, hf⟩ := hf
      refine g_6_2 X hW hinX4 hF23 h2 dX4_countInBar_8 ?_
      replace hf := bnd hf
      obtain ⟨a3, h4, hf⟩ := hf
      subst h4
      replace hf := bnd hf
      obtain ⟨t5, h6, hf⟩ := hf
      refine r_alen X hW h6 dX4_countInBar_11 ?_
      refine lv_icmp_ge (tgt := 48) hx hb dX4_countInBar_12 (by decide) (fun hc => ?_) (fun hc => ?_)
      · replace hf := itp hc hf
        exact hk5 _ _ _ _ _ hf hW (lv_sub hl [0, 1, 2, 3, 4] rfl)
      · replace hf := itn hc hf
        refine lv_aload_n hx hb dX4_countInBar_15 rfl (lv_at hl 0 rfl) ?_
        replace hf := bnd hf
        obtain ⟨t7, h8, hf⟩ := hf
        refine g_6_2 X hW hinX4 hF23 h8 dX4_countInBar_16 ?_
        refine lv_iload hx hb dX4_countInBar_19 (lv_at hl 4 rfl) ?_
        replace hf := bnd hf
        obtain ⟨a9, h10, hf⟩ := hf
        subst h10
        replace hf := bnd hf
        obtain ⟨t11, h12, hf⟩ := hf
        refine r_qld X hW h12 dX4_countInBar_21 ?_
        refine r_astoreq (lv' := [(5, va_rf t11), (0, .ref u0_5), (1, .int u1_5), (2, .int u2_5), (3, .int w3_5), (4, .int w4_5)]) hx hb dX4_countInBar_22 hl (by decide) rfl (fun ls hl => ?_)
        refine r_aloadq hx hb dX4_countInBar_24 (lv_at hl 0 rfl) ?_
        replace hf := onl_c hf
        rcases hf with ⟨hq, hf⟩ | ⟨a13, hq, hf⟩
        · subst hq
          refine lv_ifnullN (tgt := 42) hx hb dX4_countInBar_26 (by decide) ?_
          refine lv_iinc (v := (w4_5 + 1)) (lv' := [(4, .int (w4_5 + 1)), (5, .null), (0, .ref u0_5), (1, .int u1_5), (2, .int u2_5), (3, .int w3_5)]) hx hb dX4_countInBar_42 hl (k := 5) rfl rfl (by decide) rfl (fun ls hl => ?_)
          refine lv_goto (tgt := 5) hx hb dX4_countInBar_45 (by decide) ?_
          exact ih5 _ _ _ _ _ hf hW (lv_sub hl [2, 3, 4, 5, 0] rfl)
        · subst hq
          refine lv_ifnull hx hb dX4_countInBar_26 ?_
          refine lv_aload hx hb dX4_countInBar_29 (lv_at hl 0 rfl) ?_
          refine lv_iload_n hx hb dX4_countInBar_31 rfl (lv_at hl 2 rfl) ?_
          refine lv_iload_n hx hb dX4_countInBar_32 rfl (lv_at hl 3 rfl) ?_
          replace hf := bnd hf
          obtain ⟨_, h14, hf⟩ := hf
          replace hf := bnd hf
          obtain ⟨t15, h16, hf⟩ := hf
          refine r_callV_ok X hW hl.1 (k_X2_isAt l hsl G A mu a13 u1_5 u2_5 _ h16) gX4_countInBar_X2_isAt rfl (chk_ok h14) (by decide) rfl (by decide +kernel) (n := 2) rfl (by decide) (Nat.le_of_ble_eq_true rfl) dX4_countInBar_33 rfl rfl (stk := [.int t15]) rfl (fun H locs hW => ?_)
          refine lv_if_eq (tgt := 42) hx hb dX4_countInBar_36 (by decide) (fun hc => ?_) (fun hc => ?_)
          · replace hf := itp hc hf
            refine lv_iinc (v := (w4_5 + 1)) (lv' := [(4, .int (w4_5 + 1)), (5, .ref a13), (0, .ref u0_5), (1, .int u1_5), (2, .int u2_5), (3, .int w3_5)]) hx hb dX4_countInBar_42 hl (k := 5) rfl rfl (by decide) rfl (fun ls hl => ?_)
            refine lv_goto (tgt := 5) hx hb dX4_countInBar_45 (by decide) ?_
            exact ih5 _ _ _ _ _ hf hW (lv_sub hl [2, 3, 4, 5, 0] rfl)
          · replace hf := itn hc hf
            refine lv_iinc (v := (w3_5 + 1)) (lv' := [(3, .int (w3_5 + 1)), (5, .ref a13), (0, .ref u0_5), (1, .int u1_5), (2, .int u2_5), (4, .int w4_5)]) hx hb dX4_countInBar_39 hl (k := 4) rfl rfl (by decide) rfl (fun ls hl => ?_)
            refine lv_iinc (v := (w4_5 + 1)) (lv' := [(4, .int (w4_5 + 1)), (3, .int (w3_5 + 1)), (5, .ref a13), (0, .ref u0_5), (1, .int u1_5), (2, .int u2_5)]) hx hb dX4_countInBar_42 hl (k := 5) rfl rfl (by decide) rfl (fun ls hl => ?_)
            refine lv_goto (tgt := 5) hx hb dX4_countInBar_45 (by decide) ?_
            exact ih5 _ _ _ _ _ hf hW (lv_sub hl [3, 4, 5, 1, 0] rfl)
  refine L5 x0 x1 x2 _ ?_ 200 0 0 _ _ _ hf hW (lv_sub hl [2, 3, 4, 1, 0] rfl)
  intro zw3_5 zw4_5 H locs ls hf hW hl
  refine lv_iload_n hx hb dX4_countInBar_48 rfl (lv_at hl 3 rfl) ?_
  exact r_iret X hr hW (by cases hf; exact ⟨rfl, rfl⟩) (by decide) (by decide) dX4_countInBar_49

def f_X4_countAhead_L4 (mu : Mem) (u0_4 : Nat) (u1_4 : Option Nat) (k9 : Int32 → Int32 → Option (Int32)) : Nat → Int32 → Int32 → Option (Int32)
  | 0, _, _ => none
  | n + 1, w2_4, w3_4 => (getQ mu 6 2 u0_4).bind fun t1 => t1.bind fun a3 => (alen mu a3).bind fun t5 => if t5 ≤ w3_4 then (k9 w2_4 w3_4) else ((getQ mu 6 2 u0_4).bind fun t7 => t7.bind fun a9 => (qld mu a9 w3_4).bind fun t11 => onl t11 (f_X4_countAhead_L4 mu u0_4 u1_4 k9 n w2_4 (w3_4 + 1)) (fun a13 => u1_4.bind fun a14 => (getI mu 4 0 a14).bind fun t16 => (getI mu 4 1 a14).bind fun t18 => (chk mu 4 a13).bind fun _ => (f_X2_isAt mu a13 t16 t18).bind fun t21 => if t21 = 0 then (f_X4_countAhead_L4 mu u0_4 u1_4 k9 n w2_4 (w3_4 + 1)) else ((chk mu 4 a13).bind fun _ => (f_X2_comesAheadOf mu a13 (some a14)).bind fun t24 => if t24 = 0 then (f_X4_countAhead_L4 mu u0_4 u1_4 k9 n w2_4 (w3_4 + 1)) else (f_X4_countAhead_L4 mu u0_4 u1_4 k9 n (w2_4 + 1) (w3_4 + 1)))))
def f_X4_countAhead (mu : Mem) (x0 : Nat) (x1 : Option Nat) : Option (Int32) := f_X4_countAhead_L4 mu x0 x1 (fun (zw2_4 : Int32) (zw3_4 : Int32) => some zw2_4) 200 0 0
set_option maxHeartbeats 1000000 in
set_option maxRecDepth 100000 in
theorem k_X4_countAhead (l : Launch) (hsl : l.stackTraces = false) (G : GG) (A : Nat → Prop) (mu : Mem) (x0 : Nat) (x1 : Option Nat) (r : Int32) (hf : f_X4_countAhead mu x0 x1 = some r) : Ok l yX4_countAhead wsX4_countAhead ({ frames := 8, cells := 0, slots := 0, locals := 150 } : Room) [.ref x0, va_rf x1] G A mu (dP (.inr (rI r)) mu) := by
  refine Ok.start (cc := cX4_countAhead) (maxL := 5) (ret := (some .int)) rfl (by decide +kernel) hsl (by cases x1 <;> exact Nat.le_of_ble_eq_true rfl) ?_
  intro p e s m args below meth c ls X hr hname hW hl
  have X : BX p l s m args meth c cX4_countAhead 5 RX4 wsX4_countAhead G A := X
  have hx := X.1
  have hb := X.2.1
  have hts := X.2.2.2.2.1
  have hl : lv_has ls 5 [(0, .ref x0), (1, va_rf x1)] := by cases x1 <;> exact hl
  have hinX2 : ∀ w ∈ wsX20, w ∈ wsX4_countAhead := by decide +kernel
  have hinX4 : ∀ w ∈ wsX40, w ∈ wsX4_countAhead := by decide +kernel
  have hF131 : (Cond.fieldLink RX4 131 "PartcopyistBench$Note" "bar" "I").before args s = true := hts _ (by decide +kernel)
  have hF150 : (Cond.fieldLink RX4 150 "PartcopyistBench$Note" "part" "I").before args s = true := hts _ (by decide +kernel)
  have hF23 : (Cond.fieldLink RX4 23 "PartcopyistBench" "notes" "[LPartcopyistBench$Note;").before args s = true := hts _ (by decide +kernel)
  unfold f_X4_countAhead at hf
  refine lv_iconst (v := 0) hx hb dX4_countAhead_0 (by decide) ?_
  refine lv_istore_n (lv' := [(2, .int 0), (0, .ref x0), (1, va_rf x1)]) hx hb dX4_countAhead_1 rfl hl (by decide) (by cases x1 <;> rfl) (fun ls hl => ?_)
  refine lv_iconst (v := 0) hx hb dX4_countAhead_2 (by decide) ?_
  refine lv_istore_n (lv' := [(3, .int 0), (2, .int 0), (0, .ref x0), (1, va_rf x1)]) hx hb dX4_countAhead_3 rfl hl (by decide) rfl (fun ls hl => ?_)
  have L4 : ∀ (u0_4 : Nat) (u1_4 : Option Nat) (k9 : Int32 → Int32 → Option (Int32)),
      (∀ (w2_4 : Int32) (w3_4 : Int32) (H : Heap) (locs : List Loc) (ls : Array Slot), k9 w2_4 w3_4 = some r → MW G A mu s.heap H locs → lv_has ls 5 [(0, .ref u0_4), (1, va_rf u1_4), (2, .int w2_4), (3, .int w3_4)] → W p l e ({ frames := 8, cells := 0, slots := 0, locals := 150 } : Room) s m args below meth c H locs 0 0 (QQ below G A (dP (.inr (rI r)) mu) args s 0 0) (F0 m 60 ls [])) →
      ∀ (n : Nat) (w2_4 : Int32) (w3_4 : Int32) (H : Heap) (locs : List Loc) (ls : Array Slot), f_X4_countAhead_L4 mu u0_4 u1_4 k9 n w2_4 w3_4 = some r → MW G A mu s.heap H locs → lv_has ls 5 [(0, .ref u0_4), (1, va_rf u1_4), (2, .int w2_4), (3, .int w3_4)] → W p l e ({ frames := 8, cells := 0, slots := 0, locals := 150 } : Room) s m args below meth c H locs 0 0 (QQ below G A (dP (.inr (rI r)) mu) args s 0 0) (F0 m 4 ls []) := by
    intro u0_4 u1_4 k9 hk4 n
    induction n with
    | zero => intro w2_4 w3_4 H locs ls hf hW hl; rw [f_X4_countAhead_L4] at hf; cases hf
    | succ n ih4 =>
      intro w2_4 w3_4 H locs ls hf hW hl
      rw [f_X4_countAhead_L4] at hf
      refine lv_iload_n hx hb dX4_countAhead_4 rfl (lv_at hl 3 rfl) ?_
      refine lv_aload_n hx hb dX4_countAhead_5 rfl (lv_at hl 0 rfl) ?_
      replace hf := bnd hf
      obtain ⟨t1, h2, hf⟩ := hf
      refine g_6_2 X hW hinX4 hF23 h2 dX4_countAhead_6 ?_
      replace hf := bnd hf
      obtain ⟨a3, h4, hf⟩ := hf
      subst h4
      replace hf := bnd hf
      obtain ⟨t5, h6, hf⟩ := hf
      refine r_alen X hW h6 dX4_countAhead_9 ?_
      refine lv_icmp_ge (tgt := 60) hx hb dX4_countAhead_10 (by decide) (fun hc => ?_) (fun hc => ?_)
      · replace hf := itp hc hf
        exact hk4 _ _ _ _ _ hf hW (lv_sub hl [0, 1, 2, 3] rfl)
      · replace hf := itn hc hf
        refine lv_aload_n hx hb dX4_countAhead_13 rfl (lv_at hl 0 rfl) ?_
        replace hf := bnd hf
        obtain ⟨t7, h8, hf⟩ := hf
        refine g_6_2 X hW hinX4 hF23 h8 dX4_countAhead_14 ?_
        refine lv_iload_n hx hb dX4_countAhead_17 rfl (lv_at hl 3 rfl) ?_
        replace hf := bnd hf
        obtain ⟨a9, h10, hf⟩ := hf
        subst h10
        replace hf := bnd hf
        obtain ⟨t11, h12, hf⟩ := hf
        refine r_qld X hW h12 dX4_countAhead_18 ?_
        refine r_astoreq (lv' := [(4, va_rf t11), (0, .ref u0_4), (1, va_rf u1_4), (2, .int w2_4), (3, .int w3_4)]) hx hb dX4_countAhead_19 hl (by decide) rfl (fun ls hl => ?_)
        refine r_aloadq hx hb dX4_countAhead_21 (lv_at hl 0 rfl) ?_
        replace hf := onl_c hf
        rcases hf with ⟨hq, hf⟩ | ⟨a13, hq, hf⟩
        · subst hq
          refine lv_ifnullN (tgt := 54) hx hb dX4_countAhead_23 (by decide) ?_
          refine lv_iinc (v := (w3_4 + 1)) (lv' := [(3, .int (w3_4 + 1)), (4, .null), (0, .ref u0_4), (1, va_rf u1_4), (2, .int w2_4)]) hx hb dX4_countAhead_54 hl (k := 4) rfl rfl (by decide) rfl (fun ls hl => ?_)
          refine lv_goto (tgt := 4) hx hb dX4_countAhead_57 (by decide) ?_
          exact ih4 _ _ _ _ _ hf hW (lv_sub hl [2, 3, 4, 0] rfl)
        · subst hq
          refine lv_ifnull hx hb dX4_countAhead_23 ?_
          refine lv_aload hx hb dX4_countAhead_26 (lv_at hl 0 rfl) ?_
          refine r_aload_nq hx hb dX4_countAhead_28 rfl (lv_at hl 2 rfl) ?_
          replace hf := bnd hf
          obtain ⟨a14, h15, hf⟩ := hf
          subst h15
          replace hf := bnd hf
          obtain ⟨t16, h17, hf⟩ := hf
          refine g_4_0 X hW hinX2 hF150 h17 dX4_countAhead_29 ?_
          refine lv_aload_n hx hb dX4_countAhead_32 rfl (lv_at hl 2 rfl) ?_
          replace hf := bnd hf
          obtain ⟨t18, h19, hf⟩ := hf
          refine g_4_1 X hW hinX2 hF131 h19 dX4_countAhead_33 ?_
          replace hf := bnd hf
          obtain ⟨_, h20, hf⟩ := hf
          replace hf := bnd hf
          obtain ⟨t21, h22, hf⟩ := hf
          refine r_callV_ok X hW hl.1 (k_X2_isAt l hsl G A mu a13 t16 t18 _ h22) gX4_countAhead_X2_isAt rfl (chk_ok h20) (by decide) rfl (by decide +kernel) (n := 2) rfl (by decide) (Nat.le_of_ble_eq_true rfl) dX4_countAhead_36 rfl rfl (stk := [.int t21]) rfl (fun H locs hW => ?_)
          refine lv_if_eq (tgt := 54) hx hb dX4_countAhead_39 (by decide) (fun hc => ?_) (fun hc => ?_)
          · replace hf := itp hc hf
            refine lv_iinc (v := (w3_4 + 1)) (lv' := [(3, .int (w3_4 + 1)), (4, .ref a13), (0, .ref u0_4), (1, .ref a14), (2, .int w2_4)]) hx hb dX4_countAhead_54 hl (k := 4) rfl rfl (by decide) rfl (fun ls hl => ?_)
            refine lv_goto (tgt := 4) hx hb dX4_countAhead_57 (by decide) ?_
            exact ih4 _ _ _ _ _ hf hW (lv_sub hl [2, 3, 4, 0] rfl)
          · replace hf := itn hc hf
            refine lv_aload hx hb dX4_countAhead_42 (lv_at hl 0 rfl) ?_
            refine lv_aload_n hx hb dX4_countAhead_44 rfl (lv_at hl 2 rfl) ?_
            replace hf := bnd hf
            obtain ⟨_, h23, hf⟩ := hf
            replace hf := bnd hf
            obtain ⟨t24, h25, hf⟩ := hf
            refine r_callV_ok X hW hl.1 (k_X2_comesAheadOf l hsl G A mu a13 (some a14) _ h25) gX4_countAhead_X2_comesAheadOf rfl (chk_ok h23) (by decide) rfl (by decide +kernel) (n := 1) rfl (by decide) (Nat.le_of_ble_eq_true rfl) dX4_countAhead_45 rfl rfl (stk := [.int t24]) rfl (fun H locs hW => ?_)
            refine lv_if_eq (tgt := 54) hx hb dX4_countAhead_48 (by decide) (fun hc => ?_) (fun hc => ?_)
            · replace hf := itp hc hf
              refine lv_iinc (v := (w3_4 + 1)) (lv' := [(3, .int (w3_4 + 1)), (4, .ref a13), (0, .ref u0_4), (1, .ref a14), (2, .int w2_4)]) hx hb dX4_countAhead_54 hl (k := 4) rfl rfl (by decide) rfl (fun ls hl => ?_)
              refine lv_goto (tgt := 4) hx hb dX4_countAhead_57 (by decide) ?_
              exact ih4 _ _ _ _ _ hf hW (lv_sub hl [2, 3, 4, 0] rfl)
            · replace hf := itn hc hf
              refine lv_iinc (v := (w2_4 + 1)) (lv' := [(2, .int (w2_4 + 1)), (4, .ref a13), (0, .ref u0_4), (1, .ref a14), (3, .int w3_4)]) hx hb dX4_countAhead_51 hl (k := 3) rfl rfl (by decide) rfl (fun ls hl => ?_)
              refine lv_iinc (v := (w3_4 + 1)) (lv' := [(3, .int (w3_4 + 1)), (2, .int (w2_4 + 1)), (4, .ref a13), (0, .ref u0_4), (1, .ref a14)]) hx hb dX4_countAhead_54 hl (k := 4) rfl rfl (by decide) rfl (fun ls hl => ?_)
              refine lv_goto (tgt := 4) hx hb dX4_countAhead_57 (by decide) ?_
              exact ih4 _ _ _ _ _ hf hW (lv_sub hl [3, 4, 1, 0] rfl)
  refine L4 x0 x1 _ ?_ 200 0 0 _ _ _ hf hW (lv_sub hl [2, 3, 1, 0] rfl)
  intro zw2_4 zw3_4 H locs ls hf hW hl
  refine lv_iload_n hx hb dX4_countAhead_60 rfl (lv_at hl 2 rfl) ?_
  exact r_iret X hr hW (by cases hf; exact ⟨rfl, rfl⟩) (by decide) (by decide) dX4_countAhead_61

def f_X4_hasVoice_L3 (mu : Mem) (u0_3 : Nat) (u1_3 : Int32) (u2_3 : Int32) (u3_3 : Int32) (k9 : Int32 → Option (Int32)) : Nat → Int32 → Option (Int32)
  | 0, _ => none
  | n + 1, w4_3 => (getQ mu 6 2 u0_3).bind fun t1 => t1.bind fun a3 => (alen mu a3).bind fun t5 => if t5 ≤ w4_3 then (k9 w4_3) else ((getQ mu 6 2 u0_3).bind fun t7 => t7.bind fun a9 => (qld mu a9 w4_3).bind fun t11 => onl t11 (f_X4_hasVoice_L3 mu u0_3 u1_3 u2_3 u3_3 k9 n (w4_3 + 1)) (fun a13 => (chk mu 4 a13).bind fun _ => (f_X2_isAt mu a13 u1_3 u2_3).bind fun t15 => if t15 = 0 then (f_X4_hasVoice_L3 mu u0_3 u1_3 u2_3 u3_3 k9 n (w4_3 + 1)) else ((getI mu 4 2 a13).bind fun t17 => if t17 = u3_3 then (some 1) else (f_X4_hasVoice_L3 mu u0_3 u1_3 u2_3 u3_3 k9 n (w4_3 + 1)))))
def f_X4_hasVoice (mu : Mem) (x0 : Nat) (x1 : Int32) (x2 : Int32) (x3 : Int32) : Option (Int32) := f_X4_hasVoice_L3 mu x0 x1 x2 x3 (fun (zw4_3 : Int32) => some 0) 200 0
set_option maxHeartbeats 1000000 in
set_option maxRecDepth 100000 in
theorem k_X4_hasVoice (l : Launch) (hsl : l.stackTraces = false) (G : GG) (A : Nat → Prop) (mu : Mem) (x0 : Nat) (x1 : Int32) (x2 : Int32) (x3 : Int32) (r : Int32) (hf : f_X4_hasVoice mu x0 x1 x2 x3 = some r) : Ok l yX4_hasVoice wsX4_hasVoice ({ frames := 8, cells := 0, slots := 0, locals := 150 } : Room) [.ref x0, .int x1, .int x2, .int x3] G A mu (dP (.inr (rI r)) mu) := by
  refine Ok.start (cc := cX4_hasVoice) (maxL := 6) (ret := (some .boolean)) rfl (by decide +kernel) hsl (by first | exact Nat.le_of_ble_eq_true rfl | simp [lg_sl, cat_rf, Value.category]) ?_
  intro p e s m args below meth c ls X hr hname hW hl
  have X : BX p l s m args meth c cX4_hasVoice 6 RX4 wsX4_hasVoice G A := X
  have hx := X.1
  have hb := X.2.1
  have hts := X.2.2.2.2.1
  have hl : lv_has ls 6 [(0, .ref x0), (1, .int x1), (2, .int x2), (3, .int x3)] := hl
  have hinX2 : ∀ w ∈ wsX20, w ∈ wsX4_hasVoice := by decide +kernel
  have hinX4 : ∀ w ∈ wsX40, w ∈ wsX4_hasVoice := by decide +kernel
  have hF23 : (Cond.fieldLink RX4 23 "PartcopyistBench" "notes" "[LPartcopyistBench$Note;").before args s = true := hts _ (by decide +kernel)
  have hF306 : (Cond.fieldLink RX4 306 "PartcopyistBench$Note" "voice" "I").before args s = true := hts _ (by decide +kernel)
  unfold f_X4_hasVoice at hf
  refine lv_iconst (v := 0) hx hb dX4_hasVoice_0 (by decide) ?_
  refine lv_istore (lv' := [(4, .int 0), (0, .ref x0), (1, .int x1), (2, .int x2), (3, .int x3)]) hx hb dX4_hasVoice_1 hl (by decide) rfl (fun ls hl => ?_)
  have L3 : ∀ (u0_3 : Nat) (u1_3 : Int32) (u2_3 : Int32) (u3_3 : Int32) (k9 : Int32 → Option (Int32)),
      (∀ (w4_3 : Int32) (H : Heap) (locs : List Loc) (ls : Array Slot), k9 w4_3 = some r → MW G A mu s.heap H locs → lv_has ls 6 [(0, .ref u0_3), (1, .int u1_3), (2, .int u2_3), (3, .int u3_3), (4, .int w4_3)] → W p l e ({ frames := 8, cells := 0, slots := 0, locals := 150 } : Room) s m args below meth c H locs 0 0 (QQ below G A (dP (.inr (rI r)) mu) args s 0 0) (F0 m 54 ls [])) →
      ∀ (n : Nat) (w4_3 : Int32) (H : Heap) (locs : List Loc) (ls : Array Slot), f_X4_hasVoice_L3 mu u0_3 u1_3 u2_3 u3_3 k9 n w4_3 = some r → MW G A mu s.heap H locs → lv_has ls 6 [(0, .ref u0_3), (1, .int u1_3), (2, .int u2_3), (3, .int u3_3), (4, .int w4_3)] → W p l e ({ frames := 8, cells := 0, slots := 0, locals := 150 } : Room) s m args below meth c H locs 0 0 (QQ below G A (dP (.inr (rI r)) mu) args s 0 0) (F0 m 3 ls []) := by
    intro u0_3 u1_3 u2_3 u3_3 k9 hk3 n
    induction n with
    | zero => intro w4_3 H locs ls hf hW hl; rw [f_X4_hasVoice_L3] at hf; cases hf
    | succ n ih3 =>
      intro w4_3 H locs ls hf hW hl
      rw [f_X4_hasVoice_L3] at hf
      refine lv_iload hx hb dX4_hasVoice_3 (lv_at hl 4 rfl) ?_
      refine lv_aload_n hx hb dX4_hasVoice_5 rfl (lv_at hl 0 rfl) ?_
      replace hf := bnd hf
      obtain ⟨t1, h2, hf⟩ := hf
      refine g_6_2 X hW hinX4 hF23 h2 dX4_hasVoice_6 ?_
      replace hf := bnd hf
      obtain ⟨a3, h4, hf⟩ := hf
      subst h4
      replace hf := bnd hf
      obtain ⟨t5, h6, hf⟩ := hf
      refine r_alen X hW h6 dX4_hasVoice_9 ?_
      refine lv_icmp_ge (tgt := 54) hx hb dX4_hasVoice_10 (by decide) (fun hc => ?_) (fun hc => ?_)
      · replace hf := itp hc hf
        exact hk3 _ _ _ _ hf hW (lv_sub hl [0, 1, 2, 3, 4] rfl)
      · replace hf := itn hc hf
        refine lv_aload_n hx hb dX4_hasVoice_13 rfl (lv_at hl 0 rfl) ?_
        replace hf := bnd hf
        obtain ⟨t7, h8, hf⟩ := hf
        refine g_6_2 X hW hinX4 hF23 h8 dX4_hasVoice_14 ?_
        refine lv_iload hx hb dX4_hasVoice_17 (lv_at hl 4 rfl) ?_
        replace hf := bnd hf
        obtain ⟨a9, h10, hf⟩ := hf
        subst h10
        replace hf := bnd hf
        obtain ⟨t11, h12, hf⟩ := hf
        refine r_qld X hW h12 dX4_hasVoice_19 ?_
        refine r_astoreq (lv' := [(5, va_rf t11), (0, .ref u0_3), (1, .int u1_3), (2, .int u2_3), (3, .int u3_3), (4, .int w4_3)]) hx hb dX4_hasVoice_20 hl (by decide) rfl (fun ls hl => ?_)
        refine r_aloadq hx hb dX4_hasVoice_22 (lv_at hl 0 rfl) ?_
        replace hf := onl_c hf
        rcases hf with ⟨hq, hf⟩ | ⟨a13, hq, hf⟩
        · subst hq
          refine lv_ifnullN (tgt := 48) hx hb dX4_hasVoice_24 (by decide) ?_
          refine lv_iinc (v := (w4_3 + 1)) (lv' := [(4, .int (w4_3 + 1)), (5, .null), (0, .ref u0_3), (1, .int u1_3), (2, .int u2_3), (3, .int u3_3)]) hx hb dX4_hasVoice_48 hl (k := 5) rfl rfl (by decide) rfl (fun ls hl => ?_)
          refine lv_goto (tgt := 3) hx hb dX4_hasVoice_51 (by decide) ?_
          exact ih3 _ _ _ _ hf hW (lv_sub hl [2, 3, 4, 5, 0] rfl)
        · subst hq
          refine lv_ifnull hx hb dX4_hasVoice_24 ?_
          refine lv_aload hx hb dX4_hasVoice_27 (lv_at hl 0 rfl) ?_
          refine lv_iload_n hx hb dX4_hasVoice_29 rfl (lv_at hl 2 rfl) ?_
          refine lv_iload_n hx hb dX4_hasVoice_30 rfl (lv_at hl 3 rfl) ?_
          replace hf := bnd hf
          obtain ⟨_, h14, hf⟩ := hf
          replace hf := bnd hf
          obtain ⟨t15, h16, hf⟩ := hf
          refine r_callV_ok X hW hl.1 (k_X2_isAt l hsl G A mu a13 u1_3 u2_3 _ h16) gX4_hasVoice_X2_isAt rfl (chk_ok h14) (by decide) rfl (by decide +kernel) (n := 2) rfl (by decide) (Nat.le_of_ble_eq_true rfl) dX4_hasVoice_31 rfl rfl (stk := [.int t15]) rfl (fun H locs hW => ?_)
          refine lv_if_eq (tgt := 48) hx hb dX4_hasVoice_34 (by decide) (fun hc => ?_) (fun hc => ?_)
          · replace hf := itp hc hf
            refine lv_iinc (v := (w4_3 + 1)) (lv' := [(4, .int (w4_3 + 1)), (5, .ref a13), (0, .ref u0_3), (1, .int u1_3), (2, .int u2_3), (3, .int u3_3)]) hx hb dX4_hasVoice_48 hl (k := 5) rfl rfl (by decide) rfl (fun ls hl => ?_)
            refine lv_goto (tgt := 3) hx hb dX4_hasVoice_51 (by decide) ?_
            exact ih3 _ _ _ _ hf hW (lv_sub hl [2, 3, 4, 5, 0] rfl)
          · replace hf := itn hc hf
            refine lv_aload hx hb dX4_hasVoice_37 (lv_at hl 0 rfl) ?_
            replace hf := bnd hf
            obtain ⟨t17, h18, hf⟩ := hf
            refine g_4_2 X hW hinX2 hF306 h18 dX4_hasVoice_39 ?_
            refine lv_iload_n hx hb dX4_hasVoice_42 rfl (lv_at hl 4 rfl) ?_
            refine lv_icmp_ne (tgt := 48) hx hb dX4_hasVoice_43 (by decide) (fun hc => ?_) (fun hc => ?_)
            · replace hf := itn hc hf
              refine lv_iinc (v := (w4_3 + 1)) (lv' := [(4, .int (w4_3 + 1)), (5, .ref a13), (0, .ref u0_3), (1, .int u1_3), (2, .int u2_3), (3, .int u3_3)]) hx hb dX4_hasVoice_48 hl (k := 5) rfl rfl (by decide) rfl (fun ls hl => ?_)
              refine lv_goto (tgt := 3) hx hb dX4_hasVoice_51 (by decide) ?_
              exact ih3 _ _ _ _ hf hW (lv_sub hl [2, 3, 4, 5, 0] rfl)
            · replace hf := itp hc hf
              refine lv_iconst (v := 1) hx hb dX4_hasVoice_46 (by decide) ?_
              exact r_zret X hr hW (Or.inr rfl) (by cases hf; exact ⟨rfl, rfl⟩) (by decide) (by decide) dX4_hasVoice_47
  refine L3 x0 x1 x2 x3 _ ?_ 200 0 _ _ _ hf hW (lv_sub hl [1, 2, 3, 4, 0] rfl)
  intro zw4_3 H locs ls hf hW hl
  refine lv_iconst (v := 0) hx hb dX4_hasVoice_54 (by decide) ?_
  exact r_zret X hr hW (Or.inl rfl) (by cases hf; exact ⟨rfl, rfl⟩) (by decide) (by decide) dX4_hasVoice_55

def f_X4_writtenPitch (mu : Mem) (x0 : Nat) (x1 : Option Nat) : Option (Int32) := x1.bind fun a1 => (getI mu 4 0 a1).bind fun t3 => (chk mu 6 x0).bind fun _ => (f_X4_partOrNull mu x0 t3).bind fun t6 => onl t6 ((getI mu 4 5 a1).bind fun t9 => some t9) (fun a8 => (getI mu 4 5 a1).bind fun t11 => (getI mu 5 0 a8).bind fun t13 => some (t11 + t13))
set_option maxHeartbeats 1000000 in
set_option maxRecDepth 100000 in
theorem k_X4_writtenPitch (l : Launch) (hsl : l.stackTraces = false) (G : GG) (A : Nat → Prop) (mu : Mem) (x0 : Nat) (x1 : Option Nat) (r : Int32) (hf : f_X4_writtenPitch mu x0 x1 = some r) : Ok l yX4_writtenPitch wsX4_writtenPitch ({ frames := 8, cells := 0, slots := 0, locals := 150 } : Room) [.ref x0, va_rf x1] G A mu (dP (.inr (rI r)) mu) := by
  refine Ok.start (cc := cX4_writtenPitch) (maxL := 3) (ret := (some .int)) rfl (by decide +kernel) hsl (by cases x1 <;> exact Nat.le_of_ble_eq_true rfl) ?_
  intro p e s m args below meth c ls X hr hname hW hl
  have X : BX p l s m args meth c cX4_writtenPitch 3 RX4 wsX4_writtenPitch G A := X
  have hx := X.1
  have hb := X.2.1
  have hts := X.2.2.2.2.1
  have hl : lv_has ls 3 [(0, .ref x0), (1, va_rf x1)] := by cases x1 <;> exact hl
  have hinX2 : ∀ w ∈ wsX20, w ∈ wsX4_writtenPitch := by decide +kernel
  have hinX3 : ∀ w ∈ wsX30, w ∈ wsX4_writtenPitch := by decide +kernel
  have hF125 : (Cond.fieldLink RX4 125 "PartcopyistBench$Note" "pitch" "I").before args s = true := hts _ (by decide +kernel)
  have hF150 : (Cond.fieldLink RX4 150 "PartcopyistBench$Note" "part" "I").before args s = true := hts _ (by decide +kernel)
  have hF173 : (Cond.fieldLink RX4 173 "PartcopyistBench$Part" "shift" "I").before args s = true := hts _ (by decide +kernel)
  unfold f_X4_writtenPitch at hf
  refine lv_aload_n hx hb dX4_writtenPitch_0 rfl (lv_at hl 0 rfl) ?_
  refine r_aload_nq hx hb dX4_writtenPitch_1 rfl (lv_at hl 1 rfl) ?_
  replace hf := bnd hf
  obtain ⟨a1, h2, hf⟩ := hf
  subst h2
  replace hf := bnd hf
  obtain ⟨t3, h4, hf⟩ := hf
  refine g_4_0 X hW hinX2 hF150 h4 dX4_writtenPitch_2 ?_
  replace hf := bnd hf
  obtain ⟨_, h5, hf⟩ := hf
  replace hf := bnd hf
  obtain ⟨t6, h7, hf⟩ := hf
  refine r_callV_ok X hW hl.1 (k_X4_partOrNull l hsl G A mu x0 t3 _ h7) gX4_writtenPitch_X4_partOrNull rfl (chk_ok h5) (by decide) rfl (by decide +kernel) (n := 1) rfl (by decide) (Nat.le_of_ble_eq_true rfl) dX4_writtenPitch_5 rfl rfl (stk := [va_rf t6]) rfl (fun H locs hW => ?_)
  refine r_astore_nq (lv' := [(2, va_rf t6), (0, .ref x0), (1, .ref a1)]) hx hb dX4_writtenPitch_8 rfl hl (by decide) rfl (fun ls hl => ?_)
  refine r_aload_nq hx hb dX4_writtenPitch_9 rfl (lv_at hl 0 rfl) ?_
  replace hf := onl_c hf
  rcases hf with ⟨hq, hf⟩ | ⟨a8, hq, hf⟩
  · subst hq
    refine lv_ifnonnullN hx hb dX4_writtenPitch_10 ?_
    refine lv_aload_n hx hb dX4_writtenPitch_13 rfl (lv_at hl 2 rfl) ?_
    replace hf := bnd hf
    obtain ⟨t9, h10, hf⟩ := hf
    refine g_4_5 X hW hinX2 hF125 h10 dX4_writtenPitch_14 ?_
    refine lv_goto (tgt := 29) hx hb dX4_writtenPitch_17 (by decide) ?_
    exact r_iret X hr hW (by cases hf; exact ⟨rfl, rfl⟩) (by decide) (by decide) dX4_writtenPitch_29
  · subst hq
    refine lv_ifnonnull (tgt := 20) hx hb dX4_writtenPitch_10 (by decide) ?_
    refine lv_aload_n hx hb dX4_writtenPitch_20 rfl (lv_at hl 2 rfl) ?_
    replace hf := bnd hf
    obtain ⟨t11, h12, hf⟩ := hf
    refine g_4_5 X hW hinX2 hF125 h12 dX4_writtenPitch_21 ?_
    refine lv_aload_n hx hb dX4_writtenPitch_24 rfl (lv_at hl 0 rfl) ?_
    replace hf := bnd hf
    obtain ⟨t13, h14, hf⟩ := hf
    refine g_5_0 X hW hinX3 hF173 h14 dX4_writtenPitch_25 ?_
    refine lv_iadd hx hb dX4_writtenPitch_28 ?_
    exact r_iret X hr hW (by cases hf; exact ⟨rfl, rfl⟩) (by decide) (by decide) dX4_writtenPitch_29

def f_X4_shiftedKey (mu : Mem) (x0 : Int32) (x1 : Int32) : Option (Int32) := (f_J9_floorMod_7cf53 mu (x0 + (7 * x1)) 12).bind fun t1 => if t1 ≤ 6 then (some t1) else (some (t1 - 12))
set_option maxHeartbeats 1000000 in
set_option maxRecDepth 100000 in
theorem k_X4_shiftedKey (l : Launch) (hsl : l.stackTraces = false) (G : GG) (A : Nat → Prop) (mu : Mem) (x0 : Int32) (x1 : Int32) (r : Int32) (hf : f_X4_shiftedKey mu x0 x1 = some r) : Ok l yX4_shiftedKey wsX4_shiftedKey ({ frames := 8, cells := 0, slots := 0, locals := 150 } : Room) [.int x0, .int x1] G A mu (dP (.inr (rI r)) mu) := by
  refine Ok.start (cc := cX4_shiftedKey) (maxL := 3) (ret := (some .int)) rfl (by decide +kernel) hsl (by first | exact Nat.le_of_ble_eq_true rfl | simp [lg_sl, cat_rf, Value.category]) ?_
  intro p e s m args below meth c ls X hr hname hW hl
  have X : BX p l s m args meth c cX4_shiftedKey 3 RX4 wsX4_shiftedKey G A := X
  have hx := X.1
  have hb := X.2.1
  have hts := X.2.2.2.2.1
  have hl : lv_has ls 3 [(0, .int x0), (1, .int x1)] := hl
  unfold f_X4_shiftedKey at hf
  refine lv_iload_n hx hb dX4_shiftedKey_0 rfl (lv_at hl 0 rfl) ?_
  refine lv_bipush (v := 7) hx hb dX4_shiftedKey_1 (by decide) ?_
  refine lv_iload_n hx hb dX4_shiftedKey_3 rfl (lv_at hl 1 rfl) ?_
  refine lv_imul hx hb dX4_shiftedKey_4 ?_
  refine lv_iadd hx hb dX4_shiftedKey_5 ?_
  refine lv_bipush (v := 12) hx hb dX4_shiftedKey_6 (by decide) ?_
  replace hf := bnd hf
  obtain ⟨t1, h2, hf⟩ := hf
  refine r_callS_ok X hW hl.1 (k_J9_floorMod_7cf53 l hsl G A mu (x0 + (7 * x1)) 12 _ h2) gX4_shiftedKey_J9_floorMod_7cf53 rfl (by decide +kernel) (n := 2) rfl (by decide) (Nat.le_of_ble_eq_true rfl) dX4_shiftedKey_8 rfl rfl (stk := [.int t1]) rfl (fun H locs hW => ?_)
  refine lv_istore_n (lv' := [(2, .int t1), (0, .int x0), (1, .int x1)]) hx hb dX4_shiftedKey_11 rfl hl (by decide) rfl (fun ls hl => ?_)
  refine lv_iload_n hx hb dX4_shiftedKey_12 rfl (lv_at hl 0 rfl) ?_
  refine lv_bipush (v := 6) hx hb dX4_shiftedKey_13 (by decide) ?_
  refine lv_icmp_le (tgt := 25) hx hb dX4_shiftedKey_15 (by decide) (fun hc => ?_) (fun hc => ?_)
  · replace hf := itp hc hf
    refine lv_iload_n hx hb dX4_shiftedKey_25 rfl (lv_at hl 0 rfl) ?_
    exact r_iret X hr hW (by cases hf; exact ⟨rfl, rfl⟩) (by decide) (by decide) dX4_shiftedKey_26
  · replace hf := itn hc hf
    refine lv_iload_n hx hb dX4_shiftedKey_18 rfl (lv_at hl 0 rfl) ?_
    refine lv_bipush (v := 12) hx hb dX4_shiftedKey_19 (by decide) ?_
    refine lv_isub hx hb dX4_shiftedKey_21 ?_
    refine lv_goto (tgt := 26) hx hb dX4_shiftedKey_22 (by decide) ?_
    exact r_iret X hr hW (by cases hf; exact ⟨rfl, rfl⟩) (by decide) (by decide) dX4_shiftedKey_26

def f_X4_placeOf_L61 (mu : Mem) (u0_61 : Nat) (u1_61 : Nat) (u2_61 : Option Nat) (u3_61 : Option Nat) (u4_61 : Int32) (u5_61 : Int32) (k9 : Int32 → Option (Int32)) : Nat → Int32 → Option (Int32)
  | 0, _ => none
  | n + 1, w6_61 => if (u4_61 + 7) ≤ w6_61 then (k9 w6_61) else ((f_J9_floorMod_7cf53 mu (w6_61 * 7) 12).bind fun t19 => if t19 = u5_61 then (k9 w6_61) else (f_X4_placeOf_L61 mu u0_61 u1_61 u2_61 u3_61 u4_61 u5_61 k9 n (w6_61 + 1)))
def f_X4_placeOf_L61b (mu : Mem) (u0_61 : Nat) (u1_61 : Nat) (u2_61 : Nat) (u3_61 : Option Nat) (u4_61 : Int32) (u5_61 : Int32) (k9 : Int32 → Option (Int32)) : Nat → Int32 → Option (Int32)
  | 0, _ => none
  | n + 1, w6_61 => if (u4_61 + 7) ≤ w6_61 then (k9 w6_61) else ((f_J9_floorMod_7cf53 mu (w6_61 * 7) 12).bind fun t27 => if t27 = u5_61 then (k9 w6_61) else (f_X4_placeOf_L61b mu u0_61 u1_61 u2_61 u3_61 u4_61 u5_61 k9 n (w6_61 + 1)))
def f_X4_placeOf_L61c (mu : Mem) (u0_61 : Nat) (u1_61 : Nat) (u2_61 : Nat) (u3_61 : Nat) (u4_61 : Int32) (u5_61 : Int32) (k9 : Int32 → Option (Int32)) : Nat → Int32 → Option (Int32)
  | 0, _ => none
  | n + 1, w6_61 => if (u4_61 + 7) ≤ w6_61 then (k9 w6_61) else ((f_J9_floorMod_7cf53 mu (w6_61 * 7) 12).bind fun t40 => if t40 = u5_61 then (k9 w6_61) else (f_X4_placeOf_L61c mu u0_61 u1_61 u2_61 u3_61 u4_61 u5_61 k9 n (w6_61 + 1)))
def f_X4_placeOf (mu : Mem) (x0 : Nat) (x1 : Option Nat) : Option (Int32) := x1.bind fun a1 => (getI mu 4 0 a1).bind fun t3 => (chk mu 6 x0).bind fun _ => (f_X4_partOrNull mu x0 t3).bind fun t6 => (getI mu 4 1 a1).bind fun t8 => (chk mu 6 x0).bind fun _ => (f_X4_barOrNull mu x0 t8).bind fun t11 => onl t6 ((chk mu 6 x0).bind fun _ => (f_X4_writtenPitch mu x0 (some a1)).bind fun t15 => (f_J9_floorMod_7cf53 mu t15 12).bind fun t17 => f_X4_placeOf_L61 mu x0 a1 none t11 0 t17 (fun (zw6_61 : Int32) => some zw6_61) 200 (0 - 4)) (fun a13 => onl t11 ((chk mu 6 x0).bind fun _ => (f_X4_writtenPitch mu x0 (some a1)).bind fun t23 => (f_J9_floorMod_7cf53 mu t23 12).bind fun t25 => f_X4_placeOf_L61b mu x0 a1 a13 none 0 t25 (fun (zw6_61 : Int32) => some zw6_61) 200 (0 - 4)) (fun a21 => (getI mu 2 1 a21).bind fun t29 => (getI mu 5 0 a13).bind fun t31 => (f_X4_shiftedKey mu t29 t31).bind fun t33 => (chk mu 6 x0).bind fun _ => (f_X4_writtenPitch mu x0 (some a1)).bind fun t36 => (f_J9_floorMod_7cf53 mu t36 12).bind fun t38 => f_X4_placeOf_L61c mu x0 a1 a13 a21 t33 t38 (fun (zw6_61 : Int32) => some zw6_61) 200 (t33 - 4)))
set_option maxHeartbeats 1000000 in
set_option maxRecDepth 100000 in
theorem k_X4_placeOf (l : Launch) (hsl : l.stackTraces = false) (G : GG) (A : Nat → Prop) (mu : Mem) (x0 : Nat) (x1 : Option Nat) (r : Int32) (hf : f_X4_placeOf mu x0 x1 = some r) : Ok l yX4_placeOf wsX4_placeOf ({ frames := 10, cells := 0, slots := 0, locals := 190 } : Room) [.ref x0, va_rf x1] G A mu (dP (.inr (rI r)) mu) := by
  refine Ok.start (cc := cX4_placeOf) (maxL := 7) (ret := (some .int)) rfl (by decide +kernel) hsl (by cases x1 <;> exact Nat.le_of_ble_eq_true rfl) ?_
  intro p e s m args below meth c ls X hr hname hW hl
  have X : BX p l s m args meth c cX4_placeOf 7 RX4 wsX4_placeOf G A := X
  have hx := X.1
  have hb := X.2.1
  have hts := X.2.2.2.2.1
  have hl : lv_has ls 7 [(0, .ref x0), (1, va_rf x1)] := by cases x1 <;> exact hl
  have hinX0 : ∀ w ∈ wsX00, w ∈ wsX4_placeOf := by decide +kernel
  have hinX2 : ∀ w ∈ wsX20, w ∈ wsX4_placeOf := by decide +kernel
  have hinX3 : ∀ w ∈ wsX30, w ∈ wsX4_placeOf := by decide +kernel
  have hF131 : (Cond.fieldLink RX4 131 "PartcopyistBench$Note" "bar" "I").before args s = true := hts _ (by decide +kernel)
  have hF150 : (Cond.fieldLink RX4 150 "PartcopyistBench$Note" "part" "I").before args s = true := hts _ (by decide +kernel)
  have hF173 : (Cond.fieldLink RX4 173 "PartcopyistBench$Part" "shift" "I").before args s = true := hts _ (by decide +kernel)
  have hF89 : (Cond.fieldLink RX4 89 "PartcopyistBench$Bar" "key" "I").before args s = true := hts _ (by decide +kernel)
  unfold f_X4_placeOf at hf
  refine lv_aload_n hx hb dX4_placeOf_0 rfl (lv_at hl 0 rfl) ?_
  refine r_aload_nq hx hb dX4_placeOf_1 rfl (lv_at hl 1 rfl) ?_
  replace hf := bnd hf
  obtain ⟨a1, h2, hf⟩ := hf
  subst h2
  replace hf := bnd hf
  obtain ⟨t3, h4, hf⟩ := hf
  refine g_4_0 X hW hinX2 hF150 h4 dX4_placeOf_2 ?_
  replace hf := bnd hf
  obtain ⟨_, h5, hf⟩ := hf
  replace hf := bnd hf
  obtain ⟨t6, h7, hf⟩ := hf
  refine r_callV_ok X hW hl.1 (k_X4_partOrNull l hsl G A mu x0 t3 _ h7) gX4_placeOf_X4_partOrNull rfl (chk_ok h5) (by decide) rfl (by decide +kernel) (n := 1) rfl (by decide) (Nat.le_of_ble_eq_true rfl) dX4_placeOf_5 rfl rfl (stk := [va_rf t6]) rfl (fun H locs hW => ?_)
  refine r_astore_nq (lv' := [(2, va_rf t6), (0, .ref x0), (1, .ref a1)]) hx hb dX4_placeOf_8 rfl hl (by decide) rfl (fun ls hl => ?_)
  refine lv_aload_n hx hb dX4_placeOf_9 rfl (lv_at hl 1 rfl) ?_
  refine lv_aload_n hx hb dX4_placeOf_10 rfl (lv_at hl 2 rfl) ?_
  replace hf := bnd hf
  obtain ⟨t8, h9, hf⟩ := hf
  refine g_4_1 X hW hinX2 hF131 h9 dX4_placeOf_11 ?_
  replace hf := bnd hf
  obtain ⟨_, h10, hf⟩ := hf
  replace hf := bnd hf
  obtain ⟨t11, h12, hf⟩ := hf
  refine r_callV_ok X hW hl.1 (k_X4_barOrNull l hsl G A mu x0 t8 _ h12) gX4_placeOf_X4_barOrNull rfl (chk_ok h10) (by decide) rfl (by decide +kernel) (n := 1) rfl (by decide) (Nat.le_of_ble_eq_true rfl) dX4_placeOf_14 rfl rfl (stk := [va_rf t11]) rfl (fun H locs hW => ?_)
  refine r_astore_nq (lv' := [(3, va_rf t11), (2, va_rf t6), (0, .ref x0), (1, .ref a1)]) hx hb dX4_placeOf_17 rfl hl (by decide) (by cases t6 <;> rfl) (fun ls hl => ?_)
  refine r_aload_nq hx hb dX4_placeOf_18 rfl (lv_at hl 1 rfl) ?_
  replace hf := onl_c hf
  rcases hf with ⟨hq, hf⟩ | ⟨a13, hq, hf⟩
  · subst hq
    refine lv_ifnullN (tgt := 26) hx hb dX4_placeOf_19 (by decide) ?_
    refine lv_iconst (v := 0) hx hb dX4_placeOf_26 (by decide) ?_
    refine lv_goto (tgt := 41) hx hb dX4_placeOf_27 (by decide) ?_
    refine lv_istore (lv' := [(4, .int 0), (3, va_rf t11), (2, .null), (0, .ref x0), (1, .ref a1)]) hx hb dX4_placeOf_41 hl (by decide) (by cases t11 <;> rfl) (fun ls hl => ?_)
    refine lv_aload_n hx hb dX4_placeOf_43 rfl (lv_at hl 3 rfl) ?_
    refine lv_aload_n hx hb dX4_placeOf_44 rfl (lv_at hl 4 rfl) ?_
    replace hf := bnd hf
    obtain ⟨_, h14, hf⟩ := hf
    replace hf := bnd hf
    obtain ⟨t15, h16, hf⟩ := hf
    refine r_callV_ok X hW hl.1 (k_X4_writtenPitch l hsl G A mu x0 (some a1) _ h16) gX4_placeOf_X4_writtenPitch rfl (chk_ok h14) (by decide) rfl (by decide +kernel) (n := 1) rfl (by decide) (Nat.le_of_ble_eq_true rfl) dX4_placeOf_45 rfl rfl (stk := [.int t15]) rfl (fun H locs hW => ?_)
    refine lv_bipush (v := 12) hx hb dX4_placeOf_48 (by decide) ?_
    replace hf := bnd hf
    obtain ⟨t17, h18, hf⟩ := hf
    refine r_callS_ok X hW hl.1 (k_J9_floorMod_7cf53 l hsl G A mu t15 12 _ h18) gX4_placeOf_J9_floorMod_7cf53 rfl (by decide +kernel) (n := 2) rfl (by decide) (Nat.le_of_ble_eq_true rfl) dX4_placeOf_50 rfl rfl (stk := [.int t17]) rfl (fun H locs hW => ?_)
    refine lv_istore (lv' := [(5, .int t17), (4, .int 0), (3, va_rf t11), (2, .null), (0, .ref x0), (1, .ref a1)]) hx hb dX4_placeOf_53 hl (by decide) rfl (fun ls hl => ?_)
    refine lv_iload hx hb dX4_placeOf_55 (lv_at hl 1 rfl) ?_
    refine lv_iconst (v := 4) hx hb dX4_placeOf_57 (by decide) ?_
    refine lv_isub hx hb dX4_placeOf_58 ?_
    refine lv_istore (lv' := [(6, .int (0 - 4)), (5, .int t17), (4, .int 0), (3, va_rf t11), (2, .null), (0, .ref x0), (1, .ref a1)]) hx hb dX4_placeOf_59 hl (by decide) rfl (fun ls hl => ?_)
    have L61 : ∀ (u0_61 : Nat) (u1_61 : Nat) (u2_61 : Option Nat) (u3_61 : Option Nat) (u4_61 : Int32) (u5_61 : Int32) (k9 : Int32 → Option (Int32)),
        (∀ (w6_61 : Int32) (H : Heap) (locs : List Loc) (ls : Array Slot), k9 w6_61 = some r → MW G A mu s.heap H locs → lv_has ls 7 [(0, .ref u0_61), (1, .ref u1_61), (2, va_rf u2_61), (3, va_rf u3_61), (4, .int u4_61), (5, .int u5_61), (6, .int w6_61)] → W p l e ({ frames := 10, cells := 0, slots := 0, locals := 190 } : Room) s m args below meth c H locs 0 0 (QQ below G A (dP (.inr (rI r)) mu) args s 0 0) (F0 m 92 ls [])) →
        ∀ (n : Nat) (w6_61 : Int32) (H : Heap) (locs : List Loc) (ls : Array Slot), f_X4_placeOf_L61 mu u0_61 u1_61 u2_61 u3_61 u4_61 u5_61 k9 n w6_61 = some r → MW G A mu s.heap H locs → lv_has ls 7 [(0, .ref u0_61), (1, .ref u1_61), (2, va_rf u2_61), (3, va_rf u3_61), (4, .int u4_61), (5, .int u5_61), (6, .int w6_61)] → W p l e ({ frames := 10, cells := 0, slots := 0, locals := 190 } : Room) s m args below meth c H locs 0 0 (QQ below G A (dP (.inr (rI r)) mu) args s 0 0) (F0 m 61 ls []) := by
      intro u0_61 u1_61 u2_61 u3_61 u4_61 u5_61 k9 hk61 n
      induction n with
      | zero => intro w6_61 H locs ls hf hW hl; rw [f_X4_placeOf_L61] at hf; cases hf
      | succ n ih61 =>
        intro w6_61 H locs ls hf hW hl
        rw [f_X4_placeOf_L61] at hf
        refine lv_iload hx hb dX4_placeOf_61 (lv_at hl 6 rfl) ?_
        refine lv_iload hx hb dX4_placeOf_63 (lv_at hl 4 rfl) ?_
        refine lv_bipush (v := 7) hx hb dX4_placeOf_65 (by decide) ?_
        refine lv_iadd hx hb dX4_placeOf_67 ?_
        refine lv_icmp_ge (tgt := 92) hx hb dX4_placeOf_68 (by decide) (fun hc => ?_) (fun hc => ?_)
        · replace hf := itp hc hf
          exact hk61 _ _ _ _ hf hW (lv_sub hl [0, 1, 2, 3, 4, 5, 6] rfl)
        · replace hf := itn hc hf
          refine lv_iload hx hb dX4_placeOf_71 (lv_at hl 6 rfl) ?_
          refine lv_bipush (v := 7) hx hb dX4_placeOf_73 (by decide) ?_
          refine lv_imul hx hb dX4_placeOf_75 ?_
          refine lv_bipush (v := 12) hx hb dX4_placeOf_76 (by decide) ?_
          replace hf := bnd hf
          obtain ⟨t19, h20, hf⟩ := hf
          refine r_callS_ok X hW hl.1 (k_J9_floorMod_7cf53 l hsl G A mu (w6_61 * 7) 12 _ h20) gX4_placeOf_J9_floorMod_7cf53 rfl (by decide +kernel) (n := 2) rfl (by decide) (Nat.le_of_ble_eq_true rfl) dX4_placeOf_78 rfl rfl (stk := [.int t19]) rfl (fun H locs hW => ?_)
          refine lv_iload hx hb dX4_placeOf_81 (lv_at hl 5 rfl) ?_
          refine lv_icmp_eq (tgt := 92) hx hb dX4_placeOf_83 (by decide) (fun hc => ?_) (fun hc => ?_)
          · replace hf := itp hc hf
            exact hk61 _ _ _ _ hf hW (lv_sub hl [0, 1, 2, 3, 4, 5, 6] rfl)
          · replace hf := itn hc hf
            refine lv_iinc (v := (w6_61 + 1)) (lv' := [(6, .int (w6_61 + 1)), (0, .ref u0_61), (1, .ref u1_61), (2, va_rf u2_61), (3, va_rf u3_61), (4, .int u4_61), (5, .int u5_61)]) hx hb dX4_placeOf_86 hl (k := 6) rfl rfl (by decide) rfl (fun ls hl => ?_)
            refine lv_goto (tgt := 61) hx hb dX4_placeOf_89 (by decide) ?_
            exact ih61 _ _ _ _ hf hW (lv_sub hl [1, 2, 3, 4, 5, 6, 0] rfl)
    refine L61 x0 a1 none t11 0 t17 _ ?_ 200 (0 - 4) _ _ _ hf hW (lv_sub hl [5, 6, 4, 3, 2, 1, 0] rfl)
    intro zw6_61 H locs ls hf hW hl
    refine lv_iload hx hb dX4_placeOf_92 (lv_at hl 6 rfl) ?_
    exact r_iret X hr hW (by cases hf; exact ⟨rfl, rfl⟩) (by decide) (by decide) dX4_placeOf_94
  · subst hq
    refine lv_ifnull hx hb dX4_placeOf_19 ?_
    refine r_aload_nq hx hb dX4_placeOf_22 rfl (lv_at hl 0 rfl) ?_
    replace hf := onl_c hf
    rcases hf with ⟨hq, hf⟩ | ⟨a21, hq, hf⟩
    · subst hq
      refine lv_ifnonnullN hx hb dX4_placeOf_23 ?_
      refine lv_iconst (v := 0) hx hb dX4_placeOf_26 (by decide) ?_
      refine lv_goto (tgt := 41) hx hb dX4_placeOf_27 (by decide) ?_
      refine lv_istore (lv' := [(4, .int 0), (3, .null), (2, .ref a13), (0, .ref x0), (1, .ref a1)]) hx hb dX4_placeOf_41 hl (by decide) rfl (fun ls hl => ?_)
      refine lv_aload_n hx hb dX4_placeOf_43 rfl (lv_at hl 3 rfl) ?_
      refine lv_aload_n hx hb dX4_placeOf_44 rfl (lv_at hl 4 rfl) ?_
      replace hf := bnd hf
      obtain ⟨_, h22, hf⟩ := hf
      replace hf := bnd hf
      obtain ⟨t23, h24, hf⟩ := hf
      refine r_callV_ok X hW hl.1 (k_X4_writtenPitch l hsl G A mu x0 (some a1) _ h24) gX4_placeOf_X4_writtenPitch rfl (chk_ok h22) (by decide) rfl (by decide +kernel) (n := 1) rfl (by decide) (Nat.le_of_ble_eq_true rfl) dX4_placeOf_45 rfl rfl (stk := [.int t23]) rfl (fun H locs hW => ?_)
      refine lv_bipush (v := 12) hx hb dX4_placeOf_48 (by decide) ?_
      replace hf := bnd hf
      obtain ⟨t25, h26, hf⟩ := hf
      refine r_callS_ok X hW hl.1 (k_J9_floorMod_7cf53 l hsl G A mu t23 12 _ h26) gX4_placeOf_J9_floorMod_7cf53 rfl (by decide +kernel) (n := 2) rfl (by decide) (Nat.le_of_ble_eq_true rfl) dX4_placeOf_50 rfl rfl (stk := [.int t25]) rfl (fun H locs hW => ?_)
      refine lv_istore (lv' := [(5, .int t25), (4, .int 0), (3, .null), (2, .ref a13), (0, .ref x0), (1, .ref a1)]) hx hb dX4_placeOf_53 hl (by decide) rfl (fun ls hl => ?_)
      refine lv_iload hx hb dX4_placeOf_55 (lv_at hl 1 rfl) ?_
      refine lv_iconst (v := 4) hx hb dX4_placeOf_57 (by decide) ?_
      refine lv_isub hx hb dX4_placeOf_58 ?_
      refine lv_istore (lv' := [(6, .int (0 - 4)), (5, .int t25), (4, .int 0), (3, .null), (2, .ref a13), (0, .ref x0), (1, .ref a1)]) hx hb dX4_placeOf_59 hl (by decide) rfl (fun ls hl => ?_)
      have L61 : ∀ (u0_61 : Nat) (u1_61 : Nat) (u2_61 : Nat) (u3_61 : Option Nat) (u4_61 : Int32) (u5_61 : Int32) (k9 : Int32 → Option (Int32)),
          (∀ (w6_61 : Int32) (H : Heap) (locs : List Loc) (ls : Array Slot), k9 w6_61 = some r → MW G A mu s.heap H locs → lv_has ls 7 [(0, .ref u0_61), (1, .ref u1_61), (2, .ref u2_61), (3, va_rf u3_61), (4, .int u4_61), (5, .int u5_61), (6, .int w6_61)] → W p l e ({ frames := 10, cells := 0, slots := 0, locals := 190 } : Room) s m args below meth c H locs 0 0 (QQ below G A (dP (.inr (rI r)) mu) args s 0 0) (F0 m 92 ls [])) →
          ∀ (n : Nat) (w6_61 : Int32) (H : Heap) (locs : List Loc) (ls : Array Slot), f_X4_placeOf_L61b mu u0_61 u1_61 u2_61 u3_61 u4_61 u5_61 k9 n w6_61 = some r → MW G A mu s.heap H locs → lv_has ls 7 [(0, .ref u0_61), (1, .ref u1_61), (2, .ref u2_61), (3, va_rf u3_61), (4, .int u4_61), (5, .int u5_61), (6, .int w6_61)] → W p l e ({ frames := 10, cells := 0, slots := 0, locals := 190 } : Room) s m args below meth c H locs 0 0 (QQ below G A (dP (.inr (rI r)) mu) args s 0 0) (F0 m 61 ls []) := by
        intro u0_61 u1_61 u2_61 u3_61 u4_61 u5_61 k9 hk61 n
        induction n with
        | zero => intro w6_61 H locs ls hf hW hl; rw [f_X4_placeOf_L61b] at hf; cases hf
        | succ n ih61 =>
          intro w6_61 H locs ls hf hW hl
          rw [f_X4_placeOf_L61b] at hf
          refine lv_iload hx hb dX4_placeOf_61 (lv_at hl 6 rfl) ?_
          refine lv_iload hx hb dX4_placeOf_63 (lv_at hl 4 rfl) ?_
          refine lv_bipush (v := 7) hx hb dX4_placeOf_65 (by decide) ?_
          refine lv_iadd hx hb dX4_placeOf_67 ?_
          refine lv_icmp_ge (tgt := 92) hx hb dX4_placeOf_68 (by decide) (fun hc => ?_) (fun hc => ?_)
          · replace hf := itp hc hf
            exact hk61 _ _ _ _ hf hW (lv_sub hl [0, 1, 2, 3, 4, 5, 6] rfl)
          · replace hf := itn hc hf
            refine lv_iload hx hb dX4_placeOf_71 (lv_at hl 6 rfl) ?_
            refine lv_bipush (v := 7) hx hb dX4_placeOf_73 (by decide) ?_
            refine lv_imul hx hb dX4_placeOf_75 ?_
            refine lv_bipush (v := 12) hx hb dX4_placeOf_76 (by decide) ?_
            replace hf := bnd hf
            obtain ⟨t27, h28, hf⟩ := hf
            refine r_callS_ok X hW hl.1 (k_J9_floorMod_7cf53 l hsl G A mu (w6_61 * 7) 12 _ h28) gX4_placeOf_J9_floorMod_7cf53 rfl (by decide +kernel) (n := 2) rfl (by decide) (Nat.le_of_ble_eq_true rfl) dX4_placeOf_78 rfl rfl (stk := [.int t27]) rfl (fun H locs hW => ?_)
            refine lv_iload hx hb dX4_placeOf_81 (lv_at hl 5 rfl) ?_
            refine lv_icmp_eq (tgt := 92) hx hb dX4_placeOf_83 (by decide) (fun hc => ?_) (fun hc => ?_)
            · replace hf := itp hc hf
              exact hk61 _ _ _ _ hf hW (lv_sub hl [0, 1, 2, 3, 4, 5, 6] rfl)
            · replace hf := itn hc hf
              refine lv_iinc (v := (w6_61 + 1)) (lv' := [(6, .int (w6_61 + 1)), (0, .ref u0_61), (1, .ref u1_61), (2, .ref u2_61), (3, va_rf u3_61), (4, .int u4_61), (5, .int u5_61)]) hx hb dX4_placeOf_86 hl (k := 6) rfl rfl (by decide) rfl (fun ls hl => ?_)
              refine lv_goto (tgt := 61) hx hb dX4_placeOf_89 (by decide) ?_
              exact ih61 _ _ _ _ hf hW (lv_sub hl [1, 2, 3, 4, 5, 6, 0] rfl)
      refine L61 x0 a1 a13 none 0 t25 _ ?_ 200 (0 - 4) _ _ _ hf hW (lv_sub hl [5, 6, 4, 3, 2, 1, 0] rfl)
      intro zw6_61 H locs ls hf hW hl
      refine lv_iload hx hb dX4_placeOf_92 (lv_at hl 6 rfl) ?_
      exact r_iret X hr hW (by cases hf; exact ⟨rfl, rfl⟩) (by decide) (by decide) dX4_placeOf_94
    · subst hq
      refine lv_ifnonnull (tgt := 30) hx hb dX4_placeOf_23 (by decide) ?_
      refine lv_aload_n hx hb dX4_placeOf_30 rfl (lv_at hl 0 rfl) ?_
      replace hf := bnd hf
      obtain ⟨t29, h30, hf⟩ := hf
      refine g_2_1 X hW hinX0 hF89 h30 dX4_placeOf_31 ?_
      refine lv_aload_n hx hb dX4_placeOf_34 rfl (lv_at hl 1 rfl) ?_
      replace hf := bnd hf
      obtain ⟨t31, h32, hf⟩ := hf
      refine g_5_0 X hW hinX3 hF173 h32 dX4_placeOf_35 ?_
      replace hf := bnd hf
      obtain ⟨t33, h34, hf⟩ := hf
      refine r_callS_ok X hW hl.1 (k_X4_shiftedKey l hsl G A mu t29 t31 _ h34) gX4_placeOf_X4_shiftedKey rfl (by decide +kernel) (n := 2) rfl (by decide) (Nat.le_of_ble_eq_true rfl) dX4_placeOf_38 rfl rfl (stk := [.int t33]) rfl (fun H locs hW => ?_)
      refine lv_istore (lv' := [(4, .int t33), (3, .ref a21), (2, .ref a13), (0, .ref x0), (1, .ref a1)]) hx hb dX4_placeOf_41 hl (by decide) rfl (fun ls hl => ?_)
      refine lv_aload_n hx hb dX4_placeOf_43 rfl (lv_at hl 3 rfl) ?_
      refine lv_aload_n hx hb dX4_placeOf_44 rfl (lv_at hl 4 rfl) ?_
      replace hf := bnd hf
      obtain ⟨_, h35, hf⟩ := hf
      replace hf := bnd hf
      obtain ⟨t36, h37, hf⟩ := hf
      refine r_callV_ok X hW hl.1 (k_X4_writtenPitch l hsl G A mu x0 (some a1) _ h37) gX4_placeOf_X4_writtenPitch rfl (chk_ok h35) (by decide) rfl (by decide +kernel) (n := 1) rfl (by decide) (Nat.le_of_ble_eq_true rfl) dX4_placeOf_45 rfl rfl (stk := [.int t36]) rfl (fun H locs hW => ?_)
      refine lv_bipush (v := 12) hx hb dX4_placeOf_48 (by decide) ?_
      replace hf := bnd hf
      obtain ⟨t38, h39, hf⟩ := hf
      refine r_callS_ok X hW hl.1 (k_J9_floorMod_7cf53 l hsl G A mu t36 12 _ h39) gX4_placeOf_J9_floorMod_7cf53 rfl (by decide +kernel) (n := 2) rfl (by decide) (Nat.le_of_ble_eq_true rfl) dX4_placeOf_50 rfl rfl (stk := [.int t38]) rfl (fun H locs hW => ?_)
      refine lv_istore (lv' := [(5, .int t38), (4, .int t33), (3, .ref a21), (2, .ref a13), (0, .ref x0), (1, .ref a1)]) hx hb dX4_placeOf_53 hl (by decide) rfl (fun ls hl => ?_)
      refine lv_iload hx hb dX4_placeOf_55 (lv_at hl 1 rfl) ?_
      refine lv_iconst (v := 4) hx hb dX4_placeOf_57 (by decide) ?_
      refine lv_isub hx hb dX4_placeOf_58 ?_
      refine lv_istore (lv' := [(6, .int (t33 - 4)), (5, .int t38), (4, .int t33), (3, .ref a21), (2, .ref a13), (0, .ref x0), (1, .ref a1)]) hx hb dX4_placeOf_59 hl (by decide) rfl (fun ls hl => ?_)
      have L61 : ∀ (u0_61 : Nat) (u1_61 : Nat) (u2_61 : Nat) (u3_61 : Nat) (u4_61 : Int32) (u5_61 : Int32) (k9 : Int32 → Option (Int32)),
          (∀ (w6_61 : Int32) (H : Heap) (locs : List Loc) (ls : Array Slot), k9 w6_61 = some r → MW G A mu s.heap H locs → lv_has ls 7 [(0, .ref u0_61), (1, .ref u1_61), (2, .ref u2_61), (3, .ref u3_61), (4, .int u4_61), (5, .int u5_61), (6, .int w6_61)] → W p l e ({ frames := 10, cells := 0, slots := 0, locals := 190 } : Room) s m args below meth c H locs 0 0 (QQ below G A (dP (.inr (rI r)) mu) args s 0 0) (F0 m 92 ls [])) →
          ∀ (n : Nat) (w6_61 : Int32) (H : Heap) (locs : List Loc) (ls : Array Slot), f_X4_placeOf_L61c mu u0_61 u1_61 u2_61 u3_61 u4_61 u5_61 k9 n w6_61 = some r → MW G A mu s.heap H locs → lv_has ls 7 [(0, .ref u0_61), (1, .ref u1_61), (2, .ref u2_61), (3, .ref u3_61), (4, .int u4_61), (5, .int u5_61), (6, .int w6_61)] → W p l e ({ frames := 10, cells := 0, slots := 0, locals := 190 } : Room) s m args below meth c H locs 0 0 (QQ below G A (dP (.inr (rI r)) mu) args s 0 0) (F0 m 61 ls []) := by
        intro u0_61 u1_61 u2_61 u3_61 u4_61 u5_61 k9 hk61 n
        induction n with
        | zero => intro w6_61 H locs ls hf hW hl; rw [f_X4_placeOf_L61c] at hf; cases hf
        | succ n ih61 =>
          intro w6_61 H locs ls hf hW hl
          rw [f_X4_placeOf_L61c] at hf
          refine lv_iload hx hb dX4_placeOf_61 (lv_at hl 6 rfl) ?_
          refine lv_iload hx hb dX4_placeOf_63 (lv_at hl 4 rfl) ?_
          refine lv_bipush (v := 7) hx hb dX4_placeOf_65 (by decide) ?_
          refine lv_iadd hx hb dX4_placeOf_67 ?_
          refine lv_icmp_ge (tgt := 92) hx hb dX4_placeOf_68 (by decide) (fun hc => ?_) (fun hc => ?_)
          · replace hf := itp hc hf
            exact hk61 _ _ _ _ hf hW (lv_sub hl [0, 1, 2, 3, 4, 5, 6] rfl)
          · replace hf := itn hc hf
            refine lv_iload hx hb dX4_placeOf_71 (lv_at hl 6 rfl) ?_
            refine lv_bipush (v := 7) hx hb dX4_placeOf_73 (by decide) ?_
            refine lv_imul hx hb dX4_placeOf_75 ?_
            refine lv_bipush (v := 12) hx hb dX4_placeOf_76 (by decide) ?_
            replace hf := bnd hf
            obtain ⟨t40, h41, hf⟩ := hf
            refine r_callS_ok X hW hl.1 (k_J9_floorMod_7cf53 l hsl G A mu (w6_61 * 7) 12 _ h41) gX4_placeOf_J9_floorMod_7cf53 rfl (by decide +kernel) (n := 2) rfl (by decide) (Nat.le_of_ble_eq_true rfl) dX4_placeOf_78 rfl rfl (stk := [.int t40]) rfl (fun H locs hW => ?_)
            refine lv_iload hx hb dX4_placeOf_81 (lv_at hl 5 rfl) ?_
            refine lv_icmp_eq (tgt := 92) hx hb dX4_placeOf_83 (by decide) (fun hc => ?_) (fun hc => ?_)
            · replace hf := itp hc hf
              exact hk61 _ _ _ _ hf hW (lv_sub hl [0, 1, 2, 3, 4, 5, 6] rfl)
            · replace hf := itn hc hf
              refine lv_iinc (v := (w6_61 + 1)) (lv' := [(6, .int (w6_61 + 1)), (0, .ref u0_61), (1, .ref u1_61), (2, .ref u2_61), (3, .ref u3_61), (4, .int u4_61), (5, .int u5_61)]) hx hb dX4_placeOf_86 hl (k := 6) rfl rfl (by decide) rfl (fun ls hl => ?_)
              refine lv_goto (tgt := 61) hx hb dX4_placeOf_89 (by decide) ?_
              exact ih61 _ _ _ _ hf hW (lv_sub hl [1, 2, 3, 4, 5, 6, 0] rfl)
      refine L61 x0 a1 a13 a21 t33 t38 _ ?_ 200 (t33 - 4) _ _ _ hf hW (lv_sub hl [5, 6, 4, 3, 2, 1, 0] rfl)
      intro zw6_61 H locs ls hf hW hl
      refine lv_iload hx hb dX4_placeOf_92 (lv_at hl 6 rfl) ?_
      exact r_iret X hr hW (by cases hf; exact ⟨rfl, rfl⟩) (by decide) (by decide) dX4_placeOf_94

def f_X4_letterOfPlace (mu : Mem) (x0 : Int32) : Option (Int32) := (f_J9_floorMod_7cf53 mu (x0 + 1) 7).bind fun t1 => if t1 = 0 then ((nc 70).bind fun t3 => some t3) else if t1 = 1 then ((nc 67).bind fun t5 => some t5) else if t1 = 2 then ((nc 71).bind fun t7 => some t7) else if t1 = 3 then ((nc 68).bind fun t9 => some t9) else if t1 = 4 then ((nc 65).bind fun t11 => some t11) else if t1 = 5 then ((nc 69).bind fun t13 => some t13) else ((nc 66).bind fun t15 => some t15)
set_option maxHeartbeats 1000000 in
set_option maxRecDepth 100000 in
theorem k_X4_letterOfPlace (l : Launch) (hsl : l.stackTraces = false) (G : GG) (A : Nat → Prop) (mu : Mem) (x0 : Int32) (r : Int32) (hf : f_X4_letterOfPlace mu x0 = some r) : Ok l yX4_letterOfPlace wsX4_letterOfPlace ({ frames := 8, cells := 0, slots := 0, locals := 150 } : Room) [.int x0] G A mu (dP (.inr (rI r)) mu) := by
  refine Ok.start (cc := cX4_letterOfPlace) (maxL := 1) (ret := (some .char)) rfl (by decide +kernel) hsl (by first | exact Nat.le_of_ble_eq_true rfl | simp [lg_sl, cat_rf, Value.category]) ?_
  intro p e s m args below meth c ls X hr hname hW hl
  have X : BX p l s m args meth c cX4_letterOfPlace 1 RX4 wsX4_letterOfPlace G A := X
  have hx := X.1
  have hb := X.2.1
  have hts := X.2.2.2.2.1
  have hl : lv_has ls 1 [(0, .int x0)] := hl
  unfold f_X4_letterOfPlace at hf
  refine lv_iload_n hx hb dX4_letterOfPlace_0 rfl (lv_at hl 0 rfl) ?_
  refine lv_iconst (v := 1) hx hb dX4_letterOfPlace_1 (by decide) ?_
  refine lv_iadd hx hb dX4_letterOfPlace_2 ?_
  refine lv_bipush (v := 7) hx hb dX4_letterOfPlace_3 (by decide) ?_
  replace hf := bnd hf
  obtain ⟨t1, h2, hf⟩ := hf
  refine r_callS_ok X hW hl.1 (k_J9_floorMod_7cf53 l hsl G A mu (x0 + 1) 7 _ h2) gX4_letterOfPlace_J9_floorMod_7cf53 rfl (by decide +kernel) (n := 2) rfl (by decide) (Nat.le_of_ble_eq_true rfl) dX4_letterOfPlace_5 rfl rfl (stk := [.int t1]) rfl (fun H locs hW => ?_)
  by_cases hc0 : t1 = 0
  · replace hf := itp hc0 hf
    rw [hc0]
    refine lv_tableIn (off := 40) (tgt := 48) hx hb dX4_letterOfPlace_8 (by decide) (by decide) (by decide) (by decide) ?_
    refine lv_bipush (v := 70) hx hb dX4_letterOfPlace_48 (by decide) ?_
    replace hf := bnd hf
    obtain ⟨t3, h4, hf⟩ := hf
    obtain ⟨hcc, hce⟩ := ifs h4
    subst hce
    exact r_cret X hr hW hcc (by cases hf; exact ⟨rfl, rfl⟩) (by decide) (by decide) dX4_letterOfPlace_50
  · replace hf := itn hc0 hf
    by_cases hc1 : t1 = 1
    · replace hf := itp hc1 hf
      rw [hc1]
      refine lv_tableIn (off := 43) (tgt := 51) hx hb dX4_letterOfPlace_8 (by decide) (by decide) (by decide) (by decide) ?_
      refine lv_bipush (v := 67) hx hb dX4_letterOfPlace_51 (by decide) ?_
      replace hf := bnd hf
      obtain ⟨t5, h6, hf⟩ := hf
      obtain ⟨hcc, hce⟩ := ifs h6
      subst hce
      exact r_cret X hr hW hcc (by cases hf; exact ⟨rfl, rfl⟩) (by decide) (by decide) dX4_letterOfPlace_53
    · replace hf := itn hc1 hf
      by_cases hc2 : t1 = 2
      · replace hf := itp hc2 hf
        rw [hc2]
        refine lv_tableIn (off := 46) (tgt := 54) hx hb dX4_letterOfPlace_8 (by decide) (by decide) (by decide) (by decide) ?_
        refine lv_bipush (v := 71) hx hb dX4_letterOfPlace_54 (by decide) ?_
        replace hf := bnd hf
        obtain ⟨t7, h8, hf⟩ := hf
        obtain ⟨hcc, hce⟩ := ifs h8
        subst hce
        exact r_cret X hr hW hcc (by cases hf; exact ⟨rfl, rfl⟩) (by decide) (by decide) dX4_letterOfPlace_56
      · replace hf := itn hc2 hf
        by_cases hc3 : t1 = 3
        · replace hf := itp hc3 hf
          rw [hc3]
          refine lv_tableIn (off := 49) (tgt := 57) hx hb dX4_letterOfPlace_8 (by decide) (by decide) (by decide) (by decide) ?_
          refine lv_bipush (v := 68) hx hb dX4_letterOfPlace_57 (by decide) ?_
          replace hf := bnd hf
          obtain ⟨t9, h10, hf⟩ := hf
          obtain ⟨hcc, hce⟩ := ifs h10
          subst hce
          exact r_cret X hr hW hcc (by cases hf; exact ⟨rfl, rfl⟩) (by decide) (by decide) dX4_letterOfPlace_59
        · replace hf := itn hc3 hf
          by_cases hc4 : t1 = 4
          · replace hf := itp hc4 hf
            rw [hc4]
            refine lv_tableIn (off := 52) (tgt := 60) hx hb dX4_letterOfPlace_8 (by decide) (by decide) (by decide) (by decide) ?_
            refine lv_bipush (v := 65) hx hb dX4_letterOfPlace_60 (by decide) ?_
            replace hf := bnd hf
            obtain ⟨t11, h12, hf⟩ := hf
            obtain ⟨hcc, hce⟩ := ifs h12
            subst hce
            exact r_cret X hr hW hcc (by cases hf; exact ⟨rfl, rfl⟩) (by decide) (by decide) dX4_letterOfPlace_62
          · replace hf := itn hc4 hf
            by_cases hc5 : t1 = 5
            · replace hf := itp hc5 hf
              rw [hc5]
              refine lv_tableIn (off := 55) (tgt := 63) hx hb dX4_letterOfPlace_8 (by decide) (by decide) (by decide) (by decide) ?_
              refine lv_bipush (v := 69) hx hb dX4_letterOfPlace_63 (by decide) ?_
              replace hf := bnd hf
              obtain ⟨t13, h14, hf⟩ := hf
              obtain ⟨hcc, hce⟩ := ifs h14
              subst hce
              exact r_cret X hr hW hcc (by cases hf; exact ⟨rfl, rfl⟩) (by decide) (by decide) dX4_letterOfPlace_65
            · replace hf := itn hc5 hf
              refine lv_tableOut (tgt := 66) hx hb dX4_letterOfPlace_8 (by have e0 : (t1).toInt ≠ 0 := fun z => hc0 (Int32.toInt_inj.mp (z.trans (by decide))); have e1 : (t1).toInt ≠ 1 := fun z => hc1 (Int32.toInt_inj.mp (z.trans (by decide))); have e2 : (t1).toInt ≠ 2 := fun z => hc2 (Int32.toInt_inj.mp (z.trans (by decide))); have e3 : (t1).toInt ≠ 3 := fun z => hc3 (Int32.toInt_inj.mp (z.trans (by decide))); have e4 : (t1).toInt ≠ 4 := fun z => hc4 (Int32.toInt_inj.mp (z.trans (by decide))); have e5 : (t1).toInt ≠ 5 := fun z => hc5 (Int32.toInt_inj.mp (z.trans (by decide))); omega) (by decide) ?_
              refine lv_bipush (v := 66) hx hb dX4_letterOfPlace_66 (by decide) ?_
              replace hf := bnd hf
              obtain ⟨t15, h16, hf⟩ := hf
              obtain ⟨hcc, hce⟩ := ifs h16
              subst hce
              exact r_cret X hr hW hcc (by cases hf; exact ⟨rfl, rfl⟩) (by decide) (by decide) dX4_letterOfPlace_68

def f_X4_sharpsOfPlace (mu : Mem) (x0 : Int32) : Option (Int32) := (f_J9_floorDiv_7cf53 mu (x0 + 1) 7).bind fun t1 => some t1
set_option maxHeartbeats 1000000 in
set_option maxRecDepth 100000 in
theorem k_X4_sharpsOfPlace (l : Launch) (hsl : l.stackTraces = false) (G : GG) (A : Nat → Prop) (mu : Mem) (x0 : Int32) (r : Int32) (hf : f_X4_sharpsOfPlace mu x0 = some r) : Ok l yX4_sharpsOfPlace wsX4_sharpsOfPlace ({ frames := 8, cells := 0, slots := 0, locals := 150 } : Room) [.int x0] G A mu (dP (.inr (rI r)) mu) := by
  refine Ok.start (cc := cX4_sharpsOfPlace) (maxL := 1) (ret := (some .int)) rfl (by decide +kernel) hsl (by first | exact Nat.le_of_ble_eq_true rfl | simp [lg_sl, cat_rf, Value.category]) ?_
  intro p e s m args below meth c ls X hr hname hW hl
  have X : BX p l s m args meth c cX4_sharpsOfPlace 1 RX4 wsX4_sharpsOfPlace G A := X
  have hx := X.1
  have hb := X.2.1
  have hts := X.2.2.2.2.1
  have hl : lv_has ls 1 [(0, .int x0)] := hl
  unfold f_X4_sharpsOfPlace at hf
  refine lv_iload_n hx hb dX4_sharpsOfPlace_0 rfl (lv_at hl 0 rfl) ?_
  refine lv_iconst (v := 1) hx hb dX4_sharpsOfPlace_1 (by decide) ?_
  refine lv_iadd hx hb dX4_sharpsOfPlace_2 ?_
  refine lv_bipush (v := 7) hx hb dX4_sharpsOfPlace_3 (by decide) ?_
  replace hf := bnd hf
  obtain ⟨t1, h2, hf⟩ := hf
  refine r_callS_ok X hW hl.1 (k_J9_floorDiv_7cf53 l hsl G A mu (x0 + 1) 7 _ h2) gX4_sharpsOfPlace_J9_floorDiv_7cf53 rfl (by decide +kernel) (n := 2) rfl (by decide) (Nat.le_of_ble_eq_true rfl) dX4_sharpsOfPlace_5 rfl rfl (stk := [.int t1]) rfl (fun H locs hW => ?_)
  exact r_iret X hr hW (by cases hf; exact ⟨rfl, rfl⟩) (by decide) (by decide) dX4_sharpsOfPlace_8

def f_X4_addToBlocks_L15 (mu : Mem) (u0_15 : Nat) (u1_15 : Int32) (u2_15 : Int32) (u3_15 : Nat) (k9 : Int32 → Int32 → Int32 → Int32 → Option ((Unit) × Mem)) : Nat → Int32 → Int32 → Int32 → Int32 → Option ((Unit) × Mem)
  | 0, _, _, _, _ => none
  | n + 1, w4_15, w5_15, w6_15, w7_15 => (getQ mu 6 2 u0_15).bind fun t5 => t5.bind fun a7 => (alen mu a7).bind fun t9 => if t9 ≤ w7_15 then (k9 w4_15 w5_15 w6_15 w7_15) else ((getQ mu 6 2 u0_15).bind fun t11 => t11.bind fun a13 => (qld mu a13 w7_15).bind fun t15 => onl t15 (f_X4_addToBlocks_L15 mu u0_15 u1_15 u2_15 u3_15 k9 n w4_15 w5_15 w6_15 (w7_15 + 1)) (fun a17 => (chk mu 4 a17).bind fun _ => (f_X2_isAt mu a17 u1_15 u2_15).bind fun t19 => if t19 = 0 then (f_X4_addToBlocks_L15 mu u0_15 u1_15 u2_15 u3_15 k9 n w4_15 w5_15 w6_15 (w7_15 + 1)) else ((getI mu 4 3 a17).bind fun t21 => (getI mu 4 3 a17).bind fun t23 => (getI mu 4 4 a17).bind fun t25 => f_X4_addToBlocks_L15 mu u0_15 u1_15 u2_15 u3_15 k9 n (w4_15 + 1) (if t21 < w5_15 then t21 else w5_15) (if w6_15 < (t23 + t25) then (t23 + t25) else w6_15) (w7_15 + 1))))
def f_X4_addToBlocks (mu : Mem) (x0 : Nat) (x1 : Int32) (x2 : Int32) (x3 : Option Nat) : Option ((Unit) × Mem) := x3.bind fun a1 => (getI mu 2 0 a1).bind fun t3 => f_X4_addToBlocks_L15 mu x0 x1 x2 a1 (fun (zw4_15 : Int32) (zw5_15 : Int32) (zw6_15 : Int32) (zw7_15 : Int32) => if zw4_15 ≤ 0 then ((getQ mu 6 3 x0).bind fun t27 => (getI mu 2 0 a1).bind fun t29 => (getI mu 2 2 a1).bind fun t31 => t27.bind fun a33 => (chk mu 3 a33).bind fun _ => bi2 (f_X1_addEmptyBar mu a33 x2 t29 t31) (fun (t36 : (Unit)) m38 => some ((), m38))) else ((getQ mu 6 3 x0).bind fun t39 => (getI mu 2 0 a1).bind fun t41 => t39.bind fun a43 => (chk mu 3 a43).bind fun _ => bi2 (f_X1_addBarWithNotes mu a43 x2 zw4_15 zw5_15 (t41 - zw6_15)) (fun (t46 : (Unit)) m48 => some ((), m48)))) 200 0 t3 0 0
set_option maxHeartbeats 1000000 in
set_option maxRecDepth 100000 in
theorem k_X4_addToBlocks (l : Launch) (hsl : l.stackTraces = false) (G : GG) (A : Nat → Prop) (mu : Mem) (x0 : Nat) (x1 : Int32) (x2 : Int32) (x3 : Option Nat) (r : (Unit) × Mem) (hf : f_X4_addToBlocks mu x0 x1 x2 x3 = some r) : Ok l yX4_addToBlocks wsX4_addToBlocks ({ frames := 10, cells := 0, slots := 0, locals := 190 } : Room) [.ref x0, .int x1, .int x2, va_rf x3] G A mu (dP (.inr (rV r.1)) r.2) := by
  refine Ok.start (cc := cX4_addToBlocks) (maxL := 9) (ret := none) rfl (by decide +kernel) hsl (by cases x3 <;> exact Nat.le_of_ble_eq_true rfl) ?_
  intro p e s m args below meth c ls X hr hname hW hl
  have X : BX p l s m args meth c cX4_addToBlocks 9 RX4 wsX4_addToBlocks G A := X
  have hx := X.1
  have hb := X.2.1
  have hts := X.2.2.2.2.1
  have hl : lv_has ls 9 [(0, .ref x0), (1, .int x1), (2, .int x2), (3, va_rf x3)] := by cases x3 <;> exact hl
  have hinX0 : ∀ w ∈ wsX00, w ∈ wsX4_addToBlocks := by decide +kernel
  have hinX2 : ∀ w ∈ wsX20, w ∈ wsX4_addToBlocks := by decide +kernel
  have hinX4 : ∀ w ∈ wsX40, w ∈ wsX4_addToBlocks := by decide +kernel
  have hMc_max : (Cond.code Lib.Math.max.name Lib.Math.max.code 2 (some .int)).before args s = true := hts _ (by decide +kernel)
  have hMc_min : (Cond.code Lib.Math.min.name Lib.Math.min.code 2 (some .int)).before args s = true := hts _ (by decide +kernel)
  have hMi : (Cond.initialized "java/lang/Math").before args s = true := hts _ (by decide +kernel)
  have hMl_max : (Cond.methodLink RX4 343 Lib.Math.max.name).before args s = true := hts _ (by decide +kernel)
  have hMl_min : (Cond.methodLink RX4 340 Lib.Math.min.name).before args s = true := hts _ (by decide +kernel)
  have hMs_max : (Cond.static Lib.Math.max.name).before args s = true := hts _ (by decide +kernel)
  have hMs_min : (Cond.static Lib.Math.min.name).before args s = true := hts _ (by decide +kernel)
  have hF137 : (Cond.fieldLink RX4 137 "PartcopyistBench$Note" "tick" "I").before args s = true := hts _ (by decide +kernel)
  have hF144 : (Cond.fieldLink RX4 144 "PartcopyistBench$Note" "length" "I").before args s = true := hts _ (by decide +kernel)
  have hF23 : (Cond.fieldLink RX4 23 "PartcopyistBench" "notes" "[LPartcopyistBench$Note;").before args s = true := hts _ (by decide +kernel)
  have hF30 : (Cond.fieldLink RX4 30 "PartcopyistBench" "blocks" "LPartcopyistBench$Blocks;").before args s = true := hts _ (by decide +kernel)
  have hF337 : (Cond.fieldLink RX4 337 "PartcopyistBench$Bar" "ticks" "I").before args s = true := hts _ (by decide +kernel)
  have hF83 : (Cond.fieldLink RX4 83 "PartcopyistBench$Bar" "hasMark" "Z").before args s = true := hts _ (by decide +kernel)
  unfold f_X4_addToBlocks at hf
  refine lv_iconst (v := 0) hx hb dX4_addToBlocks_0 (by decide) ?_
  refine lv_istore (lv' := [(4, .int 0), (0, .ref x0), (1, .int x1), (2, .int x2), (3, va_rf x3)]) hx hb dX4_addToBlocks_1 hl (by decide) (by cases x3 <;> rfl) (fun ls hl => ?_)
  refine r_aload_nq hx hb dX4_addToBlocks_3 rfl (lv_at hl 4 rfl) ?_
  replace hf := bnd hf
  obtain ⟨a1, h2, hf⟩ := hf
  subst h2
  replace hf := bnd hf
  obtain ⟨t3, h4, hf⟩ := hf
  refine g_2_0 X hW hinX0 hF337 h4 dX4_addToBlocks_4 ?_
  refine lv_istore (lv' := [(5, .int t3), (4, .int 0), (0, .ref x0), (1, .int x1), (2, .int x2), (3, .ref a1)]) hx hb dX4_addToBlocks_7 hl (by decide) rfl (fun ls hl => ?_)
  refine lv_iconst (v := 0) hx hb dX4_addToBlocks_9 (by decide) ?_
  refine lv_istore (lv' := [(6, .int 0), (5, .int t3), (4, .int 0), (0, .ref x0), (1, .int x1), (2, .int x2), (3, .ref a1)]) hx hb dX4_addToBlocks_10 hl (by decide) rfl (fun ls hl => ?_)
  refine lv_iconst (v := 0) hx hb dX4_addToBlocks_12 (by decide) ?_
  refine lv_istore (lv' := [(7, .int 0), (6, .int 0), (5, .int t3), (4, .int 0), (0, .ref x0), (1, .int x1), (2, .int x2), (3, .ref a1)]) hx hb dX4_addToBlocks_13 hl (by decide) rfl (fun ls hl => ?_)
  have L15 : ∀ (u0_15 : Nat) (u1_15 : Int32) (u2_15 : Int32) (u3_15 : Nat) (k9 : Int32 → Int32 → Int32 → Int32 → Option ((Unit) × Mem)),
      (∀ (w4_15 : Int32) (w5_15 : Int32) (w6_15 : Int32) (w7_15 : Int32) (H : Heap) (locs : List Loc) (ls : Array Slot), k9 w4_15 w5_15 w6_15 w7_15 = some r → MW G A mu s.heap H locs → lv_has ls 9 [(0, .ref u0_15), (1, .int u1_15), (2, .int u2_15), (3, .ref u3_15), (4, .int w4_15), (5, .int w5_15), (6, .int w6_15), (7, .int w7_15)] → W p l e ({ frames := 10, cells := 0, slots := 0, locals := 190 } : Room) s m args below meth c H locs 0 0 (QQ below G A (dP (.inr (rV r.1)) r.2) args s 0 0) (F0 m 88 ls [])) →
      ∀ (n : Nat) (w4_15 : Int32) (w5_15 : Int32) (w6_15 : Int32) (w7_15 : Int32) (H : Heap) (locs : List Loc) (ls : Array Slot), f_X4_addToBlocks_L15 mu u0_15 u1_15 u2_15 u3_15 k9 n w4_15 w5_15 w6_15 w7_15 = some r → MW G A mu s.heap H locs → lv_has ls 9 [(0, .ref u0_15), (1, .int u1_15), (2, .int u2_15), (3, .ref u3_15), (4, .int w4_15), (5, .int w5_15), (6, .int w6_15), (7, .int w7_15)] → W p l e ({ frames := 10, cells := 0, slots := 0, locals := 190 } : Room) s m args below meth c H locs 0 0 (QQ below G A (dP (.inr (rV r.1)) r.2) args s 0 0) (F0 m 15 ls []) := by
    intro u0_15 u1_15 u2_15 u3_15 k9 hk15 n
    induction n with
    | zero => intro w4_15 w5_15 w6_15 w7_15 H locs ls hf hW hl; rw [f_X4_addToBlocks_L15] at hf; cases hf
    | succ n ih15 =>
      intro w4_15 w5_15 w6_15 w7_15 H locs ls hf hW hl
      rw [f_X4_addToBlocks_L15] at hf
      refine lv_iload hx hb dX4_addToBlocks_15 (lv_at hl 7 rfl) ?_
      refine lv_aload_n hx hb dX4_addToBlocks_17 rfl (lv_at hl 0 rfl) ?_
      replace hf := bnd hf
      obtain ⟨t5, h6, hf⟩ := hf
      refine g_6_2 X hW hinX4 hF23 h6 dX4_addToBlocks_18 ?_
      replace hf := bnd hf
      obtain ⟨a7, h8, hf⟩ := hf
      subst h8
      replace hf := bnd hf
      obtain ⟨t9, h10, hf⟩ := hf
      refine r_alen X hW h10 dX4_addToBlocks_21 ?_
      refine lv_icmp_ge (tgt := 88) hx hb dX4_addToBlocks_22 (by decide) (fun hc => ?_) (fun hc => ?_)
      · replace hf := itp hc hf
        exact hk15 _ _ _ _ _ _ _ hf hW (lv_sub hl [0, 1, 2, 3, 4, 5, 6, 7] rfl)
      · replace hf := itn hc hf
        refine lv_aload_n hx hb dX4_addToBlocks_25 rfl (lv_at hl 0 rfl) ?_
        replace hf := bnd hf
        obtain ⟨t11, h12, hf⟩ := hf
        refine g_6_2 X hW hinX4 hF23 h12 dX4_addToBlocks_26 ?_
        refine lv_iload hx hb dX4_addToBlocks_29 (lv_at hl 7 rfl) ?_
        replace hf := bnd hf
        obtain ⟨a13, h14, hf⟩ := hf
        subst h14
        replace hf := bnd hf
        obtain ⟨t15, h16, hf⟩ := hf
        refine r_qld X hW h16 dX4_addToBlocks_31 ?_
        refine r_astoreq (lv' := [(8, va_rf t15), (0, .ref u0_15), (1, .int u1_15), (2, .int u2_15), (3, .ref u3_15), (4, .int w4_15), (5, .int w5_15), (6, .int w6_15), (7, .int w7_15)]) hx hb dX4_addToBlocks_32 hl (by decide) rfl (fun ls hl => ?_)
        refine r_aloadq hx hb dX4_addToBlocks_34 (lv_at hl 0 rfl) ?_
        replace hf := onl_c hf
        rcases hf with ⟨hq, hf⟩ | ⟨a17, hq, hf⟩
        · subst hq
          refine lv_ifnullN (tgt := 82) hx hb dX4_addToBlocks_36 (by decide) ?_
          refine lv_iinc (v := (w7_15 + 1)) (lv' := [(7, .int (w7_15 + 1)), (8, .null), (0, .ref u0_15), (1, .int u1_15), (2, .int u2_15), (3, .ref u3_15), (4, .int w4_15), (5, .int w5_15), (6, .int w6_15)]) hx hb dX4_addToBlocks_82 hl (k := 8) rfl rfl (by decide) rfl (fun ls hl => ?_)
          refine lv_goto (tgt := 15) hx hb dX4_addToBlocks_85 (by decide) ?_
          exact ih15 _ _ _ _ _ _ _ hf hW (lv_sub hl [2, 3, 4, 5, 6, 7, 8, 0] rfl)
        · subst hq
          refine lv_ifnull hx hb dX4_addToBlocks_36 ?_
          refine lv_aload hx hb dX4_addToBlocks_39 (lv_at hl 0 rfl) ?_
          refine lv_iload_n hx hb dX4_addToBlocks_41 rfl (lv_at hl 2 rfl) ?_
          refine lv_iload_n hx hb dX4_addToBlocks_42 rfl (lv_at hl 3 rfl) ?_
          replace hf := bnd hf
          obtain ⟨_, h18, hf⟩ := hf
          replace hf := bnd hf
          obtain ⟨t19, h20, hf⟩ := hf
          refine r_callV_ok X hW hl.1 (k_X2_isAt l hsl G A mu a17 u1_15 u2_15 _ h20) gX4_addToBlocks_X2_isAt rfl (chk_ok h18) (by decide) rfl (by decide +kernel) (n := 2) rfl (by decide) (Nat.le_of_ble_eq_true rfl) dX4_addToBlocks_43 rfl rfl (stk := [.int t19]) rfl (fun H locs hW => ?_)
          refine lv_if_eq (tgt := 82) hx hb dX4_addToBlocks_46 (by decide) (fun hc => ?_) (fun hc => ?_)
          · replace hf := itp hc hf
            refine lv_iinc (v := (w7_15 + 1)) (lv' := [(7, .int (w7_15 + 1)), (8, .ref a17), (0, .ref u0_15), (1, .int u1_15), (2, .int u2_15), (3, .ref u3_15), (4, .int w4_15), (5, .int w5_15), (6, .int w6_15)]) hx hb dX4_addToBlocks_82 hl (k := 8) rfl rfl (by decide) rfl (fun ls hl => ?_)
            refine lv_goto (tgt := 15) hx hb dX4_addToBlocks_85 (by decide) ?_
            exact ih15 _ _ _ _ _ _ _ hf hW (lv_sub hl [2, 3, 4, 5, 6, 7, 8, 0] rfl)
          · replace hf := itn hc hf
            refine lv_iinc (v := (w4_15 + 1)) (lv' := [(4, .int (w4_15 + 1)), (8, .ref a17), (0, .ref u0_15), (1, .int u1_15), (2, .int u2_15), (3, .ref u3_15), (5, .int w5_15), (6, .int w6_15), (7, .int w7_15)]) hx hb dX4_addToBlocks_49 hl (k := 5) rfl rfl (by decide) rfl (fun ls hl => ?_)
            refine lv_iload hx hb dX4_addToBlocks_52 (lv_at hl 6 rfl) ?_
            refine lv_aload hx hb dX4_addToBlocks_54 (lv_at hl 1 rfl) ?_
            replace hf := bnd hf
            obtain ⟨t21, h22, hf⟩ := hf
            refine g_4_3 X hW hinX2 hF137 h22 dX4_addToBlocks_56 ?_
            refine va_mmin hx hb (X.2.2.1.trans hl.1.symm) X.2.2.2.1 hMl_min hMs_min hMi hMc_min (by decide) (by decide) (by decide) (by decide) dX4_addToBlocks_59 ?_
            refine lv_istore (lv' := [(5, .int (if t21 < w5_15 then t21 else w5_15)), (4, .int (w4_15 + 1)), (8, .ref a17), (0, .ref u0_15), (1, .int u1_15), (2, .int u2_15), (3, .ref u3_15), (6, .int w6_15), (7, .int w7_15)]) hx hb dX4_addToBlocks_62 hl (by decide) rfl (fun ls hl => ?_)
            refine lv_iload hx hb dX4_addToBlocks_64 (lv_at hl 7 rfl) ?_
            refine lv_aload hx hb dX4_addToBlocks_66 (lv_at hl 2 rfl) ?_
            replace hf := bnd hf
            obtain ⟨t23, h24, hf⟩ := hf
            refine g_4_3 X hW hinX2 hF137 h24 dX4_addToBlocks_68 ?_
            refine lv_aload hx hb dX4_addToBlocks_71 (lv_at hl 2 rfl) ?_
            replace hf := bnd hf
            obtain ⟨t25, h26, hf⟩ := hf
            refine g_4_4 X hW hinX2 hF144 h26 dX4_addToBlocks_73 ?_
            refine lv_iadd hx hb dX4_addToBlocks_76 ?_
            refine va_mmax hx hb (X.2.2.1.trans hl.1.symm) X.2.2.2.1 hMl_max hMs_max hMi hMc_max (by decide) (by decide) (by decide) (by decide) dX4_addToBlocks_77 ?_
            refine lv_istore (lv' := [(6, .int (if w6_15 < (t23 + t25) then (t23 + t25) else w6_15)), (5, .int (if t21 < w5_15 then t21 else w5_15)), (4, .int (w4_15 + 1)), (8, .ref a17), (0, .ref u0_15), (1, .int u1_15), (2, .int u2_15), (3, .ref u3_15), (7, .int w7_15)]) hx hb dX4_addToBlocks_80 hl (by decide) rfl (fun ls hl => ?_)
            refine lv_iinc (v := (w7_15 + 1)) (lv' := [(7, .int (w7_15 + 1)), (6, .int (if w6_15 < (t23 + t25) then (t23 + t25) else w6_15)), (5, .int (if t21 < w5_15 then t21 else w5_15)), (4, .int (w4_15 + 1)), (8, .ref a17), (0, .ref u0_15), (1, .int u1_15), (2, .int u2_15), (3, .ref u3_15)]) hx hb dX4_addToBlocks_82 hl (k := 8) rfl rfl (by decide) rfl (fun ls hl => ?_)
            refine lv_goto (tgt := 15) hx hb dX4_addToBlocks_85 (by decide) ?_
            exact ih15 _ _ _ _ _ _ _ hf hW (lv_sub hl [5, 6, 7, 8, 3, 2, 1, 0] rfl)
  refine L15 x0 x1 x2 a1 _ ?_ 200 0 t3 0 0 _ _ _ hf hW (lv_sub hl [4, 5, 6, 7, 3, 2, 1, 0] rfl)
  intro zw4_15 zw5_15 zw6_15 zw7_15 H locs ls hf hW hl
  refine lv_iload hx hb dX4_addToBlocks_88 (lv_at hl 4 rfl) ?_
  refine lv_if_le (tgt := 115) hx hb dX4_addToBlocks_90 (by decide) (fun hc => ?_) (fun hc => ?_)
  · replace hf := itp hc hf
    refine lv_aload_n hx hb dX4_addToBlocks_115 rfl (lv_at hl 0 rfl) ?_
    replace hf := bnd hf
    obtain ⟨t27, h28, hf⟩ := hf
    refine g_6_3 X hW hinX4 hF30 h28 dX4_addToBlocks_116 ?_
    refine lv_iload_n hx hb dX4_addToBlocks_119 rfl (lv_at hl 2 rfl) ?_
    refine lv_aload_n hx hb dX4_addToBlocks_120 rfl (lv_at hl 3 rfl) ?_
    replace hf := bnd hf
    obtain ⟨t29, h30, hf⟩ := hf
    refine g_2_0 X hW hinX0 hF337 h30 dX4_addToBlocks_121 ?_
    refine lv_aload_n hx hb dX4_addToBlocks_124 rfl (lv_at hl 3 rfl) ?_
    replace hf := bnd hf
    obtain ⟨t31, h32, hf⟩ := hf
    refine g_2_2 X hW hinX0 hF83 h32 dX4_addToBlocks_125 ?_
    replace hf := bnd hf
    obtain ⟨a33, h34, hf⟩ := hf
    subst h34
    replace hf := bnd hf
    obtain ⟨_, h35, hf⟩ := hf
    replace hf := bnd2 hf
    obtain ⟨t36, m38, h37, hf⟩ := hf
    refine r_callV_ok (μ9 := m38) X hW hl.1 (k_X1_addEmptyBar l hsl G A mu a33 x2 t29 t31 _ h37) gX4_addToBlocks_X1_addEmptyBar rfl (chk_ok h35) (by decide) rfl (by decide +kernel) (n := 3) rfl (by decide) (Nat.le_of_ble_eq_true rfl) dX4_addToBlocks_128 rfl rfl (stk := []) rfl (fun H locs hW => ?_)
    exact r_vret X hr hW (by cases hf; exact ⟨rfl, rfl⟩) (by decide) (by decide) dX4_addToBlocks_131
  · replace hf := itn hc hf
    refine lv_aload_n hx hb dX4_addToBlocks_93 rfl (lv_at hl 0 rfl) ?_
    replace hf := bnd hf
    obtain ⟨t39, h40, hf⟩ := hf
    refine g_6_3 X hW hinX4 hF30 h40 dX4_addToBlocks_94 ?_
    refine lv_iload_n hx hb dX4_addToBlocks_97 rfl (lv_at hl 2 rfl) ?_
    refine lv_iload hx hb dX4_addToBlocks_98 (lv_at hl 4 rfl) ?_
    refine lv_iload hx hb dX4_addToBlocks_100 (lv_at hl 5 rfl) ?_
    refine lv_aload_n hx hb dX4_addToBlocks_102 rfl (lv_at hl 3 rfl) ?_
    replace hf := bnd hf
    obtain ⟨t41, h42, hf⟩ := hf
    refine g_2_0 X hW hinX0 hF337 h42 dX4_addToBlocks_103 ?_
    refine lv_iload hx hb dX4_addToBlocks_106 (lv_at hl 6 rfl) ?_
    refine lv_isub hx hb dX4_addToBlocks_108 ?_
    replace hf := bnd hf
    obtain ⟨a43, h44, hf⟩ := hf
    subst h44
    replace hf := bnd hf
    obtain ⟨_, h45, hf⟩ := hf
    replace hf := bnd2 hf
    obtain ⟨t46, m48, h47, hf⟩ := hf
    refine r_callV_ok (μ9 := m48) X hW hl.1 (k_X1_addBarWithNotes l hsl G A mu a43 x2 zw4_15 zw5_15 (t41 - zw6_15) _ h47) gX4_addToBlocks_X1_addBarWithNotes rfl (chk_ok h45) (by decide) rfl (by decide +kernel) (n := 4) rfl (by decide) (Nat.le_of_ble_eq_true rfl) dX4_addToBlocks_109 rfl rfl (stk := []) rfl (fun H locs hW => ?_)
    refine lv_goto (tgt := 131) hx hb dX4_addToBlocks_112 (by decide) ?_
    exact r_vret X hr hW (by cases hf; exact ⟨rfl, rfl⟩) (by decide) (by decide) dX4_addToBlocks_131

def f_X4_makeBlocks_L17 (u0_17 : Nat) (u1_17 : Int32) (k9 : Mem → Int32 → Option ((Unit) × Mem)) : Nat → Mem → Int32 → Option ((Unit) × Mem)
  | 0, _, _ => none
  | n + 1, mu17, w2_17 => (getQ mu17 6 1 u0_17).bind fun t13 => t13.bind fun a15 => (alen mu17 a15).bind fun t17 => if t17 ≤ w2_17 then (k9 mu17 w2_17) else ((getQ mu17 6 1 u0_17).bind fun t19 => t19.bind fun a21 => (qld mu17 a21 w2_17).bind fun t23 => onl t23 (f_X4_makeBlocks_L17 u0_17 u1_17 k9 n mu17 (w2_17 + 1)) (fun a25 => (chk mu17 6 u0_17).bind fun _ => bi2 (f_X4_addToBlocks mu17 u0_17 u1_17 w2_17 (some a25)) (fun (t27 : (Unit)) m29 => f_X4_makeBlocks_L17 u0_17 u1_17 k9 n m29 (w2_17 + 1))))
def f_X4_makeBlocks (mu : Mem) (x0 : Nat) (x1 : Int32) : Option ((Unit) × Mem) := (getQ mu 6 3 x0).bind fun t1 => (getI mu 6 7 x0).bind fun t3 => (getI mu 6 8 x0).bind fun t5 => t1.bind fun a7 => (chk mu 3 a7).bind fun _ => bi2 (f_X1_begin mu a7 t3 t5) (fun (t10 : (Unit)) m12 => f_X4_makeBlocks_L17 x0 x1 (fun (zmu17 : Mem) (zw2_17 : Int32) => some ((), zmu17)) 200 m12 0)
set_option maxHeartbeats 1000000 in
set_option maxRecDepth 100000 in
theorem k_X4_makeBlocks (l : Launch) (hsl : l.stackTraces = false) (G : GG) (A : Nat → Prop) (mu : Mem) (x0 : Nat) (x1 : Int32) (r : (Unit) × Mem) (hf : f_X4_makeBlocks mu x0 x1 = some r) : Ok l yX4_makeBlocks wsX4_makeBlocks ({ frames := 12, cells := 0, slots := 0, locals := 230 } : Room) [.ref x0, .int x1] G A mu (dP (.inr (rV r.1)) r.2) := by
  refine Ok.start (cc := cX4_makeBlocks) (maxL := 4) (ret := none) rfl (by decide +kernel) hsl (by first | exact Nat.le_of_ble_eq_true rfl | simp [lg_sl, cat_rf, Value.category]) ?_
  intro p e s m args below meth c ls X hr hname hW hl
  have X : BX p l s m args meth c cX4_makeBlocks 4 RX4 wsX4_makeBlocks G A := X
  have hx := X.1
  have hb := X.2.1
  have hts := X.2.2.2.2.1
  have hl : lv_has ls 4 [(0, .ref x0), (1, .int x1)] := hl
  have hinX4 : ∀ w ∈ wsX40, w ∈ wsX4_makeBlocks := by decide +kernel
  have hF17 : (Cond.fieldLink RX4 17 "PartcopyistBench" "bars" "[LPartcopyistBench$Bar;").before args s = true := hts _ (by decide +kernel)
  have hF30 : (Cond.fieldLink RX4 30 "PartcopyistBench" "blocks" "LPartcopyistBench$Blocks;").before args s = true := hts _ (by decide +kernel)
  have hF44 : (Cond.fieldLink RX4 44 "PartcopyistBench" "pagePlaces" "I").before args s = true := hts _ (by decide +kernel)
  have hF47 : (Cond.fieldLink RX4 47 "PartcopyistBench" "turnTicks" "I").before args s = true := hts _ (by decide +kernel)
  unfold f_X4_makeBlocks at hf
  refine lv_aload_n hx hb dX4_makeBlocks_0 rfl (lv_at hl 0 rfl) ?_
  replace hf := bnd hf
  obtain ⟨t1, h2, hf⟩ := hf
  refine g_6_3 X hW hinX4 hF30 h2 dX4_makeBlocks_1 ?_
  refine lv_aload_n hx hb dX4_makeBlocks_4 rfl (lv_at hl 0 rfl) ?_
  replace hf := bnd hf
  obtain ⟨t3, h4, hf⟩ := hf
  refine g_6_7 X hW hinX4 hF44 h4 dX4_makeBlocks_5 ?_
  refine lv_aload_n hx hb dX4_makeBlocks_8 rfl (lv_at hl 0 rfl) ?_
  replace hf := bnd hf
  obtain ⟨t5, h6, hf⟩ := hf
  refine g_6_8 X hW hinX4 hF47 h6 dX4_makeBlocks_9 ?_
  replace hf := bnd hf
  obtain ⟨a7, h8, hf⟩ := hf
  subst h8
  replace hf := bnd hf
  obtain ⟨_, h9, hf⟩ := hf
  replace hf := bnd2 hf
  obtain ⟨t10, m12, h11, hf⟩ := hf
  refine r_callV_ok (μ9 := m12) X hW hl.1 (k_X1_begin l hsl G A mu a7 t3 t5 _ h11) gX4_makeBlocks_X1_begin rfl (chk_ok h9) (by decide) rfl (by decide +kernel) (n := 2) rfl (by decide) (Nat.le_of_ble_eq_true rfl) dX4_makeBlocks_12 rfl rfl (stk := []) rfl (fun H locs hW => ?_)
  refine lv_iconst (v := 0) hx hb dX4_makeBlocks_15 (by decide) ?_
  refine lv_istore_n (lv' := [(2, .int 0), (0, .ref x0), (1, .int x1)]) hx hb dX4_makeBlocks_16 rfl hl (by decide) rfl (fun ls hl => ?_)
  have L17 : ∀ (u0_17 : Nat) (u1_17 : Int32) (k9 : Mem → Int32 → Option ((Unit) × Mem)),
      (∀ (mu17 : Mem) (w2_17 : Int32) (H : Heap) (locs : List Loc) (ls : Array Slot), k9 mu17 w2_17 = some r → MW G A mu17 s.heap H locs → lv_has ls 4 [(0, .ref u0_17), (1, .int u1_17), (2, .int w2_17)] → W p l e ({ frames := 12, cells := 0, slots := 0, locals := 230 } : Room) s m args below meth c H locs 0 0 (QQ below G A (dP (.inr (rV r.1)) r.2) args s 0 0) (F0 m 50 ls [])) →
      ∀ (n : Nat) (mu17 : Mem) (w2_17 : Int32) (H : Heap) (locs : List Loc) (ls : Array Slot), f_X4_makeBlocks_L17 u0_17 u1_17 k9 n mu17 w2_17 = some r → MW G A mu17 s.heap H locs → lv_has ls 4 [(0, .ref u0_17), (1, .int u1_17), (2, .int w2_17)] → W p l e ({ frames := 12, cells := 0, slots := 0, locals := 230 } : Room) s m args below meth c H locs 0 0 (QQ below G A (dP (.inr (rV r.1)) r.2) args s 0 0) (F0 m 17 ls []) := by
    intro u0_17 u1_17 k9 hk17 n
    induction n with
    | zero => intro mu17 w2_17 H locs ls hf hW hl; rw [f_X4_makeBlocks_L17] at hf; cases hf
    | succ n ih17 =>
      intro mu17 w2_17 H locs ls hf hW hl
      rw [f_X4_makeBlocks_L17] at hf
      refine lv_iload_n hx hb dX4_makeBlocks_17 rfl (lv_at hl 2 rfl) ?_
      refine lv_aload_n hx hb dX4_makeBlocks_18 rfl (lv_at hl 0 rfl) ?_
      replace hf := bnd hf
      obtain ⟨t13, h14, hf⟩ := hf
      refine g_6_1 X hW hinX4 hF17 h14 dX4_makeBlocks_19 ?_
      replace hf := bnd hf
      obtain ⟨a15, h16, hf⟩ := hf
      subst h16
      replace hf := bnd hf
      obtain ⟨t17, h18, hf⟩ := hf
      refine r_alen X hW h18 dX4_makeBlocks_22 ?_
      refine lv_icmp_ge (tgt := 50) hx hb dX4_makeBlocks_23 (by decide) (fun hc => ?_) (fun hc => ?_)
      · replace hf := itp hc hf
        exact hk17 _ _ _ _ _ hf hW (lv_sub hl [0, 1, 2] rfl)
      · replace hf := itn hc hf
        refine lv_aload_n hx hb dX4_makeBlocks_26 rfl (lv_at hl 0 rfl) ?_
        replace hf := bnd hf
        obtain ⟨t19, h20, hf⟩ := hf
        refine g_6_1 X hW hinX4 hF17 h20 dX4_makeBlocks_27 ?_
        refine lv_iload_n hx hb dX4_makeBlocks_30 rfl (lv_at hl 2 rfl) ?_
        replace hf := bnd hf
        obtain ⟨a21, h22, hf⟩ := hf
        subst h22
        replace hf := bnd hf
        obtain ⟨t23, h24, hf⟩ := hf
        refine r_qld X hW h24 dX4_makeBlocks_31 ?_
        refine r_astore_nq (lv' := [(3, va_rf t23), (0, .ref u0_17), (1, .int u1_17), (2, .int w2_17)]) hx hb dX4_makeBlocks_32 rfl hl (by decide) rfl (fun ls hl => ?_)
        refine r_aload_nq hx hb dX4_makeBlocks_33 rfl (lv_at hl 0 rfl) ?_
        replace hf := onl_c hf
        rcases hf with ⟨hq, hf⟩ | ⟨a25, hq, hf⟩
        · subst hq
          refine lv_ifnullN (tgt := 44) hx hb dX4_makeBlocks_34 (by decide) ?_
          refine lv_iinc (v := (w2_17 + 1)) (lv' := [(2, .int (w2_17 + 1)), (3, .null), (0, .ref u0_17), (1, .int u1_17)]) hx hb dX4_makeBlocks_44 hl (k := 3) rfl rfl (by decide) rfl (fun ls hl => ?_)
          refine lv_goto (tgt := 17) hx hb dX4_makeBlocks_47 (by decide) ?_
          exact ih17 _ _ _ _ _ hf hW (lv_sub hl [2, 3, 0] rfl)
        · subst hq
          refine lv_ifnull hx hb dX4_makeBlocks_34 ?_
          refine lv_aload_n hx hb dX4_makeBlocks_37 rfl (lv_at hl 1 rfl) ?_
          refine lv_iload_n hx hb dX4_makeBlocks_38 rfl (lv_at hl 2 rfl) ?_
          refine lv_iload_n hx hb dX4_makeBlocks_39 rfl (lv_at hl 3 rfl) ?_
          refine lv_aload_n hx hb dX4_makeBlocks_40 rfl (lv_at hl 0 rfl) ?_
          replace hf := bnd hf
          obtain ⟨_, h26, hf⟩ := hf
          replace hf := bnd2 hf
          obtain ⟨t27, m29, h28, hf⟩ := hf
          refine r_callV_ok (μ9 := m29) X hW hl.1 (k_X4_addToBlocks l hsl G A mu17 u0_17 u1_17 w2_17 (some a25) _ h28) gX4_makeBlocks_X4_addToBlocks rfl (chk_ok h26) (by decide) rfl (by decide +kernel) (n := 3) rfl (by decide) (Nat.le_of_ble_eq_true rfl) dX4_makeBlocks_41 rfl rfl (stk := []) rfl (fun H locs hW => ?_)
          refine lv_iinc (v := (w2_17 + 1)) (lv' := [(2, .int (w2_17 + 1)), (3, .ref a25), (0, .ref u0_17), (1, .int u1_17)]) hx hb dX4_makeBlocks_44 hl (k := 3) rfl rfl (by decide) rfl (fun ls hl => ?_)
          refine lv_goto (tgt := 17) hx hb dX4_makeBlocks_47 (by decide) ?_
          exact ih17 _ _ _ _ _ hf hW (lv_sub hl [2, 3, 0] rfl)
  refine L17 x0 x1 _ ?_ 200 m12 0 _ _ _ hf hW (lv_sub hl [1, 2, 0] rfl)
  intro zmu17 zw2_17 H locs ls hf hW hl
  exact r_vret X hr hW (by cases hf; exact ⟨rfl, rfl⟩) (by decide) (by decide) dX4_makeBlocks_50

def f_X4_fullestOtherPart_L8 (mu : Mem) (u0_8 : Nat) (u1_8 : Int32) (u2_8 : Int32) (k9 : Int32 → Int32 → Int32 → Option (Int32)) : Nat → Int32 → Int32 → Int32 → Option (Int32)
  | 0, _, _, _ => none
  | n + 1, w3_8, w4_8, w5_8 => (getI mu 6 4 u0_8).bind fun t1 => if t1 ≤ w5_8 then (k9 w3_8 w4_8 w5_8) else (if w5_8 = u1_8 then (if 0 ≤ w4_8 then (f_X4_fullestOtherPart_L8 mu u0_8 u1_8 u2_8 k9 n w3_8 w4_8 (w5_8 + 1)) else (f_X4_fullestOtherPart_L8 mu u0_8 u1_8 u2_8 k9 n w5_8 0 (w5_8 + 1))) else ((chk mu 6 u0_8).bind fun _ => (f_X4_countInBar mu u0_8 w5_8 u2_8).bind fun t4 => if t4 ≤ w4_8 then (f_X4_fullestOtherPart_L8 mu u0_8 u1_8 u2_8 k9 n w3_8 w4_8 (w5_8 + 1)) else (f_X4_fullestOtherPart_L8 mu u0_8 u1_8 u2_8 k9 n w5_8 t4 (w5_8 + 1))))
def f_X4_fullestOtherPart (mu : Mem) (x0 : Nat) (x1 : Int32) (x2 : Int32) : Option (Int32) := f_X4_fullestOtherPart_L8 mu x0 x1 x2 (fun (zw3_8 : Int32) (zw4_8 : Int32) (zw5_8 : Int32) => some zw3_8) 200 (-1) 0 0
set_option maxHeartbeats 1000000 in
set_option maxRecDepth 100000 in
theorem k_X4_fullestOtherPart (l : Launch) (hsl : l.stackTraces = false) (G : GG) (A : Nat → Prop) (mu : Mem) (x0 : Nat) (x1 : Int32) (x2 : Int32) (r : Int32) (hf : f_X4_fullestOtherPart mu x0 x1 x2 = some r) : Ok l yX4_fullestOtherPart wsX4_fullestOtherPart ({ frames := 10, cells := 0, slots := 0, locals := 190 } : Room) [.ref x0, .int x1, .int x2] G A mu (dP (.inr (rI r)) mu) := by
  refine Ok.start (cc := cX4_fullestOtherPart) (maxL := 7) (ret := (some .int)) rfl (by decide +kernel) hsl (by first | exact Nat.le_of_ble_eq_true rfl | simp [lg_sl, cat_rf, Value.category]) ?_
  intro p e s m args below meth c ls X hr hname hW hl
  have X : BX p l s m args meth c cX4_fullestOtherPart 7 RX4 wsX4_fullestOtherPart G A := X
  have hx := X.1
  have hb := X.2.1
  have hts := X.2.2.2.2.1
  have hl : lv_has ls 7 [(0, .ref x0), (1, .int x1), (2, .int x2)] := hl
  have hinX4 : ∀ w ∈ wsX40, w ∈ wsX4_fullestOtherPart := by decide +kernel
  have hF34 : (Cond.fieldLink RX4 34 "PartcopyistBench" "partCount" "I").before args s = true := hts _ (by decide +kernel)
  unfold f_X4_fullestOtherPart at hf
  refine lv_iconst (v := (-1)) hx hb dX4_fullestOtherPart_0 (by decide) ?_
  refine lv_istore_n (lv' := [(3, .int (-1)), (0, .ref x0), (1, .int x1), (2, .int x2)]) hx hb dX4_fullestOtherPart_1 rfl hl (by decide) rfl (fun ls hl => ?_)
  refine lv_iconst (v := 0) hx hb dX4_fullestOtherPart_2 (by decide) ?_
  refine lv_istore (lv' := [(4, .int 0), (3, .int (-1)), (0, .ref x0), (1, .int x1), (2, .int x2)]) hx hb dX4_fullestOtherPart_3 hl (by decide) rfl (fun ls hl => ?_)
  refine lv_iconst (v := 0) hx hb dX4_fullestOtherPart_5 (by decide) ?_
  refine lv_istore (lv' := [(5, .int 0), (4, .int 0), (3, .int (-1)), (0, .ref x0), (1, .int x1), (2, .int x2)]) hx hb dX4_fullestOtherPart_6 hl (by decide) rfl (fun ls hl => ?_)
  have L8 : ∀ (u0_8 : Nat) (u1_8 : Int32) (u2_8 : Int32) (k9 : Int32 → Int32 → Int32 → Option (Int32)),
      (∀ (w3_8 : Int32) (w4_8 : Int32) (w5_8 : Int32) (H : Heap) (locs : List Loc) (ls : Array Slot), k9 w3_8 w4_8 w5_8 = some r → MW G A mu s.heap H locs → lv_has ls 7 [(0, .ref u0_8), (1, .int u1_8), (2, .int u2_8), (3, .int w3_8), (4, .int w4_8), (5, .int w5_8)] → W p l e ({ frames := 10, cells := 0, slots := 0, locals := 190 } : Room) s m args below meth c H locs 0 0 (QQ below G A (dP (.inr (rI r)) mu) args s 0 0) (F0 m 56 ls [])) →
      ∀ (n : Nat) (w3_8 : Int32) (w4_8 : Int32) (w5_8 : Int32) (H : Heap) (locs : List Loc) (ls : Array Slot), f_X4_fullestOtherPart_L8 mu u0_8 u1_8 u2_8 k9 n w3_8 w4_8 w5_8 = some r → MW G A mu s.heap H locs → lv_has ls 7 [(0, .ref u0_8), (1, .int u1_8), (2, .int u2_8), (3, .int w3_8), (4, .int w4_8), (5, .int w5_8)] → W p l e ({ frames := 10, cells := 0, slots := 0, locals := 190 } : Room) s m args below meth c H locs 0 0 (QQ below G A (dP (.inr (rI r)) mu) args s 0 0) (F0 m 8 ls []) := by
    intro u0_8 u1_8 u2_8 k9 hk8 n
    induction n with
    | zero => intro w3_8 w4_8 w5_8 H locs ls hf hW hl; rw [f_X4_fullestOtherPart_L8] at hf; cases hf
    | succ n ih8 =>
      intro w3_8 w4_8 w5_8 H locs ls hf hW hl
      rw [f_X4_fullestOtherPart_L8] at hf
      refine lv_iload hx hb dX4_fullestOtherPart_8 (lv_at hl 5 rfl) ?_
      refine lv_aload_n hx hb dX4_fullestOtherPart_10 rfl (lv_at hl 0 rfl) ?_
      replace hf := bnd hf
      obtain ⟨t1, h2, hf⟩ := hf
      refine g_6_4 X hW hinX4 hF34 h2 dX4_fullestOtherPart_11 ?_
      refine lv_icmp_ge (tgt := 56) hx hb dX4_fullestOtherPart_14 (by decide) (fun hc => ?_) (fun hc => ?_)
      · replace hf := itp hc hf
        exact hk8 _ _ _ _ _ _ hf hW (lv_sub hl [0, 1, 2, 3, 4, 5] rfl)
      · replace hf := itn hc hf
        refine lv_iload hx hb dX4_fullestOtherPart_17 (lv_at hl 5 rfl) ?_
        refine lv_iload_n hx hb dX4_fullestOtherPart_19 rfl (lv_at hl 1 rfl) ?_
        refine lv_icmp_ne (tgt := 27) hx hb dX4_fullestOtherPart_20 (by decide) (fun hc => ?_) (fun hc => ?_)
        · replace hf := itn hc hf
          refine lv_aload_n hx hb dX4_fullestOtherPart_27 rfl (lv_at hl 0 rfl) ?_
          refine lv_iload hx hb dX4_fullestOtherPart_28 (lv_at hl 5 rfl) ?_
          refine lv_iload_n hx hb dX4_fullestOtherPart_30 rfl (lv_at hl 2 rfl) ?_
          replace hf := bnd hf
          obtain ⟨_, h3, hf⟩ := hf
          replace hf := bnd hf
          obtain ⟨t4, h5, hf⟩ := hf
          refine r_callV_ok X hW hl.1 (k_X4_countInBar l hsl G A mu u0_8 w5_8 u2_8 _ h5) gX4_fullestOtherPart_X4_countInBar rfl (chk_ok h3) (by decide) rfl (by decide +kernel) (n := 2) rfl (by decide) (Nat.le_of_ble_eq_true rfl) dX4_fullestOtherPart_31 rfl rfl (stk := [.int t4]) rfl (fun H locs hW => ?_)
          refine lv_istore (lv' := [(6, .int t4), (0, .ref u0_8), (1, .int u1_8), (2, .int u2_8), (3, .int w3_8), (4, .int w4_8), (5, .int w5_8)]) hx hb dX4_fullestOtherPart_34 hl (by decide) rfl (fun ls hl => ?_)
          refine lv_iload hx hb dX4_fullestOtherPart_36 (lv_at hl 0 rfl) ?_
          refine lv_iload hx hb dX4_fullestOtherPart_38 (lv_at hl 5 rfl) ?_
          refine lv_icmp_le (tgt := 50) hx hb dX4_fullestOtherPart_40 (by decide) (fun hc => ?_) (fun hc => ?_)
          · replace hf := itp hc hf
            refine lv_iinc (v := (w5_8 + 1)) (lv' := [(5, .int (w5_8 + 1)), (6, .int t4), (0, .ref u0_8), (1, .int u1_8), (2, .int u2_8), (3, .int w3_8), (4, .int w4_8)]) hx hb dX4_fullestOtherPart_50 hl (k := 6) rfl rfl (by decide) rfl (fun ls hl => ?_)
            refine lv_goto (tgt := 8) hx hb dX4_fullestOtherPart_53 (by decide) ?_
            exact ih8 _ _ _ _ _ _ hf hW (lv_sub hl [2, 3, 4, 5, 6, 0] rfl)
          · replace hf := itn hc hf
            refine lv_iload hx hb dX4_fullestOtherPart_43 (lv_at hl 0 rfl) ?_
            refine lv_istore (lv' := [(4, .int t4), (6, .int t4), (0, .ref u0_8), (1, .int u1_8), (2, .int u2_8), (3, .int w3_8), (5, .int w5_8)]) hx hb dX4_fullestOtherPart_45 hl (by decide) rfl (fun ls hl => ?_)
            refine lv_iload hx hb dX4_fullestOtherPart_47 (lv_at hl 6 rfl) ?_
            refine lv_istore_n (lv' := [(3, .int w5_8), (4, .int t4), (6, .int t4), (0, .ref u0_8), (1, .int u1_8), (2, .int u2_8), (5, .int w5_8)]) hx hb dX4_fullestOtherPart_49 rfl hl (by decide) rfl (fun ls hl => ?_)
            refine lv_iinc (v := (w5_8 + 1)) (lv' := [(5, .int (w5_8 + 1)), (3, .int w5_8), (4, .int t4), (6, .int t4), (0, .ref u0_8), (1, .int u1_8), (2, .int u2_8)]) hx hb dX4_fullestOtherPart_50 hl (k := 6) rfl rfl (by decide) rfl (fun ls hl => ?_)
            refine lv_goto (tgt := 8) hx hb dX4_fullestOtherPart_53 (by decide) ?_
            exact ih8 _ _ _ _ _ _ hf hW (lv_sub hl [4, 5, 6, 1, 2, 0] rfl)
        · replace hf := itp hc hf
          refine lv_iconst (v := 0) hx hb dX4_fullestOtherPart_23 (by decide) ?_
          refine lv_goto (tgt := 34) hx hb dX4_fullestOtherPart_24 (by decide) ?_
          refine lv_istore (lv' := [(6, .int 0), (0, .ref u0_8), (1, .int u1_8), (2, .int u2_8), (3, .int w3_8), (4, .int w4_8), (5, .int w5_8)]) hx hb dX4_fullestOtherPart_34 hl (by decide) rfl (fun ls hl => ?_)
          refine lv_iload hx hb dX4_fullestOtherPart_36 (lv_at hl 0 rfl) ?_
          refine lv_iload hx hb dX4_fullestOtherPart_38 (lv_at hl 5 rfl) ?_
          refine lv_icmp_le (tgt := 50) hx hb dX4_fullestOtherPart_40 (by decide) (fun hc => ?_) (fun hc => ?_)
          · replace hf := itp hc hf
            refine lv_iinc (v := (w5_8 + 1)) (lv' := [(5, .int (w5_8 + 1)), (6, .int 0), (0, .ref u0_8), (1, .int u1_8), (2, .int u2_8), (3, .int w3_8), (4, .int w4_8)]) hx hb dX4_fullestOtherPart_50 hl (k := 6) rfl rfl (by decide) rfl (fun ls hl => ?_)
            refine lv_goto (tgt := 8) hx hb dX4_fullestOtherPart_53 (by decide) ?_
            exact ih8 _ _ _ _ _ _ hf hW (lv_sub hl [2, 3, 4, 5, 6, 0] rfl)
          · replace hf := itn hc hf
            refine lv_iload hx hb dX4_fullestOtherPart_43 (lv_at hl 0 rfl) ?_
            refine lv_istore (lv' := [(4, .int 0), (6, .int 0), (0, .ref u0_8), (1, .int u1_8), (2, .int u2_8), (3, .int w3_8), (5, .int w5_8)]) hx hb dX4_fullestOtherPart_45 hl (by decide) rfl (fun ls hl => ?_)
            refine lv_iload hx hb dX4_fullestOtherPart_47 (lv_at hl 6 rfl) ?_
            refine lv_istore_n (lv' := [(3, .int w5_8), (4, .int 0), (6, .int 0), (0, .ref u0_8), (1, .int u1_8), (2, .int u2_8), (5, .int w5_8)]) hx hb dX4_fullestOtherPart_49 rfl hl (by decide) rfl (fun ls hl => ?_)
            refine lv_iinc (v := (w5_8 + 1)) (lv' := [(5, .int (w5_8 + 1)), (3, .int w5_8), (4, .int 0), (6, .int 0), (0, .ref u0_8), (1, .int u1_8), (2, .int u2_8)]) hx hb dX4_fullestOtherPart_50 hl (k := 6) rfl rfl (by decide) rfl (fun ls hl => ?_)
            refine lv_goto (tgt := 8) hx hb dX4_fullestOtherPart_53 (by decide) ?_
            exact ih8 _ _ _ _ _ _ hf hW (lv_sub hl [4, 5, 6, 1, 2, 0] rfl)
  refine L8 x0 x1 x2 _ ?_ 200 (-1) 0 0 _ _ _ hf hW (lv_sub hl [3, 4, 5, 2, 1, 0] rfl)
  intro zw3_8 zw4_8 zw5_8 H locs ls hf hW hl
  refine lv_iload_n hx hb dX4_fullestOtherPart_56 rfl (lv_at hl 3 rfl) ?_
  exact r_iret X hr hW (by cases hf; exact ⟨rfl, rfl⟩) (by decide) (by decide) dX4_fullestOtherPart_57

def f_X4_bringCopyUpToDate_L2 (u0_2 : Nat) (u1_2 : Int32) (k9 : Mem → Int32 → Option ((Unit) × Mem)) : Nat → Mem → Int32 → Option ((Unit) × Mem)
  | 0, _, _ => none
  | n + 1, mu2, w2_2 => (getQ mu2 6 2 u0_2).bind fun t1 => t1.bind fun a3 => (alen mu2 a3).bind fun t5 => if t5 ≤ w2_2 then (k9 mu2 w2_2) else ((getQ mu2 6 2 u0_2).bind fun t7 => t7.bind fun a9 => (qld mu2 a9 w2_2).bind fun t11 => onl t11 (f_X4_bringCopyUpToDate_L2 u0_2 u1_2 k9 n mu2 (w2_2 + 1)) (fun a13 => (getI mu2 4 0 a13).bind fun t14 => if t14 = u1_2 then ((chk mu2 4 a13).bind fun _ => bi2 (f_X2_enterCopy mu2 a13) (fun (t17 : (Unit)) m19 => f_X4_bringCopyUpToDate_L2 u0_2 u1_2 k9 n m19 (w2_2 + 1))) else (f_X4_bringCopyUpToDate_L2 u0_2 u1_2 k9 n mu2 (w2_2 + 1))))
def f_X4_bringCopyUpToDate (mu : Mem) (x0 : Nat) (x1 : Int32) : Option ((Unit) × Mem) := f_X4_bringCopyUpToDate_L2 x0 x1 (fun (zmu2 : Mem) (zw2_2 : Int32) => some ((), zmu2)) 200 mu 0
set_option maxHeartbeats 1000000 in
set_option maxRecDepth 100000 in
theorem k_X4_bringCopyUpToDate (l : Launch) (hsl : l.stackTraces = false) (G : GG) (A : Nat → Prop) (mu : Mem) (x0 : Nat) (x1 : Int32) (r : (Unit) × Mem) (hf : f_X4_bringCopyUpToDate mu x0 x1 = some r) : Ok l yX4_bringCopyUpToDate wsX4_bringCopyUpToDate ({ frames := 8, cells := 0, slots := 0, locals := 150 } : Room) [.ref x0, .int x1] G A mu (dP (.inr (rV r.1)) r.2) := by
  refine Ok.start (cc := cX4_bringCopyUpToDate) (maxL := 4) (ret := none) rfl (by decide +kernel) hsl (by first | exact Nat.le_of_ble_eq_true rfl | simp [lg_sl, cat_rf, Value.category]) ?_
  intro p e s m args below meth c ls X hr hname hW hl
  have X : BX p l s m args meth c cX4_bringCopyUpToDate 4 RX4 wsX4_bringCopyUpToDate G A := X
  have hx := X.1
  have hb := X.2.1
  have hts := X.2.2.2.2.1
  have hl : lv_has ls 4 [(0, .ref x0), (1, .int x1)] := hl
  have hinX2 : ∀ w ∈ wsX20, w ∈ wsX4_bringCopyUpToDate := by decide +kernel
  have hinX4 : ∀ w ∈ wsX40, w ∈ wsX4_bringCopyUpToDate := by decide +kernel
  have hF150 : (Cond.fieldLink RX4 150 "PartcopyistBench$Note" "part" "I").before args s = true := hts _ (by decide +kernel)
  have hF23 : (Cond.fieldLink RX4 23 "PartcopyistBench" "notes" "[LPartcopyistBench$Note;").before args s = true := hts _ (by decide +kernel)
  unfold f_X4_bringCopyUpToDate at hf
  refine lv_iconst (v := 0) hx hb dX4_bringCopyUpToDate_0 (by decide) ?_
  refine lv_istore_n (lv' := [(2, .int 0), (0, .ref x0), (1, .int x1)]) hx hb dX4_bringCopyUpToDate_1 rfl hl (by decide) rfl (fun ls hl => ?_)
  have L2 : ∀ (u0_2 : Nat) (u1_2 : Int32) (k9 : Mem → Int32 → Option ((Unit) × Mem)),
      (∀ (mu2 : Mem) (w2_2 : Int32) (H : Heap) (locs : List Loc) (ls : Array Slot), k9 mu2 w2_2 = some r → MW G A mu2 s.heap H locs → lv_has ls 4 [(0, .ref u0_2), (1, .int u1_2), (2, .int w2_2)] → W p l e ({ frames := 8, cells := 0, slots := 0, locals := 150 } : Room) s m args below meth c H locs 0 0 (QQ below G A (dP (.inr (rV r.1)) r.2) args s 0 0) (F0 m 40 ls [])) →
      ∀ (n : Nat) (mu2 : Mem) (w2_2 : Int32) (H : Heap) (locs : List Loc) (ls : Array Slot), f_X4_bringCopyUpToDate_L2 u0_2 u1_2 k9 n mu2 w2_2 = some r → MW G A mu2 s.heap H locs → lv_has ls 4 [(0, .ref u0_2), (1, .int u1_2), (2, .int w2_2)] → W p l e ({ frames := 8, cells := 0, slots := 0, locals := 150 } : Room) s m args below meth c H locs 0 0 (QQ below G A (dP (.inr (rV r.1)) r.2) args s 0 0) (F0 m 2 ls []) := by
    intro u0_2 u1_2 k9 hk2 n
    induction n with
    | zero => intro mu2 w2_2 H locs ls hf hW hl; rw [f_X4_bringCopyUpToDate_L2] at hf; cases hf
    | succ n ih2 =>
      intro mu2 w2_2 H locs ls hf hW hl
      rw [f_X4_bringCopyUpToDate_L2] at hf
      refine lv_iload_n hx hb dX4_bringCopyUpToDate_2 rfl (lv_at hl 2 rfl) ?_
      refine lv_aload_n hx hb dX4_bringCopyUpToDate_3 rfl (lv_at hl 0 rfl) ?_
      replace hf := bnd hf
      obtain ⟨t1, h2, hf⟩ := hf
      refine g_6_2 X hW hinX4 hF23 h2 dX4_bringCopyUpToDate_4 ?_
      replace hf := bnd hf
      obtain ⟨a3, h4, hf⟩ := hf
      subst h4
      replace hf := bnd hf
      obtain ⟨t5, h6, hf⟩ := hf
      refine r_alen X hW h6 dX4_bringCopyUpToDate_7 ?_
      refine lv_icmp_ge (tgt := 40) hx hb dX4_bringCopyUpToDate_8 (by decide) (fun hc => ?_) (fun hc => ?_)
      · replace hf := itp hc hf
        exact hk2 _ _ _ _ _ hf hW (lv_sub hl [0, 1, 2] rfl)
      · replace hf := itn hc hf
        refine lv_aload_n hx hb dX4_bringCopyUpToDate_11 rfl (lv_at hl 0 rfl) ?_
        replace hf := bnd hf
        obtain ⟨t7, h8, hf⟩ := hf
        refine g_6_2 X hW hinX4 hF23 h8 dX4_bringCopyUpToDate_12 ?_
        refine lv_iload_n hx hb dX4_bringCopyUpToDate_15 rfl (lv_at hl 2 rfl) ?_
        replace hf := bnd hf
        obtain ⟨a9, h10, hf⟩ := hf
        subst h10
        replace hf := bnd hf
        obtain ⟨t11, h12, hf⟩ := hf
        refine r_qld X hW h12 dX4_bringCopyUpToDate_16 ?_
        refine r_astore_nq (lv' := [(3, va_rf t11), (0, .ref u0_2), (1, .int u1_2), (2, .int w2_2)]) hx hb dX4_bringCopyUpToDate_17 rfl hl (by decide) rfl (fun ls hl => ?_)
        refine r_aload_nq hx hb dX4_bringCopyUpToDate_18 rfl (lv_at hl 0 rfl) ?_
        replace hf := onl_c hf
        rcases hf with ⟨hq, hf⟩ | ⟨a13, hq, hf⟩
        · subst hq
          refine lv_ifnullN (tgt := 34) hx hb dX4_bringCopyUpToDate_19 (by decide) ?_
          refine lv_iinc (v := (w2_2 + 1)) (lv' := [(2, .int (w2_2 + 1)), (3, .null), (0, .ref u0_2), (1, .int u1_2)]) hx hb dX4_bringCopyUpToDate_34 hl (k := 3) rfl rfl (by decide) rfl (fun ls hl => ?_)
          refine lv_goto (tgt := 2) hx hb dX4_bringCopyUpToDate_37 (by decide) ?_
          exact ih2 _ _ _ _ _ hf hW (lv_sub hl [2, 3, 0] rfl)
        · subst hq
          refine lv_ifnull hx hb dX4_bringCopyUpToDate_19 ?_
          refine lv_aload_n hx hb dX4_bringCopyUpToDate_22 rfl (lv_at hl 0 rfl) ?_
          replace hf := bnd hf
          obtain ⟨t14, h15, hf⟩ := hf
          refine g_4_0 X hW hinX2 hF150 h15 dX4_bringCopyUpToDate_23 ?_
          refine lv_iload_n hx hb dX4_bringCopyUpToDate_26 rfl (lv_at hl 2 rfl) ?_
          refine lv_icmp_ne (tgt := 34) hx hb dX4_bringCopyUpToDate_27 (by decide) (fun hc => ?_) (fun hc => ?_)
          · replace hf := itn hc hf
            refine lv_iinc (v := (w2_2 + 1)) (lv' := [(2, .int (w2_2 + 1)), (3, .ref a13), (0, .ref u0_2), (1, .int u1_2)]) hx hb dX4_bringCopyUpToDate_34 hl (k := 3) rfl rfl (by decide) rfl (fun ls hl => ?_)
            refine lv_goto (tgt := 2) hx hb dX4_bringCopyUpToDate_37 (by decide) ?_
            exact ih2 _ _ _ _ _ hf hW (lv_sub hl [2, 3, 0] rfl)
          · replace hf := itp hc hf
            refine lv_aload_n hx hb dX4_bringCopyUpToDate_30 rfl (lv_at hl 0 rfl) ?_
            replace hf := bnd hf
            obtain ⟨_, h16, hf⟩ := hf
            replace hf := bnd2 hf
            obtain ⟨t17, m19, h18, hf⟩ := hf
            refine r_callV_ok (μ9 := m19) X hW hl.1 (k_X2_enterCopy l hsl G A mu2 a13 _ h18) gX4_bringCopyUpToDate_X2_enterCopy rfl (chk_ok h16) (by decide) rfl (by decide +kernel) (n := 0) rfl (by decide) (Nat.le_of_ble_eq_true rfl) dX4_bringCopyUpToDate_31 rfl rfl (stk := []) rfl (fun H locs hW => ?_)
            refine lv_iinc (v := (w2_2 + 1)) (lv' := [(2, .int (w2_2 + 1)), (3, .ref a13), (0, .ref u0_2), (1, .int u1_2)]) hx hb dX4_bringCopyUpToDate_34 hl (k := 3) rfl rfl (by decide) rfl (fun ls hl => ?_)
            refine lv_goto (tgt := 2) hx hb dX4_bringCopyUpToDate_37 (by decide) ?_
            exact ih2 _ _ _ _ _ hf hW (lv_sub hl [2, 3, 0] rfl)
  refine L2 x0 x1 _ ?_ 200 mu 0 _ _ _ hf hW (lv_sub hl [1, 2, 0] rfl)
  intro zmu2 zw2_2 H locs ls hf hW hl
  exact r_vret X hr hW (by cases hf; exact ⟨rfl, rfl⟩) (by decide) (by decide) dX4_bringCopyUpToDate_40

def f_X4_touchedDifferences_L4 (mu : Mem) (u0_4 : Nat) (u1_4 : Int32) (k9 : Int32 → Int32 → Option (Int32)) : Nat → Int32 → Int32 → Option (Int32)
  | 0, _, _ => none
  | n + 1, w2_4, w3_4 => (getQ mu 6 2 u0_4).bind fun t1 => t1.bind fun a3 => (alen mu a3).bind fun t5 => if t5 ≤ w3_4 then (k9 w2_4 w3_4) else ((getQ mu 6 2 u0_4).bind fun t7 => t7.bind fun a9 => (qld mu a9 w3_4).bind fun t11 => onl t11 (f_X4_touchedDifferences_L4 mu u0_4 u1_4 k9 n w2_4 (w3_4 + 1)) (fun a13 => (getI mu 4 0 a13).bind fun t14 => if t14 = u1_4 then ((getI mu 4 10 a13).bind fun t16 => if t16 = 0 then (f_X4_touchedDifferences_L4 mu u0_4 u1_4 k9 n w2_4 (w3_4 + 1)) else ((chk mu 4 a13).bind fun _ => (f_X2_differs mu a13).bind fun t19 => if t19 = 0 then (f_X4_touchedDifferences_L4 mu u0_4 u1_4 k9 n w2_4 (w3_4 + 1)) else (f_X4_touchedDifferences_L4 mu u0_4 u1_4 k9 n (w2_4 + 1) (w3_4 + 1)))) else (f_X4_touchedDifferences_L4 mu u0_4 u1_4 k9 n w2_4 (w3_4 + 1))))
def f_X4_touchedDifferences (mu : Mem) (x0 : Nat) (x1 : Int32) : Option (Int32) := f_X4_touchedDifferences_L4 mu x0 x1 (fun (zw2_4 : Int32) (zw3_4 : Int32) => some zw2_4) 200 0 0
set_option maxHeartbeats 1000000 in
set_option maxRecDepth 100000 in
theorem k_X4_touchedDifferences (l : Launch) (hsl : l.stackTraces = false) (G : GG) (A : Nat → Prop) (mu : Mem) (x0 : Nat) (x1 : Int32) (r : Int32) (hf : f_X4_touchedDifferences mu x0 x1 = some r) : Ok l yX4_touchedDifferences wsX4_touchedDifferences ({ frames := 8, cells := 0, slots := 0, locals := 150 } : Room) [.ref x0, .int x1] G A mu (dP (.inr (rI r)) mu) := by
  refine Ok.start (cc := cX4_touchedDifferences) (maxL := 5) (ret := (some .int)) rfl (by decide +kernel) hsl (by first | exact Nat.le_of_ble_eq_true rfl | simp [lg_sl, cat_rf, Value.category]) ?_
  intro p e s m args below meth c ls X hr hname hW hl
  have X : BX p l s m args meth c cX4_touchedDifferences 5 RX4 wsX4_touchedDifferences G A := X
  have hx := X.1
  have hb := X.2.1
  have hts := X.2.2.2.2.1
  have hl : lv_has ls 5 [(0, .ref x0), (1, .int x1)] := hl
  have hinX2 : ∀ w ∈ wsX20, w ∈ wsX4_touchedDifferences := by decide +kernel
  have hinX4 : ∀ w ∈ wsX40, w ∈ wsX4_touchedDifferences := by decide +kernel
  have hF128 : (Cond.fieldLink RX4 128 "PartcopyistBench$Note" "isTouched" "Z").before args s = true := hts _ (by decide +kernel)
  have hF150 : (Cond.fieldLink RX4 150 "PartcopyistBench$Note" "part" "I").before args s = true := hts _ (by decide +kernel)
  have hF23 : (Cond.fieldLink RX4 23 "PartcopyistBench" "notes" "[LPartcopyistBench$Note;").before args s = true := hts _ (by decide +kernel)
  unfold f_X4_touchedDifferences at hf
  refine lv_iconst (v := 0) hx hb dX4_touchedDifferences_0 (by decide) ?_
  refine lv_istore_n (lv' := [(2, .int 0), (0, .ref x0), (1, .int x1)]) hx hb dX4_touchedDifferences_1 rfl hl (by decide) rfl (fun ls hl => ?_)
  refine lv_iconst (v := 0) hx hb dX4_touchedDifferences_2 (by decide) ?_
  refine lv_istore_n (lv' := [(3, .int 0), (2, .int 0), (0, .ref x0), (1, .int x1)]) hx hb dX4_touchedDifferences_3 rfl hl (by decide) rfl (fun ls hl => ?_)
  have L4 : ∀ (u0_4 : Nat) (u1_4 : Int32) (k9 : Int32 → Int32 → Option (Int32)),
      (∀ (w2_4 : Int32) (w3_4 : Int32) (H : Heap) (locs : List Loc) (ls : Array Slot), k9 w2_4 w3_4 = some r → MW G A mu s.heap H locs → lv_has ls 5 [(0, .ref u0_4), (1, .int u1_4), (2, .int w2_4), (3, .int w3_4)] → W p l e ({ frames := 8, cells := 0, slots := 0, locals := 150 } : Room) s m args below meth c H locs 0 0 (QQ below G A (dP (.inr (rI r)) mu) args s 0 0) (F0 m 60 ls [])) →
      ∀ (n : Nat) (w2_4 : Int32) (w3_4 : Int32) (H : Heap) (locs : List Loc) (ls : Array Slot), f_X4_touchedDifferences_L4 mu u0_4 u1_4 k9 n w2_4 w3_4 = some r → MW G A mu s.heap H locs → lv_has ls 5 [(0, .ref u0_4), (1, .int u1_4), (2, .int w2_4), (3, .int w3_4)] → W p l e ({ frames := 8, cells := 0, slots := 0, locals := 150 } : Room) s m args below meth c H locs 0 0 (QQ below G A (dP (.inr (rI r)) mu) args s 0 0) (F0 m 4 ls []) := by
    intro u0_4 u1_4 k9 hk4 n
    induction n with
    | zero => intro w2_4 w3_4 H locs ls hf hW hl; rw [f_X4_touchedDifferences_L4] at hf; cases hf
    | succ n ih4 =>
      intro w2_4 w3_4 H locs ls hf hW hl
      rw [f_X4_touchedDifferences_L4] at hf
      refine lv_iload_n hx hb dX4_touchedDifferences_4 rfl (lv_at hl 3 rfl) ?_
      refine lv_aload_n hx hb dX4_touchedDifferences_5 rfl (lv_at hl 0 rfl) ?_
      replace hf := bnd hf
      obtain ⟨t1, h2, hf⟩ := hf
      refine g_6_2 X hW hinX4 hF23 h2 dX4_touchedDifferences_6 ?_
      replace hf := bnd hf
      obtain ⟨a3, h4, hf⟩ := hf
      subst h4
      replace hf := bnd hf
      obtain ⟨t5, h6, hf⟩ := hf
      refine r_alen X hW h6 dX4_touchedDifferences_9 ?_
      refine lv_icmp_ge (tgt := 60) hx hb dX4_touchedDifferences_10 (by decide) (fun hc => ?_) (fun hc => ?_)
      · replace hf := itp hc hf
        exact hk4 _ _ _ _ _ hf hW (lv_sub hl [0, 1, 2, 3] rfl)
      · replace hf := itn hc hf
        refine lv_aload_n hx hb dX4_touchedDifferences_13 rfl (lv_at hl 0 rfl) ?_
        replace hf := bnd hf
        obtain ⟨t7, h8, hf⟩ := hf
        refine g_6_2 X hW hinX4 hF23 h8 dX4_touchedDifferences_14 ?_
        refine lv_iload_n hx hb dX4_touchedDifferences_17 rfl (lv_at hl 3 rfl) ?_
        replace hf := bnd hf
        obtain ⟨a9, h10, hf⟩ := hf
        subst h10
        replace hf := bnd hf
        obtain ⟨t11, h12, hf⟩ := hf
        refine r_qld X hW h12 dX4_touchedDifferences_18 ?_
        refine r_astoreq (lv' := [(4, va_rf t11), (0, .ref u0_4), (1, .int u1_4), (2, .int w2_4), (3, .int w3_4)]) hx hb dX4_touchedDifferences_19 hl (by decide) rfl (fun ls hl => ?_)
        refine r_aloadq hx hb dX4_touchedDifferences_21 (lv_at hl 0 rfl) ?_
        replace hf := onl_c hf
        rcases hf with ⟨hq, hf⟩ | ⟨a13, hq, hf⟩
        · subst hq
          refine lv_ifnullN (tgt := 54) hx hb dX4_touchedDifferences_23 (by decide) ?_
          refine lv_iinc (v := (w3_4 + 1)) (lv' := [(3, .int (w3_4 + 1)), (4, .null), (0, .ref u0_4), (1, .int u1_4), (2, .int w2_4)]) hx hb dX4_touchedDifferences_54 hl (k := 4) rfl rfl (by decide) rfl (fun ls hl => ?_)
          refine lv_goto (tgt := 4) hx hb dX4_touchedDifferences_57 (by decide) ?_
          exact ih4 _ _ _ _ _ hf hW (lv_sub hl [2, 3, 4, 0] rfl)
        · subst hq
          refine lv_ifnull hx hb dX4_touchedDifferences_23 ?_
          refine lv_aload hx hb dX4_touchedDifferences_26 (lv_at hl 0 rfl) ?_
          replace hf := bnd hf
          obtain ⟨t14, h15, hf⟩ := hf
          refine g_4_0 X hW hinX2 hF150 h15 dX4_touchedDifferences_28 ?_
          refine lv_iload_n hx hb dX4_touchedDifferences_31 rfl (lv_at hl 2 rfl) ?_
          refine lv_icmp_ne (tgt := 54) hx hb dX4_touchedDifferences_32 (by decide) (fun hc => ?_) (fun hc => ?_)
          · replace hf := itn hc hf
            refine lv_iinc (v := (w3_4 + 1)) (lv' := [(3, .int (w3_4 + 1)), (4, .ref a13), (0, .ref u0_4), (1, .int u1_4), (2, .int w2_4)]) hx hb dX4_touchedDifferences_54 hl (k := 4) rfl rfl (by decide) rfl (fun ls hl => ?_)
            refine lv_goto (tgt := 4) hx hb dX4_touchedDifferences_57 (by decide) ?_
            exact ih4 _ _ _ _ _ hf hW (lv_sub hl [2, 3, 4, 0] rfl)
          · replace hf := itp hc hf
            refine lv_aload hx hb dX4_touchedDifferences_35 (lv_at hl 0 rfl) ?_
            replace hf := bnd hf
            obtain ⟨t16, h17, hf⟩ := hf
            refine g_4_10 X hW hinX2 hF128 h17 dX4_touchedDifferences_37 ?_
            refine lv_if_eq (tgt := 54) hx hb dX4_touchedDifferences_40 (by decide) (fun hc => ?_) (fun hc => ?_)
            · replace hf := itp hc hf
              refine lv_iinc (v := (w3_4 + 1)) (lv' := [(3, .int (w3_4 + 1)), (4, .ref a13), (0, .ref u0_4), (1, .int u1_4), (2, .int w2_4)]) hx hb dX4_touchedDifferences_54 hl (k := 4) rfl rfl (by decide) rfl (fun ls hl => ?_)
              refine lv_goto (tgt := 4) hx hb dX4_touchedDifferences_57 (by decide) ?_
              exact ih4 _ _ _ _ _ hf hW (lv_sub hl [2, 3, 4, 0] rfl)
            · replace hf := itn hc hf
              refine lv_aload hx hb dX4_touchedDifferences_43 (lv_at hl 0 rfl) ?_
              replace hf := bnd hf
              obtain ⟨_, h18, hf⟩ := hf
              replace hf := bnd hf
              obtain ⟨t19, h20, hf⟩ := hf
              refine r_callV_ok X hW hl.1 (k_X2_differs l hsl G A mu a13 _ h20) gX4_touchedDifferences_X2_differs rfl (chk_ok h18) (by decide) rfl (by decide +kernel) (n := 0) rfl (by decide) (Nat.le_of_ble_eq_true rfl) dX4_touchedDifferences_45 rfl rfl (stk := [.int t19]) rfl (fun H locs hW => ?_)
              refine lv_if_eq (tgt := 54) hx hb dX4_touchedDifferences_48 (by decide) (fun hc => ?_) (fun hc => ?_)
              · replace hf := itp hc hf
                refine lv_iinc (v := (w3_4 + 1)) (lv' := [(3, .int (w3_4 + 1)), (4, .ref a13), (0, .ref u0_4), (1, .int u1_4), (2, .int w2_4)]) hx hb dX4_touchedDifferences_54 hl (k := 4) rfl rfl (by decide) rfl (fun ls hl => ?_)
                refine lv_goto (tgt := 4) hx hb dX4_touchedDifferences_57 (by decide) ?_
                exact ih4 _ _ _ _ _ hf hW (lv_sub hl [2, 3, 4, 0] rfl)
              · replace hf := itn hc hf
                refine lv_iinc (v := (w2_4 + 1)) (lv' := [(2, .int (w2_4 + 1)), (4, .ref a13), (0, .ref u0_4), (1, .int u1_4), (3, .int w3_4)]) hx hb dX4_touchedDifferences_51 hl (k := 3) rfl rfl (by decide) rfl (fun ls hl => ?_)
                refine lv_iinc (v := (w3_4 + 1)) (lv' := [(3, .int (w3_4 + 1)), (2, .int (w2_4 + 1)), (4, .ref a13), (0, .ref u0_4), (1, .int u1_4)]) hx hb dX4_touchedDifferences_54 hl (k := 4) rfl rfl (by decide) rfl (fun ls hl => ?_)
                refine lv_goto (tgt := 4) hx hb dX4_touchedDifferences_57 (by decide) ?_
                exact ih4 _ _ _ _ _ hf hW (lv_sub hl [3, 4, 1, 0] rfl)
  refine L4 x0 x1 _ ?_ 200 0 0 _ _ _ hf hW (lv_sub hl [2, 3, 1, 0] rfl)
  intro zw2_4 zw3_4 H locs ls hf hW hl
  refine lv_iload_n hx hb dX4_touchedDifferences_60 rfl (lv_at hl 2 rfl) ?_
  exact r_iret X hr hW (by cases hf; exact ⟨rfl, rfl⟩) (by decide) (by decide) dX4_touchedDifferences_61

def f_X4_comparedDifferences_L4 (mu : Mem) (u0_4 : Nat) (u1_4 : Int32) (k9 : Int32 → Int32 → Option (Int32)) : Nat → Int32 → Int32 → Option (Int32)
  | 0, _, _ => none
  | n + 1, w2_4, w3_4 => (getQ mu 6 2 u0_4).bind fun t1 => t1.bind fun a3 => (alen mu a3).bind fun t5 => if t5 ≤ w3_4 then (k9 w2_4 w3_4) else ((getQ mu 6 2 u0_4).bind fun t7 => t7.bind fun a9 => (qld mu a9 w3_4).bind fun t11 => onl t11 (f_X4_comparedDifferences_L4 mu u0_4 u1_4 k9 n w2_4 (w3_4 + 1)) (fun a13 => (getI mu 4 0 a13).bind fun t14 => if t14 = u1_4 then ((chk mu 4 a13).bind fun _ => (f_X2_differs mu a13).bind fun t17 => if t17 = 0 then (f_X4_comparedDifferences_L4 mu u0_4 u1_4 k9 n w2_4 (w3_4 + 1)) else (f_X4_comparedDifferences_L4 mu u0_4 u1_4 k9 n (w2_4 + 1) (w3_4 + 1))) else (f_X4_comparedDifferences_L4 mu u0_4 u1_4 k9 n w2_4 (w3_4 + 1))))
def f_X4_comparedDifferences (mu : Mem) (x0 : Nat) (x1 : Int32) : Option (Int32) := f_X4_comparedDifferences_L4 mu x0 x1 (fun (zw2_4 : Int32) (zw3_4 : Int32) => some zw2_4) 200 0 0
set_option maxHeartbeats 1000000 in
set_option maxRecDepth 100000 in
theorem k_X4_comparedDifferences (l : Launch) (hsl : l.stackTraces = false) (G : GG) (A : Nat → Prop) (mu : Mem) (x0 : Nat) (x1 : Int32) (r : Int32) (hf : f_X4_comparedDifferences mu x0 x1 = some r) : Ok l yX4_comparedDifferences wsX4_comparedDifferences ({ frames := 8, cells := 0, slots := 0, locals := 150 } : Room) [.ref x0, .int x1] G A mu (dP (.inr (rI r)) mu) := by
  refine Ok.start (cc := cX4_comparedDifferences) (maxL := 5) (ret := (some .int)) rfl (by decide +kernel) hsl (by first | exact Nat.le_of_ble_eq_true rfl | simp [lg_sl, cat_rf, Value.category]) ?_
  intro p e s m args below meth c ls X hr hname hW hl
  have X : BX p l s m args meth c cX4_comparedDifferences 5 RX4 wsX4_comparedDifferences G A := X
  have hx := X.1
  have hb := X.2.1
  have hts := X.2.2.2.2.1
  have hl : lv_has ls 5 [(0, .ref x0), (1, .int x1)] := hl
  have hinX2 : ∀ w ∈ wsX20, w ∈ wsX4_comparedDifferences := by decide +kernel
  have hinX4 : ∀ w ∈ wsX40, w ∈ wsX4_comparedDifferences := by decide +kernel
  have hF150 : (Cond.fieldLink RX4 150 "PartcopyistBench$Note" "part" "I").before args s = true := hts _ (by decide +kernel)
  have hF23 : (Cond.fieldLink RX4 23 "PartcopyistBench" "notes" "[LPartcopyistBench$Note;").before args s = true := hts _ (by decide +kernel)
  unfold f_X4_comparedDifferences at hf
  refine lv_iconst (v := 0) hx hb dX4_comparedDifferences_0 (by decide) ?_
  refine lv_istore_n (lv' := [(2, .int 0), (0, .ref x0), (1, .int x1)]) hx hb dX4_comparedDifferences_1 rfl hl (by decide) rfl (fun ls hl => ?_)
  refine lv_iconst (v := 0) hx hb dX4_comparedDifferences_2 (by decide) ?_
  refine lv_istore_n (lv' := [(3, .int 0), (2, .int 0), (0, .ref x0), (1, .int x1)]) hx hb dX4_comparedDifferences_3 rfl hl (by decide) rfl (fun ls hl => ?_)
  have L4 : ∀ (u0_4 : Nat) (u1_4 : Int32) (k9 : Int32 → Int32 → Option (Int32)),
      (∀ (w2_4 : Int32) (w3_4 : Int32) (H : Heap) (locs : List Loc) (ls : Array Slot), k9 w2_4 w3_4 = some r → MW G A mu s.heap H locs → lv_has ls 5 [(0, .ref u0_4), (1, .int u1_4), (2, .int w2_4), (3, .int w3_4)] → W p l e ({ frames := 8, cells := 0, slots := 0, locals := 150 } : Room) s m args below meth c H locs 0 0 (QQ below G A (dP (.inr (rI r)) mu) args s 0 0) (F0 m 52 ls [])) →
      ∀ (n : Nat) (w2_4 : Int32) (w3_4 : Int32) (H : Heap) (locs : List Loc) (ls : Array Slot), f_X4_comparedDifferences_L4 mu u0_4 u1_4 k9 n w2_4 w3_4 = some r → MW G A mu s.heap H locs → lv_has ls 5 [(0, .ref u0_4), (1, .int u1_4), (2, .int w2_4), (3, .int w3_4)] → W p l e ({ frames := 8, cells := 0, slots := 0, locals := 150 } : Room) s m args below meth c H locs 0 0 (QQ below G A (dP (.inr (rI r)) mu) args s 0 0) (F0 m 4 ls []) := by
    intro u0_4 u1_4 k9 hk4 n
    induction n with
    | zero => intro w2_4 w3_4 H locs ls hf hW hl; rw [f_X4_comparedDifferences_L4] at hf; cases hf
    | succ n ih4 =>
      intro w2_4 w3_4 H locs ls hf hW hl
      rw [f_X4_comparedDifferences_L4] at hf
      refine lv_iload_n hx hb dX4_comparedDifferences_4 rfl (lv_at hl 3 rfl) ?_
      refine lv_aload_n hx hb dX4_comparedDifferences_5 rfl (lv_at hl 0 rfl) ?_
      replace hf := bnd hf
      obtain ⟨t1, h2, hf⟩ := hf
      refine g_6_2 X hW hinX4 hF23 h2 dX4_comparedDifferences_6 ?_
      replace hf := bnd hf
      obtain ⟨a3, h4, hf⟩ := hf
      subst h4
      replace hf := bnd hf
      obtain ⟨t5, h6, hf⟩ := hf
      refine r_alen X hW h6 dX4_comparedDifferences_9 ?_
      refine lv_icmp_ge (tgt := 52) hx hb dX4_comparedDifferences_10 (by decide) (fun hc => ?_) (fun hc => ?_)
      · replace hf := itp hc hf
        exact hk4 _ _ _ _ _ hf hW (lv_sub hl [0, 1, 2, 3] rfl)
      · replace hf := itn hc hf
        refine lv_aload_n hx hb dX4_comparedDifferences_13 rfl (lv_at hl 0 rfl) ?_
        replace hf := bnd hf
        obtain ⟨t7, h8, hf⟩ := hf
        refine g_6_2 X hW hinX4 hF23 h8 dX4_comparedDifferences_14 ?_
        refine lv_iload_n hx hb dX4_comparedDifferences_17 rfl (lv_at hl 3 rfl) ?_
        replace hf := bnd hf
        obtain ⟨a9, h10, hf⟩ := hf
        subst h10
        replace hf := bnd hf
        obtain ⟨t11, h12, hf⟩ := hf
        refine r_qld X hW h12 dX4_comparedDifferences_18 ?_
        refine r_astoreq (lv' := [(4, va_rf t11), (0, .ref u0_4), (1, .int u1_4), (2, .int w2_4), (3, .int w3_4)]) hx hb dX4_comparedDifferences_19 hl (by decide) rfl (fun ls hl => ?_)
        refine r_aloadq hx hb dX4_comparedDifferences_21 (lv_at hl 0 rfl) ?_
        replace hf := onl_c hf
        rcases hf with ⟨hq, hf⟩ | ⟨a13, hq, hf⟩
        · subst hq
          refine lv_ifnullN (tgt := 46) hx hb dX4_comparedDifferences_23 (by decide) ?_
          refine lv_iinc (v := (w3_4 + 1)) (lv' := [(3, .int (w3_4 + 1)), (4, .null), (0, .ref u0_4), (1, .int u1_4), (2, .int w2_4)]) hx hb dX4_comparedDifferences_46 hl (k := 4) rfl rfl (by decide) rfl (fun ls hl => ?_)
          refine lv_goto (tgt := 4) hx hb dX4_comparedDifferences_49 (by decide) ?_
          exact ih4 _ _ _ _ _ hf hW (lv_sub hl [2, 3, 4, 0] rfl)
        · subst hq
          refine lv_ifnull hx hb dX4_comparedDifferences_23 ?_
          refine lv_aload hx hb dX4_comparedDifferences_26 (lv_at hl 0 rfl) ?_
          replace hf := bnd hf
          obtain ⟨t14, h15, hf⟩ := hf
          refine g_4_0 X hW hinX2 hF150 h15 dX4_comparedDifferences_28 ?_
          refine lv_iload_n hx hb dX4_comparedDifferences_31 rfl (lv_at hl 2 rfl) ?_
          refine lv_icmp_ne (tgt := 46) hx hb dX4_comparedDifferences_32 (by decide) (fun hc => ?_) (fun hc => ?_)
          · replace hf := itn hc hf
            refine lv_iinc (v := (w3_4 + 1)) (lv' := [(3, .int (w3_4 + 1)), (4, .ref a13), (0, .ref u0_4), (1, .int u1_4), (2, .int w2_4)]) hx hb dX4_comparedDifferences_46 hl (k := 4) rfl rfl (by decide) rfl (fun ls hl => ?_)
            refine lv_goto (tgt := 4) hx hb dX4_comparedDifferences_49 (by decide) ?_
            exact ih4 _ _ _ _ _ hf hW (lv_sub hl [2, 3, 4, 0] rfl)
          · replace hf := itp hc hf
            refine lv_aload hx hb dX4_comparedDifferences_35 (lv_at hl 0 rfl) ?_
            replace hf := bnd hf
            obtain ⟨_, h16, hf⟩ := hf
            replace hf := bnd hf
            obtain ⟨t17, h18, hf⟩ := hf
            refine r_callV_ok X hW hl.1 (k_X2_differs l hsl G A mu a13 _ h18) gX4_comparedDifferences_X2_differs rfl (chk_ok h16) (by decide) rfl (by decide +kernel) (n := 0) rfl (by decide) (Nat.le_of_ble_eq_true rfl) dX4_comparedDifferences_37 rfl rfl (stk := [.int t17]) rfl (fun H locs hW => ?_)
            refine lv_if_eq (tgt := 46) hx hb dX4_comparedDifferences_40 (by decide) (fun hc => ?_) (fun hc => ?_)
            · replace hf := itp hc hf
              refine lv_iinc (v := (w3_4 + 1)) (lv' := [(3, .int (w3_4 + 1)), (4, .ref a13), (0, .ref u0_4), (1, .int u1_4), (2, .int w2_4)]) hx hb dX4_comparedDifferences_46 hl (k := 4) rfl rfl (by decide) rfl (fun ls hl => ?_)
              refine lv_goto (tgt := 4) hx hb dX4_comparedDifferences_49 (by decide) ?_
              exact ih4 _ _ _ _ _ hf hW (lv_sub hl [2, 3, 4, 0] rfl)
            · replace hf := itn hc hf
              refine lv_iinc (v := (w2_4 + 1)) (lv' := [(2, .int (w2_4 + 1)), (4, .ref a13), (0, .ref u0_4), (1, .int u1_4), (3, .int w3_4)]) hx hb dX4_comparedDifferences_43 hl (k := 3) rfl rfl (by decide) rfl (fun ls hl => ?_)
              refine lv_iinc (v := (w3_4 + 1)) (lv' := [(3, .int (w3_4 + 1)), (2, .int (w2_4 + 1)), (4, .ref a13), (0, .ref u0_4), (1, .int u1_4)]) hx hb dX4_comparedDifferences_46 hl (k := 4) rfl rfl (by decide) rfl (fun ls hl => ?_)
              refine lv_goto (tgt := 4) hx hb dX4_comparedDifferences_49 (by decide) ?_
              exact ih4 _ _ _ _ _ hf hW (lv_sub hl [3, 4, 1, 0] rfl)
  refine L4 x0 x1 _ ?_ 200 0 0 _ _ _ hf hW (lv_sub hl [2, 3, 1, 0] rfl)
  intro zw2_4 zw3_4 H locs ls hf hW hl
  refine lv_iload_n hx hb dX4_comparedDifferences_52 rfl (lv_at hl 2 rfl) ?_
  exact r_iret X hr hW (by cases hf; exact ⟨rfl, rfl⟩) (by decide) (by decide) dX4_comparedDifferences_53

def f_X4_ticks_L4 (mu : Mem) (u0_4 : Nat) (k9 : Int64 → Int32 → Option (Int64)) : Nat → Int64 → Int32 → Option (Int64)
  | 0, _, _ => none
  | n + 1, w1_4, w3_4 => (getQ mu 6 2 u0_4).bind fun t1 => t1.bind fun a3 => (alen mu a3).bind fun t5 => if t5 ≤ w3_4 then (k9 w1_4 w3_4) else ((getQ mu 6 2 u0_4).bind fun t7 => t7.bind fun a9 => (qld mu a9 w3_4).bind fun t11 => onl t11 (f_X4_ticks_L4 mu u0_4 k9 n w1_4 (w3_4 + 1)) (fun a13 => (getI mu 4 6 a13).bind fun t14 => if t14 = 0 then (f_X4_ticks_L4 mu u0_4 k9 n w1_4 (w3_4 + 1)) else ((getI mu 4 4 a13).bind fun t16 => f_X4_ticks_L4 mu u0_4 k9 n (w1_4 + ((t16).toInt64)) (w3_4 + 1))))
def f_X4_ticks (mu : Mem) (x0 : Nat) : Option (Int64) := f_X4_ticks_L4 mu x0 (fun (zw1_4 : Int64) (zw3_4 : Int32) => some zw1_4) 200 0 0
set_option maxHeartbeats 1000000 in
set_option maxRecDepth 100000 in
theorem k_X4_ticks (l : Launch) (hsl : l.stackTraces = false) (G : GG) (A : Nat → Prop) (mu : Mem) (x0 : Nat) (r : Int64) (hf : f_X4_ticks mu x0 = some r) : Ok l yX4_ticks wsX4_ticks ({ frames := 6, cells := 0, slots := 0, locals := 110 } : Room) [.ref x0] G A mu (dP (.inr (rLg r)) mu) := by
  refine Ok.start (cc := cX4_ticks) (maxL := 5) (ret := (some .long)) rfl (by decide +kernel) hsl (by first | exact Nat.le_of_ble_eq_true rfl | simp [lg_sl, cat_rf, Value.category]) ?_
  intro p e s m args below meth c ls X hr hname hW hl
  have X : BX p l s m args meth c cX4_ticks 5 RX4 wsX4_ticks G A := X
  have hx := X.1
  have hb := X.2.1
  have hts := X.2.2.2.2.1
  have hl : lv_has ls 5 [(0, .ref x0)] := hl
  have hinX2 : ∀ w ∈ wsX20, w ∈ wsX4_ticks := by decide +kernel
  have hinX4 : ∀ w ∈ wsX40, w ∈ wsX4_ticks := by decide +kernel
  have hF144 : (Cond.fieldLink RX4 144 "PartcopyistBench$Note" "length" "I").before args s = true := hts _ (by decide +kernel)
  have hF147 : (Cond.fieldLink RX4 147 "PartcopyistBench$Note" "isIn" "Z").before args s = true := hts _ (by decide +kernel)
  have hF23 : (Cond.fieldLink RX4 23 "PartcopyistBench" "notes" "[LPartcopyistBench$Note;").before args s = true := hts _ (by decide +kernel)
  unfold f_X4_ticks at hf
  refine lv_lconst (v := 0) hx hb dX4_ticks_0 rfl ?_
  refine lv_lstore_n (lv' := [(1, .long 0), (0, .ref x0)]) hx hb dX4_ticks_1 rfl hl (by decide) rfl (fun ls hl => ?_)
  refine lv_iconst (v := 0) hx hb dX4_ticks_2 (by decide) ?_
  refine lv_istore_n (lv' := [(3, .int 0), (1, .long 0), (0, .ref x0)]) hx hb dX4_ticks_3 rfl hl (by decide) rfl (fun ls hl => ?_)
  have L4 : ∀ (u0_4 : Nat) (k9 : Int64 → Int32 → Option (Int64)),
      (∀ (w1_4 : Int64) (w3_4 : Int32) (H : Heap) (locs : List Loc) (ls : Array Slot), k9 w1_4 w3_4 = some r → MW G A mu s.heap H locs → lv_has ls 5 [(0, .ref u0_4), (1, .long w1_4), (3, .int w3_4)] → W p l e ({ frames := 6, cells := 0, slots := 0, locals := 110 } : Room) s m args below meth c H locs 0 0 (QQ below G A (dP (.inr (rLg r)) mu) args s 0 0) (F0 m 49 ls [])) →
      ∀ (n : Nat) (w1_4 : Int64) (w3_4 : Int32) (H : Heap) (locs : List Loc) (ls : Array Slot), f_X4_ticks_L4 mu u0_4 k9 n w1_4 w3_4 = some r → MW G A mu s.heap H locs → lv_has ls 5 [(0, .ref u0_4), (1, .long w1_4), (3, .int w3_4)] → W p l e ({ frames := 6, cells := 0, slots := 0, locals := 110 } : Room) s m args below meth c H locs 0 0 (QQ below G A (dP (.inr (rLg r)) mu) args s 0 0) (F0 m 4 ls []) := by
    intro u0_4 k9 hk4 n
    induction n with
    | zero => intro w1_4 w3_4 H locs ls hf hW hl; rw [f_X4_ticks_L4] at hf; cases hf
    | succ n ih4 =>
      intro w1_4 w3_4 H locs ls hf hW hl
      rw [f_X4_ticks_L4] at hf
      refine lv_iload_n hx hb dX4_ticks_4 rfl (lv_at hl 2 rfl) ?_
      refine lv_aload_n hx hb dX4_ticks_5 rfl (lv_at hl 0 rfl) ?_
      replace hf := bnd hf
      obtain ⟨t1, h2, hf⟩ := hf
      refine g_6_2 X hW hinX4 hF23 h2 dX4_ticks_6 ?_
      replace hf := bnd hf
      obtain ⟨a3, h4, hf⟩ := hf
      subst h4
      replace hf := bnd hf
      obtain ⟨t5, h6, hf⟩ := hf
      refine r_alen X hW h6 dX4_ticks_9 ?_
      refine lv_icmp_ge (tgt := 49) hx hb dX4_ticks_10 (by decide) (fun hc => ?_) (fun hc => ?_)
      · replace hf := itp hc hf
        exact hk4 _ _ _ _ _ hf hW (lv_sub hl [0, 1, 2] rfl)
      · replace hf := itn hc hf
        refine lv_aload_n hx hb dX4_ticks_13 rfl (lv_at hl 0 rfl) ?_
        replace hf := bnd hf
        obtain ⟨t7, h8, hf⟩ := hf
        refine g_6_2 X hW hinX4 hF23 h8 dX4_ticks_14 ?_
        refine lv_iload_n hx hb dX4_ticks_17 rfl (lv_at hl 2 rfl) ?_
        replace hf := bnd hf
        obtain ⟨a9, h10, hf⟩ := hf
        subst h10
        replace hf := bnd hf
        obtain ⟨t11, h12, hf⟩ := hf
        refine r_qld X hW h12 dX4_ticks_18 ?_
        refine r_astoreq (lv' := [(4, va_rf t11), (0, .ref u0_4), (1, .long w1_4), (3, .int w3_4)]) hx hb dX4_ticks_19 hl (by decide) rfl (fun ls hl => ?_)
        refine r_aloadq hx hb dX4_ticks_21 (lv_at hl 0 rfl) ?_
        replace hf := onl_c hf
        rcases hf with ⟨hq, hf⟩ | ⟨a13, hq, hf⟩
        · subst hq
          refine lv_ifnullN (tgt := 43) hx hb dX4_ticks_23 (by decide) ?_
          refine lv_iinc (v := (w3_4 + 1)) (lv' := [(3, .int (w3_4 + 1)), (4, .null), (0, .ref u0_4), (1, .long w1_4)]) hx hb dX4_ticks_43 hl (k := 3) rfl rfl (by decide) rfl (fun ls hl => ?_)
          refine lv_goto (tgt := 4) hx hb dX4_ticks_46 (by decide) ?_
          exact ih4 _ _ _ _ _ hf hW (lv_sub hl [2, 3, 0] rfl)
        · subst hq
          refine lv_ifnull hx hb dX4_ticks_23 ?_
          refine lv_aload hx hb dX4_ticks_26 (lv_at hl 0 rfl) ?_
          replace hf := bnd hf
          obtain ⟨t14, h15, hf⟩ := hf
          refine g_4_6 X hW hinX2 hF147 h15 dX4_ticks_28 ?_
          refine lv_if_eq (tgt := 43) hx hb dX4_ticks_31 (by decide) (fun hc => ?_) (fun hc => ?_)
          · replace hf := itp hc hf
            refine lv_iinc (v := (w3_4 + 1)) (lv' := [(3, .int (w3_4 + 1)), (4, .ref a13), (0, .ref u0_4), (1, .long w1_4)]) hx hb dX4_ticks_43 hl (k := 3) rfl rfl (by decide) rfl (fun ls hl => ?_)
            refine lv_goto (tgt := 4) hx hb dX4_ticks_46 (by decide) ?_
            exact ih4 _ _ _ _ _ hf hW (lv_sub hl [2, 3, 0] rfl)
          · replace hf := itn hc hf
            refine lv_lload_n hx hb dX4_ticks_34 rfl (lv_at hl 2 rfl) ?_
            refine lv_aload hx hb dX4_ticks_35 (lv_at hl 0 rfl) ?_
            replace hf := bnd hf
            obtain ⟨t16, h17, hf⟩ := hf
            refine g_4_4 X hW hinX2 hF144 h17 dX4_ticks_37 ?_
            refine lv_i2l hx hb dX4_ticks_40 rfl ?_
            refine lv_ladd hx hb dX4_ticks_41 ?_
            refine lv_lstore_n (lv' := [(1, .long (w1_4 + ((t16).toInt64))), (4, .ref a13), (0, .ref u0_4), (3, .int w3_4)]) hx hb dX4_ticks_42 rfl hl (by decide) rfl (fun ls hl => ?_)
            refine lv_iinc (v := (w3_4 + 1)) (lv' := [(3, .int (w3_4 + 1)), (1, .long (w1_4 + ((t16).toInt64))), (4, .ref a13), (0, .ref u0_4)]) hx hb dX4_ticks_43 hl (k := 3) rfl rfl (by decide) rfl (fun ls hl => ?_)
            refine lv_goto (tgt := 4) hx hb dX4_ticks_46 (by decide) ?_
            exact ih4 _ _ _ _ _ hf hW (lv_sub hl [3, 1, 0] rfl)
  refine L4 x0 _ ?_ 200 0 0 _ _ _ hf hW (lv_sub hl [2, 1, 0] rfl)
  intro zw1_4 zw3_4 H locs ls hf hW hl
  refine lv_lload_n hx hb dX4_ticks_49 rfl (lv_at hl 1 rfl) ?_
  exact r_lret X hr hW (by cases hf; exact ⟨rfl, rfl⟩) (by decide) (by decide) dX4_ticks_50

def f_X4_sumOfPitches_L4 (mu : Mem) (u0_4 : Nat) (u1_4 : Int32) (k9 : Int32 → Int32 → Option (Int32)) : Nat → Int32 → Int32 → Option (Int32)
  | 0, _, _ => none
  | n + 1, w2_4, w3_4 => (getQ mu 6 2 u0_4).bind fun t1 => t1.bind fun a3 => (alen mu a3).bind fun t5 => if t5 ≤ w3_4 then (k9 w2_4 w3_4) else ((getQ mu 6 2 u0_4).bind fun t7 => t7.bind fun a9 => (qld mu a9 w3_4).bind fun t11 => onl t11 (f_X4_sumOfPitches_L4 mu u0_4 u1_4 k9 n w2_4 (w3_4 + 1)) (fun a13 => (getI mu 4 6 a13).bind fun t14 => if t14 = 0 then (f_X4_sumOfPitches_L4 mu u0_4 u1_4 k9 n w2_4 (w3_4 + 1)) else ((getI mu 4 0 a13).bind fun t16 => if t16 = u1_4 then ((getI mu 4 5 a13).bind fun t18 => f_X4_sumOfPitches_L4 mu u0_4 u1_4 k9 n (w2_4 + t18) (w3_4 + 1)) else (f_X4_sumOfPitches_L4 mu u0_4 u1_4 k9 n w2_4 (w3_4 + 1)))))
def f_X4_sumOfPitches (mu : Mem) (x0 : Nat) (x1 : Int32) : Option (Int32) := f_X4_sumOfPitches_L4 mu x0 x1 (fun (zw2_4 : Int32) (zw3_4 : Int32) => some zw2_4) 200 0 0
set_option maxHeartbeats 1000000 in
set_option maxRecDepth 100000 in
theorem k_X4_sumOfPitches (l : Launch) (hsl : l.stackTraces = false) (G : GG) (A : Nat → Prop) (mu : Mem) (x0 : Nat) (x1 : Int32) (r : Int32) (hf : f_X4_sumOfPitches mu x0 x1 = some r) : Ok l yX4_sumOfPitches wsX4_sumOfPitches ({ frames := 6, cells := 0, slots := 0, locals := 110 } : Room) [.ref x0, .int x1] G A mu (dP (.inr (rI r)) mu) := by
  refine Ok.start (cc := cX4_sumOfPitches) (maxL := 5) (ret := (some .int)) rfl (by decide +kernel) hsl (by first | exact Nat.le_of_ble_eq_true rfl | simp [lg_sl, cat_rf, Value.category]) ?_
  intro p e s m args below meth c ls X hr hname hW hl
  have X : BX p l s m args meth c cX4_sumOfPitches 5 RX4 wsX4_sumOfPitches G A := X
  have hx := X.1
  have hb := X.2.1
  have hts := X.2.2.2.2.1
  have hl : lv_has ls 5 [(0, .ref x0), (1, .int x1)] := hl
  have hinX2 : ∀ w ∈ wsX20, w ∈ wsX4_sumOfPitches := by decide +kernel
  have hinX4 : ∀ w ∈ wsX40, w ∈ wsX4_sumOfPitches := by decide +kernel
  have hF125 : (Cond.fieldLink RX4 125 "PartcopyistBench$Note" "pitch" "I").before args s = true := hts _ (by decide +kernel)
  have hF147 : (Cond.fieldLink RX4 147 "PartcopyistBench$Note" "isIn" "Z").before args s = true := hts _ (by decide +kernel)
  have hF150 : (Cond.fieldLink RX4 150 "PartcopyistBench$Note" "part" "I").before args s = true := hts _ (by decide +kernel)
  have hF23 : (Cond.fieldLink RX4 23 "PartcopyistBench" "notes" "[LPartcopyistBench$Note;").before args s = true := hts _ (by decide +kernel)
  unfold f_X4_sumOfPitches at hf
  refine lv_iconst (v := 0) hx hb dX4_sumOfPitches_0 (by decide) ?_
  refine lv_istore_n (lv' := [(2, .int 0), (0, .ref x0), (1, .int x1)]) hx hb dX4_sumOfPitches_1 rfl hl (by decide) rfl (fun ls hl => ?_)
  refine lv_iconst (v := 0) hx hb dX4_sumOfPitches_2 (by decide) ?_
  refine lv_istore_n (lv' := [(3, .int 0), (2, .int 0), (0, .ref x0), (1, .int x1)]) hx hb dX4_sumOfPitches_3 rfl hl (by decide) rfl (fun ls hl => ?_)
  have L4 : ∀ (u0_4 : Nat) (u1_4 : Int32) (k9 : Int32 → Int32 → Option (Int32)),
      (∀ (w2_4 : Int32) (w3_4 : Int32) (H : Heap) (locs : List Loc) (ls : Array Slot), k9 w2_4 w3_4 = some r → MW G A mu s.heap H locs → lv_has ls 5 [(0, .ref u0_4), (1, .int u1_4), (2, .int w2_4), (3, .int w3_4)] → W p l e ({ frames := 6, cells := 0, slots := 0, locals := 110 } : Room) s m args below meth c H locs 0 0 (QQ below G A (dP (.inr (rI r)) mu) args s 0 0) (F0 m 57 ls [])) →
      ∀ (n : Nat) (w2_4 : Int32) (w3_4 : Int32) (H : Heap) (locs : List Loc) (ls : Array Slot), f_X4_sumOfPitches_L4 mu u0_4 u1_4 k9 n w2_4 w3_4 = some r → MW G A mu s.heap H locs → lv_has ls 5 [(0, .ref u0_4), (1, .int u1_4), (2, .int w2_4), (3, .int w3_4)] → W p l e ({ frames := 6, cells := 0, slots := 0, locals := 110 } : Room) s m args below meth c H locs 0 0 (QQ below G A (dP (.inr (rI r)) mu) args s 0 0) (F0 m 4 ls []) := by
    intro u0_4 u1_4 k9 hk4 n
    induction n with
    | zero => intro w2_4 w3_4 H locs ls hf hW hl; rw [f_X4_sumOfPitches_L4] at hf; cases hf
    | succ n ih4 =>
      intro w2_4 w3_4 H locs ls hf hW hl
      rw [f_X4_sumOfPitches_L4] at hf
      refine lv_iload_n hx hb dX4_sumOfPitches_4 rfl (lv_at hl 3 rfl) ?_
      refine lv_aload_n hx hb dX4_sumOfPitches_5 rfl (lv_at hl 0 rfl) ?_
      replace hf := bnd hf
      obtain ⟨t1, h2, hf⟩ := hf
      refine g_6_2 X hW hinX4 hF23 h2 dX4_sumOfPitches_6 ?_
      replace hf := bnd hf
      obtain ⟨a3, h4, hf⟩ := hf
      subst h4
      replace hf := bnd hf
      obtain ⟨t5, h6, hf⟩ := hf
      refine r_alen X hW h6 dX4_sumOfPitches_9 ?_
      refine lv_icmp_ge (tgt := 57) hx hb dX4_sumOfPitches_10 (by decide) (fun hc => ?_) (fun hc => ?_)
      · replace hf := itp hc hf
        exact hk4 _ _ _ _ _ hf hW (lv_sub hl [0, 1, 2, 3] rfl)
      · replace hf := itn hc hf
        refine lv_aload_n hx hb dX4_sumOfPitches_13 rfl (lv_at hl 0 rfl) ?_
        replace hf := bnd hf
        obtain ⟨t7, h8, hf⟩ := hf
        refine g_6_2 X hW hinX4 hF23 h8 dX4_sumOfPitches_14 ?_
        refine lv_iload_n hx hb dX4_sumOfPitches_17 rfl (lv_at hl 3 rfl) ?_
        replace hf := bnd hf
        obtain ⟨a9, h10, hf⟩ := hf
        subst h10
        replace hf := bnd hf
        obtain ⟨t11, h12, hf⟩ := hf
        refine r_qld X hW h12 dX4_sumOfPitches_18 ?_
        refine r_astoreq (lv' := [(4, va_rf t11), (0, .ref u0_4), (1, .int u1_4), (2, .int w2_4), (3, .int w3_4)]) hx hb dX4_sumOfPitches_19 hl (by decide) rfl (fun ls hl => ?_)
        refine r_aloadq hx hb dX4_sumOfPitches_21 (lv_at hl 0 rfl) ?_
        replace hf := onl_c hf
        rcases hf with ⟨hq, hf⟩ | ⟨a13, hq, hf⟩
        · subst hq
          refine lv_ifnullN (tgt := 51) hx hb dX4_sumOfPitches_23 (by decide) ?_
          refine lv_iinc (v := (w3_4 + 1)) (lv' := [(3, .int (w3_4 + 1)), (4, .null), (0, .ref u0_4), (1, .int u1_4), (2, .int w2_4)]) hx hb dX4_sumOfPitches_51 hl (k := 4) rfl rfl (by decide) rfl (fun ls hl => ?_)
          refine lv_goto (tgt := 4) hx hb dX4_sumOfPitches_54 (by decide) ?_
          exact ih4 _ _ _ _ _ hf hW (lv_sub hl [2, 3, 4, 0] rfl)
        · subst hq
          refine lv_ifnull hx hb dX4_sumOfPitches_23 ?_
          refine lv_aload hx hb dX4_sumOfPitches_26 (lv_at hl 0 rfl) ?_
          replace hf := bnd hf
          obtain ⟨t14, h15, hf⟩ := hf
          refine g_4_6 X hW hinX2 hF147 h15 dX4_sumOfPitches_28 ?_
          refine lv_if_eq (tgt := 51) hx hb dX4_sumOfPitches_31 (by decide) (fun hc => ?_) (fun hc => ?_)
          · replace hf := itp hc hf
            refine lv_iinc (v := (w3_4 + 1)) (lv' := [(3, .int (w3_4 + 1)), (4, .ref a13), (0, .ref u0_4), (1, .int u1_4), (2, .int w2_4)]) hx hb dX4_sumOfPitches_51 hl (k := 4) rfl rfl (by decide) rfl (fun ls hl => ?_)
            refine lv_goto (tgt := 4) hx hb dX4_sumOfPitches_54 (by decide) ?_
            exact ih4 _ _ _ _ _ hf hW (lv_sub hl [2, 3, 4, 0] rfl)
          · replace hf := itn hc hf
            refine lv_aload hx hb dX4_sumOfPitches_34 (lv_at hl 0 rfl) ?_
            replace hf := bnd hf
            obtain ⟨t16, h17, hf⟩ := hf
            refine g_4_0 X hW hinX2 hF150 h17 dX4_sumOfPitches_36 ?_
            refine lv_iload_n hx hb dX4_sumOfPitches_39 rfl (lv_at hl 2 rfl) ?_
            refine lv_icmp_ne (tgt := 51) hx hb dX4_sumOfPitches_40 (by decide) (fun hc => ?_) (fun hc => ?_)
            · replace hf := itn hc hf
              refine lv_iinc (v := (w3_4 + 1)) (lv' := [(3, .int (w3_4 + 1)), (4, .ref a13), (0, .ref u0_4), (1, .int u1_4), (2, .int w2_4)]) hx hb dX4_sumOfPitches_51 hl (k := 4) rfl rfl (by decide) rfl (fun ls hl => ?_)
              refine lv_goto (tgt := 4) hx hb dX4_sumOfPitches_54 (by decide) ?_
              exact ih4 _ _ _ _ _ hf hW (lv_sub hl [2, 3, 4, 0] rfl)
            · replace hf := itp hc hf
              refine lv_iload_n hx hb dX4_sumOfPitches_43 rfl (lv_at hl 3 rfl) ?_
              refine lv_aload hx hb dX4_sumOfPitches_44 (lv_at hl 0 rfl) ?_
              replace hf := bnd hf
              obtain ⟨t18, h19, hf⟩ := hf
              refine g_4_5 X hW hinX2 hF125 h19 dX4_sumOfPitches_46 ?_
              refine lv_iadd hx hb dX4_sumOfPitches_49 ?_
              refine lv_istore_n (lv' := [(2, .int (w2_4 + t18)), (4, .ref a13), (0, .ref u0_4), (1, .int u1_4), (3, .int w3_4)]) hx hb dX4_sumOfPitches_50 rfl hl (by decide) rfl (fun ls hl => ?_)
              refine lv_iinc (v := (w3_4 + 1)) (lv' := [(3, .int (w3_4 + 1)), (2, .int (w2_4 + t18)), (4, .ref a13), (0, .ref u0_4), (1, .int u1_4)]) hx hb dX4_sumOfPitches_51 hl (k := 4) rfl rfl (by decide) rfl (fun ls hl => ?_)
              refine lv_goto (tgt := 4) hx hb dX4_sumOfPitches_54 (by decide) ?_
              exact ih4 _ _ _ _ _ hf hW (lv_sub hl [3, 4, 1, 0] rfl)
  refine L4 x0 x1 _ ?_ 200 0 0 _ _ _ hf hW (lv_sub hl [2, 3, 1, 0] rfl)
  intro zw2_4 zw3_4 H locs ls hf hW hl
  refine lv_iload_n hx hb dX4_sumOfPitches_57 rfl (lv_at hl 2 rfl) ?_
  exact r_iret X hr hW (by cases hf; exact ⟨rfl, rfl⟩) (by decide) (by decide) dX4_sumOfPitches_58

def f_X4_countOfEmptyBars_L4 (mu : Mem) (u0_4 : Nat) (u1_4 : Int32) (k9 : Int32 → Int32 → Option (Int32)) : Nat → Int32 → Int32 → Option (Int32)
  | 0, _, _ => none
  | n + 1, w2_4, w3_4 => (getI mu 6 5 u0_4).bind fun t1 => if t1 ≤ w3_4 then (k9 w2_4 w3_4) else ((chk mu 6 u0_4).bind fun _ => (f_X4_countInBar mu u0_4 u1_4 w3_4).bind fun t4 => if t4 = 0 then (f_X4_countOfEmptyBars_L4 mu u0_4 u1_4 k9 n (w2_4 + 1) (w3_4 + 1)) else (f_X4_countOfEmptyBars_L4 mu u0_4 u1_4 k9 n w2_4 (w3_4 + 1)))
def f_X4_countOfEmptyBars (mu : Mem) (x0 : Nat) (x1 : Int32) : Option (Int32) := f_X4_countOfEmptyBars_L4 mu x0 x1 (fun (zw2_4 : Int32) (zw3_4 : Int32) => some zw2_4) 200 0 0
set_option maxHeartbeats 1000000 in
set_option maxRecDepth 100000 in
theorem k_X4_countOfEmptyBars (l : Launch) (hsl : l.stackTraces = false) (G : GG) (A : Nat → Prop) (mu : Mem) (x0 : Nat) (x1 : Int32) (r : Int32) (hf : f_X4_countOfEmptyBars mu x0 x1 = some r) : Ok l yX4_countOfEmptyBars wsX4_countOfEmptyBars ({ frames := 10, cells := 0, slots := 0, locals := 190 } : Room) [.ref x0, .int x1] G A mu (dP (.inr (rI r)) mu) := by
  refine Ok.start (cc := cX4_countOfEmptyBars) (maxL := 4) (ret := (some .int)) rfl (by decide +kernel) hsl (by first | exact Nat.le_of_ble_eq_true rfl | simp [lg_sl, cat_rf, Value.category]) ?_
  intro p e s m args below meth c ls X hr hname hW hl
  have X : BX p l s m args meth c cX4_countOfEmptyBars 4 RX4 wsX4_countOfEmptyBars G A := X
  have hx := X.1
  have hb := X.2.1
  have hts := X.2.2.2.2.1
  have hl : lv_has ls 4 [(0, .ref x0), (1, .int x1)] := hl
  have hinX4 : ∀ w ∈ wsX40, w ∈ wsX4_countOfEmptyBars := by decide +kernel
  have hF38 : (Cond.fieldLink RX4 38 "PartcopyistBench" "barCount" "I").before args s = true := hts _ (by decide +kernel)
  unfold f_X4_countOfEmptyBars at hf
  refine lv_iconst (v := 0) hx hb dX4_countOfEmptyBars_0 (by decide) ?_
  refine lv_istore_n (lv' := [(2, .int 0), (0, .ref x0), (1, .int x1)]) hx hb dX4_countOfEmptyBars_1 rfl hl (by decide) rfl (fun ls hl => ?_)
  refine lv_iconst (v := 0) hx hb dX4_countOfEmptyBars_2 (by decide) ?_
  refine lv_istore_n (lv' := [(3, .int 0), (2, .int 0), (0, .ref x0), (1, .int x1)]) hx hb dX4_countOfEmptyBars_3 rfl hl (by decide) rfl (fun ls hl => ?_)
  have L4 : ∀ (u0_4 : Nat) (u1_4 : Int32) (k9 : Int32 → Int32 → Option (Int32)),
      (∀ (w2_4 : Int32) (w3_4 : Int32) (H : Heap) (locs : List Loc) (ls : Array Slot), k9 w2_4 w3_4 = some r → MW G A mu s.heap H locs → lv_has ls 4 [(0, .ref u0_4), (1, .int u1_4), (2, .int w2_4), (3, .int w3_4)] → W p l e ({ frames := 10, cells := 0, slots := 0, locals := 190 } : Room) s m args below meth c H locs 0 0 (QQ below G A (dP (.inr (rI r)) mu) args s 0 0) (F0 m 30 ls [])) →
      ∀ (n : Nat) (w2_4 : Int32) (w3_4 : Int32) (H : Heap) (locs : List Loc) (ls : Array Slot), f_X4_countOfEmptyBars_L4 mu u0_4 u1_4 k9 n w2_4 w3_4 = some r → MW G A mu s.heap H locs → lv_has ls 4 [(0, .ref u0_4), (1, .int u1_4), (2, .int w2_4), (3, .int w3_4)] → W p l e ({ frames := 10, cells := 0, slots := 0, locals := 190 } : Room) s m args below meth c H locs 0 0 (QQ below G A (dP (.inr (rI r)) mu) args s 0 0) (F0 m 4 ls []) := by
    intro u0_4 u1_4 k9 hk4 n
    induction n with
    | zero => intro w2_4 w3_4 H locs ls hf hW hl; rw [f_X4_countOfEmptyBars_L4] at hf; cases hf
    | succ n ih4 =>
      intro w2_4 w3_4 H locs ls hf hW hl
      rw [f_X4_countOfEmptyBars_L4] at hf
      refine lv_iload_n hx hb dX4_countOfEmptyBars_4 rfl (lv_at hl 3 rfl) ?_
      refine lv_aload_n hx hb dX4_countOfEmptyBars_5 rfl (lv_at hl 0 rfl) ?_
      replace hf := bnd hf
      obtain ⟨t1, h2, hf⟩ := hf
      refine g_6_5 X hW hinX4 hF38 h2 dX4_countOfEmptyBars_6 ?_
      refine lv_icmp_ge (tgt := 30) hx hb dX4_countOfEmptyBars_9 (by decide) (fun hc => ?_) (fun hc => ?_)
      · replace hf := itp hc hf
        exact hk4 _ _ _ _ _ hf hW (lv_sub hl [0, 1, 2, 3] rfl)
      · replace hf := itn hc hf
        refine lv_aload_n hx hb dX4_countOfEmptyBars_12 rfl (lv_at hl 0 rfl) ?_
        refine lv_iload_n hx hb dX4_countOfEmptyBars_13 rfl (lv_at hl 1 rfl) ?_
        refine lv_iload_n hx hb dX4_countOfEmptyBars_14 rfl (lv_at hl 3 rfl) ?_
        replace hf := bnd hf
        obtain ⟨_, h3, hf⟩ := hf
        replace hf := bnd hf
        obtain ⟨t4, h5, hf⟩ := hf
        refine r_callV_ok X hW hl.1 (k_X4_countInBar l hsl G A mu u0_4 u1_4 w3_4 _ h5) gX4_countOfEmptyBars_X4_countInBar rfl (chk_ok h3) (by decide) rfl (by decide +kernel) (n := 2) rfl (by decide) (Nat.le_of_ble_eq_true rfl) dX4_countOfEmptyBars_15 rfl rfl (stk := [.int t4]) rfl (fun H locs hW => ?_)
        refine lv_if_ne (tgt := 24) hx hb dX4_countOfEmptyBars_18 (by decide) (fun hc => ?_) (fun hc => ?_)
        · replace hf := itn hc hf
          refine lv_iinc (v := (w3_4 + 1)) (lv' := [(3, .int (w3_4 + 1)), (0, .ref u0_4), (1, .int u1_4), (2, .int w2_4)]) hx hb dX4_countOfEmptyBars_24 hl (k := 3) rfl rfl (by decide) rfl (fun ls hl => ?_)
          refine lv_goto (tgt := 4) hx hb dX4_countOfEmptyBars_27 (by decide) ?_
          exact ih4 _ _ _ _ _ hf hW (lv_sub hl [1, 2, 3, 0] rfl)
        · replace hf := itp hc hf
          refine lv_iinc (v := (w2_4 + 1)) (lv' := [(2, .int (w2_4 + 1)), (0, .ref u0_4), (1, .int u1_4), (3, .int w3_4)]) hx hb dX4_countOfEmptyBars_21 hl (k := 2) rfl rfl (by decide) rfl (fun ls hl => ?_)
          refine lv_iinc (v := (w3_4 + 1)) (lv' := [(3, .int (w3_4 + 1)), (2, .int (w2_4 + 1)), (0, .ref u0_4), (1, .int u1_4)]) hx hb dX4_countOfEmptyBars_24 hl (k := 3) rfl rfl (by decide) rfl (fun ls hl => ?_)
          refine lv_goto (tgt := 4) hx hb dX4_countOfEmptyBars_27 (by decide) ?_
          exact ih4 _ _ _ _ _ hf hW (lv_sub hl [2, 3, 1, 0] rfl)
  refine L4 x0 x1 _ ?_ 200 0 0 _ _ _ hf hW (lv_sub hl [2, 3, 1, 0] rfl)
  intro zw2_4 zw3_4 H locs ls hf hW hl
  refine lv_iload_n hx hb dX4_countOfEmptyBars_30 rfl (lv_at hl 2 rfl) ?_
  exact r_iret X hr hW (by cases hf; exact ⟨rfl, rfl⟩) (by decide) (by decide) dX4_countOfEmptyBars_31

def f_X4_copyAgrees (mu : Mem) (x0 : Nat) (x1 : Int32) : Option (Int32) := (chk mu 6 x0).bind fun _ => (f_X4_partOrNull mu x0 x1).bind fun t2 => onl t2 (some 1) (fun a4 => (getI mu 5 1 a4).bind fun t5 => if t5 = 0 then (some 1) else ((chk mu 6 x0).bind fun _ => (f_X4_touchedDifferences mu x0 x1).bind fun t8 => (chk mu 6 x0).bind fun _ => (f_X4_comparedDifferences mu x0 x1).bind fun t11 => if t8 = t11 then (some 1) else (some 0)))
set_option maxHeartbeats 1000000 in
set_option maxRecDepth 100000 in
theorem k_X4_copyAgrees (l : Launch) (hsl : l.stackTraces = false) (G : GG) (A : Nat → Prop) (mu : Mem) (x0 : Nat) (x1 : Int32) (r : Int32) (hf : f_X4_copyAgrees mu x0 x1 = some r) : Ok l yX4_copyAgrees wsX4_copyAgrees ({ frames := 10, cells := 0, slots := 0, locals := 190 } : Room) [.ref x0, .int x1] G A mu (dP (.inr (rI r)) mu) := by
  refine Ok.start (cc := cX4_copyAgrees) (maxL := 3) (ret := (some .boolean)) rfl (by decide +kernel) hsl (by first | exact Nat.le_of_ble_eq_true rfl | simp [lg_sl, cat_rf, Value.category]) ?_
  intro p e s m args below meth c ls X hr hname hW hl
  have X : BX p l s m args meth c cX4_copyAgrees 3 RX4 wsX4_copyAgrees G A := X
  have hx := X.1
  have hb := X.2.1
  have hts := X.2.2.2.2.1
  have hl : lv_has ls 3 [(0, .ref x0), (1, .int x1)] := hl
  have hinX3 : ∀ w ∈ wsX30, w ∈ wsX4_copyAgrees := by decide +kernel
  have hF238 : (Cond.fieldLink RX4 238 "PartcopyistBench$Part" "isCopied" "Z").before args s = true := hts _ (by decide +kernel)
  unfold f_X4_copyAgrees at hf
  refine lv_aload_n hx hb dX4_copyAgrees_0 rfl (lv_at hl 0 rfl) ?_
  refine lv_iload_n hx hb dX4_copyAgrees_1 rfl (lv_at hl 1 rfl) ?_
  replace hf := bnd hf
  obtain ⟨_, h1, hf⟩ := hf
  replace hf := bnd hf
  obtain ⟨t2, h3, hf⟩ := hf
  refine r_callV_ok X hW hl.1 (k_X4_partOrNull l hsl G A mu x0 x1 _ h3) gX4_copyAgrees_X4_partOrNull rfl (chk_ok h1) (by decide) rfl (by decide +kernel) (n := 1) rfl (by decide) (Nat.le_of_ble_eq_true rfl) dX4_copyAgrees_2 rfl rfl (stk := [va_rf t2]) rfl (fun H locs hW => ?_)
  refine r_astore_nq (lv' := [(2, va_rf t2), (0, .ref x0), (1, .int x1)]) hx hb dX4_copyAgrees_5 rfl hl (by decide) rfl (fun ls hl => ?_)
  refine r_aload_nq hx hb dX4_copyAgrees_6 rfl (lv_at hl 0 rfl) ?_
  replace hf := onl_c hf
  rcases hf with ⟨hq, hf⟩ | ⟨a4, hq, hf⟩
  · subst hq
    refine lv_ifnullN (tgt := 30) hx hb dX4_copyAgrees_7 (by decide) ?_
    refine lv_iconst (v := 1) hx hb dX4_copyAgrees_30 (by decide) ?_
    refine lv_goto (tgt := 35) hx hb dX4_copyAgrees_31 (by decide) ?_
    exact r_zret X hr hW (Or.inr rfl) (by cases hf; exact ⟨rfl, rfl⟩) (by decide) (by decide) dX4_copyAgrees_35
  · subst hq
    refine lv_ifnull hx hb dX4_copyAgrees_7 ?_
    refine lv_aload_n hx hb dX4_copyAgrees_10 rfl (lv_at hl 0 rfl) ?_
    replace hf := bnd hf
    obtain ⟨t5, h6, hf⟩ := hf
    refine g_5_1 X hW hinX3 hF238 h6 dX4_copyAgrees_11 ?_
    refine lv_if_eq (tgt := 30) hx hb dX4_copyAgrees_14 (by decide) (fun hc => ?_) (fun hc => ?_)
    · replace hf := itp hc hf
      refine lv_iconst (v := 1) hx hb dX4_copyAgrees_30 (by decide) ?_
      refine lv_goto (tgt := 35) hx hb dX4_copyAgrees_31 (by decide) ?_
      exact r_zret X hr hW (Or.inr rfl) (by cases hf; exact ⟨rfl, rfl⟩) (by decide) (by decide) dX4_copyAgrees_35
    · replace hf := itn hc hf
      refine lv_aload_n hx hb dX4_copyAgrees_17 rfl (lv_at hl 1 rfl) ?_
      refine lv_iload_n hx hb dX4_copyAgrees_18 rfl (lv_at hl 2 rfl) ?_
      replace hf := bnd hf
      obtain ⟨_, h7, hf⟩ := hf
      replace hf := bnd hf
      obtain ⟨t8, h9, hf⟩ := hf
      refine r_callV_ok X hW hl.1 (k_X4_touchedDifferences l hsl G A mu x0 x1 _ h9) gX4_copyAgrees_X4_touchedDifferences rfl (chk_ok h7) (by decide) rfl (by decide +kernel) (n := 1) rfl (by decide) (Nat.le_of_ble_eq_true rfl) dX4_copyAgrees_19 rfl rfl (stk := [.int t8]) rfl (fun H locs hW => ?_)
      refine lv_aload_n hx hb dX4_copyAgrees_22 rfl (lv_at hl 1 rfl) ?_
      refine lv_iload_n hx hb dX4_copyAgrees_23 rfl (lv_at hl 2 rfl) ?_
      replace hf := bnd hf
      obtain ⟨_, h10, hf⟩ := hf
      replace hf := bnd hf
      obtain ⟨t11, h12, hf⟩ := hf
      refine r_callV_ok X hW hl.1 (k_X4_comparedDifferences l hsl G A mu x0 x1 _ h12) gX4_copyAgrees_X4_comparedDifferences rfl (chk_ok h10) (by decide) rfl (by decide +kernel) (n := 1) rfl (by decide) (Nat.le_of_ble_eq_true rfl) dX4_copyAgrees_24 rfl rfl (stk := [.int t11, .int t8]) rfl (fun H locs hW => ?_)
      refine lv_icmp_ne (tgt := 34) hx hb dX4_copyAgrees_27 (by decide) (fun hc => ?_) (fun hc => ?_)
      · replace hf := itn hc hf
        refine lv_iconst (v := 0) hx hb dX4_copyAgrees_34 (by decide) ?_
        exact r_zret X hr hW (Or.inl rfl) (by cases hf; exact ⟨rfl, rfl⟩) (by decide) (by decide) dX4_copyAgrees_35
      · replace hf := itp hc hf
        refine lv_iconst (v := 1) hx hb dX4_copyAgrees_30 (by decide) ?_
        refine lv_goto (tgt := 35) hx hb dX4_copyAgrees_31 (by decide) ?_
        exact r_zret X hr hW (Or.inr rfl) (by cases hf; exact ⟨rfl, rfl⟩) (by decide) (by decide) dX4_copyAgrees_35

def f_X4_soundOfLetter (mu : Mem) (x0 : Int32) : Option (Int32) := if (x0 - 65) = 0 then (some 9) else if (x0 - 65) = 1 then (some 11) else if (x0 - 65) = 2 then (some 0) else if (x0 - 65) = 3 then (some 2) else if (x0 - 65) = 4 then (some 4) else if (x0 - 65) = 5 then (some 5) else (some 7)
set_option maxHeartbeats 1000000 in
set_option maxRecDepth 100000 in
theorem k_X4_soundOfLetter (l : Launch) (hsl : l.stackTraces = false) (G : GG) (A : Nat → Prop) (mu : Mem) (x0 : Int32) (r : Int32) (hf : f_X4_soundOfLetter mu x0 = some r) : Ok l yX4_soundOfLetter wsX4_soundOfLetter ({ frames := 6, cells := 0, slots := 0, locals := 110 } : Room) [.int x0] G A mu (dP (.inr (rI r)) mu) := by
  refine Ok.start (cc := cX4_soundOfLetter) (maxL := 1) (ret := (some .int)) rfl (by decide +kernel) hsl (by first | exact Nat.le_of_ble_eq_true rfl | simp [lg_sl, cat_rf, Value.category]) ?_
  intro p e s m args below meth c ls X hr hname hW hl
  have X : BX p l s m args meth c cX4_soundOfLetter 1 RX4 wsX4_soundOfLetter G A := X
  have hx := X.1
  have hb := X.2.1
  have hts := X.2.2.2.2.1
  have hl : lv_has ls 1 [(0, .int x0)] := hl
  unfold f_X4_soundOfLetter at hf
  refine lv_iload_n hx hb dX4_soundOfLetter_0 rfl (lv_at hl 0 rfl) ?_
  refine lv_bipush (v := 65) hx hb dX4_soundOfLetter_1 (by decide) ?_
  refine lv_isub hx hb dX4_soundOfLetter_3 ?_
  by_cases hc0 : (x0 - 65) = 0
  · replace hf := itp hc0 hf
    rw [hc0]
    refine lv_tableIn (off := 40) (tgt := 44) hx hb dX4_soundOfLetter_4 (by decide) (by decide) (by decide) (by decide) ?_
    refine lv_bipush (v := 9) hx hb dX4_soundOfLetter_44 (by decide) ?_
    exact r_iret X hr hW (by cases hf; exact ⟨rfl, rfl⟩) (by decide) (by decide) dX4_soundOfLetter_46
  · replace hf := itn hc0 hf
    by_cases hc1 : (x0 - 65) = 1
    · replace hf := itp hc1 hf
      rw [hc1]
      refine lv_tableIn (off := 43) (tgt := 47) hx hb dX4_soundOfLetter_4 (by decide) (by decide) (by decide) (by decide) ?_
      refine lv_bipush (v := 11) hx hb dX4_soundOfLetter_47 (by decide) ?_
      exact r_iret X hr hW (by cases hf; exact ⟨rfl, rfl⟩) (by decide) (by decide) dX4_soundOfLetter_49
    · replace hf := itn hc1 hf
      by_cases hc2 : (x0 - 65) = 2
      · replace hf := itp hc2 hf
        rw [hc2]
        refine lv_tableIn (off := 46) (tgt := 50) hx hb dX4_soundOfLetter_4 (by decide) (by decide) (by decide) (by decide) ?_
        refine lv_iconst (v := 0) hx hb dX4_soundOfLetter_50 (by decide) ?_
        exact r_iret X hr hW (by cases hf; exact ⟨rfl, rfl⟩) (by decide) (by decide) dX4_soundOfLetter_51
      · replace hf := itn hc2 hf
        by_cases hc3 : (x0 - 65) = 3
        · replace hf := itp hc3 hf
          rw [hc3]
          refine lv_tableIn (off := 48) (tgt := 52) hx hb dX4_soundOfLetter_4 (by decide) (by decide) (by decide) (by decide) ?_
          refine lv_iconst (v := 2) hx hb dX4_soundOfLetter_52 (by decide) ?_
          exact r_iret X hr hW (by cases hf; exact ⟨rfl, rfl⟩) (by decide) (by decide) dX4_soundOfLetter_53
        · replace hf := itn hc3 hf
          by_cases hc4 : (x0 - 65) = 4
          · replace hf := itp hc4 hf
            rw [hc4]
            refine lv_tableIn (off := 50) (tgt := 54) hx hb dX4_soundOfLetter_4 (by decide) (by decide) (by decide) (by decide) ?_
            refine lv_iconst (v := 4) hx hb dX4_soundOfLetter_54 (by decide) ?_
            exact r_iret X hr hW (by cases hf; exact ⟨rfl, rfl⟩) (by decide) (by decide) dX4_soundOfLetter_55
          · replace hf := itn hc4 hf
            by_cases hc5 : (x0 - 65) = 5
            · replace hf := itp hc5 hf
              rw [hc5]
              refine lv_tableIn (off := 52) (tgt := 56) hx hb dX4_soundOfLetter_4 (by decide) (by decide) (by decide) (by decide) ?_
              refine lv_iconst (v := 5) hx hb dX4_soundOfLetter_56 (by decide) ?_
              exact r_iret X hr hW (by cases hf; exact ⟨rfl, rfl⟩) (by decide) (by decide) dX4_soundOfLetter_57
            · replace hf := itn hc5 hf
              refine lv_tableOut (tgt := 58) hx hb dX4_soundOfLetter_4 (by have e0 : ((x0 - 65)).toInt ≠ 0 := fun z => hc0 (Int32.toInt_inj.mp (z.trans (by decide))); have e1 : ((x0 - 65)).toInt ≠ 1 := fun z => hc1 (Int32.toInt_inj.mp (z.trans (by decide))); have e2 : ((x0 - 65)).toInt ≠ 2 := fun z => hc2 (Int32.toInt_inj.mp (z.trans (by decide))); have e3 : ((x0 - 65)).toInt ≠ 3 := fun z => hc3 (Int32.toInt_inj.mp (z.trans (by decide))); have e4 : ((x0 - 65)).toInt ≠ 4 := fun z => hc4 (Int32.toInt_inj.mp (z.trans (by decide))); have e5 : ((x0 - 65)).toInt ≠ 5 := fun z => hc5 (Int32.toInt_inj.mp (z.trans (by decide))); omega) (by decide) ?_
              refine lv_bipush (v := 7) hx hb dX4_soundOfLetter_58 (by decide) ?_
              exact r_iret X hr hW (by cases hf; exact ⟨rfl, rfl⟩) (by decide) (by decide) dX4_soundOfLetter_60

def f_X4_spellingSounds (mu : Mem) (x0 : Nat) (x1 : Option Nat) : Option (Int32) := (chk mu 6 x0).bind fun _ => (f_X4_placeOf mu x0 x1).bind fun t2 => (f_X4_letterOfPlace mu t2).bind fun t4 => (f_X4_soundOfLetter mu t4).bind fun t6 => (f_X4_sharpsOfPlace mu t2).bind fun t8 => (chk mu 6 x0).bind fun _ => (f_X4_writtenPitch mu x0 x1).bind fun t11 => (f_J9_floorMod_7cf53 mu ((t6 + t8) - t11) 12).bind fun t13 => if t13 = 0 then (some 1) else (some 0)
set_option maxHeartbeats 1000000 in
set_option maxRecDepth 100000 in
theorem k_X4_spellingSounds (l : Launch) (hsl : l.stackTraces = false) (G : GG) (A : Nat → Prop) (mu : Mem) (x0 : Nat) (x1 : Option Nat) (r : Int32) (hf : f_X4_spellingSounds mu x0 x1 = some r) : Ok l yX4_spellingSounds wsX4_spellingSounds ({ frames := 12, cells := 0, slots := 0, locals := 230 } : Room) [.ref x0, va_rf x1] G A mu (dP (.inr (rI r)) mu) := by
  refine Ok.start (cc := cX4_spellingSounds) (maxL := 4) (ret := (some .boolean)) rfl (by decide +kernel) hsl (by cases x1 <;> exact Nat.le_of_ble_eq_true rfl) ?_
  intro p e s m args below meth c ls X hr hname hW hl
  have X : BX p l s m args meth c cX4_spellingSounds 4 RX4 wsX4_spellingSounds G A := X
  have hx := X.1
  have hb := X.2.1
  have hts := X.2.2.2.2.1
  have hl : lv_has ls 4 [(0, .ref x0), (1, va_rf x1)] := by cases x1 <;> exact hl
  unfold f_X4_spellingSounds at hf
  refine lv_aload_n hx hb dX4_spellingSounds_0 rfl (lv_at hl 0 rfl) ?_
  refine r_aload_nq hx hb dX4_spellingSounds_1 rfl (lv_at hl 1 rfl) ?_
  replace hf := bnd hf
  obtain ⟨_, h1, hf⟩ := hf
  replace hf := bnd hf
  obtain ⟨t2, h3, hf⟩ := hf
  refine r_callV_ok X hW hl.1 (k_X4_placeOf l hsl G A mu x0 x1 _ h3) gX4_spellingSounds_X4_placeOf rfl (chk_ok h1) (by decide) rfl (by decide +kernel) (n := 1) rfl (by decide) (Nat.le_of_ble_eq_true rfl) dX4_spellingSounds_2 rfl rfl (stk := [.int t2]) rfl (fun H locs hW => ?_)
  refine lv_istore_n (lv' := [(2, .int t2), (0, .ref x0), (1, va_rf x1)]) hx hb dX4_spellingSounds_5 rfl hl (by decide) (by cases x1 <;> rfl) (fun ls hl => ?_)
  refine lv_iload_n hx hb dX4_spellingSounds_6 rfl (lv_at hl 0 rfl) ?_
  replace hf := bnd hf
  obtain ⟨t4, h5, hf⟩ := hf
  refine r_callS_ok X hW hl.1 (k_X4_letterOfPlace l hsl G A mu t2 _ h5) gX4_spellingSounds_X4_letterOfPlace rfl (by decide +kernel) (n := 1) rfl (by decide) (Nat.le_of_ble_eq_true rfl) dX4_spellingSounds_7 rfl rfl (stk := [.int t4]) rfl (fun H locs hW => ?_)
  replace hf := bnd hf
  obtain ⟨t6, h7, hf⟩ := hf
  refine r_callS_ok X hW hl.1 (k_X4_soundOfLetter l hsl G A mu t4 _ h7) gX4_spellingSounds_X4_soundOfLetter rfl (by decide +kernel) (n := 1) rfl (by decide) (Nat.le_of_ble_eq_true rfl) dX4_spellingSounds_10 rfl rfl (stk := [.int t6]) rfl (fun H locs hW => ?_)
  refine lv_iload_n hx hb dX4_spellingSounds_13 rfl (lv_at hl 0 rfl) ?_
  replace hf := bnd hf
  obtain ⟨t8, h9, hf⟩ := hf
  refine r_callS_ok X hW hl.1 (k_X4_sharpsOfPlace l hsl G A mu t2 _ h9) gX4_spellingSounds_X4_sharpsOfPlace rfl (by decide +kernel) (n := 1) rfl (by decide) (Nat.le_of_ble_eq_true rfl) dX4_spellingSounds_14 rfl rfl (stk := [.int t8, .int t6]) rfl (fun H locs hW => ?_)
  refine lv_iadd hx hb dX4_spellingSounds_17 ?_
  refine lv_istore_n (lv' := [(3, .int (t6 + t8)), (2, .int t2), (0, .ref x0), (1, va_rf x1)]) hx hb dX4_spellingSounds_18 rfl hl (by decide) rfl (fun ls hl => ?_)
  refine lv_iload_n hx hb dX4_spellingSounds_19 rfl (lv_at hl 0 rfl) ?_
  refine lv_aload_n hx hb dX4_spellingSounds_20 rfl (lv_at hl 2 rfl) ?_
  refine r_aload_nq hx hb dX4_spellingSounds_21 rfl (lv_at hl 3 rfl) ?_
  replace hf := bnd hf
  obtain ⟨_, h10, hf⟩ := hf
  replace hf := bnd hf
  obtain ⟨t11, h12, hf⟩ := hf
  refine r_callV_ok X hW hl.1 (k_X4_writtenPitch l hsl G A mu x0 x1 _ h12) gX4_spellingSounds_X4_writtenPitch rfl (chk_ok h10) (by decide) rfl (by decide +kernel) (n := 1) rfl (by decide) (Nat.le_of_ble_eq_true rfl) dX4_spellingSounds_22 rfl rfl (stk := [.int t11, .int (t6 + t8)]) rfl (fun H locs hW => ?_)
  refine lv_isub hx hb dX4_spellingSounds_25 ?_
  refine lv_bipush (v := 12) hx hb dX4_spellingSounds_26 (by decide) ?_
  replace hf := bnd hf
  obtain ⟨t13, h14, hf⟩ := hf
  refine r_callS_ok X hW hl.1 (k_J9_floorMod_7cf53 l hsl G A mu ((t6 + t8) - t11) 12 _ h14) gX4_spellingSounds_J9_floorMod_7cf53 rfl (by decide +kernel) (n := 2) rfl (by decide) (Nat.le_of_ble_eq_true rfl) dX4_spellingSounds_28 rfl rfl (stk := [.int t13]) rfl (fun H locs hW => ?_)
  refine lv_if_ne (tgt := 38) hx hb dX4_spellingSounds_31 (by decide) (fun hc => ?_) (fun hc => ?_)
  · replace hf := itn hc hf
    refine lv_iconst (v := 0) hx hb dX4_spellingSounds_38 (by decide) ?_
    exact r_zret X hr hW (Or.inl rfl) (by cases hf; exact ⟨rfl, rfl⟩) (by decide) (by decide) dX4_spellingSounds_39
  · replace hf := itp hc hf
    refine lv_iconst (v := 1) hx hb dX4_spellingSounds_34 (by decide) ?_
    refine lv_goto (tgt := 39) hx hb dX4_spellingSounds_35 (by decide) ?_
    exact r_zret X hr hW (Or.inr rfl) (by cases hf; exact ⟨rfl, rfl⟩) (by decide) (by decide) dX4_spellingSounds_39

def f_X4_spellingsSound_L2 (mu : Mem) (u0_2 : Nat) (k9 : Int32 → Option (Int32)) : Nat → Int32 → Option (Int32)
  | 0, _ => none
  | n + 1, w1_2 => (getQ mu 6 2 u0_2).bind fun t1 => t1.bind fun a3 => (alen mu a3).bind fun t5 => if t5 ≤ w1_2 then (k9 w1_2) else ((getQ mu 6 2 u0_2).bind fun t7 => t7.bind fun a9 => (qld mu a9 w1_2).bind fun t11 => onl t11 (f_X4_spellingsSound_L2 mu u0_2 k9 n (w1_2 + 1)) (fun a13 => (getI mu 4 6 a13).bind fun t14 => if t14 = 0 then (f_X4_spellingsSound_L2 mu u0_2 k9 n (w1_2 + 1)) else ((chk mu 6 u0_2).bind fun _ => (f_X4_spellingSounds mu u0_2 (some a13)).bind fun t17 => if t17 = 0 then (some 0) else (f_X4_spellingsSound_L2 mu u0_2 k9 n (w1_2 + 1)))))
def f_X4_spellingsSound (mu : Mem) (x0 : Nat) : Option (Int32) := f_X4_spellingsSound_L2 mu x0 (fun (zw1_2 : Int32) => some 1) 200 0
set_option maxHeartbeats 1000000 in
set_option maxRecDepth 100000 in
theorem k_X4_spellingsSound (l : Launch) (hsl : l.stackTraces = false) (G : GG) (A : Nat → Prop) (mu : Mem) (x0 : Nat) (r : Int32) (hf : f_X4_spellingsSound mu x0 = some r) : Ok l yX4_spellingsSound wsX4_spellingsSound ({ frames := 14, cells := 0, slots := 0, locals := 270 } : Room) [.ref x0] G A mu (dP (.inr (rI r)) mu) := by
  refine Ok.start (cc := cX4_spellingsSound) (maxL := 3) (ret := (some .boolean)) rfl (by decide +kernel) hsl (by first | exact Nat.le_of_ble_eq_true rfl | simp [lg_sl, cat_rf, Value.category]) ?_
  intro p e s m args below meth c ls X hr hname hW hl
  have X : BX p l s m args meth c cX4_spellingsSound 3 RX4 wsX4_spellingsSound G A := X
  have hx := X.1
  have hb := X.2.1
  have hts := X.2.2.2.2.1
  have hl : lv_has ls 3 [(0, .ref x0)] := hl
  have hinX2 : ∀ w ∈ wsX20, w ∈ wsX4_spellingsSound := by decide +kernel
  have hinX4 : ∀ w ∈ wsX40, w ∈ wsX4_spellingsSound := by decide +kernel
  have hF147 : (Cond.fieldLink RX4 147 "PartcopyistBench$Note" "isIn" "Z").before args s = true := hts _ (by decide +kernel)
  have hF23 : (Cond.fieldLink RX4 23 "PartcopyistBench" "notes" "[LPartcopyistBench$Note;").before args s = true := hts _ (by decide +kernel)
  unfold f_X4_spellingsSound at hf
  refine lv_iconst (v := 0) hx hb dX4_spellingsSound_0 (by decide) ?_
  refine lv_istore_n (lv' := [(1, .int 0), (0, .ref x0)]) hx hb dX4_spellingsSound_1 rfl hl (by decide) rfl (fun ls hl => ?_)
  have L2 : ∀ (u0_2 : Nat) (k9 : Int32 → Option (Int32)),
      (∀ (w1_2 : Int32) (H : Heap) (locs : List Loc) (ls : Array Slot), k9 w1_2 = some r → MW G A mu s.heap H locs → lv_has ls 3 [(0, .ref u0_2), (1, .int w1_2)] → W p l e ({ frames := 14, cells := 0, slots := 0, locals := 270 } : Room) s m args below meth c H locs 0 0 (QQ below G A (dP (.inr (rI r)) mu) args s 0 0) (F0 m 45 ls [])) →
      ∀ (n : Nat) (w1_2 : Int32) (H : Heap) (locs : List Loc) (ls : Array Slot), f_X4_spellingsSound_L2 mu u0_2 k9 n w1_2 = some r → MW G A mu s.heap H locs → lv_has ls 3 [(0, .ref u0_2), (1, .int w1_2)] → W p l e ({ frames := 14, cells := 0, slots := 0, locals := 270 } : Room) s m args below meth c H locs 0 0 (QQ below G A (dP (.inr (rI r)) mu) args s 0 0) (F0 m 2 ls []) := by
    intro u0_2 k9 hk2 n
    induction n with
    | zero => intro w1_2 H locs ls hf hW hl; rw [f_X4_spellingsSound_L2] at hf; cases hf
    | succ n ih2 =>
      intro w1_2 H locs ls hf hW hl
      rw [f_X4_spellingsSound_L2] at hf
      refine lv_iload_n hx hb dX4_spellingsSound_2 rfl (lv_at hl 1 rfl) ?_
      refine lv_aload_n hx hb dX4_spellingsSound_3 rfl (lv_at hl 0 rfl) ?_
      replace hf := bnd hf
      obtain ⟨t1, h2, hf⟩ := hf
      refine g_6_2 X hW hinX4 hF23 h2 dX4_spellingsSound_4 ?_
      replace hf := bnd hf
      obtain ⟨a3, h4, hf⟩ := hf
      subst h4
      replace hf := bnd hf
      obtain ⟨t5, h6, hf⟩ := hf
      refine r_alen X hW h6 dX4_spellingsSound_7 ?_
      refine lv_icmp_ge (tgt := 45) hx hb dX4_spellingsSound_8 (by decide) (fun hc => ?_) (fun hc => ?_)
      · replace hf := itp hc hf
        exact hk2 _ _ _ _ hf hW (lv_sub hl [0, 1] rfl)
      · replace hf := itn hc hf
        refine lv_aload_n hx hb dX4_spellingsSound_11 rfl (lv_at hl 0 rfl) ?_
        replace hf := bnd hf
        obtain ⟨t7, h8, hf⟩ := hf
        refine g_6_2 X hW hinX4 hF23 h8 dX4_spellingsSound_12 ?_
        refine lv_iload_n hx hb dX4_spellingsSound_15 rfl (lv_at hl 1 rfl) ?_
        replace hf := bnd hf
        obtain ⟨a9, h10, hf⟩ := hf
        subst h10
        replace hf := bnd hf
        obtain ⟨t11, h12, hf⟩ := hf
        refine r_qld X hW h12 dX4_spellingsSound_16 ?_
        refine r_astore_nq (lv' := [(2, va_rf t11), (0, .ref u0_2), (1, .int w1_2)]) hx hb dX4_spellingsSound_17 rfl hl (by decide) rfl (fun ls hl => ?_)
        refine r_aload_nq hx hb dX4_spellingsSound_18 rfl (lv_at hl 0 rfl) ?_
        replace hf := onl_c hf
        rcases hf with ⟨hq, hf⟩ | ⟨a13, hq, hf⟩
        · subst hq
          refine lv_ifnullN (tgt := 39) hx hb dX4_spellingsSound_19 (by decide) ?_
          refine lv_iinc (v := (w1_2 + 1)) (lv' := [(1, .int (w1_2 + 1)), (2, .null), (0, .ref u0_2)]) hx hb dX4_spellingsSound_39 hl (k := 2) rfl rfl (by decide) rfl (fun ls hl => ?_)
          refine lv_goto (tgt := 2) hx hb dX4_spellingsSound_42 (by decide) ?_
          exact ih2 _ _ _ _ hf hW (lv_sub hl [2, 0] rfl)
        · subst hq
          refine lv_ifnull hx hb dX4_spellingsSound_19 ?_
          refine lv_aload_n hx hb dX4_spellingsSound_22 rfl (lv_at hl 0 rfl) ?_
          replace hf := bnd hf
          obtain ⟨t14, h15, hf⟩ := hf
          refine g_4_6 X hW hinX2 hF147 h15 dX4_spellingsSound_23 ?_
          refine lv_if_eq (tgt := 39) hx hb dX4_spellingsSound_26 (by decide) (fun hc => ?_) (fun hc => ?_)
          · replace hf := itp hc hf
            refine lv_iinc (v := (w1_2 + 1)) (lv' := [(1, .int (w1_2 + 1)), (2, .ref a13), (0, .ref u0_2)]) hx hb dX4_spellingsSound_39 hl (k := 2) rfl rfl (by decide) rfl (fun ls hl => ?_)
            refine lv_goto (tgt := 2) hx hb dX4_spellingsSound_42 (by decide) ?_
            exact ih2 _ _ _ _ hf hW (lv_sub hl [2, 0] rfl)
          · replace hf := itn hc hf
            refine lv_aload_n hx hb dX4_spellingsSound_29 rfl (lv_at hl 1 rfl) ?_
            refine lv_aload_n hx hb dX4_spellingsSound_30 rfl (lv_at hl 0 rfl) ?_
            replace hf := bnd hf
            obtain ⟨_, h16, hf⟩ := hf
            replace hf := bnd hf
            obtain ⟨t17, h18, hf⟩ := hf
            refine r_callV_ok X hW hl.1 (k_X4_spellingSounds l hsl G A mu u0_2 (some a13) _ h18) gX4_spellingsSound_X4_spellingSounds rfl (chk_ok h16) (by decide) rfl (by decide +kernel) (n := 1) rfl (by decide) (Nat.le_of_ble_eq_true rfl) dX4_spellingsSound_31 rfl rfl (stk := [.int t17]) rfl (fun H locs hW => ?_)
            refine lv_if_ne (tgt := 39) hx hb dX4_spellingsSound_34 (by decide) (fun hc => ?_) (fun hc => ?_)
            · replace hf := itn hc hf
              refine lv_iinc (v := (w1_2 + 1)) (lv' := [(1, .int (w1_2 + 1)), (2, .ref a13), (0, .ref u0_2)]) hx hb dX4_spellingsSound_39 hl (k := 2) rfl rfl (by decide) rfl (fun ls hl => ?_)
              refine lv_goto (tgt := 2) hx hb dX4_spellingsSound_42 (by decide) ?_
              exact ih2 _ _ _ _ hf hW (lv_sub hl [2, 0] rfl)
            · replace hf := itp hc hf
              refine lv_iconst (v := 0) hx hb dX4_spellingsSound_37 (by decide) ?_
              exact r_zret X hr hW (Or.inl rfl) (by cases hf; exact ⟨rfl, rfl⟩) (by decide) (by decide) dX4_spellingsSound_38
  refine L2 x0 _ ?_ 200 0 _ _ _ hf hW (lv_sub hl [1, 0] rfl)
  intro zw1_2 H locs ls hf hW hl
  refine lv_iconst (v := 1) hx hb dX4_spellingsSound_45 (by decide) ?_
  exact r_zret X hr hW (Or.inr rfl) (by cases hf; exact ⟨rfl, rfl⟩) (by decide) (by decide) dX4_spellingsSound_46
