def f_X4_hardTurnsByTrying (mu : Mem) (x0 : Nat) (x1 : Int32) : Option ((Nat ⊕ Int32) × Mem) := (chk mu 6 x0).bind fun _ => (f_X4_knownPart mu x0 x1).bind fun t2 => sml t2 (fun e4 => some ((.inl e4), mu)) (fun v5 => (chk mu 6 x0).bind fun _ => bi2 (f_X4_makeBlocks mu x0 x1) (fun (t7 : (Unit)) m9 => (getQ m9 6 3 x0).bind fun t10 => (f_X1_fewestHardTurns 16 m9 t10 0).bind fun t12 => some ((.inr t12), m9)))
set_option maxHeartbeats 1000000 in
set_option maxRecDepth 100000 in
theorem k_X4_hardTurnsByTrying (l : Launch) (hsl : l.stackTraces = false) (G : GG) (A : Nat → Prop) (mu : Mem) (x0 : Nat) (x1 : Int32) (r : (Nat ⊕ Int32) × Mem) (hf : f_X4_hardTurnsByTrying mu x0 x1 = some r) : Ok l yX4_hardTurnsByTrying wsX4_hardTurnsByTrying ({ frames := 56, cells := 1, slots := 6, locals := 1110 } : Room) [.ref x0, .int x1] G A mu (dP (rIx r.1) r.2) := by
  refine Ok.start (cc := cX4_hardTurnsByTrying) (maxL := 2) (ret := (some .int)) rfl (by decide +kernel) hsl (by first | exact Nat.le_of_ble_eq_true rfl | simp [lg_sl, cat_rf, Value.category]) ?_
  intro p e s m args below meth c ls X hr hname hW hl
  have X : BX p l s m args meth c cX4_hardTurnsByTrying 2 RX4 wsX4_hardTurnsByTrying G A := X
  have hx := X.1
  have hb := X.2.1
  have hts := X.2.2.2.2.1
  have hl : lv_has ls 2 [(0, .ref x0), (1, .int x1)] := hl
  have hinX4 : ∀ w ∈ wsX40, w ∈ wsX4_hardTurnsByTrying := by decide +kernel
  have hF30 : (Cond.fieldLink RX4 30 "PartcopyistBench" "blocks" "LPartcopyistBench$Blocks;").before args s = true := hts _ (by decide +kernel)
  unfold f_X4_hardTurnsByTrying at hf
  refine lv_aload_n hx hb dX4_hardTurnsByTrying_0 rfl (lv_at hl 0 rfl) ?_
  refine lv_iload_n hx hb dX4_hardTurnsByTrying_1 rfl (lv_at hl 1 rfl) ?_
  replace hf := bnd hf
  obtain ⟨_, h1, hf⟩ := hf
  replace hf := bnd hf
  obtain ⟨t2, h3, hf⟩ := hf
  replace hf := smc hf
  rcases hf with ⟨e4, hq, hf⟩ | ⟨v5, hq, hf⟩
  · subst hq
    exact r_callV_thr X hW hl.1 (k_X4_knownPart l hsl G A mu x0 x1 _ h3) gX4_hardTurnsByTrying_X4_knownPart rfl (chk_ok h1) (by decide) rfl (by decide +kernel) (n := 1) rfl (by decide) (Nat.le_of_ble_eq_true rfl) dX4_hardTurnsByTrying_2 rfl rfl (by cases hf; exact ⟨rfl, rfl⟩)
  · subst hq
    refine r_callV_ok X hW hl.1 (k_X4_knownPart l hsl G A mu x0 x1 _ h3) gX4_hardTurnsByTrying_X4_knownPart rfl (chk_ok h1) (by decide) rfl (by decide +kernel) (n := 1) rfl (by decide) (Nat.le_of_ble_eq_true rfl) dX4_hardTurnsByTrying_2 rfl rfl (stk := [va_rf v5]) rfl (fun H locs hW => ?_)
    refine lv_pop hx hb dX4_hardTurnsByTrying_5 (cat_rf _) ?_
    refine lv_aload_n hx hb dX4_hardTurnsByTrying_6 rfl (lv_at hl 0 rfl) ?_
    refine lv_iload_n hx hb dX4_hardTurnsByTrying_7 rfl (lv_at hl 1 rfl) ?_
    replace hf := bnd hf
    obtain ⟨_, h6, hf⟩ := hf
    replace hf := bnd2 hf
    obtain ⟨t7, m9, h8, hf⟩ := hf
    refine r_callV_ok (μ9 := m9) X hW hl.1 (k_X4_makeBlocks l hsl G A mu x0 x1 _ h8) gX4_hardTurnsByTrying_X4_makeBlocks rfl (chk_ok h6) (by decide) rfl (by decide +kernel) (n := 1) rfl (by decide) (Nat.le_of_ble_eq_true rfl) dX4_hardTurnsByTrying_8 rfl rfl (stk := []) rfl (fun H locs hW => ?_)
    refine lv_aload_n hx hb dX4_hardTurnsByTrying_11 rfl (lv_at hl 0 rfl) ?_
    replace hf := bnd hf
    obtain ⟨t10, h11, hf⟩ := hf
    refine g_6_3 X hW hinX4 hF30 h11 dX4_hardTurnsByTrying_12 ?_
    refine lv_iconst (v := 0) hx hb dX4_hardTurnsByTrying_15 (by decide) ?_
    replace hf := bnd hf
    obtain ⟨t12, h13, hf⟩ := hf
    refine r_callSN_ok X hW hl.1 (k_X1_fewestHardTurns l hsl G A m9 16 t10 0 _ h13) gX4_hardTurnsByTrying_X1_fewestHardTurns_n217 rfl X.2.2.2.2.2.1.2.2.2.2.2.2.2.1 (hts _ (by decide +kernel)) (hts _ (by decide +kernel)) (by decide +kernel) (n := 2) rfl (by decide) (Nat.le_of_ble_eq_true rfl) dX4_hardTurnsByTrying_16 rfl rfl (stk := [.int t12]) rfl (fun H locs hW => ?_)
    exact r_iret X hr hW (by cases hf; exact ⟨rfl, rfl⟩) (by decide) (by decide) dX4_hardTurnsByTrying_19

def f_X4_turnsAgree (mu : Mem) (x0 : Nat) (x1 : Int32) : Option ((Int32) × Mem) := (chk mu 6 x0).bind fun _ => bi2 (f_X4_makeBlocks mu x0 x1) (fun (t2 : (Unit)) m4 => (getQ m4 6 3 x0).bind fun t5 => t5.bind fun a7 => (chk m4 3 a7).bind fun _ => bi2 (f_X1_makePages m4 a7) (fun (t10 : (Unit)) m12 => (getQ m12 6 3 x0).bind fun t13 => t13.bind fun a15 => (chk m12 3 a15).bind fun _ => (f_X1_hardTurnsOfPages m12 a15).bind fun t18 => (getQ m12 6 3 x0).bind fun t20 => (f_X1_fewestHardTurns 16 m12 t20 0).bind fun t22 => if t18 = t22 then (some (1, m12)) else (some (0, m12))))
set_option maxHeartbeats 1000000 in
set_option maxRecDepth 100000 in
theorem k_X4_turnsAgree (l : Launch) (hsl : l.stackTraces = false) (G : GG) (A : Nat → Prop) (mu : Mem) (x0 : Nat) (x1 : Int32) (r : (Int32) × Mem) (hf : f_X4_turnsAgree mu x0 x1 = some r) : Ok l yX4_turnsAgree wsX4_turnsAgree ({ frames := 56, cells := 0, slots := 0, locals := 1110 } : Room) [.ref x0, .int x1] G A mu (dP (.inr (rI r.1)) r.2) := by
  refine Ok.start (cc := cX4_turnsAgree) (maxL := 2) (ret := (some .boolean)) rfl (by decide +kernel) hsl (by first | exact Nat.le_of_ble_eq_true rfl | simp [lg_sl, cat_rf, Value.category]) ?_
  intro p e s m args below meth c ls X hr hname hW hl
  have X : BX p l s m args meth c cX4_turnsAgree 2 RX4 wsX4_turnsAgree G A := X
  have hx := X.1
  have hb := X.2.1
  have hts := X.2.2.2.2.1
  have hl : lv_has ls 2 [(0, .ref x0), (1, .int x1)] := hl
  have hinX4 : ∀ w ∈ wsX40, w ∈ wsX4_turnsAgree := by decide +kernel
  have hF30 : (Cond.fieldLink RX4 30 "PartcopyistBench" "blocks" "LPartcopyistBench$Blocks;").before args s = true := hts _ (by decide +kernel)
  unfold f_X4_turnsAgree at hf
  refine lv_aload_n hx hb dX4_turnsAgree_0 rfl (lv_at hl 0 rfl) ?_
  refine lv_iload_n hx hb dX4_turnsAgree_1 rfl (lv_at hl 1 rfl) ?_
  replace hf := bnd hf
  obtain ⟨_, h1, hf⟩ := hf
  replace hf := bnd2 hf
  obtain ⟨t2, m4, h3, hf⟩ := hf
  refine r_callV_ok (μ9 := m4) X hW hl.1 (k_X4_makeBlocks l hsl G A mu x0 x1 _ h3) gX4_turnsAgree_X4_makeBlocks rfl (chk_ok h1) (by decide) rfl (by decide +kernel) (n := 1) rfl (by decide) (Nat.le_of_ble_eq_true rfl) dX4_turnsAgree_2 rfl rfl (stk := []) rfl (fun H locs hW => ?_)
  refine lv_aload_n hx hb dX4_turnsAgree_5 rfl (lv_at hl 0 rfl) ?_
  replace hf := bnd hf
  obtain ⟨t5, h6, hf⟩ := hf
  refine g_6_3 X hW hinX4 hF30 h6 dX4_turnsAgree_6 ?_
  replace hf := bnd hf
  obtain ⟨a7, h8, hf⟩ := hf
  subst h8
  replace hf := bnd hf
  obtain ⟨_, h9, hf⟩ := hf
  replace hf := bnd2 hf
  obtain ⟨t10, m12, h11, hf⟩ := hf
  refine r_callV_ok (μ9 := m12) X hW hl.1 (k_X1_makePages l hsl G A m4 a7 _ h11) gX4_turnsAgree_X1_makePages rfl (chk_ok h9) (by decide) rfl (by decide +kernel) (n := 0) rfl (by decide) (Nat.le_of_ble_eq_true rfl) dX4_turnsAgree_9 rfl rfl (stk := []) rfl (fun H locs hW => ?_)
  refine lv_aload_n hx hb dX4_turnsAgree_12 rfl (lv_at hl 0 rfl) ?_
  replace hf := bnd hf
  obtain ⟨t13, h14, hf⟩ := hf
  refine g_6_3 X hW hinX4 hF30 h14 dX4_turnsAgree_13 ?_
  replace hf := bnd hf
  obtain ⟨a15, h16, hf⟩ := hf
  subst h16
  replace hf := bnd hf
  obtain ⟨_, h17, hf⟩ := hf
  replace hf := bnd hf
  obtain ⟨t18, h19, hf⟩ := hf
  refine r_callV_ok X hW hl.1 (k_X1_hardTurnsOfPages l hsl G A m12 a15 _ h19) gX4_turnsAgree_X1_hardTurnsOfPages rfl (chk_ok h17) (by decide) rfl (by decide +kernel) (n := 0) rfl (by decide) (Nat.le_of_ble_eq_true rfl) dX4_turnsAgree_16 rfl rfl (stk := [.int t18]) rfl (fun H locs hW => ?_)
  refine lv_aload_n hx hb dX4_turnsAgree_19 rfl (lv_at hl 0 rfl) ?_
  replace hf := bnd hf
  obtain ⟨t20, h21, hf⟩ := hf
  refine g_6_3 X hW hinX4 hF30 h21 dX4_turnsAgree_20 ?_
  refine lv_iconst (v := 0) hx hb dX4_turnsAgree_23 (by decide) ?_
  replace hf := bnd hf
  obtain ⟨t22, h23, hf⟩ := hf
  refine r_callSN_ok X hW hl.1 (k_X1_fewestHardTurns l hsl G A m12 16 t20 0 _ h23) gX4_turnsAgree_X1_fewestHardTurns_n217 rfl X.2.2.2.2.2.1.2.2.2.2.2.2.2.1 (hts _ (by decide +kernel)) (hts _ (by decide +kernel)) (by decide +kernel) (n := 2) rfl (by decide) (Nat.le_of_ble_eq_true rfl) dX4_turnsAgree_24 rfl rfl (stk := [.int t22, .int t18]) rfl (fun H locs hW => ?_)
  refine lv_icmp_ne (tgt := 34) hx hb dX4_turnsAgree_27 (by decide) (fun hc => ?_) (fun hc => ?_)
  · replace hf := itn hc hf
    refine lv_iconst (v := 0) hx hb dX4_turnsAgree_34 (by decide) ?_
    exact r_zret X hr hW (Or.inl rfl) (by cases hf; exact ⟨rfl, rfl⟩) (by decide) (by decide) dX4_turnsAgree_35
  · replace hf := itp hc hf
    refine lv_iconst (v := 1) hx hb dX4_turnsAgree_30 (by decide) ?_
    refine lv_goto (tgt := 35) hx hb dX4_turnsAgree_31 (by decide) ?_
    exact r_zret X hr hW (Or.inr rfl) (by cases hf; exact ⟨rfl, rfl⟩) (by decide) (by decide) dX4_turnsAgree_35

def f_X4_isTrue_L2 (u0_2 : Nat) (k9 : Mem → Int32 → Option ((Int32) × Mem)) : Nat → Mem → Int32 → Option ((Int32) × Mem)
  | 0, _, _ => none
  | n + 1, mu2, w1_2 => (getQ mu2 6 0 u0_2).bind fun t1 => t1.bind fun a3 => (alen mu2 a3).bind fun t5 => if t5 ≤ w1_2 then (k9 mu2 w1_2) else ((getQ mu2 6 0 u0_2).bind fun t7 => t7.bind fun a9 => (qld mu2 a9 w1_2).bind fun t11 => onl t11 (f_X4_isTrue_L2 u0_2 k9 n mu2 (w1_2 + 1)) (fun a13 => (chk mu2 6 u0_2).bind fun _ => bi2 (f_X4_turnsAgree mu2 u0_2 w1_2) (fun (t15 : (Int32)) m17 => if t15 = 0 then (some (0, m17)) else ((chk m17 6 u0_2).bind fun _ => (f_X4_copyAgrees m17 u0_2 w1_2).bind fun t19 => if t19 = 0 then (some (0, m17)) else (f_X4_isTrue_L2 u0_2 k9 n m17 (w1_2 + 1))))))
def f_X4_isTrue (mu : Mem) (x0 : Nat) : Option ((Int32) × Mem) := f_X4_isTrue_L2 x0 (fun (zmu2 : Mem) (zw1_2 : Int32) => (chk zmu2 6 x0).bind fun _ => (f_X4_spellingsSound zmu2 x0).bind fun t22 => (nz t22).bind fun t24 => some (t24, zmu2)) 200 mu 0
set_option maxHeartbeats 1000000 in
set_option maxRecDepth 100000 in
theorem k_X4_isTrue (l : Launch) (hsl : l.stackTraces = false) (G : GG) (A : Nat → Prop) (mu : Mem) (x0 : Nat) (r : (Int32) × Mem) (hf : f_X4_isTrue mu x0 = some r) : Ok l yX4_isTrue wsX4_isTrue ({ frames := 58, cells := 0, slots := 0, locals := 1150 } : Room) [.ref x0] G A mu (dP (.inr (rI r.1)) r.2) := by
  refine Ok.start (cc := cX4_isTrue) (maxL := 2) (ret := (some .boolean)) rfl (by decide +kernel) hsl (by first | exact Nat.le_of_ble_eq_true rfl | simp [lg_sl, cat_rf, Value.category]) ?_
  intro p e s m args below meth c ls X hr hname hW hl
  have X : BX p l s m args meth c cX4_isTrue 2 RX4 wsX4_isTrue G A := X
  have hx := X.1
  have hb := X.2.1
  have hts := X.2.2.2.2.1
  have hl : lv_has ls 2 [(0, .ref x0)] := hl
  have hinX4 : ∀ w ∈ wsX40, w ∈ wsX4_isTrue := by decide +kernel
  have hF11 : (Cond.fieldLink RX4 11 "PartcopyistBench" "parts" "[LPartcopyistBench$Part;").before args s = true := hts _ (by decide +kernel)
  unfold f_X4_isTrue at hf
  refine lv_iconst (v := 0) hx hb dX4_isTrue_0 (by decide) ?_
  refine lv_istore_n (lv' := [(1, .int 0), (0, .ref x0)]) hx hb dX4_isTrue_1 rfl hl (by decide) rfl (fun ls hl => ?_)
  have L2 : ∀ (u0_2 : Nat) (k9 : Mem → Int32 → Option ((Int32) × Mem)),
      (∀ (mu2 : Mem) (w1_2 : Int32) (H : Heap) (locs : List Loc) (ls : Array Slot), k9 mu2 w1_2 = some r → MW G A mu2 s.heap H locs → lv_has ls 2 [(0, .ref u0_2), (1, .int w1_2)] → W p l e ({ frames := 58, cells := 0, slots := 0, locals := 1150 } : Room) s m args below meth c H locs 0 0 (QQ below G A (dP (.inr (rI r.1)) r.2) args s 0 0) (F0 m 44 ls [])) →
      ∀ (n : Nat) (mu2 : Mem) (w1_2 : Int32) (H : Heap) (locs : List Loc) (ls : Array Slot), f_X4_isTrue_L2 u0_2 k9 n mu2 w1_2 = some r → MW G A mu2 s.heap H locs → lv_has ls 2 [(0, .ref u0_2), (1, .int w1_2)] → W p l e ({ frames := 58, cells := 0, slots := 0, locals := 1150 } : Room) s m args below meth c H locs 0 0 (QQ below G A (dP (.inr (rI r.1)) r.2) args s 0 0) (F0 m 2 ls []) := by
    intro u0_2 k9 hk2 n
    induction n with
    | zero => intro mu2 w1_2 H locs ls hf hW hl; rw [f_X4_isTrue_L2] at hf; cases hf
    | succ n ih2 =>
      intro mu2 w1_2 H locs ls hf hW hl
      rw [f_X4_isTrue_L2] at hf
      refine lv_iload_n hx hb dX4_isTrue_2 rfl (lv_at hl 1 rfl) ?_
      refine lv_aload_n hx hb dX4_isTrue_3 rfl (lv_at hl 0 rfl) ?_
      replace hf := bnd hf
      obtain ⟨t1, h2, hf⟩ := hf
      refine g_6_0 X hW hinX4 hF11 h2 dX4_isTrue_4 ?_
      replace hf := bnd hf
      obtain ⟨a3, h4, hf⟩ := hf
      subst h4
      replace hf := bnd hf
      obtain ⟨t5, h6, hf⟩ := hf
      refine r_alen X hW h6 dX4_isTrue_7 ?_
      refine lv_icmp_ge (tgt := 44) hx hb dX4_isTrue_8 (by decide) (fun hc => ?_) (fun hc => ?_)
      · replace hf := itp hc hf
        exact hk2 _ _ _ _ _ hf hW (lv_sub hl [0, 1] rfl)
      · replace hf := itn hc hf
        refine lv_aload_n hx hb dX4_isTrue_11 rfl (lv_at hl 0 rfl) ?_
        replace hf := bnd hf
        obtain ⟨t7, h8, hf⟩ := hf
        refine g_6_0 X hW hinX4 hF11 h8 dX4_isTrue_12 ?_
        refine lv_iload_n hx hb dX4_isTrue_15 rfl (lv_at hl 1 rfl) ?_
        replace hf := bnd hf
        obtain ⟨a9, h10, hf⟩ := hf
        subst h10
        replace hf := bnd hf
        obtain ⟨t11, h12, hf⟩ := hf
        refine r_qld X hW h12 dX4_isTrue_16 ?_
        replace hf := onl_c hf
        rcases hf with ⟨hq, hf⟩ | ⟨a13, hq, hf⟩
        · subst hq
          refine lv_ifnullN (tgt := 38) hx hb dX4_isTrue_17 (by decide) ?_
          refine lv_iinc (v := (w1_2 + 1)) (lv' := [(1, .int (w1_2 + 1)), (0, .ref u0_2)]) hx hb dX4_isTrue_38 hl (k := 1) rfl rfl (by decide) rfl (fun ls hl => ?_)
          refine lv_goto (tgt := 2) hx hb dX4_isTrue_41 (by decide) ?_
          exact ih2 _ _ _ _ _ hf hW (lv_sub hl [1, 0] rfl)
        · subst hq
          refine lv_ifnull hx hb dX4_isTrue_17 ?_
          refine lv_aload_n hx hb dX4_isTrue_20 rfl (lv_at hl 0 rfl) ?_
          refine lv_iload_n hx hb dX4_isTrue_21 rfl (lv_at hl 1 rfl) ?_
          replace hf := bnd hf
          obtain ⟨_, h14, hf⟩ := hf
          replace hf := bnd2 hf
          obtain ⟨t15, m17, h16, hf⟩ := hf
          refine r_callV_ok (μ9 := m17) X hW hl.1 (k_X4_turnsAgree l hsl G A mu2 u0_2 w1_2 _ h16) gX4_isTrue_X4_turnsAgree rfl (chk_ok h14) (by decide) rfl (by decide +kernel) (n := 1) rfl (by decide) (Nat.le_of_ble_eq_true rfl) dX4_isTrue_22 rfl rfl (stk := [.int t15]) rfl (fun H locs hW => ?_)
          refine lv_if_eq (tgt := 36) hx hb dX4_isTrue_25 (by decide) (fun hc => ?_) (fun hc => ?_)
          · replace hf := itp hc hf
            refine lv_iconst (v := 0) hx hb dX4_isTrue_36 (by decide) ?_
            exact r_zret X hr hW (Or.inl rfl) (by cases hf; exact ⟨rfl, rfl⟩) (by decide) (by decide) dX4_isTrue_37
          · replace hf := itn hc hf
            refine lv_aload_n hx hb dX4_isTrue_28 rfl (lv_at hl 0 rfl) ?_
            refine lv_iload_n hx hb dX4_isTrue_29 rfl (lv_at hl 1 rfl) ?_
            replace hf := bnd hf
            obtain ⟨_, h18, hf⟩ := hf
            replace hf := bnd hf
            obtain ⟨t19, h20, hf⟩ := hf
            refine r_callV_ok X hW hl.1 (k_X4_copyAgrees l hsl G A m17 u0_2 w1_2 _ h20) gX4_isTrue_X4_copyAgrees rfl (chk_ok h18) (by decide) rfl (by decide +kernel) (n := 1) rfl (by decide) (Nat.le_of_ble_eq_true rfl) dX4_isTrue_30 rfl rfl (stk := [.int t19]) rfl (fun H locs hW => ?_)
            refine lv_if_ne (tgt := 38) hx hb dX4_isTrue_33 (by decide) (fun hc => ?_) (fun hc => ?_)
            · replace hf := itn hc hf
              refine lv_iinc (v := (w1_2 + 1)) (lv' := [(1, .int (w1_2 + 1)), (0, .ref u0_2)]) hx hb dX4_isTrue_38 hl (k := 1) rfl rfl (by decide) rfl (fun ls hl => ?_)
              refine lv_goto (tgt := 2) hx hb dX4_isTrue_41 (by decide) ?_
              exact ih2 _ _ _ _ _ hf hW (lv_sub hl [1, 0] rfl)
            · replace hf := itp hc hf
              refine lv_iconst (v := 0) hx hb dX4_isTrue_36 (by decide) ?_
              exact r_zret X hr hW (Or.inl rfl) (by cases hf; exact ⟨rfl, rfl⟩) (by decide) (by decide) dX4_isTrue_37
  refine L2 x0 _ ?_ 200 mu 0 _ _ _ hf hW (lv_sub hl [1, 0] rfl)
  intro zmu2 zw1_2 H locs ls hf hW hl
  refine lv_aload_n hx hb dX4_isTrue_44 rfl (lv_at hl 0 rfl) ?_
  replace hf := bnd hf
  obtain ⟨_, h21, hf⟩ := hf
  replace hf := bnd hf
  obtain ⟨t22, h23, hf⟩ := hf
  refine r_callV_ok X hW hl.1 (k_X4_spellingsSound l hsl G A zmu2 x0 _ h23) gX4_isTrue_X4_spellingsSound rfl (chk_ok h21) (by decide) rfl (by decide +kernel) (n := 0) rfl (by decide) (Nat.le_of_ble_eq_true rfl) dX4_isTrue_45 rfl rfl (stk := [.int t22]) rfl (fun H locs hW => ?_)
  replace hf := bnd hf
  obtain ⟨t24, h25, hf⟩ := hf
  obtain ⟨hcc, hce⟩ := ifs h25
  subst hce
  exact r_zret X hr hW hcc (by cases hf; exact ⟨rfl, rfl⟩) (by decide) (by decide) dX4_isTrue_48
