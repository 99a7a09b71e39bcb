def f_X1_fewestHardTurns_L30 (rec9 : Option Nat → Int32 → Option Int32) (mu : Mem) (u0_30 : Nat) (u1_30 : Int32) (k9 : Int32 → Int32 → Int32 → Option (Int32)) : Nat → Int32 → Int32 → Int32 → Option (Int32)
  | 0, _, _, _ => none
  | n + 1, w2_30, w3_30, w4_30 => (getI mu 3 9 u0_30).bind fun t6 => if t6 < w4_30 then (k9 w2_30 w3_30 w4_30) else (if w2_30 ≤ 0 then (k9 w2_30 w3_30 w4_30) else ((getQ mu 3 2 u0_30).bind fun t8 => t8.bind fun a10 => (ald mu a10 (w4_30 - 1)).bind fun t12 => (getI mu 3 10 u0_30).bind fun t14 => if (w3_30 + t12) ≤ t14 then ((chk mu 3 u0_30).bind fun _ => (f_X1_hardTurnAhead mu u0_30 w4_30).bind fun t17 => (rec9 (some u0_30) w4_30).bind fun t19 => f_X1_fewestHardTurns_L30 rec9 mu u0_30 u1_30 k9 n (if (t17 + t19) < w2_30 then (t17 + t19) else w2_30) (w3_30 + t12) (w4_30 + 1)) else (if w4_30 ≤ (u1_30 + 1) then ((chk mu 3 u0_30).bind fun _ => (f_X1_hardTurnAhead mu u0_30 w4_30).bind fun t22 => (rec9 (some u0_30) w4_30).bind fun t24 => f_X1_fewestHardTurns_L30 rec9 mu u0_30 u1_30 k9 n (if (t22 + t24) < w2_30 then (t22 + t24) else w2_30) (w3_30 + t12) (w4_30 + 1)) else (k9 w2_30 (w3_30 + t12) w4_30))))
def f_X1_fewestHardTurns_1 (mu : Mem) (rec9 : Option Nat → Int32 → Option (Int32)) (x0 : Option Nat) (x1 : Int32) : Option (Int32) := onl x0 (some 0) (fun a1 => if x1 < 0 then (some 0) else ((getI mu 3 9 a1).bind fun t2 => if x1 < t2 then ((getI mu 3 9 a1).bind fun t4 => f_X1_fewestHardTurns_L30 rec9 mu a1 x1 (fun (zw2_30 : Int32) (zw3_30 : Int32) (zw4_30 : Int32) => some zw2_30) 200 t4 0 (x1 + 1)) else (some 0)))
def f_X1_fewestHardTurns (d9 : Nat) (mu : Mem) : Option Nat → Int32 → Option (Int32) := match d9 with
  | 0 => fun _ _ => none
  | d9 + 1 => f_X1_fewestHardTurns_1 mu (f_X1_fewestHardTurns d9 mu)
set_option maxHeartbeats 1000000 in
set_option maxRecDepth 100000 in
theorem k_X1_fewestHardTurns_1 (l : Launch) (hsl : l.stackTraces = false) (G : GG) (A : Nat → Prop) (mu : Mem) (d9 : Nat) (rec9 : Option Nat → Int32 → Option (Int32)) (hrec : ∀ (x0 : Option Nat) (x1 : Int32) (r : Int32), rec9 x0 x1 = some r → Ok l yX1_fewestHardTurns wsX1_fewestHardTurns (RMd d9) [va_rf x0, .int x1] G A mu (dP (.inr (rI r)) mu)) (x0 : Option Nat) (x1 : Int32) (r : Int32) (hf : f_X1_fewestHardTurns_1 mu rec9 x0 x1 = some r) : Ok l yX1_fewestHardTurns wsX1_fewestHardTurns (RMd (d9 + 1)) [va_rf x0, .int x1] G A mu (dP (.inr (rI r)) mu) := by
  refine Ok.start (cc := cX1_fewestHardTurns) (maxL := 6) (ret := (some .int)) rfl (by decide +kernel) hsl (by cases x0 <;> exact Nat.le_of_ble_eq_true rfl) ?_
  intro p e s m args below meth c ls X hr hname hW hl
  have X : BX p l s m args meth c cX1_fewestHardTurns 6 RX1 wsX1_fewestHardTurns G A := X
  have hx := X.1
  have hb := X.2.1
  have hts := X.2.2.2.2.1
  have hl : lv_has ls 6 [(0, va_rf x0), (1, .int x1)] := by cases x0 <;> exact hl
  have hinX1 : ∀ w ∈ wsX10, w ∈ wsX1_fewestHardTurns := by decide +kernel
  have hMc_min : (Cond.code Lib.Math.min.name Lib.Math.min.code 2 (some .int)).before args s = true := hts _ (by decide +kernel)
  have hMi : (Cond.initialized "java/lang/Math").before args s = true := hts _ (by decide +kernel)
  have hMl_min : (Cond.methodLink RX1 73 Lib.Math.min.name).before args s = true := hts _ (by decide +kernel)
  have hMs_min : (Cond.static Lib.Math.min.name).before args s = true := hts _ (by decide +kernel)
  have hF18 : (Cond.fieldLink RX1 18 "PartcopyistBench$Blocks" "places" "[I").before args s = true := hts _ (by decide +kernel)
  have hF40 : (Cond.fieldLink RX1 40 "PartcopyistBench$Blocks" "count" "I").before args s = true := hts _ (by decide +kernel)
  have hF44 : (Cond.fieldLink RX1 44 "PartcopyistBench$Blocks" "pagePlaces" "I").before args s = true := hts _ (by decide +kernel)
  unfold f_X1_fewestHardTurns_1 at hf
  refine r_aload_nq hx hb dX1_fewestHardTurns_0 rfl (lv_at hl 0 rfl) ?_
  replace hf := onl_c hf
  rcases hf with ⟨hq, hf⟩ | ⟨a1, hq, hf⟩
  · subst hq
    refine lv_ifnullN (tgt := 16) hx hb dX1_fewestHardTurns_1 (by decide) ?_
    refine lv_iconst (v := 0) hx hb dX1_fewestHardTurns_16 (by decide) ?_
    exact r_iret X hr hW (by cases hf; exact ⟨rfl, rfl⟩) (Nat.zero_le _) (Nat.zero_le _) dX1_fewestHardTurns_17
  · subst hq
    refine lv_ifnull hx hb dX1_fewestHardTurns_1 ?_
    refine lv_iload_n hx hb dX1_fewestHardTurns_4 rfl (lv_at hl 1 rfl) ?_
    refine lv_if_lt (tgt := 16) hx hb dX1_fewestHardTurns_5 (by decide) (fun hc => ?_) (fun hc => ?_)
    · replace hf := itp hc hf
      refine lv_iconst (v := 0) hx hb dX1_fewestHardTurns_16 (by decide) ?_
      exact r_iret X hr hW (by cases hf; exact ⟨rfl, rfl⟩) (Nat.zero_le _) (Nat.zero_le _) dX1_fewestHardTurns_17
    · replace hf := itn hc hf
      refine lv_iload_n hx hb dX1_fewestHardTurns_8 rfl (lv_at hl 1 rfl) ?_
      refine lv_aload_n hx hb dX1_fewestHardTurns_9 rfl (lv_at hl 0 rfl) ?_
      replace hf := bnd hf
      obtain ⟨t2, h3, hf⟩ := hf
      refine g_3_9 X hW hinX1 hF40 h3 dX1_fewestHardTurns_10 ?_
      refine lv_icmp_lt (tgt := 18) hx hb dX1_fewestHardTurns_13 (by decide) (fun hc => ?_) (fun hc => ?_)
      · replace hf := itp hc hf
        refine lv_aload_n hx hb dX1_fewestHardTurns_18 rfl (lv_at hl 0 rfl) ?_
        replace hf := bnd hf
        obtain ⟨t4, h5, hf⟩ := hf
        refine g_3_9 X hW hinX1 hF40 h5 dX1_fewestHardTurns_19 ?_
        refine lv_istore_n (lv' := [(2, .int t4), (0, .ref a1), (1, .int x1)]) hx hb dX1_fewestHardTurns_22 rfl hl (by decide) rfl (fun ls hl => ?_)
        refine lv_iconst (v := 0) hx hb dX1_fewestHardTurns_23 (by decide) ?_
        refine lv_istore_n (lv' := [(3, .int 0), (2, .int t4), (0, .ref a1), (1, .int x1)]) hx hb dX1_fewestHardTurns_24 rfl hl (by decide) rfl (fun ls hl => ?_)
        refine lv_iload_n hx hb dX1_fewestHardTurns_25 rfl (lv_at hl 3 rfl) ?_
        refine lv_iconst (v := 1) hx hb dX1_fewestHardTurns_26 (by decide) ?_
        refine lv_iadd hx hb dX1_fewestHardTurns_27 ?_
        refine lv_istore (lv' := [(4, .int (x1 + 1)), (3, .int 0), (2, .int t4), (0, .ref a1), (1, .int x1)]) hx hb dX1_fewestHardTurns_28 hl (by decide) rfl (fun ls hl => ?_)
        have L30 : ∀ (u0_30 : Nat) (u1_30 : Int32) (k9 : Int32 → Int32 → Int32 → Option (Int32)),
            (∀ (w2_30 : Int32) (w3_30 : Int32) (w4_30 : Int32) (H : Heap) (locs : List Loc) (ls : Array Slot), k9 w2_30 w3_30 w4_30 = some r → MW G A mu s.heap H locs → lv_has ls 6 [(0, .ref u0_30), (1, .int u1_30), (2, .int w2_30), (3, .int w3_30), (4, .int w4_30)] → W p l e (RMd (d9 + 1)) s m args below meth c H locs 0 0 (QQ below G A (dP (.inr (rI r)) mu) args s 0 0) (F0 m 102 ls [])) →
            ∀ (n : Nat) (w2_30 : Int32) (w3_30 : Int32) (w4_30 : Int32) (H : Heap) (locs : List Loc) (ls : Array Slot), f_X1_fewestHardTurns_L30 rec9 mu u0_30 u1_30 k9 n w2_30 w3_30 w4_30 = some r → MW G A mu s.heap H locs → lv_has ls 6 [(0, .ref u0_30), (1, .int u1_30), (2, .int w2_30), (3, .int w3_30), (4, .int w4_30)] → W p l e (RMd (d9 + 1)) s m args below meth c H locs 0 0 (QQ below G A (dP (.inr (rI r)) mu) args s 0 0) (F0 m 30 ls []) := by
          intro u0_30 u1_30 k9 hk30 n
          induction n with
          | zero => intro w2_30 w3_30 w4_30 H locs ls hf hW hl; rw [f_X1_fewestHardTurns_L30] at hf; cases hf
          | succ n ih30 =>
            intro w2_30 w3_30 w4_30 H locs ls hf hW hl
            rw [f_X1_fewestHardTurns_L30] at hf
            refine lv_iload hx hb dX1_fewestHardTurns_30 (lv_at hl 4 rfl) ?_
            refine lv_aload_n hx hb dX1_fewestHardTurns_32 rfl (lv_at hl 0 rfl) ?_
            replace hf := bnd hf
            obtain ⟨t6, h7, hf⟩ := hf
            refine g_3_9 X hW hinX1 hF40 h7 dX1_fewestHardTurns_33 ?_
            refine lv_icmp_gt (tgt := 102) hx hb dX1_fewestHardTurns_36 (by decide) (fun hc => ?_) (fun hc => ?_)
            · replace hf := itp hc hf
              exact hk30 _ _ _ _ _ _ hf hW (lv_sub hl [0, 1, 2, 3, 4] rfl)
            · replace hf := itn hc hf
              refine lv_iload_n hx hb dX1_fewestHardTurns_39 rfl (lv_at hl 2 rfl) ?_
              refine lv_if_le (tgt := 102) hx hb dX1_fewestHardTurns_40 (by decide) (fun hc => ?_) (fun hc => ?_)
              · replace hf := itp hc hf
                exact hk30 _ _ _ _ _ _ hf hW (lv_sub hl [0, 1, 2, 3, 4] rfl)
              · replace hf := itn hc hf
                refine lv_iload_n hx hb dX1_fewestHardTurns_43 rfl (lv_at hl 3 rfl) ?_
                refine lv_aload_n hx hb dX1_fewestHardTurns_44 rfl (lv_at hl 0 rfl) ?_
                replace hf := bnd hf
                obtain ⟨t8, h9, hf⟩ := hf
                refine g_3_2 X hW hinX1 hF18 h9 dX1_fewestHardTurns_45 ?_
                refine lv_iload hx hb dX1_fewestHardTurns_48 (lv_at hl 4 rfl) ?_
                refine lv_iconst (v := 1) hx hb dX1_fewestHardTurns_50 (by decide) ?_
                refine lv_isub hx hb dX1_fewestHardTurns_51 ?_
                replace hf := bnd hf
                obtain ⟨a10, h11, hf⟩ := hf
                subst h11
                replace hf := bnd hf
                obtain ⟨t12, h13, hf⟩ := hf
                refine r_ald X hW h13 dX1_fewestHardTurns_52 ?_
                refine lv_iadd hx hb dX1_fewestHardTurns_53 ?_
                refine lv_istore_n (lv' := [(3, .int (w3_30 + t12)), (0, .ref u0_30), (1, .int u1_30), (2, .int w2_30), (4, .int w4_30)]) hx hb dX1_fewestHardTurns_54 rfl hl (by decide) rfl (fun ls hl => ?_)
                refine lv_iload_n hx hb dX1_fewestHardTurns_55 rfl (lv_at hl 0 rfl) ?_
                refine lv_aload_n hx hb dX1_fewestHardTurns_56 rfl (lv_at hl 1 rfl) ?_
                replace hf := bnd hf
                obtain ⟨t14, h15, hf⟩ := hf
                refine g_3_10 X hW hinX1 hF44 h15 dX1_fewestHardTurns_57 ?_
                refine lv_icmp_le (tgt := 74) hx hb dX1_fewestHardTurns_60 (by decide) (fun hc => ?_) (fun hc => ?_)
                · replace hf := itp hc hf
                  refine lv_aload_n hx hb dX1_fewestHardTurns_74 rfl (lv_at hl 1 rfl) ?_
                  refine lv_iload hx hb dX1_fewestHardTurns_75 (lv_at hl 4 rfl) ?_
                  replace hf := bnd hf
                  obtain ⟨_, h16, hf⟩ := hf
                  replace hf := bnd hf
                  obtain ⟨t17, h18, hf⟩ := hf
                  refine r_callV_ok X hW hl.1 (k_X1_hardTurnAhead l hsl G A mu u0_30 w4_30 _ h18) gX1_fewestHardTurns_X1_hardTurnAhead rfl (chk_ok h16) (by decide) rfl (by decide +kernel) (n := 1) rfl (by first | (refine ⟨?_, ?_, ?_, ?_, ?_, ?_⟩ <;> first | decide | (simp only [RMd]; omega)) | (simp [RMd] <;> omega) | decide) (Nat.le_of_ble_eq_true rfl) dX1_fewestHardTurns_77 rfl rfl (stk := [.int t17]) rfl (fun H locs hW => ?_)
                  refine lv_aload_n hx hb dX1_fewestHardTurns_80 rfl (lv_at hl 1 rfl) ?_
                  refine lv_iload hx hb dX1_fewestHardTurns_81 (lv_at hl 4 rfl) ?_
                  replace hf := bnd hf
                  obtain ⟨t19, h20, hf⟩ := hf
                  refine r_callS_ok X hW hl.1 (hrec (some u0_30) w4_30 _ h20) gX1_fewestHardTurns_X1_fewestHardTurns rfl (by decide +kernel) (n := 2) rfl (by first | (refine ⟨?_, ?_, ?_, ?_, ?_, ?_⟩ <;> first | decide | (simp only [RMd]; omega)) | (simp [RMd] <;> omega) | decide) (Nat.le_of_ble_eq_true rfl) dX1_fewestHardTurns_83 rfl rfl (stk := [.int t19, .int t17]) rfl (fun H locs hW => ?_)
                  refine lv_iadd hx hb dX1_fewestHardTurns_86 ?_
                  refine lv_istore (lv' := [(5, .int (t17 + t19)), (3, .int (w3_30 + t12)), (0, .ref u0_30), (1, .int u1_30), (2, .int w2_30), (4, .int w4_30)]) hx hb dX1_fewestHardTurns_87 hl (by decide) rfl (fun ls hl => ?_)
                  refine lv_iload_n hx hb dX1_fewestHardTurns_89 rfl (lv_at hl 4 rfl) ?_
                  refine lv_iload hx hb dX1_fewestHardTurns_90 (lv_at hl 0 rfl) ?_
                  refine va_mmin hx hb (X.2.2.1.trans hl.1.symm) X.2.2.2.1 hMl_min hMs_min hMi hMc_min (by first | (refine ⟨?_, ?_, ?_, ?_, ?_, ?_⟩ <;> first | decide | (simp only [RMd]; omega)) | (simp [RMd] <;> omega) | decide) (by first | (refine ⟨?_, ?_, ?_, ?_, ?_, ?_⟩ <;> first | decide | (simp only [RMd]; omega)) | (simp [RMd] <;> omega) | decide) (Nat.zero_le _) (Nat.zero_le _) dX1_fewestHardTurns_92 ?_
                  refine lv_istore_n (lv' := [(2, .int (if (t17 + t19) < w2_30 then (t17 + t19) else w2_30)), (5, .int (t17 + t19)), (3, .int (w3_30 + t12)), (0, .ref u0_30), (1, .int u1_30), (4, .int w4_30)]) hx hb dX1_fewestHardTurns_95 rfl hl (by decide) rfl (fun ls hl => ?_)
                  refine lv_iinc (v := (w4_30 + 1)) (lv' := [(4, .int (w4_30 + 1)), (2, .int (if (t17 + t19) < w2_30 then (t17 + t19) else w2_30)), (5, .int (t17 + t19)), (3, .int (w3_30 + t12)), (0, .ref u0_30), (1, .int u1_30)]) hx hb dX1_fewestHardTurns_96 hl (k := 5) rfl rfl (by decide) rfl (fun ls hl => ?_)
                  refine lv_goto (tgt := 30) hx hb dX1_fewestHardTurns_99 (by decide) ?_
                  exact ih30 _ _ _ _ _ _ hf hW (lv_sub hl [4, 5, 1, 3, 0] rfl)
                · replace hf := itn hc hf
                  refine lv_iload hx hb dX1_fewestHardTurns_63 (lv_at hl 4 rfl) ?_
                  refine lv_iload_n hx hb dX1_fewestHardTurns_65 rfl (lv_at hl 2 rfl) ?_
                  refine lv_iconst (v := 1) hx hb dX1_fewestHardTurns_66 (by decide) ?_
                  refine lv_iadd hx hb dX1_fewestHardTurns_67 ?_
                  refine lv_icmp_le (tgt := 74) hx hb dX1_fewestHardTurns_68 (by decide) (fun hc => ?_) (fun hc => ?_)
                  · replace hf := itp hc hf
                    refine lv_aload_n hx hb dX1_fewestHardTurns_74 rfl (lv_at hl 1 rfl) ?_
                    refine lv_iload hx hb dX1_fewestHardTurns_75 (lv_at hl 4 rfl) ?_
                    replace hf := bnd hf
                    obtain ⟨_, h21, hf⟩ := hf
                    replace hf := bnd hf
                    obtain ⟨t22, h23, hf⟩ := hf
                    refine r_callV_ok X hW hl.1 (k_X1_hardTurnAhead l hsl G A mu u0_30 w4_30 _ h23) gX1_fewestHardTurns_X1_hardTurnAhead rfl (chk_ok h21) (by decide) rfl (by decide +kernel) (n := 1) rfl (by first | (refine ⟨?_, ?_, ?_, ?_, ?_, ?_⟩ <;> first | decide | (simp only [RMd]; omega)) | (simp [RMd] <;> omega) | decide) (Nat.le_of_ble_eq_true rfl) dX1_fewestHardTurns_77 rfl rfl (stk := [.int t22]) rfl (fun H locs hW => ?_)
                    refine lv_aload_n hx hb dX1_fewestHardTurns_80 rfl (lv_at hl 1 rfl) ?_
                    refine lv_iload hx hb dX1_fewestHardTurns_81 (lv_at hl 4 rfl) ?_
                    replace hf := bnd hf
                    obtain ⟨t24, h25, hf⟩ := hf
                    refine r_callS_ok X hW hl.1 (hrec (some u0_30) w4_30 _ h25) gX1_fewestHardTurns_X1_fewestHardTurns rfl (by decide +kernel) (n := 2) rfl (by first | (refine ⟨?_, ?_, ?_, ?_, ?_, ?_⟩ <;> first | decide | (simp only [RMd]; omega)) | (simp [RMd] <;> omega) | decide) (Nat.le_of_ble_eq_true rfl) dX1_fewestHardTurns_83 rfl rfl (stk := [.int t24, .int t22]) rfl (fun H locs hW => ?_)
                    refine lv_iadd hx hb dX1_fewestHardTurns_86 ?_
                    refine lv_istore (lv' := [(5, .int (t22 + t24)), (3, .int (w3_30 + t12)), (0, .ref u0_30), (1, .int u1_30), (2, .int w2_30), (4, .int w4_30)]) hx hb dX1_fewestHardTurns_87 hl (by decide) rfl (fun ls hl => ?_)
                    refine lv_iload_n hx hb dX1_fewestHardTurns_89 rfl (lv_at hl 4 rfl) ?_
                    refine lv_iload hx hb dX1_fewestHardTurns_90 (lv_at hl 0 rfl) ?_
                    refine va_mmin hx hb (X.2.2.1.trans hl.1.symm) X.2.2.2.1 hMl_min hMs_min hMi hMc_min (by first | (refine ⟨?_, ?_, ?_, ?_, ?_, ?_⟩ <;> first | decide | (simp only [RMd]; omega)) | (simp [RMd] <;> omega) | decide) (by first | (refine ⟨?_, ?_, ?_, ?_, ?_, ?_⟩ <;> first | decide | (simp only [RMd]; omega)) | (simp [RMd] <;> omega) | decide) (Nat.zero_le _) (Nat.zero_le _) dX1_fewestHardTurns_92 ?_
                    refine lv_istore_n (lv' := [(2, .int (if (t22 + t24) < w2_30 then (t22 + t24) else w2_30)), (5, .int (t22 + t24)), (3, .int (w3_30 + t12)), (0, .ref u0_30), (1, .int u1_30), (4, .int w4_30)]) hx hb dX1_fewestHardTurns_95 rfl hl (by decide) rfl (fun ls hl => ?_)
                    refine lv_iinc (v := (w4_30 + 1)) (lv' := [(4, .int (w4_30 + 1)), (2, .int (if (t22 + t24) < w2_30 then (t22 + t24) else w2_30)), (5, .int (t22 + t24)), (3, .int (w3_30 + t12)), (0, .ref u0_30), (1, .int u1_30)]) hx hb dX1_fewestHardTurns_96 hl (k := 5) rfl rfl (by decide) rfl (fun ls hl => ?_)
                    refine lv_goto (tgt := 30) hx hb dX1_fewestHardTurns_99 (by decide) ?_
                    exact ih30 _ _ _ _ _ _ hf hW (lv_sub hl [4, 5, 1, 3, 0] rfl)
                  · replace hf := itn hc hf
                    refine lv_goto (tgt := 102) hx hb dX1_fewestHardTurns_71 (by decide) ?_
                    exact hk30 _ _ _ _ _ _ hf hW (lv_sub hl [1, 2, 3, 0, 4] rfl)
        refine L30 a1 x1 _ ?_ 200 t4 0 (x1 + 1) _ _ _ hf hW (lv_sub hl [3, 4, 2, 1, 0] rfl)
        intro zw2_30 zw3_30 zw4_30 H locs ls hf hW hl
        refine lv_iload_n hx hb dX1_fewestHardTurns_102 rfl (lv_at hl 2 rfl) ?_
        exact r_iret X hr hW (by cases hf; exact ⟨rfl, rfl⟩) (Nat.zero_le _) (Nat.zero_le _) dX1_fewestHardTurns_103
      · replace hf := itn hc hf
        refine lv_iconst (v := 0) hx hb dX1_fewestHardTurns_16 (by decide) ?_
        exact r_iret X hr hW (by cases hf; exact ⟨rfl, rfl⟩) (Nat.zero_le _) (Nat.zero_le _) dX1_fewestHardTurns_17
theorem k_X1_fewestHardTurns (l : Launch) (hsl : l.stackTraces = false) (G : GG) (A : Nat → Prop) (mu : Mem) (d9 : Nat) : ∀ (x0 : Option Nat) (x1 : Int32) (r : Int32), f_X1_fewestHardTurns d9 mu x0 x1 = some r → Ok l yX1_fewestHardTurns wsX1_fewestHardTurns (RMd d9) [va_rf x0, .int x1] G A mu (dP (.inr (rI r)) mu) := by
  induction d9 with
  | zero => intro x0 x1 r hf; rw [f_X1_fewestHardTurns] at hf; cases hf
  | succ d9 ih => intro x0 x1 r hf; rw [f_X1_fewestHardTurns] at hf; exact k_X1_fewestHardTurns_1 l hsl G A mu d9 _ ih x0 x1 r hf
