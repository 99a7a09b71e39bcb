def f_X5_finds_L7 (u0_7 : Nat) (u1_7 : Int32) (k9 : Mem → Int32 → Option ((Unit) × Mem)) : Nat → Mem → Int32 → Option ((Unit) × Mem)
  | 0, _, _ => none
  | n + 1, mu7, w2_7 => (getI mu7 7 16 u0_7).bind fun t3 => if t3 ≤ w2_7 then (k9 mu7 w2_7) else ((chk mu7 7 u0_7).bind fun _ => (f_X5_many mu7 u0_7 u1_7 w2_7).bind fun t6 => if t6 = 0 then ((getQ mu7 7 12 u0_7).bind fun t28 => t28.bind fun a30 => (zld mu7 a30 w2_7).bind fun t32 => if t32 = 0 then ((getI mu7 7 23 u0_7).bind fun t54 => if t54 ≤ 0 then ((getQ mu7 7 21 u0_7).bind fun t56 => (getI mu7 7 23 u0_7).bind fun t58 => t56.bind fun a60 => (ast mu7 a60 t58 w2_7).bind fun m62 => (getQ m62 7 22 u0_7).bind fun t64 => (getI m62 7 23 u0_7).bind fun t66 => t64.bind fun a68 => (ast m62 a68 t66 1).bind fun m70 => (getI m70 7 23 u0_7).bind fun t72 => (putI m70 7 23 u0_7 (t72 + 1)).bind fun m74 => f_X5_finds_L7 u0_7 u1_7 k9 n m74 (w2_7 + 1)) else ((getQ mu7 7 22 u0_7).bind fun t76 => (getI mu7 7 23 u0_7).bind fun t78 => t76.bind fun a80 => (ald mu7 a80 (t78 - 1)).bind fun t82 => if t82 ≤ 0 then ((getQ mu7 7 21 u0_7).bind fun t84 => (getI mu7 7 23 u0_7).bind fun t86 => t84.bind fun a88 => (ast mu7 a88 t86 w2_7).bind fun m90 => (getQ m90 7 22 u0_7).bind fun t92 => (getI m90 7 23 u0_7).bind fun t94 => t92.bind fun a96 => (ast m90 a96 t94 1).bind fun m98 => (getI m98 7 23 u0_7).bind fun t100 => (putI m98 7 23 u0_7 (t100 + 1)).bind fun m102 => f_X5_finds_L7 u0_7 u1_7 k9 n m102 (w2_7 + 1)) else ((getQ mu7 7 22 u0_7).bind fun t104 => (getI mu7 7 23 u0_7).bind fun t106 => t104.bind fun a108 => (ald mu7 a108 (t106 - 1)).bind fun t110 => (ast mu7 a108 (t106 - 1) (t110 + 1)).bind fun m112 => f_X5_finds_L7 u0_7 u1_7 k9 n m112 (w2_7 + 1)))) else ((getQ mu7 7 21 u0_7).bind fun t34 => (getI mu7 7 23 u0_7).bind fun t36 => t34.bind fun a38 => (ast mu7 a38 t36 w2_7).bind fun m40 => (getQ m40 7 22 u0_7).bind fun t42 => (getI m40 7 23 u0_7).bind fun t44 => t42.bind fun a46 => (ast m40 a46 t44 1).bind fun m48 => (getI m48 7 23 u0_7).bind fun t50 => (putI m48 7 23 u0_7 (t50 + 1)).bind fun m52 => f_X5_finds_L7 u0_7 u1_7 k9 n m52 (w2_7 + 1))) else ((getQ mu7 7 21 u0_7).bind fun t8 => (getI mu7 7 23 u0_7).bind fun t10 => t8.bind fun a12 => (ast mu7 a12 t10 w2_7).bind fun m14 => (getQ m14 7 22 u0_7).bind fun t16 => (getI m14 7 23 u0_7).bind fun t18 => t16.bind fun a20 => (ast m14 a20 t18 0).bind fun m22 => (getI m22 7 23 u0_7).bind fun t24 => (putI m22 7 23 u0_7 (t24 + 1)).bind fun m26 => f_X5_finds_L7 u0_7 u1_7 k9 n m26 (w2_7 + 1)))
def f_X5_finds (mu : Mem) (x0 : Nat) (x1 : Int32) : Option ((Unit) × Mem) := (putI mu 7 23 x0 0).bind fun m1 => f_X5_finds_L7 x0 x1 (fun (zmu7 : Mem) (zw2_7 : Int32) => some ((), zmu7)) 200 m1 0
set_option maxHeartbeats 1000000 in
set_option maxRecDepth 100000 in
theorem k_X5_finds (l : Launch) (hsl : l.stackTraces = false) (G : GG) (A : Nat → Prop) (mu : Mem) (x0 : Nat) (x1 : Int32) (r : (Unit) × Mem) (hf : f_X5_finds mu x0 x1 = some r) : Ok l yX5_finds wsX5_finds ({ frames := 10, cells := 0, slots := 0, locals := 190 } : Room) [.ref x0, .int x1] G A mu (dP (.inr (rV r.1)) r.2) := by
  refine Ok.start (cc := cX5_finds) (maxL := 4) (ret := none) rfl (by decide +kernel) hsl (by first | exact Nat.le_of_ble_eq_true rfl | simp [lg_sl, cat_rf, Value.category]) ?_
  intro p e s m args below meth c ls X hr hname hW hl
  have X : BX p l s m args meth c cX5_finds 4 RX5 wsX5_finds G A := X
  have hx := X.1
  have hb := X.2.1
  have hts := X.2.2.2.2.1
  have hl : lv_has ls 4 [(0, .ref x0), (1, .int x1)] := hl
  have hinX5 : ∀ w ∈ wsX50, w ∈ wsX5_finds := by decide +kernel
  have hF159 : (Cond.fieldLink RX5 159 "PartcopyistBenchModel" "blocks" "I").before args s = true := hts _ (by decide +kernel)
  have hF43 : (Cond.fieldLink RX5 43 "PartcopyistBenchModel" "marks" "[Z").before args s = true := hts _ (by decide +kernel)
  have hF63 : (Cond.fieldLink RX5 63 "PartcopyistBenchModel" "blockFirst" "[I").before args s = true := hts _ (by decide +kernel)
  have hF66 : (Cond.fieldLink RX5 66 "PartcopyistBenchModel" "blockRest" "[I").before args s = true := hts _ (by decide +kernel)
  have hF88 : (Cond.fieldLink RX5 88 "PartcopyistBenchModel" "bars" "I").before args s = true := hts _ (by decide +kernel)
  unfold f_X5_finds at hf
  refine lv_aload_n hx hb dX5_finds_0 rfl (lv_at hl 0 rfl) ?_
  refine lv_iconst (v := 0) hx hb dX5_finds_1 (by decide) ?_
  replace hf := bnd hf
  obtain ⟨m1, h2, hf⟩ := hf
  refine p_7_23 X hW hinX5 hF159 h2 dX5_finds_2 (fun H locs hW => ?_)
  refine lv_iconst (v := 0) hx hb dX5_finds_5 (by decide) ?_
  refine lv_istore_n (lv' := [(2, .int 0), (0, .ref x0), (1, .int x1)]) hx hb dX5_finds_6 rfl hl (by decide) rfl (fun ls hl => ?_)
  have L7 : ∀ (u0_7 : Nat) (u1_7 : Int32) (k9 : Mem → Int32 → Option ((Unit) × Mem)),
      (∀ (mu7 : Mem) (w2_7 : Int32) (H : Heap) (locs : List Loc) (ls : Array Slot), k9 mu7 w2_7 = some r → MW G A mu7 s.heap H locs → lv_has ls 4 [(0, .ref u0_7), (1, .int u1_7), (2, .int w2_7)] → W p l e ({ frames := 10, cells := 0, slots := 0, locals := 190 } : Room) s m args below meth c H locs 0 0 (QQ below G A (dP (.inr (rV r.1)) r.2) args s 0 0) (F0 m 126 ls [])) →
      ∀ (n : Nat) (mu7 : Mem) (w2_7 : Int32) (H : Heap) (locs : List Loc) (ls : Array Slot), f_X5_finds_L7 u0_7 u1_7 k9 n mu7 w2_7 = some r → MW G A mu7 s.heap H locs → lv_has ls 4 [(0, .ref u0_7), (1, .int u1_7), (2, .int w2_7)] → W p l e ({ frames := 10, cells := 0, slots := 0, locals := 190 } : Room) s m args below meth c H locs 0 0 (QQ below G A (dP (.inr (rV r.1)) r.2) args s 0 0) (F0 m 7 ls []) := by
    intro u0_7 u1_7 k9 hk7 n
    induction n with
    | zero => intro mu7 w2_7 H locs ls hf hW hl; rw [f_X5_finds_L7] at hf; cases hf
    | succ n ih7 =>
      intro mu7 w2_7 H locs ls hf hW hl
      rw [f_X5_finds_L7] at hf
      refine lv_iload_n hx hb dX5_finds_7 rfl (lv_at hl 2 rfl) ?_
      refine lv_aload_n hx hb dX5_finds_8 rfl (lv_at hl 0 rfl) ?_
      replace hf := bnd hf
      obtain ⟨t3, h4, hf⟩ := hf
      refine g_7_16 X hW hinX5 hF88 h4 dX5_finds_9 ?_
      refine lv_icmp_ge (tgt := 126) hx hb dX5_finds_12 (by decide) (fun hc => ?_) (fun hc => ?_)
      · replace hf := itp hc hf
        exact hk7 _ _ _ _ _ hf hW (lv_sub hl [0, 1, 2] rfl)
      · replace hf := itn hc hf
        refine lv_aload_n hx hb dX5_finds_15 rfl (lv_at hl 0 rfl) ?_
        refine lv_iload_n hx hb dX5_finds_16 rfl (lv_at hl 1 rfl) ?_
        refine lv_iload_n hx hb dX5_finds_17 rfl (lv_at hl 2 rfl) ?_
        replace hf := bnd hf
        obtain ⟨_, h5, hf⟩ := hf
        replace hf := bnd hf
        obtain ⟨t6, h7, hf⟩ := hf
        refine r_callV_ok X hW hl.1 (k_X5_many l hsl G A mu7 u0_7 u1_7 w2_7 _ h7) gX5_finds_X5_many rfl (chk_ok h5) (by decide) rfl (by decide +kernel) (n := 2) rfl (by decide) (Nat.le_of_ble_eq_true rfl) dX5_finds_18 rfl rfl (stk := [.int t6]) rfl (fun H locs hW => ?_)
        refine lv_if_ne (tgt := 28) hx hb dX5_finds_21 (by decide) (fun hc => ?_) (fun hc => ?_)
        · replace hf := itn hc hf
          refine lv_iconst (v := 0) hx hb dX5_finds_28 (by decide) ?_
          refine lv_istore_n (lv' := [(3, .int 0), (0, .ref u0_7), (1, .int u1_7), (2, .int w2_7)]) hx hb dX5_finds_29 rfl hl (by decide) rfl (fun ls hl => ?_)
          refine lv_iload_n hx hb dX5_finds_30 rfl (lv_at hl 0 rfl) ?_
          refine lv_if_eq (tgt := 82) hx hb dX5_finds_31 (by decide) (fun _ => ?_) (fun hc => absurd hc (by decide))
          refine lv_aload_n hx hb dX5_finds_82 rfl (lv_at hl 1 rfl) ?_
          replace hf := bnd hf
          obtain ⟨t8, h9, hf⟩ := hf
          refine g_7_21 X hW hinX5 hF63 h9 dX5_finds_83 ?_
          refine lv_aload_n hx hb dX5_finds_86 rfl (lv_at hl 1 rfl) ?_
          replace hf := bnd hf
          obtain ⟨t10, h11, hf⟩ := hf
          refine g_7_23 X hW hinX5 hF159 h11 dX5_finds_87 ?_
          refine lv_iload_n hx hb dX5_finds_90 rfl (lv_at hl 3 rfl) ?_
          replace hf := bnd hf
          obtain ⟨a12, h13, hf⟩ := hf
          subst h13
          replace hf := bnd hf
          obtain ⟨m14, h15, hf⟩ := hf
          refine r_ast X hW h15 dX5_finds_91 (fun H locs hW => ?_)
          refine lv_aload_n hx hb dX5_finds_92 rfl (lv_at hl 1 rfl) ?_
          replace hf := bnd hf
          obtain ⟨t16, h17, hf⟩ := hf
          refine g_7_22 X hW hinX5 hF66 h17 dX5_finds_93 ?_
          refine lv_aload_n hx hb dX5_finds_96 rfl (lv_at hl 1 rfl) ?_
          replace hf := bnd hf
          obtain ⟨t18, h19, hf⟩ := hf
          refine g_7_23 X hW hinX5 hF159 h19 dX5_finds_97 ?_
          refine lv_iload_n hx hb dX5_finds_100 rfl (lv_at hl 0 rfl) ?_
          refine lv_if_eq (tgt := 108) hx hb dX5_finds_101 (by decide) (fun _ => ?_) (fun hc => absurd hc (by decide))
          refine lv_iconst (v := 0) hx hb dX5_finds_108 (by decide) ?_
          replace hf := bnd hf
          obtain ⟨a20, h21, hf⟩ := hf
          subst h21
          replace hf := bnd hf
          obtain ⟨m22, h23, hf⟩ := hf
          refine r_ast X hW h23 dX5_finds_109 (fun H locs hW => ?_)
          refine lv_aload_n hx hb dX5_finds_110 rfl (lv_at hl 1 rfl) ?_
          refine lv_dup hx hb dX5_finds_111 rfl ?_
          replace hf := bnd hf
          obtain ⟨t24, h25, hf⟩ := hf
          refine g_7_23 X hW hinX5 hF159 h25 dX5_finds_112 ?_
          refine lv_iconst (v := 1) hx hb dX5_finds_115 (by decide) ?_
          refine lv_iadd hx hb dX5_finds_116 ?_
          replace hf := bnd hf
          obtain ⟨m26, h27, hf⟩ := hf
          refine p_7_23 X hW hinX5 hF159 h27 dX5_finds_117 (fun H locs hW => ?_)
          refine lv_iinc (v := (w2_7 + 1)) (lv' := [(2, .int (w2_7 + 1)), (3, .int 0), (0, .ref u0_7), (1, .int u1_7)]) hx hb dX5_finds_120 hl (k := 3) rfl rfl (by decide) rfl (fun ls hl => ?_)
          refine lv_goto (tgt := 7) hx hb dX5_finds_123 (by decide) ?_
          exact ih7 _ _ _ _ _ hf hW (lv_sub hl [2, 3, 0] rfl)
        · replace hf := itp hc hf
          refine lv_iconst (v := 1) hx hb dX5_finds_24 (by decide) ?_
          refine lv_goto (tgt := 29) hx hb dX5_finds_25 (by decide) ?_
          refine lv_istore_n (lv' := [(3, .int 1), (0, .ref u0_7), (1, .int u1_7), (2, .int w2_7)]) hx hb dX5_finds_29 rfl hl (by decide) rfl (fun ls hl => ?_)
          refine lv_iload_n hx hb dX5_finds_30 rfl (lv_at hl 0 rfl) ?_
          refine lv_if_eq (tgt := 82) hx hb dX5_finds_31 (by decide) (fun hc => absurd hc (by decide)) (fun _ => ?_)
          refine lv_aload_n hx hb dX5_finds_34 rfl (lv_at hl 1 rfl) ?_
          replace hf := bnd hf
          obtain ⟨t28, h29, hf⟩ := hf
          refine g_7_12 X hW hinX5 hF43 h29 dX5_finds_35 ?_
          refine lv_iload_n hx hb dX5_finds_38 rfl (lv_at hl 3 rfl) ?_
          replace hf := bnd hf
          obtain ⟨a30, h31, hf⟩ := hf
          subst h31
          replace hf := bnd hf
          obtain ⟨t32, h33, hf⟩ := hf
          refine r_zld X hW h33 dX5_finds_39 ?_
          refine lv_if_ne (tgt := 82) hx hb dX5_finds_40 (by decide) (fun hc => ?_) (fun hc => ?_)
          · replace hf := itn hc hf
            refine lv_aload_n hx hb dX5_finds_82 rfl (lv_at hl 1 rfl) ?_
            replace hf := bnd hf
            obtain ⟨t34, h35, hf⟩ := hf
            refine g_7_21 X hW hinX5 hF63 h35 dX5_finds_83 ?_
            refine lv_aload_n hx hb dX5_finds_86 rfl (lv_at hl 1 rfl) ?_
            replace hf := bnd hf
            obtain ⟨t36, h37, hf⟩ := hf
            refine g_7_23 X hW hinX5 hF159 h37 dX5_finds_87 ?_
            refine lv_iload_n hx hb dX5_finds_90 rfl (lv_at hl 3 rfl) ?_
            replace hf := bnd hf
            obtain ⟨a38, h39, hf⟩ := hf
            subst h39
            replace hf := bnd hf
            obtain ⟨m40, h41, hf⟩ := hf
            refine r_ast X hW h41 dX5_finds_91 (fun H locs hW => ?_)
            refine lv_aload_n hx hb dX5_finds_92 rfl (lv_at hl 1 rfl) ?_
            replace hf := bnd hf
            obtain ⟨t42, h43, hf⟩ := hf
            refine g_7_22 X hW hinX5 hF66 h43 dX5_finds_93 ?_
            refine lv_aload_n hx hb dX5_finds_96 rfl (lv_at hl 1 rfl) ?_
            replace hf := bnd hf
            obtain ⟨t44, h45, hf⟩ := hf
            refine g_7_23 X hW hinX5 hF159 h45 dX5_finds_97 ?_
            refine lv_iload_n hx hb dX5_finds_100 rfl (lv_at hl 0 rfl) ?_
            refine lv_if_eq (tgt := 108) hx hb dX5_finds_101 (by decide) (fun hc => absurd hc (by decide)) (fun _ => ?_)
            refine lv_iconst (v := 1) hx hb dX5_finds_104 (by decide) ?_
            refine lv_goto (tgt := 109) hx hb dX5_finds_105 (by decide) ?_
            replace hf := bnd hf
            obtain ⟨a46, h47, hf⟩ := hf
            subst h47
            replace hf := bnd hf
            obtain ⟨m48, h49, hf⟩ := hf
            refine r_ast X hW h49 dX5_finds_109 (fun H locs hW => ?_)
            refine lv_aload_n hx hb dX5_finds_110 rfl (lv_at hl 1 rfl) ?_
            refine lv_dup hx hb dX5_finds_111 rfl ?_
            replace hf := bnd hf
            obtain ⟨t50, h51, hf⟩ := hf
            refine g_7_23 X hW hinX5 hF159 h51 dX5_finds_112 ?_
            refine lv_iconst (v := 1) hx hb dX5_finds_115 (by decide) ?_
            refine lv_iadd hx hb dX5_finds_116 ?_
            replace hf := bnd hf
            obtain ⟨m52, h53, hf⟩ := hf
            refine p_7_23 X hW hinX5 hF159 h53 dX5_finds_117 (fun H locs hW => ?_)
            refine lv_iinc (v := (w2_7 + 1)) (lv' := [(2, .int (w2_7 + 1)), (3, .int 1), (0, .ref u0_7), (1, .int u1_7)]) hx hb dX5_finds_120 hl (k := 3) rfl rfl (by decide) rfl (fun ls hl => ?_)
            refine lv_goto (tgt := 7) hx hb dX5_finds_123 (by decide) ?_
            exact ih7 _ _ _ _ _ hf hW (lv_sub hl [2, 3, 0] rfl)
          · replace hf := itp hc hf
            refine lv_aload_n hx hb dX5_finds_43 rfl (lv_at hl 1 rfl) ?_
            replace hf := bnd hf
            obtain ⟨t54, h55, hf⟩ := hf
            refine g_7_23 X hW hinX5 hF159 h55 dX5_finds_44 ?_
            refine lv_if_le (tgt := 82) hx hb dX5_finds_47 (by decide) (fun hc => ?_) (fun hc => ?_)
            · replace hf := itp hc hf
              refine lv_aload_n hx hb dX5_finds_82 rfl (lv_at hl 1 rfl) ?_
              replace hf := bnd hf
              obtain ⟨t56, h57, hf⟩ := hf
              refine g_7_21 X hW hinX5 hF63 h57 dX5_finds_83 ?_
              refine lv_aload_n hx hb dX5_finds_86 rfl (lv_at hl 1 rfl) ?_
              replace hf := bnd hf
              obtain ⟨t58, h59, hf⟩ := hf
              refine g_7_23 X hW hinX5 hF159 h59 dX5_finds_87 ?_
              refine lv_iload_n hx hb dX5_finds_90 rfl (lv_at hl 3 rfl) ?_
              replace hf := bnd hf
              obtain ⟨a60, h61, hf⟩ := hf
              subst h61
              replace hf := bnd hf
              obtain ⟨m62, h63, hf⟩ := hf
              refine r_ast X hW h63 dX5_finds_91 (fun H locs hW => ?_)
              refine lv_aload_n hx hb dX5_finds_92 rfl (lv_at hl 1 rfl) ?_
              replace hf := bnd hf
              obtain ⟨t64, h65, hf⟩ := hf
              refine g_7_22 X hW hinX5 hF66 h65 dX5_finds_93 ?_
              refine lv_aload_n hx hb dX5_finds_96 rfl (lv_at hl 1 rfl) ?_
              replace hf := bnd hf
              obtain ⟨t66, h67, hf⟩ := hf
              refine g_7_23 X hW hinX5 hF159 h67 dX5_finds_97 ?_
              refine lv_iload_n hx hb dX5_finds_100 rfl (lv_at hl 0 rfl) ?_
              refine lv_if_eq (tgt := 108) hx hb dX5_finds_101 (by decide) (fun hc => absurd hc (by decide)) (fun _ => ?_)
              refine lv_iconst (v := 1) hx hb dX5_finds_104 (by decide) ?_
              refine lv_goto (tgt := 109) hx hb dX5_finds_105 (by decide) ?_
              replace hf := bnd hf
              obtain ⟨a68, h69, hf⟩ := hf
              subst h69
              replace hf := bnd hf
              obtain ⟨m70, h71, hf⟩ := hf
              refine r_ast X hW h71 dX5_finds_109 (fun H locs hW => ?_)
              refine lv_aload_n hx hb dX5_finds_110 rfl (lv_at hl 1 rfl) ?_
              refine lv_dup hx hb dX5_finds_111 rfl ?_
              replace hf := bnd hf
              obtain ⟨t72, h73, hf⟩ := hf
              refine g_7_23 X hW hinX5 hF159 h73 dX5_finds_112 ?_
              refine lv_iconst (v := 1) hx hb dX5_finds_115 (by decide) ?_
              refine lv_iadd hx hb dX5_finds_116 ?_
              replace hf := bnd hf
              obtain ⟨m74, h75, hf⟩ := hf
              refine p_7_23 X hW hinX5 hF159 h75 dX5_finds_117 (fun H locs hW => ?_)
              refine lv_iinc (v := (w2_7 + 1)) (lv' := [(2, .int (w2_7 + 1)), (3, .int 1), (0, .ref u0_7), (1, .int u1_7)]) hx hb dX5_finds_120 hl (k := 3) rfl rfl (by decide) rfl (fun ls hl => ?_)
              refine lv_goto (tgt := 7) hx hb dX5_finds_123 (by decide) ?_
              exact ih7 _ _ _ _ _ hf hW (lv_sub hl [2, 3, 0] rfl)
            · replace hf := itn hc hf
              refine lv_aload_n hx hb dX5_finds_50 rfl (lv_at hl 1 rfl) ?_
              replace hf := bnd hf
              obtain ⟨t76, h77, hf⟩ := hf
              refine g_7_22 X hW hinX5 hF66 h77 dX5_finds_51 ?_
              refine lv_aload_n hx hb dX5_finds_54 rfl (lv_at hl 1 rfl) ?_
              replace hf := bnd hf
              obtain ⟨t78, h79, hf⟩ := hf
              refine g_7_23 X hW hinX5 hF159 h79 dX5_finds_55 ?_
              refine lv_iconst (v := 1) hx hb dX5_finds_58 (by decide) ?_
              refine lv_isub hx hb dX5_finds_59 ?_
              replace hf := bnd hf
              obtain ⟨a80, h81, hf⟩ := hf
              subst h81
              replace hf := bnd hf
              obtain ⟨t82, h83, hf⟩ := hf
              refine r_ald X hW h83 dX5_finds_60 ?_
              refine lv_if_le (tgt := 82) hx hb dX5_finds_61 (by decide) (fun hc => ?_) (fun hc => ?_)
              · replace hf := itp hc hf
                refine lv_aload_n hx hb dX5_finds_82 rfl (lv_at hl 1 rfl) ?_
                replace hf := bnd hf
                obtain ⟨t84, h85, hf⟩ := hf
                refine g_7_21 X hW hinX5 hF63 h85 dX5_finds_83 ?_
                refine lv_aload_n hx hb dX5_finds_86 rfl (lv_at hl 1 rfl) ?_
                replace hf := bnd hf
                obtain ⟨t86, h87, hf⟩ := hf
                refine g_7_23 X hW hinX5 hF159 h87 dX5_finds_87 ?_
                refine lv_iload_n hx hb dX5_finds_90 rfl (lv_at hl 3 rfl) ?_
                replace hf := bnd hf
                obtain ⟨a88, h89, hf⟩ := hf
                subst h89
                replace hf := bnd hf
                obtain ⟨m90, h91, hf⟩ := hf
                refine r_ast X hW h91 dX5_finds_91 (fun H locs hW => ?_)
                refine lv_aload_n hx hb dX5_finds_92 rfl (lv_at hl 1 rfl) ?_
                replace hf := bnd hf
                obtain ⟨t92, h93, hf⟩ := hf
                refine g_7_22 X hW hinX5 hF66 h93 dX5_finds_93 ?_
                refine lv_aload_n hx hb dX5_finds_96 rfl (lv_at hl 1 rfl) ?_
                replace hf := bnd hf
                obtain ⟨t94, h95, hf⟩ := hf
                refine g_7_23 X hW hinX5 hF159 h95 dX5_finds_97 ?_
                refine lv_iload_n hx hb dX5_finds_100 rfl (lv_at hl 0 rfl) ?_
                refine lv_if_eq (tgt := 108) hx hb dX5_finds_101 (by decide) (fun hc => absurd hc (by decide)) (fun _ => ?_)
                refine lv_iconst (v := 1) hx hb dX5_finds_104 (by decide) ?_
                refine lv_goto (tgt := 109) hx hb dX5_finds_105 (by decide) ?_
                replace hf := bnd hf
                obtain ⟨a96, h97, hf⟩ := hf
                subst h97
                replace hf := bnd hf
                obtain ⟨m98, h99, hf⟩ := hf
                refine r_ast X hW h99 dX5_finds_109 (fun H locs hW => ?_)
                refine lv_aload_n hx hb dX5_finds_110 rfl (lv_at hl 1 rfl) ?_
                refine lv_dup hx hb dX5_finds_111 rfl ?_
                replace hf := bnd hf
                obtain ⟨t100, h101, hf⟩ := hf
                refine g_7_23 X hW hinX5 hF159 h101 dX5_finds_112 ?_
                refine lv_iconst (v := 1) hx hb dX5_finds_115 (by decide) ?_
                refine lv_iadd hx hb dX5_finds_116 ?_
                replace hf := bnd hf
                obtain ⟨m102, h103, hf⟩ := hf
                refine p_7_23 X hW hinX5 hF159 h103 dX5_finds_117 (fun H locs hW => ?_)
                refine lv_iinc (v := (w2_7 + 1)) (lv' := [(2, .int (w2_7 + 1)), (3, .int 1), (0, .ref u0_7), (1, .int u1_7)]) hx hb dX5_finds_120 hl (k := 3) rfl rfl (by decide) rfl (fun ls hl => ?_)
                refine lv_goto (tgt := 7) hx hb dX5_finds_123 (by decide) ?_
                exact ih7 _ _ _ _ _ hf hW (lv_sub hl [2, 3, 0] rfl)
              · replace hf := itn hc hf
                refine lv_aload_n hx hb dX5_finds_64 rfl (lv_at hl 1 rfl) ?_
                replace hf := bnd hf
                obtain ⟨t104, h105, hf⟩ := hf
                refine g_7_22 X hW hinX5 hF66 h105 dX5_finds_65 ?_
                refine lv_aload_n hx hb dX5_finds_68 rfl (lv_at hl 1 rfl) ?_
                replace hf := bnd hf
                obtain ⟨t106, h107, hf⟩ := hf
                refine g_7_23 X hW hinX5 hF159 h107 dX5_finds_69 ?_
                refine lv_iconst (v := 1) hx hb dX5_finds_72 (by decide) ?_
                refine lv_isub hx hb dX5_finds_73 ?_
                refine lv_dup2_11 hx hb dX5_finds_74 rfl (cat_rf _) ?_
                replace hf := bnd hf
                obtain ⟨a108, h109, hf⟩ := hf
                subst h109
                replace hf := bnd hf
                obtain ⟨t110, h111, hf⟩ := hf
                refine r_ald X hW h111 dX5_finds_75 ?_
                refine lv_iconst (v := 1) hx hb dX5_finds_76 (by decide) ?_
                refine lv_iadd hx hb dX5_finds_77 ?_
                replace hf := bnd hf
                obtain ⟨m112, h113, hf⟩ := hf
                refine r_ast X hW h113 dX5_finds_78 (fun H locs hW => ?_)
                refine lv_goto (tgt := 120) hx hb dX5_finds_79 (by decide) ?_
                refine lv_iinc (v := (w2_7 + 1)) (lv' := [(2, .int (w2_7 + 1)), (3, .int 1), (0, .ref u0_7), (1, .int u1_7)]) hx hb dX5_finds_120 hl (k := 3) rfl rfl (by decide) rfl (fun ls hl => ?_)
                refine lv_goto (tgt := 7) hx hb dX5_finds_123 (by decide) ?_
                exact ih7 _ _ _ _ _ hf hW (lv_sub hl [2, 3, 0] rfl)
  refine L7 x0 x1 _ ?_ 200 m1 0 _ _ _ hf hW (lv_sub hl [1, 2, 0] rfl)
  intro zmu7 zw2_7 H locs ls hf hW hl
  exact r_vret X hr hW (by cases hf; exact ⟨rfl, rfl⟩) (by decide) (by decide) dX5_finds_126

def f_X5_blockOf_L10 (m4 : Mem) (u0_10 : Nat) (u1_10 : Int32) (u2_10 : Int32) (k9 : Int32 → Int32 → Option ((Int32) × Mem)) : Nat → Int32 → Int32 → Option ((Int32) × Mem)
  | 0, _, _ => none
  | n + 1, w3_10, w4_10 => (getI m4 7 23 u0_10).bind fun t5 => if t5 ≤ w4_10 then (k9 w3_10 w4_10) else ((getQ m4 7 22 u0_10).bind fun t7 => t7.bind fun a9 => (ald m4 a9 w4_10).bind fun t11 => if t11 = 0 then (f_X5_blockOf_L10 m4 u0_10 u1_10 u2_10 k9 n w3_10 (w4_10 + 1)) else (if w3_10 = 0 then (some (w4_10, m4)) else (f_X5_blockOf_L10 m4 u0_10 u1_10 u2_10 k9 n (w3_10 + (-1)) (w4_10 + 1))))
def f_X5_blockOf (mu : Mem) (x0 : Nat) (x1 : Int32) (x2 : Int32) : Option ((Int32) × Mem) := (chk mu 7 x0).bind fun _ => bi2 (f_X5_finds mu x0 x1) (fun (t2 : (Unit)) m4 => f_X5_blockOf_L10 m4 x0 x1 x2 (fun (zw3_10 : Int32) (zw4_10 : Int32) => some ((-1), m4)) 200 x2 0)
set_option maxHeartbeats 1000000 in
set_option maxRecDepth 100000 in
theorem k_X5_blockOf (l : Launch) (hsl : l.stackTraces = false) (G : GG) (A : Nat → Prop) (mu : Mem) (x0 : Nat) (x1 : Int32) (x2 : Int32) (r : (Int32) × Mem) (hf : f_X5_blockOf mu x0 x1 x2 = some r) : Ok l yX5_blockOf wsX5_blockOf ({ frames := 12, cells := 0, slots := 0, locals := 230 } : Room) [.ref x0, .int x1, .int x2] G A mu (dP (.inr (rI r.1)) r.2) := by
  refine Ok.start (cc := cX5_blockOf) (maxL := 5) (ret := (some .int)) rfl (by decide +kernel) hsl (by first | exact Nat.le_of_ble_eq_true rfl | simp [lg_sl, cat_rf, Value.category]) ?_
  intro p e s m args below meth c ls X hr hname hW hl
  have X : BX p l s m args meth c cX5_blockOf 5 RX5 wsX5_blockOf G A := X
  have hx := X.1
  have hb := X.2.1
  have hts := X.2.2.2.2.1
  have hl : lv_has ls 5 [(0, .ref x0), (1, .int x1), (2, .int x2)] := hl
  have hinX5 : ∀ w ∈ wsX50, w ∈ wsX5_blockOf := by decide +kernel
  have hF159 : (Cond.fieldLink RX5 159 "PartcopyistBenchModel" "blocks" "I").before args s = true := hts _ (by decide +kernel)
  have hF66 : (Cond.fieldLink RX5 66 "PartcopyistBenchModel" "blockRest" "[I").before args s = true := hts _ (by decide +kernel)
  unfold f_X5_blockOf at hf
  refine lv_aload_n hx hb dX5_blockOf_0 rfl (lv_at hl 0 rfl) ?_
  refine lv_iload_n hx hb dX5_blockOf_1 rfl (lv_at hl 1 rfl) ?_
  replace hf := bnd hf
  obtain ⟨_, h1, hf⟩ := hf
  replace hf := bnd2 hf
  obtain ⟨t2, m4, h3, hf⟩ := hf
  refine r_callV_ok (μ9 := m4) X hW hl.1 (k_X5_finds l hsl G A mu x0 x1 _ h3) gX5_blockOf_X5_finds rfl (chk_ok h1) (by decide) rfl (by decide +kernel) (n := 1) rfl (by decide) (Nat.le_of_ble_eq_true rfl) dX5_blockOf_2 rfl rfl (stk := []) rfl (fun H locs hW => ?_)
  refine lv_iload_n hx hb dX5_blockOf_5 rfl (lv_at hl 2 rfl) ?_
  refine lv_istore_n (lv' := [(3, .int x2), (0, .ref x0), (1, .int x1), (2, .int x2)]) hx hb dX5_blockOf_6 rfl hl (by decide) rfl (fun ls hl => ?_)
  refine lv_iconst (v := 0) hx hb dX5_blockOf_7 (by decide) ?_
  refine lv_istore (lv' := [(4, .int 0), (3, .int x2), (0, .ref x0), (1, .int x1), (2, .int x2)]) hx hb dX5_blockOf_8 hl (by decide) rfl (fun ls hl => ?_)
  have L10 : ∀ (u0_10 : Nat) (u1_10 : Int32) (u2_10 : Int32) (k9 : Int32 → Int32 → Option ((Int32) × Mem)),
      (∀ (w3_10 : Int32) (w4_10 : Int32) (H : Heap) (locs : List Loc) (ls : Array Slot), k9 w3_10 w4_10 = some r → MW G A m4 s.heap H locs → lv_has ls 5 [(0, .ref u0_10), (1, .int u1_10), (2, .int u2_10), (3, .int w3_10), (4, .int w4_10)] → W p l e ({ frames := 12, cells := 0, slots := 0, locals := 230 } : Room) s m args below meth c H locs 0 0 (QQ below G A (dP (.inr (rI r.1)) r.2) args s 0 0) (F0 m 48 ls [])) →
      ∀ (n : Nat) (w3_10 : Int32) (w4_10 : Int32) (H : Heap) (locs : List Loc) (ls : Array Slot), f_X5_blockOf_L10 m4 u0_10 u1_10 u2_10 k9 n w3_10 w4_10 = some r → MW G A m4 s.heap H locs → lv_has ls 5 [(0, .ref u0_10), (1, .int u1_10), (2, .int u2_10), (3, .int w3_10), (4, .int w4_10)] → W p l e ({ frames := 12, cells := 0, slots := 0, locals := 230 } : Room) s m args below meth c H locs 0 0 (QQ below G A (dP (.inr (rI r.1)) r.2) args s 0 0) (F0 m 10 ls []) := by
    intro u0_10 u1_10 u2_10 k9 hk10 n
    induction n with
    | zero => intro w3_10 w4_10 H locs ls hf hW hl; rw [f_X5_blockOf_L10] at hf; cases hf
    | succ n ih10 =>
      intro w3_10 w4_10 H locs ls hf hW hl
      rw [f_X5_blockOf_L10] at hf
      refine lv_iload hx hb dX5_blockOf_10 (lv_at hl 4 rfl) ?_
      refine lv_aload_n hx hb dX5_blockOf_12 rfl (lv_at hl 0 rfl) ?_
      replace hf := bnd hf
      obtain ⟨t5, h6, hf⟩ := hf
      refine g_7_23 X hW hinX5 hF159 h6 dX5_blockOf_13 ?_
      refine lv_icmp_ge (tgt := 48) hx hb dX5_blockOf_16 (by decide) (fun hc => ?_) (fun hc => ?_)
      · replace hf := itp hc hf
        exact hk10 _ _ _ _ _ hf hW (lv_sub hl [0, 1, 2, 3, 4] rfl)
      · replace hf := itn hc hf
        refine lv_aload_n hx hb dX5_blockOf_19 rfl (lv_at hl 0 rfl) ?_
        replace hf := bnd hf
        obtain ⟨t7, h8, hf⟩ := hf
        refine g_7_22 X hW hinX5 hF66 h8 dX5_blockOf_20 ?_
        refine lv_iload hx hb dX5_blockOf_23 (lv_at hl 4 rfl) ?_
        replace hf := bnd hf
        obtain ⟨a9, h10, hf⟩ := hf
        subst h10
        replace hf := bnd hf
        obtain ⟨t11, h12, hf⟩ := hf
        refine r_ald X hW h12 dX5_blockOf_25 ?_
        refine lv_if_ne (tgt := 32) hx hb dX5_blockOf_26 (by decide) (fun hc => ?_) (fun hc => ?_)
        · replace hf := itn hc hf
          refine lv_iload_n hx hb dX5_blockOf_32 rfl (lv_at hl 3 rfl) ?_
          refine lv_if_ne (tgt := 39) hx hb dX5_blockOf_33 (by decide) (fun hc => ?_) (fun hc => ?_)
          · replace hf := itn hc hf
            refine lv_iinc (v := (w3_10 + (-1))) (lv' := [(3, .int (w3_10 + (-1))), (0, .ref u0_10), (1, .int u1_10), (2, .int u2_10), (4, .int w4_10)]) hx hb dX5_blockOf_39 hl (k := 3) rfl rfl (by decide) rfl (fun ls hl => ?_)
            refine lv_iinc (v := (w4_10 + 1)) (lv' := [(4, .int (w4_10 + 1)), (3, .int (w3_10 + (-1))), (0, .ref u0_10), (1, .int u1_10), (2, .int u2_10)]) hx hb dX5_blockOf_42 hl (k := 4) rfl rfl (by decide) rfl (fun ls hl => ?_)
            refine lv_goto (tgt := 10) hx hb dX5_blockOf_45 (by decide) ?_
            exact ih10 _ _ _ _ _ hf hW (lv_sub hl [2, 3, 4, 1, 0] rfl)
          · replace hf := itp hc hf
            refine lv_iload hx hb dX5_blockOf_36 (lv_at hl 4 rfl) ?_
            exact r_iret X hr hW (by cases hf; exact ⟨rfl, rfl⟩) (by decide) (by decide) dX5_blockOf_38
        · replace hf := itp hc hf
          refine lv_goto (tgt := 42) hx hb dX5_blockOf_29 (by decide) ?_
          refine lv_iinc (v := (w4_10 + 1)) (lv' := [(4, .int (w4_10 + 1)), (0, .ref u0_10), (1, .int u1_10), (2, .int u2_10), (3, .int w3_10)]) hx hb dX5_blockOf_42 hl (k := 4) rfl rfl (by decide) rfl (fun ls hl => ?_)
          refine lv_goto (tgt := 10) hx hb dX5_blockOf_45 (by decide) ?_
          exact ih10 _ _ _ _ _ hf hW (lv_sub hl [1, 2, 3, 4, 0] rfl)
  refine L10 x0 x1 x2 _ ?_ 200 x2 0 _ _ _ hf hW (lv_sub hl [2, 3, 4, 1, 0] rfl)
  intro zw3_10 zw4_10 H locs ls hf hW hl
  refine lv_iconst (v := (-1)) hx hb dX5_blockOf_48 (by decide) ?_
  exact r_iret X hr hW (by cases hf; exact ⟨rfl, rfl⟩) (by decide) (by decide) dX5_blockOf_49

def f_X5_rests_L19 (m8 : Mem) (u0_19 : Nat) (u1_19 : Int32) (k9 : Int32 → Int32 → Option ((Int32) × Mem)) : Nat → Int32 → Int32 → Option ((Int32) × Mem)
  | 0, _, _ => none
  | n + 1, w2_19, w3_19 => (getI m8 7 23 u0_19).bind fun t9 => if t9 ≤ w3_19 then (k9 w2_19 w3_19) else ((getQ m8 7 22 u0_19).bind fun t11 => t11.bind fun a13 => (ald m8 a13 w3_19).bind fun t15 => if t15 ≤ 0 then (f_X5_rests_L19 m8 u0_19 u1_19 k9 n (w2_19 + 0) (w3_19 + 1)) else (f_X5_rests_L19 m8 u0_19 u1_19 k9 n (w2_19 + 1) (w3_19 + 1)))
def f_X5_rests (mu : Mem) (x0 : Nat) (x1 : Int32) : Option ((Int32) × Mem) := (chk mu 7 x0).bind fun _ => bi2 (f_X5_isNoPart mu x0 x1) (fun (t2 : (Int32)) m4 => if t2 = 0 then ((chk m4 7 x0).bind fun _ => bi2 (f_X5_finds m4 x0 x1) (fun (t6 : (Unit)) m8 => f_X5_rests_L19 m8 x0 x1 (fun (zw2_19 : Int32) (zw3_19 : Int32) => some (zw2_19, m8)) 200 0 0)) else (some (0, m4)))
set_option maxHeartbeats 1000000 in
set_option maxRecDepth 100000 in
theorem k_X5_rests (l : Launch) (hsl : l.stackTraces = false) (G : GG) (A : Nat → Prop) (mu : Mem) (x0 : Nat) (x1 : Int32) (r : (Int32) × Mem) (hf : f_X5_rests mu x0 x1 = some r) : Ok l yX5_rests wsX5_rests ({ frames := 12, cells := 0, slots := 0, locals := 230 } : Room) [.ref x0, .int x1] G A mu (dP (.inr (rI r.1)) r.2) := by
  refine Ok.start (cc := cX5_rests) (maxL := 4) (ret := (some .int)) rfl (by decide +kernel) hsl (by first | exact Nat.le_of_ble_eq_true rfl | simp [lg_sl, cat_rf, Value.category]) ?_
  intro p e s m args below meth c ls X hr hname hW hl
  have X : BX p l s m args meth c cX5_rests 4 RX5 wsX5_rests G A := X
  have hx := X.1
  have hb := X.2.1
  have hts := X.2.2.2.2.1
  have hl : lv_has ls 4 [(0, .ref x0), (1, .int x1)] := hl
  have hinX5 : ∀ w ∈ wsX50, w ∈ wsX5_rests := by decide +kernel
  have hF159 : (Cond.fieldLink RX5 159 "PartcopyistBenchModel" "blocks" "I").before args s = true := hts _ (by decide +kernel)
  have hF66 : (Cond.fieldLink RX5 66 "PartcopyistBenchModel" "blockRest" "[I").before args s = true := hts _ (by decide +kernel)
  unfold f_X5_rests at hf
  refine lv_aload_n hx hb dX5_rests_0 rfl (lv_at hl 0 rfl) ?_
  refine lv_iload_n hx hb dX5_rests_1 rfl (lv_at hl 1 rfl) ?_
  replace hf := bnd hf
  obtain ⟨_, h1, hf⟩ := hf
  replace hf := bnd2 hf
  obtain ⟨t2, m4, h3, hf⟩ := hf
  refine r_callV_ok (μ9 := m4) X hW hl.1 (k_X5_isNoPart l hsl G A mu x0 x1 _ h3) gX5_rests_X5_isNoPart rfl (chk_ok h1) (by decide) rfl (by decide +kernel) (n := 1) rfl (by decide) (Nat.le_of_ble_eq_true rfl) dX5_rests_2 rfl rfl (stk := [.int t2]) rfl (fun H locs hW => ?_)
  refine lv_if_eq (tgt := 10) hx hb dX5_rests_5 (by decide) (fun hc => ?_) (fun hc => ?_)
  · replace hf := itp hc hf
    refine lv_aload_n hx hb dX5_rests_10 rfl (lv_at hl 0 rfl) ?_
    refine lv_iload_n hx hb dX5_rests_11 rfl (lv_at hl 1 rfl) ?_
    replace hf := bnd hf
    obtain ⟨_, h5, hf⟩ := hf
    replace hf := bnd2 hf
    obtain ⟨t6, m8, h7, hf⟩ := hf
    refine r_callV_ok (μ9 := m8) X hW hl.1 (k_X5_finds l hsl G A m4 x0 x1 _ h7) gX5_rests_X5_finds rfl (chk_ok h5) (by decide) rfl (by decide +kernel) (n := 1) rfl (by decide) (Nat.le_of_ble_eq_true rfl) dX5_rests_12 rfl rfl (stk := []) rfl (fun H locs hW => ?_)
    refine lv_iconst (v := 0) hx hb dX5_rests_15 (by decide) ?_
    refine lv_istore_n (lv' := [(2, .int 0), (0, .ref x0), (1, .int x1)]) hx hb dX5_rests_16 rfl hl (by decide) rfl (fun ls hl => ?_)
    refine lv_iconst (v := 0) hx hb dX5_rests_17 (by decide) ?_
    refine lv_istore_n (lv' := [(3, .int 0), (2, .int 0), (0, .ref x0), (1, .int x1)]) hx hb dX5_rests_18 rfl hl (by decide) rfl (fun ls hl => ?_)
    have L19 : ∀ (u0_19 : Nat) (u1_19 : Int32) (k9 : Int32 → Int32 → Option ((Int32) × Mem)),
        (∀ (w2_19 : Int32) (w3_19 : Int32) (H : Heap) (locs : List Loc) (ls : Array Slot), k9 w2_19 w3_19 = some r → MW G A m8 s.heap H locs → lv_has ls 4 [(0, .ref u0_19), (1, .int u1_19), (2, .int w2_19), (3, .int w3_19)] → W p l e ({ frames := 12, cells := 0, slots := 0, locals := 230 } : Room) s m args below meth c H locs 0 0 (QQ below G A (dP (.inr (rI r.1)) r.2) args s 0 0) (F0 m 50 ls [])) →
        ∀ (n : Nat) (w2_19 : Int32) (w3_19 : Int32) (H : Heap) (locs : List Loc) (ls : Array Slot), f_X5_rests_L19 m8 u0_19 u1_19 k9 n w2_19 w3_19 = some r → MW G A m8 s.heap H locs → lv_has ls 4 [(0, .ref u0_19), (1, .int u1_19), (2, .int w2_19), (3, .int w3_19)] → W p l e ({ frames := 12, cells := 0, slots := 0, locals := 230 } : Room) s m args below meth c H locs 0 0 (QQ below G A (dP (.inr (rI r.1)) r.2) args s 0 0) (F0 m 19 ls []) := by
      intro u0_19 u1_19 k9 hk19 n
      induction n with
      | zero => intro w2_19 w3_19 H locs ls hf hW hl; rw [f_X5_rests_L19] at hf; cases hf
      | succ n ih19 =>
        intro w2_19 w3_19 H locs ls hf hW hl
        rw [f_X5_rests_L19] at hf
        refine lv_iload_n hx hb dX5_rests_19 rfl (lv_at hl 3 rfl) ?_
        refine lv_aload_n hx hb dX5_rests_20 rfl (lv_at hl 0 rfl) ?_
        replace hf := bnd hf
        obtain ⟨t9, h10, hf⟩ := hf
        refine g_7_23 X hW hinX5 hF159 h10 dX5_rests_21 ?_
        refine lv_icmp_ge (tgt := 50) hx hb dX5_rests_24 (by decide) (fun hc => ?_) (fun hc => ?_)
        · replace hf := itp hc hf
          exact hk19 _ _ _ _ _ hf hW (lv_sub hl [0, 1, 2, 3] rfl)
        · replace hf := itn hc hf
          refine lv_iload_n hx hb dX5_rests_27 rfl (lv_at hl 2 rfl) ?_
          refine lv_aload_n hx hb dX5_rests_28 rfl (lv_at hl 0 rfl) ?_
          replace hf := bnd hf
          obtain ⟨t11, h12, hf⟩ := hf
          refine g_7_22 X hW hinX5 hF66 h12 dX5_rests_29 ?_
          refine lv_iload_n hx hb dX5_rests_32 rfl (lv_at hl 3 rfl) ?_
          replace hf := bnd hf
          obtain ⟨a13, h14, hf⟩ := hf
          subst h14
          replace hf := bnd hf
          obtain ⟨t15, h16, hf⟩ := hf
          refine r_ald X hW h16 dX5_rests_33 ?_
          refine lv_if_le (tgt := 41) hx hb dX5_rests_34 (by decide) (fun hc => ?_) (fun hc => ?_)
          · replace hf := itp hc hf
            refine lv_iconst (v := 0) hx hb dX5_rests_41 (by decide) ?_
            refine lv_iadd hx hb dX5_rests_42 ?_
            refine lv_istore_n (lv' := [(2, .int (w2_19 + 0)), (0, .ref u0_19), (1, .int u1_19), (3, .int w3_19)]) hx hb dX5_rests_43 rfl hl (by decide) rfl (fun ls hl => ?_)
            refine lv_iinc (v := (w3_19 + 1)) (lv' := [(3, .int (w3_19 + 1)), (2, .int (w2_19 + 0)), (0, .ref u0_19), (1, .int u1_19)]) hx hb dX5_rests_44 hl (k := 3) rfl rfl (by decide) rfl (fun ls hl => ?_)
            refine lv_goto (tgt := 19) hx hb dX5_rests_47 (by decide) ?_
            exact ih19 _ _ _ _ _ hf hW (lv_sub hl [2, 3, 1, 0] rfl)
          · replace hf := itn hc hf
            refine lv_iconst (v := 1) hx hb dX5_rests_37 (by decide) ?_
            refine lv_goto (tgt := 42) hx hb dX5_rests_38 (by decide) ?_
            refine lv_iadd hx hb dX5_rests_42 ?_
            refine lv_istore_n (lv' := [(2, .int (w2_19 + 1)), (0, .ref u0_19), (1, .int u1_19), (3, .int w3_19)]) hx hb dX5_rests_43 rfl hl (by decide) rfl (fun ls hl => ?_)
            refine lv_iinc (v := (w3_19 + 1)) (lv' := [(3, .int (w3_19 + 1)), (2, .int (w2_19 + 1)), (0, .ref u0_19), (1, .int u1_19)]) hx hb dX5_rests_44 hl (k := 3) rfl rfl (by decide) rfl (fun ls hl => ?_)
            refine lv_goto (tgt := 19) hx hb dX5_rests_47 (by decide) ?_
            exact ih19 _ _ _ _ _ hf hW (lv_sub hl [2, 3, 1, 0] rfl)
    refine L19 x0 x1 _ ?_ 200 0 0 _ _ _ hf hW (lv_sub hl [2, 3, 1, 0] rfl)
    intro zw2_19 zw3_19 H locs ls hf hW hl
    refine lv_iload_n hx hb dX5_rests_50 rfl (lv_at hl 2 rfl) ?_
    exact r_iret X hr hW (by cases hf; exact ⟨rfl, rfl⟩) (by decide) (by decide) dX5_rests_51
  · replace hf := itn hc hf
    refine lv_iconst (v := 0) hx hb dX5_rests_8 (by decide) ?_
    exact r_iret X hr hW (by cases hf; exact ⟨rfl, rfl⟩) (by decide) (by decide) dX5_rests_9

def f_X5_restFirst (mu : Mem) (x0 : Nat) (x1 : Int32) (x2 : Int32) : Option ((Int32) × Mem) := (chk mu 7 x0).bind fun _ => bi2 (f_X5_isNoPart mu x0 x1) (fun (t2 : (Int32)) m4 => if t2 = 0 then ((chk m4 7 x0).bind fun _ => bi2 (f_X5_blockOf m4 x0 x1 x2) (fun (t6 : (Int32)) m8 => if 0 ≤ t6 then ((getQ m8 7 21 x0).bind fun t9 => t9.bind fun a11 => (ald m8 a11 t6).bind fun t13 => some (t13, m8)) else ((chk m8 7 x0).bind fun _ => bi2 (f_X5_fails m8 x0 1) (fun (t16 : (Int32)) m18 => some (t16, m18))))) else (some (0, m4)))
set_option maxHeartbeats 1000000 in
set_option maxRecDepth 100000 in
theorem k_X5_restFirst (l : Launch) (hsl : l.stackTraces = false) (G : GG) (A : Nat → Prop) (mu : Mem) (x0 : Nat) (x1 : Int32) (x2 : Int32) (r : (Int32) × Mem) (hf : f_X5_restFirst mu x0 x1 x2 = some r) : Ok l yX5_restFirst wsX5_restFirst ({ frames := 14, cells := 0, slots := 0, locals := 270 } : Room) [.ref x0, .int x1, .int x2] G A mu (dP (.inr (rI r.1)) r.2) := by
  refine Ok.start (cc := cX5_restFirst) (maxL := 4) (ret := (some .int)) rfl (by decide +kernel) hsl (by first | exact Nat.le_of_ble_eq_true rfl | simp [lg_sl, cat_rf, Value.category]) ?_
  intro p e s m args below meth c ls X hr hname hW hl
  have X : BX p l s m args meth c cX5_restFirst 4 RX5 wsX5_restFirst G A := X
  have hx := X.1
  have hb := X.2.1
  have hts := X.2.2.2.2.1
  have hl : lv_has ls 4 [(0, .ref x0), (1, .int x1), (2, .int x2)] := hl
  have hinX5 : ∀ w ∈ wsX50, w ∈ wsX5_restFirst := by decide +kernel
  have hF63 : (Cond.fieldLink RX5 63 "PartcopyistBenchModel" "blockFirst" "[I").before args s = true := hts _ (by decide +kernel)
  unfold f_X5_restFirst at hf
  refine lv_aload_n hx hb dX5_restFirst_0 rfl (lv_at hl 0 rfl) ?_
  refine lv_iload_n hx hb dX5_restFirst_1 rfl (lv_at hl 1 rfl) ?_
  replace hf := bnd hf
  obtain ⟨_, h1, hf⟩ := hf
  replace hf := bnd2 hf
  obtain ⟨t2, m4, h3, hf⟩ := hf
  refine r_callV_ok (μ9 := m4) X hW hl.1 (k_X5_isNoPart l hsl G A mu x0 x1 _ h3) gX5_restFirst_X5_isNoPart rfl (chk_ok h1) (by decide) rfl (by decide +kernel) (n := 1) rfl (by decide) (Nat.le_of_ble_eq_true rfl) dX5_restFirst_2 rfl rfl (stk := [.int t2]) rfl (fun H locs hW => ?_)
  refine lv_if_eq (tgt := 10) hx hb dX5_restFirst_5 (by decide) (fun hc => ?_) (fun hc => ?_)
  · replace hf := itp hc hf
    refine lv_aload_n hx hb dX5_restFirst_10 rfl (lv_at hl 0 rfl) ?_
    refine lv_iload_n hx hb dX5_restFirst_11 rfl (lv_at hl 1 rfl) ?_
    refine lv_iload_n hx hb dX5_restFirst_12 rfl (lv_at hl 2 rfl) ?_
    replace hf := bnd hf
    obtain ⟨_, h5, hf⟩ := hf
    replace hf := bnd2 hf
    obtain ⟨t6, m8, h7, hf⟩ := hf
    refine r_callV_ok (μ9 := m8) X hW hl.1 (k_X5_blockOf l hsl G A m4 x0 x1 x2 _ h7) gX5_restFirst_X5_blockOf rfl (chk_ok h5) (by decide) rfl (by decide +kernel) (n := 2) rfl (by decide) (Nat.le_of_ble_eq_true rfl) dX5_restFirst_13 rfl rfl (stk := [.int t6]) rfl (fun H locs hW => ?_)
    refine lv_istore_n (lv' := [(3, .int t6), (0, .ref x0), (1, .int x1), (2, .int x2)]) hx hb dX5_restFirst_16 rfl hl (by decide) rfl (fun ls hl => ?_)
    refine lv_iload_n hx hb dX5_restFirst_17 rfl (lv_at hl 0 rfl) ?_
    refine lv_if_ge (tgt := 29) hx hb dX5_restFirst_18 (by decide) (fun hc => ?_) (fun hc => ?_)
    · replace hf := itp hc hf
      refine lv_aload_n hx hb dX5_restFirst_29 rfl (lv_at hl 1 rfl) ?_
      replace hf := bnd hf
      obtain ⟨t9, h10, hf⟩ := hf
      refine g_7_21 X hW hinX5 hF63 h10 dX5_restFirst_30 ?_
      refine lv_iload_n hx hb dX5_restFirst_33 rfl (lv_at hl 0 rfl) ?_
      replace hf := bnd hf
      obtain ⟨a11, h12, hf⟩ := hf
      subst h12
      replace hf := bnd hf
      obtain ⟨t13, h14, hf⟩ := hf
      refine r_ald X hW h14 dX5_restFirst_34 ?_
      exact r_iret X hr hW (by cases hf; exact ⟨rfl, rfl⟩) (by decide) (by decide) dX5_restFirst_35
    · replace hf := itn hc hf
      refine lv_aload_n hx hb dX5_restFirst_21 rfl (lv_at hl 1 rfl) ?_
      refine lv_iconst (v := 1) hx hb dX5_restFirst_22 (by decide) ?_
      replace hf := bnd hf
      obtain ⟨_, h15, hf⟩ := hf
      replace hf := bnd2 hf
      obtain ⟨t16, m18, h17, hf⟩ := hf
      refine r_callV_ok (μ9 := m18) X hW hl.1 (k_X5_fails l hsl G A m8 x0 1 _ h17) gX5_restFirst_X5_fails rfl (chk_ok h15) (by decide) rfl (by decide +kernel) (n := 1) rfl (by decide) (Nat.le_of_ble_eq_true rfl) dX5_restFirst_23 rfl rfl (stk := [.int t16]) rfl (fun H locs hW => ?_)
      refine lv_goto (tgt := 35) hx hb dX5_restFirst_26 (by decide) ?_
      exact r_iret X hr hW (by cases hf; exact ⟨rfl, rfl⟩) (by decide) (by decide) dX5_restFirst_35
  · replace hf := itn hc hf
    refine lv_iconst (v := 0) hx hb dX5_restFirst_8 (by decide) ?_
    exact r_iret X hr hW (by cases hf; exact ⟨rfl, rfl⟩) (by decide) (by decide) dX5_restFirst_9

def f_X5_restBars (mu : Mem) (x0 : Nat) (x1 : Int32) (x2 : Int32) : Option ((Int32) × Mem) := (chk mu 7 x0).bind fun _ => bi2 (f_X5_isNoPart mu x0 x1) (fun (t2 : (Int32)) m4 => if t2 = 0 then ((chk m4 7 x0).bind fun _ => bi2 (f_X5_blockOf m4 x0 x1 x2) (fun (t6 : (Int32)) m8 => if 0 ≤ t6 then ((getQ m8 7 22 x0).bind fun t9 => t9.bind fun a11 => (ald m8 a11 t6).bind fun t13 => some (t13, m8)) else ((chk m8 7 x0).bind fun _ => bi2 (f_X5_fails m8 x0 1) (fun (t16 : (Int32)) m18 => some (t16, m18))))) else (some (0, m4)))
set_option maxHeartbeats 1000000 in
set_option maxRecDepth 100000 in
theorem k_X5_restBars (l : Launch) (hsl : l.stackTraces = false) (G : GG) (A : Nat → Prop) (mu : Mem) (x0 : Nat) (x1 : Int32) (x2 : Int32) (r : (Int32) × Mem) (hf : f_X5_restBars mu x0 x1 x2 = some r) : Ok l yX5_restBars wsX5_restBars ({ frames := 14, cells := 0, slots := 0, locals := 270 } : Room) [.ref x0, .int x1, .int x2] G A mu (dP (.inr (rI r.1)) r.2) := by
  refine Ok.start (cc := cX5_restBars) (maxL := 4) (ret := (some .int)) rfl (by decide +kernel) hsl (by first | exact Nat.le_of_ble_eq_true rfl | simp [lg_sl, cat_rf, Value.category]) ?_
  intro p e s m args below meth c ls X hr hname hW hl
  have X : BX p l s m args meth c cX5_restBars 4 RX5 wsX5_restBars G A := X
  have hx := X.1
  have hb := X.2.1
  have hts := X.2.2.2.2.1
  have hl : lv_has ls 4 [(0, .ref x0), (1, .int x1), (2, .int x2)] := hl
  have hinX5 : ∀ w ∈ wsX50, w ∈ wsX5_restBars := by decide +kernel
  have hF66 : (Cond.fieldLink RX5 66 "PartcopyistBenchModel" "blockRest" "[I").before args s = true := hts _ (by decide +kernel)
  unfold f_X5_restBars at hf
  refine lv_aload_n hx hb dX5_restBars_0 rfl (lv_at hl 0 rfl) ?_
  refine lv_iload_n hx hb dX5_restBars_1 rfl (lv_at hl 1 rfl) ?_
  replace hf := bnd hf
  obtain ⟨_, h1, hf⟩ := hf
  replace hf := bnd2 hf
  obtain ⟨t2, m4, h3, hf⟩ := hf
  refine r_callV_ok (μ9 := m4) X hW hl.1 (k_X5_isNoPart l hsl G A mu x0 x1 _ h3) gX5_restBars_X5_isNoPart rfl (chk_ok h1) (by decide) rfl (by decide +kernel) (n := 1) rfl (by decide) (Nat.le_of_ble_eq_true rfl) dX5_restBars_2 rfl rfl (stk := [.int t2]) rfl (fun H locs hW => ?_)
  refine lv_if_eq (tgt := 10) hx hb dX5_restBars_5 (by decide) (fun hc => ?_) (fun hc => ?_)
  · replace hf := itp hc hf
    refine lv_aload_n hx hb dX5_restBars_10 rfl (lv_at hl 0 rfl) ?_
    refine lv_iload_n hx hb dX5_restBars_11 rfl (lv_at hl 1 rfl) ?_
    refine lv_iload_n hx hb dX5_restBars_12 rfl (lv_at hl 2 rfl) ?_
    replace hf := bnd hf
    obtain ⟨_, h5, hf⟩ := hf
    replace hf := bnd2 hf
    obtain ⟨t6, m8, h7, hf⟩ := hf
    refine r_callV_ok (μ9 := m8) X hW hl.1 (k_X5_blockOf l hsl G A m4 x0 x1 x2 _ h7) gX5_restBars_X5_blockOf rfl (chk_ok h5) (by decide) rfl (by decide +kernel) (n := 2) rfl (by decide) (Nat.le_of_ble_eq_true rfl) dX5_restBars_13 rfl rfl (stk := [.int t6]) rfl (fun H locs hW => ?_)
    refine lv_istore_n (lv' := [(3, .int t6), (0, .ref x0), (1, .int x1), (2, .int x2)]) hx hb dX5_restBars_16 rfl hl (by decide) rfl (fun ls hl => ?_)
    refine lv_iload_n hx hb dX5_restBars_17 rfl (lv_at hl 0 rfl) ?_
    refine lv_if_ge (tgt := 29) hx hb dX5_restBars_18 (by decide) (fun hc => ?_) (fun hc => ?_)
    · replace hf := itp hc hf
      refine lv_aload_n hx hb dX5_restBars_29 rfl (lv_at hl 1 rfl) ?_
      replace hf := bnd hf
      obtain ⟨t9, h10, hf⟩ := hf
      refine g_7_22 X hW hinX5 hF66 h10 dX5_restBars_30 ?_
      refine lv_iload_n hx hb dX5_restBars_33 rfl (lv_at hl 0 rfl) ?_
      replace hf := bnd hf
      obtain ⟨a11, h12, hf⟩ := hf
      subst h12
      replace hf := bnd hf
      obtain ⟨t13, h14, hf⟩ := hf
      refine r_ald X hW h14 dX5_restBars_34 ?_
      exact r_iret X hr hW (by cases hf; exact ⟨rfl, rfl⟩) (by decide) (by decide) dX5_restBars_35
    · replace hf := itn hc hf
      refine lv_aload_n hx hb dX5_restBars_21 rfl (lv_at hl 1 rfl) ?_
      refine lv_iconst (v := 1) hx hb dX5_restBars_22 (by decide) ?_
      replace hf := bnd hf
      obtain ⟨_, h15, hf⟩ := hf
      replace hf := bnd2 hf
      obtain ⟨t16, m18, h17, hf⟩ := hf
      refine r_callV_ok (μ9 := m18) X hW hl.1 (k_X5_fails l hsl G A m8 x0 1 _ h17) gX5_restBars_X5_fails rfl (chk_ok h15) (by decide) rfl (by decide +kernel) (n := 1) rfl (by decide) (Nat.le_of_ble_eq_true rfl) dX5_restBars_23 rfl rfl (stk := [.int t16]) rfl (fun H locs hW => ?_)
      refine lv_goto (tgt := 35) hx hb dX5_restBars_26 (by decide) ?_
      exact r_iret X hr hW (by cases hf; exact ⟨rfl, rfl⟩) (by decide) (by decide) dX5_restBars_35
  · replace hf := itn hc hf
    refine lv_iconst (v := 0) hx hb dX5_restBars_8 (by decide) ?_
    exact r_iret X hr hW (by cases hf; exact ⟨rfl, rfl⟩) (by decide) (by decide) dX5_restBars_9

def f_X5_cuePart (mu : Mem) (x0 : Nat) (x1 : Int32) (x2 : Int32) : Option ((Int32) × Mem) := (chk mu 7 x0).bind fun _ => bi2 (f_X5_isNoPart mu x0 x1) (fun (t2 : (Int32)) m4 => if t2 = 0 then ((chk m4 7 x0).bind fun _ => bi2 (f_X5_blockOf m4 x0 x1 x2) (fun (t6 : (Int32)) m8 => if 0 ≤ t6 then ((chk m8 7 x0).bind fun _ => (f_X5_cueOf m8 x0 x1 t6).bind fun t10 => if 0 ≤ t10 then (some (t10, m8)) else ((chk m8 7 x0).bind fun _ => bi2 (f_X5_fails m8 x0 2) (fun (t13 : (Int32)) m15 => some (t13, m15)))) else ((chk m8 7 x0).bind fun _ => bi2 (f_X5_fails m8 x0 1) (fun (t17 : (Int32)) m19 => some (t17, m19))))) else (some (0, m4)))
set_option maxHeartbeats 1000000 in
set_option maxRecDepth 100000 in
theorem k_X5_cuePart (l : Launch) (hsl : l.stackTraces = false) (G : GG) (A : Nat → Prop) (mu : Mem) (x0 : Nat) (x1 : Int32) (x2 : Int32) (r : (Int32) × Mem) (hf : f_X5_cuePart mu x0 x1 x2 = some r) : Ok l yX5_cuePart wsX5_cuePart ({ frames := 14, cells := 0, slots := 0, locals := 270 } : Room) [.ref x0, .int x1, .int x2] G A mu (dP (.inr (rI r.1)) r.2) := by
  refine Ok.start (cc := cX5_cuePart) (maxL := 5) (ret := (some .int)) rfl (by decide +kernel) hsl (by first | exact Nat.le_of_ble_eq_true rfl | simp [lg_sl, cat_rf, Value.category]) ?_
  intro p e s m args below meth c ls X hr hname hW hl
  have X : BX p l s m args meth c cX5_cuePart 5 RX5 wsX5_cuePart G A := X
  have hx := X.1
  have hb := X.2.1
  have hts := X.2.2.2.2.1
  have hl : lv_has ls 5 [(0, .ref x0), (1, .int x1), (2, .int x2)] := hl
  unfold f_X5_cuePart at hf
  refine lv_aload_n hx hb dX5_cuePart_0 rfl (lv_at hl 0 rfl) ?_
  refine lv_iload_n hx hb dX5_cuePart_1 rfl (lv_at hl 1 rfl) ?_
  replace hf := bnd hf
  obtain ⟨_, h1, hf⟩ := hf
  replace hf := bnd2 hf
  obtain ⟨t2, m4, h3, hf⟩ := hf
  refine r_callV_ok (μ9 := m4) X hW hl.1 (k_X5_isNoPart l hsl G A mu x0 x1 _ h3) gX5_cuePart_X5_isNoPart rfl (chk_ok h1) (by decide) rfl (by decide +kernel) (n := 1) rfl (by decide) (Nat.le_of_ble_eq_true rfl) dX5_cuePart_2 rfl rfl (stk := [.int t2]) rfl (fun H locs hW => ?_)
  refine lv_if_eq (tgt := 10) hx hb dX5_cuePart_5 (by decide) (fun hc => ?_) (fun hc => ?_)
  · replace hf := itp hc hf
    refine lv_aload_n hx hb dX5_cuePart_10 rfl (lv_at hl 0 rfl) ?_
    refine lv_iload_n hx hb dX5_cuePart_11 rfl (lv_at hl 1 rfl) ?_
    refine lv_iload_n hx hb dX5_cuePart_12 rfl (lv_at hl 2 rfl) ?_
    replace hf := bnd hf
    obtain ⟨_, h5, hf⟩ := hf
    replace hf := bnd2 hf
    obtain ⟨t6, m8, h7, hf⟩ := hf
    refine r_callV_ok (μ9 := m8) X hW hl.1 (k_X5_blockOf l hsl G A m4 x0 x1 x2 _ h7) gX5_cuePart_X5_blockOf rfl (chk_ok h5) (by decide) rfl (by decide +kernel) (n := 2) rfl (by decide) (Nat.le_of_ble_eq_true rfl) dX5_cuePart_13 rfl rfl (stk := [.int t6]) rfl (fun H locs hW => ?_)
    refine lv_istore_n (lv' := [(3, .int t6), (0, .ref x0), (1, .int x1), (2, .int x2)]) hx hb dX5_cuePart_16 rfl hl (by decide) rfl (fun ls hl => ?_)
    refine lv_iload_n hx hb dX5_cuePart_17 rfl (lv_at hl 0 rfl) ?_
    refine lv_if_ge (tgt := 27) hx hb dX5_cuePart_18 (by decide) (fun hc => ?_) (fun hc => ?_)
    · replace hf := itp hc hf
      refine lv_aload_n hx hb dX5_cuePart_27 rfl (lv_at hl 1 rfl) ?_
      refine lv_iload_n hx hb dX5_cuePart_28 rfl (lv_at hl 2 rfl) ?_
      refine lv_iload_n hx hb dX5_cuePart_29 rfl (lv_at hl 0 rfl) ?_
      replace hf := bnd hf
      obtain ⟨_, h9, hf⟩ := hf
      replace hf := bnd hf
      obtain ⟨t10, h11, hf⟩ := hf
      refine r_callV_ok X hW hl.1 (k_X5_cueOf l hsl G A m8 x0 x1 t6 _ h11) gX5_cuePart_X5_cueOf rfl (chk_ok h9) (by decide) rfl (by decide +kernel) (n := 2) rfl (by decide) (Nat.le_of_ble_eq_true rfl) dX5_cuePart_30 rfl rfl (stk := [.int t10]) rfl (fun H locs hW => ?_)
      refine lv_istore (lv' := [(4, .int t10), (3, .int t6), (0, .ref x0), (1, .int x1), (2, .int x2)]) hx hb dX5_cuePart_33 hl (by decide) rfl (fun ls hl => ?_)
      refine lv_iload hx hb dX5_cuePart_35 (lv_at hl 0 rfl) ?_
      refine lv_if_ge (tgt := 48) hx hb dX5_cuePart_37 (by decide) (fun hc => ?_) (fun hc => ?_)
      · replace hf := itp hc hf
        refine lv_iload hx hb dX5_cuePart_48 (lv_at hl 0 rfl) ?_
        exact r_iret X hr hW (by cases hf; exact ⟨rfl, rfl⟩) (by decide) (by decide) dX5_cuePart_50
      · replace hf := itn hc hf
        refine lv_aload_n hx hb dX5_cuePart_40 rfl (lv_at hl 2 rfl) ?_
        refine lv_iconst (v := 2) hx hb dX5_cuePart_41 (by decide) ?_
        replace hf := bnd hf
        obtain ⟨_, h12, hf⟩ := hf
        replace hf := bnd2 hf
        obtain ⟨t13, m15, h14, hf⟩ := hf
        refine r_callV_ok (μ9 := m15) X hW hl.1 (k_X5_fails l hsl G A m8 x0 2 _ h14) gX5_cuePart_X5_fails rfl (chk_ok h12) (by decide) rfl (by decide +kernel) (n := 1) rfl (by decide) (Nat.le_of_ble_eq_true rfl) dX5_cuePart_42 rfl rfl (stk := [.int t13]) rfl (fun H locs hW => ?_)
        refine lv_goto (tgt := 50) hx hb dX5_cuePart_45 (by decide) ?_
        exact r_iret X hr hW (by cases hf; exact ⟨rfl, rfl⟩) (by decide) (by decide) dX5_cuePart_50
    · replace hf := itn hc hf
      refine lv_aload_n hx hb dX5_cuePart_21 rfl (lv_at hl 1 rfl) ?_
      refine lv_iconst (v := 1) hx hb dX5_cuePart_22 (by decide) ?_
      replace hf := bnd hf
      obtain ⟨_, h16, hf⟩ := hf
      replace hf := bnd2 hf
      obtain ⟨t17, m19, h18, hf⟩ := hf
      refine r_callV_ok (μ9 := m19) X hW hl.1 (k_X5_fails l hsl G A m8 x0 1 _ h18) gX5_cuePart_X5_fails rfl (chk_ok h16) (by decide) rfl (by decide +kernel) (n := 1) rfl (by decide) (Nat.le_of_ble_eq_true rfl) dX5_cuePart_23 rfl rfl (stk := [.int t17]) rfl (fun H locs hW => ?_)
      exact r_iret X hr hW (by cases hf; exact ⟨rfl, rfl⟩) (by decide) (by decide) dX5_cuePart_26
  · replace hf := itn hc hf
    refine lv_iconst (v := 0) hx hb dX5_cuePart_8 (by decide) ?_
    exact r_iret X hr hW (by cases hf; exact ⟨rfl, rfl⟩) (by decide) (by decide) dX5_cuePart_9

def f_X5_cuePitch (mu : Mem) (x0 : Nat) (x1 : Int32) (x2 : Int32) (x3 : Int32) : Option ((Int32) × Mem) := (chk mu 7 x0).bind fun _ => bi2 (f_X5_cuePart mu x0 x1 x2) (fun (t2 : (Int32)) m4 => (getI m4 7 0 x0).bind fun t5 => if t5 ≤ 0 then ((chk m4 7 x0).bind fun _ => bi2 (f_X5_blockOf m4 x0 x1 x2) (fun (t8 : (Int32)) m10 => (chk m10 7 x0).bind fun _ => (f_X5_lastBar m10 x0 t8).bind fun t12 => (chk m10 7 x0).bind fun _ => (f_X5_noteBy m10 x0 t2 t12 x3).bind fun t15 => if 0 ≤ t15 then ((getQ m10 7 9 x0).bind fun t17 => t17.bind fun a19 => (ald m10 a19 t15).bind fun t21 => (getQ m10 7 1 x0).bind fun t23 => t23.bind fun a25 => (ald m10 a25 x1).bind fun t27 => some ((t21 + t27), m10)) else ((chk m10 7 x0).bind fun _ => bi2 (f_X5_fails m10 x0 3) (fun (t30 : (Int32)) m32 => some (t30, m32))))) else (some (0, m4)))
set_option maxHeartbeats 1000000 in
set_option maxRecDepth 100000 in
theorem k_X5_cuePitch (l : Launch) (hsl : l.stackTraces = false) (G : GG) (A : Nat → Prop) (mu : Mem) (x0 : Nat) (x1 : Int32) (x2 : Int32) (x3 : Int32) (r : (Int32) × Mem) (hf : f_X5_cuePitch mu x0 x1 x2 x3 = some r) : Ok l yX5_cuePitch wsX5_cuePitch ({ frames := 16, cells := 0, slots := 0, locals := 310 } : Room) [.ref x0, .int x1, .int x2, .int x3] G A mu (dP (.inr (rI r.1)) r.2) := by
  refine Ok.start (cc := cX5_cuePitch) (maxL := 6) (ret := (some .int)) rfl (by decide +kernel) hsl (by first | exact Nat.le_of_ble_eq_true rfl | simp [lg_sl, cat_rf, Value.category]) ?_
  intro p e s m args below meth c ls X hr hname hW hl
  have X : BX p l s m args meth c cX5_cuePitch 6 RX5 wsX5_cuePitch G A := X
  have hx := X.1
  have hb := X.2.1
  have hts := X.2.2.2.2.1
  have hl : lv_has ls 6 [(0, .ref x0), (1, .int x1), (2, .int x2), (3, .int x3)] := hl
  have hinX5 : ∀ w ∈ wsX50, w ∈ wsX5_cuePitch := by decide +kernel
  have hF34 : (Cond.fieldLink RX5 34 "PartcopyistBenchModel" "pitches" "[I").before args s = true := hts _ (by decide +kernel)
  have hF78 : (Cond.fieldLink RX5 78 "PartcopyistBenchModel" "thrown" "I").before args s = true := hts _ (by decide +kernel)
  have hF9 : (Cond.fieldLink RX5 9 "PartcopyistBenchModel" "shifts" "[I").before args s = true := hts _ (by decide +kernel)
  unfold f_X5_cuePitch at hf
  refine lv_aload_n hx hb dX5_cuePitch_0 rfl (lv_at hl 0 rfl) ?_
  refine lv_iload_n hx hb dX5_cuePitch_1 rfl (lv_at hl 1 rfl) ?_
  refine lv_iload_n hx hb dX5_cuePitch_2 rfl (lv_at hl 2 rfl) ?_
  replace hf := bnd hf
  obtain ⟨_, h1, hf⟩ := hf
  replace hf := bnd2 hf
  obtain ⟨t2, m4, h3, hf⟩ := hf
  refine r_callV_ok (μ9 := m4) X hW hl.1 (k_X5_cuePart l hsl G A mu x0 x1 x2 _ h3) gX5_cuePitch_X5_cuePart rfl (chk_ok h1) (by decide) rfl (by decide +kernel) (n := 2) rfl (by decide) (Nat.le_of_ble_eq_true rfl) dX5_cuePitch_3 rfl rfl (stk := [.int t2]) rfl (fun H locs hW => ?_)
  refine lv_istore (lv' := [(4, .int t2), (0, .ref x0), (1, .int x1), (2, .int x2), (3, .int x3)]) hx hb dX5_cuePitch_6 hl (by decide) rfl (fun ls hl => ?_)
  refine lv_aload_n hx hb dX5_cuePitch_8 rfl (lv_at hl 1 rfl) ?_
  replace hf := bnd hf
  obtain ⟨t5, h6, hf⟩ := hf
  refine g_7_0 X hW hinX5 hF78 h6 dX5_cuePitch_9 ?_
  refine lv_if_le (tgt := 17) hx hb dX5_cuePitch_12 (by decide) (fun hc => ?_) (fun hc => ?_)
  · replace hf := itp hc hf
    refine lv_aload_n hx hb dX5_cuePitch_17 rfl (lv_at hl 1 rfl) ?_
    refine lv_iload hx hb dX5_cuePitch_18 (lv_at hl 0 rfl) ?_
    refine lv_aload_n hx hb dX5_cuePitch_20 rfl (lv_at hl 1 rfl) ?_
    refine lv_aload_n hx hb dX5_cuePitch_21 rfl (lv_at hl 1 rfl) ?_
    refine lv_iload_n hx hb dX5_cuePitch_22 rfl (lv_at hl 2 rfl) ?_
    refine lv_iload_n hx hb dX5_cuePitch_23 rfl (lv_at hl 3 rfl) ?_
    replace hf := bnd hf
    obtain ⟨_, h7, hf⟩ := hf
    replace hf := bnd2 hf
    obtain ⟨t8, m10, h9, hf⟩ := hf
    refine r_callV_ok (μ9 := m10) X hW hl.1 (k_X5_blockOf l hsl G A m4 x0 x1 x2 _ h9) gX5_cuePitch_X5_blockOf rfl (chk_ok h7) (by decide) rfl (by decide +kernel) (n := 2) rfl (by decide) (Nat.le_of_ble_eq_true rfl) dX5_cuePitch_24 rfl rfl (stk := [.int t8, .ref x0, .int t2, .ref x0]) rfl (fun H locs hW => ?_)
    replace hf := bnd hf
    obtain ⟨_, h11, hf⟩ := hf
    replace hf := bnd hf
    obtain ⟨t12, h13, hf⟩ := hf
    refine r_callV_ok X hW hl.1 (k_X5_lastBar l hsl G A m10 x0 t8 _ h13) gX5_cuePitch_X5_lastBar rfl (chk_ok h11) (by decide) rfl (by decide +kernel) (n := 1) rfl (by decide) (Nat.le_of_ble_eq_true rfl) dX5_cuePitch_27 rfl rfl (stk := [.int t12, .int t2, .ref x0]) rfl (fun H locs hW => ?_)
    refine lv_iload_n hx hb dX5_cuePitch_30 rfl (lv_at hl 4 rfl) ?_
    replace hf := bnd hf
    obtain ⟨_, h14, hf⟩ := hf
    replace hf := bnd hf
    obtain ⟨t15, h16, hf⟩ := hf
    refine r_callV_ok X hW hl.1 (k_X5_noteBy l hsl G A m10 x0 t2 t12 x3 _ h16) gX5_cuePitch_X5_noteBy rfl (chk_ok h14) (by decide) rfl (by decide +kernel) (n := 3) rfl (by decide) (Nat.le_of_ble_eq_true rfl) dX5_cuePitch_31 rfl rfl (stk := [.int t15]) rfl (fun H locs hW => ?_)
    refine lv_istore (lv' := [(5, .int t15), (4, .int t2), (0, .ref x0), (1, .int x1), (2, .int x2), (3, .int x3)]) hx hb dX5_cuePitch_34 hl (by decide) rfl (fun ls hl => ?_)
    refine lv_iload hx hb dX5_cuePitch_36 (lv_at hl 0 rfl) ?_
    refine lv_if_ge (tgt := 49) hx hb dX5_cuePitch_38 (by decide) (fun hc => ?_) (fun hc => ?_)
    · replace hf := itp hc hf
      refine lv_aload_n hx hb dX5_cuePitch_49 rfl (lv_at hl 2 rfl) ?_
      replace hf := bnd hf
      obtain ⟨t17, h18, hf⟩ := hf
      refine g_7_9 X hW hinX5 hF34 h18 dX5_cuePitch_50 ?_
      refine lv_iload hx hb dX5_cuePitch_53 (lv_at hl 0 rfl) ?_
      replace hf := bnd hf
      obtain ⟨a19, h20, hf⟩ := hf
      subst h20
      replace hf := bnd hf
      obtain ⟨t21, h22, hf⟩ := hf
      refine r_ald X hW h22 dX5_cuePitch_55 ?_
      refine lv_aload_n hx hb dX5_cuePitch_56 rfl (lv_at hl 2 rfl) ?_
      replace hf := bnd hf
      obtain ⟨t23, h24, hf⟩ := hf
      refine g_7_1 X hW hinX5 hF9 h24 dX5_cuePitch_57 ?_
      refine lv_iload_n hx hb dX5_cuePitch_60 rfl (lv_at hl 3 rfl) ?_
      replace hf := bnd hf
      obtain ⟨a25, h26, hf⟩ := hf
      subst h26
      replace hf := bnd hf
      obtain ⟨t27, h28, hf⟩ := hf
      refine r_ald X hW h28 dX5_cuePitch_61 ?_
      refine lv_iadd hx hb dX5_cuePitch_62 ?_
      exact r_iret X hr hW (by cases hf; exact ⟨rfl, rfl⟩) (by decide) (by decide) dX5_cuePitch_63
    · replace hf := itn hc hf
      refine lv_aload_n hx hb dX5_cuePitch_41 rfl (lv_at hl 2 rfl) ?_
      refine lv_iconst (v := 3) hx hb dX5_cuePitch_42 (by decide) ?_
      replace hf := bnd hf
      obtain ⟨_, h29, hf⟩ := hf
      replace hf := bnd2 hf
      obtain ⟨t30, m32, h31, hf⟩ := hf
      refine r_callV_ok (μ9 := m32) X hW hl.1 (k_X5_fails l hsl G A m10 x0 3 _ h31) gX5_cuePitch_X5_fails rfl (chk_ok h29) (by decide) rfl (by decide +kernel) (n := 1) rfl (by decide) (Nat.le_of_ble_eq_true rfl) dX5_cuePitch_43 rfl rfl (stk := [.int t30]) rfl (fun H locs hW => ?_)
      refine lv_goto (tgt := 63) hx hb dX5_cuePitch_46 (by decide) ?_
      exact r_iret X hr hW (by cases hf; exact ⟨rfl, rfl⟩) (by decide) (by decide) dX5_cuePitch_63
  · replace hf := itn hc hf
    refine lv_iconst (v := 0) hx hb dX5_cuePitch_15 (by decide) ?_
    exact r_iret X hr hW (by cases hf; exact ⟨rfl, rfl⟩) (by decide) (by decide) dX5_cuePitch_16
