def f_X5_letterOf (mu : Mem) (x0 : Nat) (x1 : Int32) : Option ((Int32) × Mem) := (chk mu 7 x0).bind fun _ => bi2 (f_X5_isNone mu x0 x1) (fun (t2 : (Int32)) m4 => if t2 = 0 then ((chk m4 7 x0).bind fun _ => (f_X5_placeOf m4 x0 x1).bind fun t6 => (f_X5_rest m4 (t6 + 1) 7).bind fun t8 => (chr9 t8).bind fun t10 => (nc t10).bind fun t12 => some (t12, m4)) else ((nc 0).bind fun t14 => some (t14, m4)))
set_option maxHeartbeats 1000000 in
set_option maxRecDepth 100000 in
theorem k_X5_letterOf (l : Launch) (hsl : l.stackTraces = false) (G : GG) (A : Nat → Prop) (mu : Mem) (x0 : Nat) (x1 : Int32) (r : (Int32) × Mem) (hf : f_X5_letterOf mu x0 x1 = some r) : Ok l yX5_letterOf wsX5_letterOf ({ frames := 14, cells := 0, slots := 0, locals := 270 } : Room) [.ref x0, .int x1] G A mu (dP (.inr (rI r.1)) r.2) := by
  refine Ok.start (cc := cX5_letterOf) (maxL := 2) (ret := (some .char)) rfl (by decide +kernel) hsl (by first | exact Nat.le_of_ble_eq_true rfl | simp [lg_sl, cat_rf, Value.category]) ?_
  intro p e s m args below meth c ls X hr hname hW hl
  have X : BX p l s m args meth c cX5_letterOf 2 RX5 wsX5_letterOf G A := X
  have hx := X.1
  have hb := X.2.1
  have hts := X.2.2.2.2.1
  have hl : lv_has ls 2 [(0, .ref x0), (1, .int x1)] := hl
  unfold f_X5_letterOf at hf
  refine lv_aload_n hx hb dX5_letterOf_0 rfl (lv_at hl 0 rfl) ?_
  refine lv_iload_n hx hb dX5_letterOf_1 rfl (lv_at hl 1 rfl) ?_
  replace hf := bnd hf
  obtain ⟨_, h1, hf⟩ := hf
  replace hf := bnd2 hf
  obtain ⟨t2, m4, h3, hf⟩ := hf
  refine r_callV_ok (μ9 := m4) X hW hl.1 (k_X5_isNone l hsl G A mu x0 x1 _ h3) gX5_letterOf_X5_isNone rfl (chk_ok h1) (by decide) rfl (by decide +kernel) (n := 1) rfl (by decide) (Nat.le_of_ble_eq_true rfl) dX5_letterOf_2 rfl rfl (stk := [.int t2]) rfl (fun H locs hW => ?_)
  refine lv_if_eq (tgt := 12) hx hb dX5_letterOf_5 (by decide) (fun hc => ?_) (fun hc => ?_)
  · replace hf := itp hc hf
    refine va_ldcS hx hb X.2.2.2.1 X.2.2.2.2.2.1.2.2.2.2.2.2.2.2.2.2.2.2.2.2.2 dX5_letterOf_12 ?_
    refine lv_aload_n hx hb dX5_letterOf_14 rfl (lv_at hl 0 rfl) ?_
    refine lv_iload_n hx hb dX5_letterOf_15 rfl (lv_at hl 1 rfl) ?_
    replace hf := bnd hf
    obtain ⟨_, h5, hf⟩ := hf
    replace hf := bnd hf
    obtain ⟨t6, h7, hf⟩ := hf
    refine r_callV_ok X hW hl.1 (k_X5_placeOf l hsl G A m4 x0 x1 _ h7) gX5_letterOf_X5_placeOf rfl (chk_ok h5) (by decide) rfl (by decide +kernel) (n := 1) rfl (by decide) (Nat.le_of_ble_eq_true rfl) dX5_letterOf_16 rfl rfl (stk := [.int t6, .ref (G.2.2 1000)]) rfl (fun H locs hW => ?_)
    refine lv_iconst (v := 1) hx hb dX5_letterOf_19 (by decide) ?_
    refine lv_iadd hx hb dX5_letterOf_20 ?_
    refine lv_bipush (v := 7) hx hb dX5_letterOf_21 (by decide) ?_
    replace hf := bnd hf
    obtain ⟨t8, h9, hf⟩ := hf
    refine r_callS_ok X hW hl.1 (k_X5_rest l hsl G A m4 (t6 + 1) 7 _ h9) gX5_letterOf_X5_rest rfl (by decide +kernel) (n := 2) rfl (by decide) (Nat.le_of_ble_eq_true rfl) dX5_letterOf_23 rfl rfl (stk := [.int t8, .ref (G.2.2 1000)]) rfl (fun H locs hW => ?_)
    replace hf := bnd hf
    obtain ⟨t10, h11, hf⟩ := hf
    obtain ⟨k9, hk9, hx9, hr9⟩ := chr9_ok h11
    subst hr9
    subst hx9
    refine r_callVr X hW hl.1 (k_J0_charAt l hsl G A m4 k9 hk9) gX5_letterOf_J0_charAt_5068e rfl (vk_recv X.2.2.2.2.2.1.2.2.2.2.2.2.2.2.2.2.2.2.2.2.1 (i := 0) (by decide) hW.2) (by decide +kernel) (n := 1) rfl (by decide) (Nat.le_of_ble_eq_true rfl) dX5_letterOf_26 rfl rfl (stk := [.int (ltr k9)]) rfl (fun H locs hW => ?_)
    replace hf := bnd hf
    obtain ⟨t12, h13, hf⟩ := hf
    obtain ⟨hcc, hce⟩ := ifs h13
    subst hce
    exact r_cret X hr hW hcc (by cases hf; exact ⟨rfl, rfl⟩) (by decide) (by decide) dX5_letterOf_29
  · replace hf := itn hc hf
    refine lv_iconst (v := 0) hx hb dX5_letterOf_8 (by decide) ?_
    refine lv_goto (tgt := 29) hx hb dX5_letterOf_9 (by decide) ?_
    replace hf := bnd hf
    obtain ⟨t14, h15, hf⟩ := hf
    obtain ⟨hcc, hce⟩ := ifs h15
    subst hce
    exact r_cret X hr hW hcc (by cases hf; exact ⟨rfl, rfl⟩) (by decide) (by decide) dX5_letterOf_29
