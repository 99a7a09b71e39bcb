set_option maxHeartbeats 1000000 in
set_option maxRecDepth 100000 in
theorem k_L_addPart (l : Launch) (G : GG) (A : Nat → Prop) (mu : Mem) (x0 : Nat) (x1 : Int32) (out : Nat) (P9 : Nat ⊕ Option Value → Mem → Prop) (hO : Ok l yX4_addPart wsX4_addPart ({ frames := 8, cells := 3, slots := 14, locals := 150 } : Room) [.ref x0, .int x1] G A mu P9) (hx0 : ok9 mu 6 x0) (hPr : ∀ v μ9, P9 (.inr v) μ9 → ∃ (z : Int32) (m2 : Mem), v = some (.int z) ∧ lst μ9 out 0 z.toInt64 = some m2) (hPe : ∀ e μ9, P9 (.inl e) μ9 → e = 1 ∨ e = 2) : Ok l yL_addPart wsL_addPart ({ frames := 10, cells := 3, slots := 14, locals := 190 } : Room) [.ref x0, .int x1, .ref out] G A mu (fun r9 m9 => (∃ (z : Int32) (μ9 : Mem), P9 (.inr (some (.int z))) μ9 ∧ r9 = .inr (some (.int 0)) ∧ lst μ9 out 0 z.toInt64 = some m9) ∨ (∃ e : Nat, P9 (.inl e) m9 ∧ r9 = .inr (some (.int (if e = 1 then 1 else 2))))) := by
  refine Ok.startW (cc := cL_addPart) (maxL := 4) (ret := some .int) (hh := [(0, 9, 12, 13), (0, 9, 15, 15)]) rfl (by decide +kernel) (Nat.le_of_ble_eq_true rfl) ?_
  intro p e s m args below meth c ls hx hb hml hown hts hE hlk htab hA9 hr hW hl
  have hts : ∀ w ∈ wsL_addPart, w.before args s = true := hts
  have hown : s.vm.findClass RL = some m.cls := hown
  have hl : lv_has ls 4 [(0, .ref x0), (1, .int x1), (2, .ref out)] := hl
  have hc0 : (Cond.classLink RL 13 "java/lang/IllegalArgumentException").before args s = true := hts _ (by decide +kernel)
  have hc1 : (Cond.classLink RL 15 "java/lang/IllegalStateException").before args s = true := hts _ (by decide +kernel)
  refine lv_aload_n hx hb dL_addPart_0 rfl (lv_at hl 2 rfl) ?_
  refine lv_iconst (v := 0) hx hb dL_addPart_1 (by decide) ?_
  refine lv_aload_n hx hb dL_addPart_2 rfl (lv_at hl 0 rfl) ?_
  refine lv_iload_n hx hb dL_addPart_3 rfl (lv_at hl 1 rfl) ?_
  refine r_callVK (b := x0) (P9 := P9) (ci := 6) hx hb hml hown hts hE hA9 hW hl.1 hO gL_addPart_X4_addPart rfl hx0 (by decide) rfl (by decide +kernel) (n := 1) rfl (by decide) (Nat.le_of_ble_eq_true rfl) dL_addPart_4 rfl (fun e9 E ce q9 m9 H locs hP hE9 hW hcell hv hcl => ?_) (fun v m9 H locs hP hW => ?_)
  · rcases hPe _ _ hP with rfl | rfl
    · subst hE9
      have hNc := hE.2.2.2.2.2.2.2.2.2.2.2.1
      refine vx_catch (name := "java/lang/IllegalArgumentException") hown [] ⟨0, 9, 12, 13⟩ [⟨0, 9, 15, 15⟩] htab (fun z hz => absurd hz List.not_mem_nil) (by decide) (by decide) hc0 (va_Nw.use rfl (hE.2.2.2.1 _ (by decide +kernel))) hcell hv hcl ?_
      refine lv_astore_n (lv' := [(3, .ref q9), (0, .ref x0), (1, .int x1), (2, .ref out)]) hx hb dL_addPart_12 rfl hl (by decide) rfl (fun ls hl => ?_)
      refine lv_iconst (v := 1) hx hb dL_addPart_13 (by decide) ?_
      exact r_iretW hx hb hlk hr hW (Or.inr ⟨1, hP, rfl⟩) (by decide) (by decide) dL_addPart_14
    · subst hE9
      have hNc := hE.2.2.2.2.2.2.2.2.2.2.2.1
      refine vx_catch (name := "java/lang/IllegalStateException") hown [⟨0, 9, 12, 13⟩] ⟨0, 9, 15, 15⟩ [] htab (fun z hz => (List.mem_cons.mp hz).elim (fun e9 => by subst e9; exact Or.inr ⟨by decide, "java/lang/IllegalArgumentException", hc0, hNc ("java/lang/IllegalStateException", "java/lang/IllegalArgumentException") (by decide +kernel)⟩) (fun hz => absurd hz List.not_mem_nil)) (by decide) (by decide) hc1 (va_Nw.use rfl (hE.2.2.2.1 _ (by decide +kernel))) hcell hv hcl ?_
      refine lv_astore_n (lv' := [(3, .ref q9), (0, .ref x0), (1, .int x1), (2, .ref out)]) hx hb dL_addPart_15 rfl hl (by decide) rfl (fun ls hl => ?_)
      refine lv_iconst (v := 2) hx hb dL_addPart_16 (by decide) ?_
      exact r_iretW hx hb hlk hr hW (Or.inr ⟨2, hP, rfl⟩) (by decide) (by decide) dL_addPart_17
  · obtain ⟨z, m2, hv9, hz⟩ := hPr _ _ hP
    subst hv9
    refine W.eq (g2 := F0 m 7 ls [.int z, .int 0, .ref out]) rfl ?_
    refine lv_i2l hx hb dL_addPart_7 rfl ?_
    refine r_lstK hx hb hE.1 hW hz dL_addPart_8 (fun H locs hW => ?_)
    refine lv_goto (tgt := 18) hx hb dL_addPart_9 (by decide) ?_
    refine lv_iconst (v := 0) hx hb dL_addPart_18 (by decide) ?_
    exact r_iretW hx hb hlk hr hW (Or.inl ⟨z, m9, hP, rfl, hz⟩) (by decide) (by decide) dL_addPart_19

set_option maxHeartbeats 1000000 in
set_option maxRecDepth 100000 in
theorem k_L_addBar (l : Launch) (G : GG) (A : Nat → Prop) (mu : Mem) (x0 : Nat) (x1 : Int32) (x2 : Int32) (x3 : Int32) (out : Nat) (P9 : Nat ⊕ Option Value → Mem → Prop) (hO : Ok l yX4_addBar wsX4_addBar ({ frames := 8, cells := 3, slots := 15, locals := 150 } : Room) [.ref x0, .int x1, .int x2, .int x3] G A mu P9) (hx0 : ok9 mu 6 x0) (hPr : ∀ v μ9, P9 (.inr v) μ9 → ∃ (z : Int32) (m2 : Mem), v = some (.int z) ∧ lst μ9 out 0 z.toInt64 = some m2) (hPe : ∀ e μ9, P9 (.inl e) μ9 → e = 1 ∨ e = 2) : Ok l yL_addBar wsL_addBar ({ frames := 10, cells := 3, slots := 15, locals := 190 } : Room) [.ref x0, .int x1, .int x2, .int x3, .ref out] G A mu (fun r9 m9 => (∃ (z : Int32) (μ9 : Mem), P9 (.inr (some (.int z))) μ9 ∧ r9 = .inr (some (.int 0)) ∧ lst μ9 out 0 z.toInt64 = some m9) ∨ (∃ e : Nat, P9 (.inl e) m9 ∧ r9 = .inr (some (.int (if e = 1 then 1 else 2))))) := by
  refine Ok.startW (cc := cL_addBar) (maxL := 6) (ret := some .int) (hh := [(0, 12, 15, 13), (0, 12, 19, 15)]) rfl (by decide +kernel) (Nat.le_of_ble_eq_true rfl) ?_
  intro p e s m args below meth c ls hx hb hml hown hts hE hlk htab hA9 hr hW hl
  have hts : ∀ w ∈ wsL_addBar, w.before args s = true := hts
  have hown : s.vm.findClass RL = some m.cls := hown
  have hl : lv_has ls 6 [(0, .ref x0), (1, .int x1), (2, .int x2), (3, .int x3), (4, .ref out)] := hl
  have hc0 : (Cond.classLink RL 13 "java/lang/IllegalArgumentException").before args s = true := hts _ (by decide +kernel)
  have hc1 : (Cond.classLink RL 15 "java/lang/IllegalStateException").before args s = true := hts _ (by decide +kernel)
  refine lv_aload hx hb dL_addBar_0 (lv_at hl 4 rfl) ?_
  refine lv_iconst (v := 0) hx hb dL_addBar_2 (by decide) ?_
  refine lv_aload_n hx hb dL_addBar_3 rfl (lv_at hl 0 rfl) ?_
  refine lv_iload_n hx hb dL_addBar_4 rfl (lv_at hl 1 rfl) ?_
  refine lv_iload_n hx hb dL_addBar_5 rfl (lv_at hl 2 rfl) ?_
  refine lv_iload_n hx hb dL_addBar_6 rfl (lv_at hl 3 rfl) ?_
  refine r_callVK (b := x0) (P9 := P9) (ci := 6) hx hb hml hown hts hE hA9 hW hl.1 hO gL_addBar_X4_addBar rfl hx0 (by decide) rfl (by decide +kernel) (n := 3) rfl (by decide) (Nat.le_of_ble_eq_true rfl) dL_addBar_7 rfl (fun e9 E ce q9 m9 H locs hP hE9 hW hcell hv hcl => ?_) (fun v m9 H locs hP hW => ?_)
  · rcases hPe _ _ hP with rfl | rfl
    · subst hE9
      have hNc := hE.2.2.2.2.2.2.2.2.2.2.2.1
      refine vx_catch (name := "java/lang/IllegalArgumentException") hown [] ⟨0, 12, 15, 13⟩ [⟨0, 12, 19, 15⟩] htab (fun z hz => absurd hz List.not_mem_nil) (by decide) (by decide) hc0 (va_Nw.use rfl (hE.2.2.2.1 _ (by decide +kernel))) hcell hv hcl ?_
      refine lv_astore (lv' := [(5, .ref q9), (0, .ref x0), (1, .int x1), (2, .int x2), (3, .int x3), (4, .ref out)]) hx hb dL_addBar_15 hl (by decide) rfl (fun ls hl => ?_)
      refine lv_iconst (v := 1) hx hb dL_addBar_17 (by decide) ?_
      exact r_iretW hx hb hlk hr hW (Or.inr ⟨1, hP, rfl⟩) (by decide) (by decide) dL_addBar_18
    · subst hE9
      have hNc := hE.2.2.2.2.2.2.2.2.2.2.2.1
      refine vx_catch (name := "java/lang/IllegalStateException") hown [⟨0, 12, 15, 13⟩] ⟨0, 12, 19, 15⟩ [] htab (fun z hz => (List.mem_cons.mp hz).elim (fun e9 => by subst e9; exact Or.inr ⟨by decide, "java/lang/IllegalArgumentException", hc0, hNc ("java/lang/IllegalStateException", "java/lang/IllegalArgumentException") (by decide +kernel)⟩) (fun hz => absurd hz List.not_mem_nil)) (by decide) (by decide) hc1 (va_Nw.use rfl (hE.2.2.2.1 _ (by decide +kernel))) hcell hv hcl ?_
      refine lv_astore (lv' := [(5, .ref q9), (0, .ref x0), (1, .int x1), (2, .int x2), (3, .int x3), (4, .ref out)]) hx hb dL_addBar_19 hl (by decide) rfl (fun ls hl => ?_)
      refine lv_iconst (v := 2) hx hb dL_addBar_21 (by decide) ?_
      exact r_iretW hx hb hlk hr hW (Or.inr ⟨2, hP, rfl⟩) (by decide) (by decide) dL_addBar_22
  · obtain ⟨z, m2, hv9, hz⟩ := hPr _ _ hP
    subst hv9
    refine W.eq (g2 := F0 m 10 ls [.int z, .int 0, .ref out]) rfl ?_
    refine lv_i2l hx hb dL_addBar_10 rfl ?_
    refine r_lstK hx hb hE.1 hW hz dL_addBar_11 (fun H locs hW => ?_)
    refine lv_goto (tgt := 23) hx hb dL_addBar_12 (by decide) ?_
    refine lv_iconst (v := 0) hx hb dL_addBar_23 (by decide) ?_
    exact r_iretW hx hb hlk hr hW (Or.inl ⟨z, m9, hP, rfl, hz⟩) (by decide) (by decide) dL_addBar_24

set_option maxHeartbeats 1000000 in
set_option maxRecDepth 100000 in
theorem k_L_setMark (l : Launch) (G : GG) (A : Nat → Prop) (mu : Mem) (x0 : Nat) (x1 : Int32) (x2 : Int32) (out : Nat) (P9 : Nat ⊕ Option Value → Mem → Prop) (hO : Ok l yX4_setMark wsX4_setMark ({ frames := 10, cells := 1, slots := 6, locals := 190 } : Room) [.ref x0, .int x1, .int x2] G A mu P9) (hx0 : ok9 mu 6 x0) (hPr : ∀ v μ9, P9 (.inr v) μ9 → ∃ (z : Int32) (m2 : Mem), v = some (.int z) ∧ lst μ9 out 0 (if z = 0 then 0 else 1) = some m2) (hPe : ∀ e μ9, P9 (.inl e) μ9 → e = 3) : Ok l yL_setMark wsL_setMark ({ frames := 12, cells := 1, slots := 6, locals := 230 } : Room) [.ref x0, .int x1, .int x2, .ref out] G A mu (fun r9 m9 => (∃ (z : Int32) (μ9 : Mem), P9 (.inr (some (.int z))) μ9 ∧ r9 = .inr (some (.int 0)) ∧ lst μ9 out 0 (if z = 0 then 0 else 1) = some m9) ∨ (∃ e : Nat, P9 (.inl e) m9 ∧ r9 = .inr (some (.int (1))))) := by
  refine Ok.startW (cc := cL_setMark) (maxL := 5) (ret := some .int) (hh := [(0, 17, 20, 25)]) rfl (by decide +kernel) (Nat.le_of_ble_eq_true rfl) ?_
  intro p e s m args below meth c ls hx hb hml hown hts hE hlk htab hA9 hr hW hl
  have hts : ∀ w ∈ wsL_setMark, w.before args s = true := hts
  have hown : s.vm.findClass RL = some m.cls := hown
  have hl : lv_has ls 5 [(0, .ref x0), (1, .int x1), (2, .int x2), (3, .ref out)] := hl
  have hc0 : (Cond.classLink RL 25 "java/lang/IndexOutOfBoundsException").before args s = true := hts _ (by decide +kernel)
  refine lv_aload_n hx hb dL_setMark_0 rfl (lv_at hl 3 rfl) ?_
  refine lv_iconst (v := 0) hx hb dL_setMark_1 (by decide) ?_
  refine lv_aload_n hx hb dL_setMark_2 rfl (lv_at hl 0 rfl) ?_
  refine lv_iload_n hx hb dL_setMark_3 rfl (lv_at hl 1 rfl) ?_
  refine lv_iload_n hx hb dL_setMark_4 rfl (lv_at hl 2 rfl) ?_
  refine r_callVK (b := x0) (P9 := P9) (ci := 6) hx hb hml hown hts hE hA9 hW hl.1 hO gL_setMark_X4_setMark rfl hx0 (by decide) rfl (by decide +kernel) (n := 2) rfl (by decide) (Nat.le_of_ble_eq_true rfl) dL_setMark_5 rfl (fun e9 E ce q9 m9 H locs hP hE9 hW hcell hv hcl => ?_) (fun v m9 H locs hP hW => ?_)
  · obtain rfl := hPe _ _ hP
    subst hE9
    have hNc := hE.2.2.2.2.2.2.2.2.2.2.2.1
    refine vx_catch (name := "java/lang/IndexOutOfBoundsException") hown [] ⟨0, 17, 20, 25⟩ [] htab (fun z hz => absurd hz List.not_mem_nil) (by decide) (by decide) hc0 (va_Nw.use rfl (hE.2.2.2.1 _ (by decide +kernel))) hcell hv hcl ?_
    refine lv_astore (lv' := [(4, .ref q9), (0, .ref x0), (1, .int x1), (2, .int x2), (3, .ref out)]) hx hb dL_setMark_20 hl (by decide) rfl (fun ls hl => ?_)
    refine lv_iconst (v := 1) hx hb dL_setMark_22 (by decide) ?_
    exact r_iretW hx hb hlk hr hW (Or.inr ⟨3, hP, rfl⟩) (by decide) (by decide) dL_setMark_23
  · obtain ⟨z, m2, hv9, hz⟩ := hPr _ _ hP
    subst hv9
    refine W.eq (g2 := F0 m 8 ls [.int z, .int 0, .ref out]) rfl ?_
    refine lv_if_eq (tgt := 15) hx hb dL_setMark_8 (by decide) (fun hc => ?_) (fun hc => ?_)
    · have hz0 := hz
      rw [if_pos hc] at hz0
      refine lv_lconst (v := 0) hx hb dL_setMark_15 rfl ?_
      refine r_lstK hx hb hE.1 hW hz0 dL_setMark_16 (fun H locs hW => ?_)
      refine lv_goto (tgt := 24) hx hb dL_setMark_17 (by decide) ?_
      refine lv_iconst (v := 0) hx hb dL_setMark_24 (by decide) ?_
      exact r_iretW hx hb hlk hr hW (Or.inl ⟨z, m9, hP, rfl, hz⟩) (by decide) (by decide) dL_setMark_25
    · have hz0 := hz
      rw [if_neg hc] at hz0
      refine lv_lconst (v := 1) hx hb dL_setMark_11 rfl ?_
      refine lv_goto (tgt := 16) hx hb dL_setMark_12 (by decide) ?_
      refine r_lstK hx hb hE.1 hW hz0 dL_setMark_16 (fun H locs hW => ?_)
      refine lv_goto (tgt := 24) hx hb dL_setMark_17 (by decide) ?_
      refine lv_iconst (v := 0) hx hb dL_setMark_24 (by decide) ?_
      exact r_iretW hx hb hlk hr hW (Or.inl ⟨z, m9, hP, rfl, hz⟩) (by decide) (by decide) dL_setMark_25

set_option maxHeartbeats 1000000 in
set_option maxRecDepth 100000 in
theorem k_L_setKey (l : Launch) (G : GG) (A : Nat → Prop) (mu : Mem) (x0 : Nat) (x1 : Int32) (x2 : Int32) (out : Nat) (P9 : Nat ⊕ Option Value → Mem → Prop) (hO : Ok l yX4_setKey wsX4_setKey ({ frames := 10, cells := 2, slots := 12, locals := 190 } : Room) [.ref x0, .int x1, .int x2] G A mu P9) (hx0 : ok9 mu 6 x0) (hPr : ∀ v μ9, P9 (.inr v) μ9 → ∃ (z : Int32) (m2 : Mem), v = some (.int z) ∧ lst μ9 out 0 z.toInt64 = some m2) (hPe : ∀ e μ9, P9 (.inl e) μ9 → e = 3 ∨ e = 1) : Ok l yL_setKey wsL_setKey ({ frames := 12, cells := 2, slots := 12, locals := 230 } : Room) [.ref x0, .int x1, .int x2, .ref out] G A mu (fun r9 m9 => (∃ (z : Int32) (μ9 : Mem), P9 (.inr (some (.int z))) μ9 ∧ r9 = .inr (some (.int 0)) ∧ lst μ9 out 0 z.toInt64 = some m9) ∨ (∃ e : Nat, P9 (.inl e) m9 ∧ r9 = .inr (some (.int (if e = 3 then 1 else 2))))) := by
  refine Ok.startW (cc := cL_setKey) (maxL := 5) (ret := some .int) (hh := [(0, 10, 13, 25), (0, 10, 17, 13)]) rfl (by decide +kernel) (Nat.le_of_ble_eq_true rfl) ?_
  intro p e s m args below meth c ls hx hb hml hown hts hE hlk htab hA9 hr hW hl
  have hts : ∀ w ∈ wsL_setKey, w.before args s = true := hts
  have hown : s.vm.findClass RL = some m.cls := hown
  have hl : lv_has ls 5 [(0, .ref x0), (1, .int x1), (2, .int x2), (3, .ref out)] := hl
  have hc0 : (Cond.classLink RL 25 "java/lang/IndexOutOfBoundsException").before args s = true := hts _ (by decide +kernel)
  have hc1 : (Cond.classLink RL 13 "java/lang/IllegalArgumentException").before args s = true := hts _ (by decide +kernel)
  refine lv_aload_n hx hb dL_setKey_0 rfl (lv_at hl 3 rfl) ?_
  refine lv_iconst (v := 0) hx hb dL_setKey_1 (by decide) ?_
  refine lv_aload_n hx hb dL_setKey_2 rfl (lv_at hl 0 rfl) ?_
  refine lv_iload_n hx hb dL_setKey_3 rfl (lv_at hl 1 rfl) ?_
  refine lv_iload_n hx hb dL_setKey_4 rfl (lv_at hl 2 rfl) ?_
  refine r_callVK (b := x0) (P9 := P9) (ci := 6) hx hb hml hown hts hE hA9 hW hl.1 hO gL_setKey_X4_setKey rfl hx0 (by decide) rfl (by decide +kernel) (n := 2) rfl (by decide) (Nat.le_of_ble_eq_true rfl) dL_setKey_5 rfl (fun e9 E ce q9 m9 H locs hP hE9 hW hcell hv hcl => ?_) (fun v m9 H locs hP hW => ?_)
  · rcases hPe _ _ hP with rfl | rfl
    · subst hE9
      have hNc := hE.2.2.2.2.2.2.2.2.2.2.2.1
      refine vx_catch (name := "java/lang/IndexOutOfBoundsException") hown [] ⟨0, 10, 13, 25⟩ [⟨0, 10, 17, 13⟩] htab (fun z hz => absurd hz List.not_mem_nil) (by decide) (by decide) hc0 (va_Nw.use rfl (hE.2.2.2.1 _ (by decide +kernel))) hcell hv hcl ?_
      refine lv_astore (lv' := [(4, .ref q9), (0, .ref x0), (1, .int x1), (2, .int x2), (3, .ref out)]) hx hb dL_setKey_13 hl (by decide) rfl (fun ls hl => ?_)
      refine lv_iconst (v := 1) hx hb dL_setKey_15 (by decide) ?_
      exact r_iretW hx hb hlk hr hW (Or.inr ⟨3, hP, rfl⟩) (by decide) (by decide) dL_setKey_16
    · subst hE9
      have hNc := hE.2.2.2.2.2.2.2.2.2.2.2.1
      refine vx_catch (name := "java/lang/IllegalArgumentException") hown [⟨0, 10, 13, 25⟩] ⟨0, 10, 17, 13⟩ [] htab (fun z hz => (List.mem_cons.mp hz).elim (fun e9 => by subst e9; exact Or.inr ⟨by decide, "java/lang/IndexOutOfBoundsException", hc0, hNc ("java/lang/IllegalArgumentException", "java/lang/IndexOutOfBoundsException") (by decide +kernel)⟩) (fun hz => absurd hz List.not_mem_nil)) (by decide) (by decide) hc1 (va_Nw.use rfl (hE.2.2.2.1 _ (by decide +kernel))) hcell hv hcl ?_
      refine lv_astore (lv' := [(4, .ref q9), (0, .ref x0), (1, .int x1), (2, .int x2), (3, .ref out)]) hx hb dL_setKey_17 hl (by decide) rfl (fun ls hl => ?_)
      refine lv_iconst (v := 2) hx hb dL_setKey_19 (by decide) ?_
      exact r_iretW hx hb hlk hr hW (Or.inr ⟨1, hP, rfl⟩) (by decide) (by decide) dL_setKey_20
  · obtain ⟨z, m2, hv9, hz⟩ := hPr _ _ hP
    subst hv9
    refine W.eq (g2 := F0 m 8 ls [.int z, .int 0, .ref out]) rfl ?_
    refine lv_i2l hx hb dL_setKey_8 rfl ?_
    refine r_lstK hx hb hE.1 hW hz dL_setKey_9 (fun H locs hW => ?_)
    refine lv_goto (tgt := 21) hx hb dL_setKey_10 (by decide) ?_
    refine lv_iconst (v := 0) hx hb dL_setKey_21 (by decide) ?_
    exact r_iretW hx hb hlk hr hW (Or.inl ⟨z, m9, hP, rfl, hz⟩) (by decide) (by decide) dL_setKey_22

set_option maxHeartbeats 1000000 in
set_option maxRecDepth 100000 in
theorem k_L_addNote (l : Launch) (G : GG) (A : Nat → Prop) (mu : Mem) (x0 : Nat) (x1 : Int32) (x2 : Int32) (x3 : Int32) (x4 : Int32) (x5 : Int32) (x6 : Int32) (out : Nat) (P9 : Nat ⊕ Option Value → Mem → Prop) (hO : Ok l yX4_addNote wsX4_addNote ({ frames := 10, cells := 6, slots := 41, locals := 190 } : Room) [.ref x0, .int x1, .int x2, .int x3, .int x4, .int x5, .int x6] G A mu P9) (hx0 : ok9 mu 6 x0) (hPr : ∀ v μ9, P9 (.inr v) μ9 → ∃ (z : Int32) (m2 : Mem), v = some (.int z) ∧ lst μ9 out 0 z.toInt64 = some m2) (hPe : ∀ e μ9, P9 (.inl e) μ9 → e = 3 ∨ e = 1 ∨ e = 5 ∨ e = 2) : Ok l yL_addNote wsL_addNote ({ frames := 12, cells := 6, slots := 41, locals := 230 } : Room) [.ref x0, .int x1, .int x2, .int x3, .int x4, .int x5, .int x6, .ref out] G A mu (fun r9 m9 => (∃ (z : Int32) (μ9 : Mem), P9 (.inr (some (.int z))) μ9 ∧ r9 = .inr (some (.int 0)) ∧ lst μ9 out 0 z.toInt64 = some m9) ∨ (∃ e : Nat, P9 (.inl e) m9 ∧ r9 = .inr (some (.int (if e = 3 then 1 else if e = 1 then 2 else if e = 5 then 3 else 4))))) := by
  refine Ok.startW (cc := cL_addNote) (maxL := 9) (ret := some .int) (hh := [(0, 18, 21, 25), (0, 18, 25, 13), (0, 18, 29, 35), (0, 18, 33, 15)]) rfl (by decide +kernel) (Nat.le_of_ble_eq_true rfl) ?_
  intro p e s m args below meth c ls hx hb hml hown hts hE hlk htab hA9 hr hW hl
  have hts : ∀ w ∈ wsL_addNote, w.before args s = true := hts
  have hown : s.vm.findClass RL = some m.cls := hown
  have hl : lv_has ls 9 [(0, .ref x0), (1, .int x1), (2, .int x2), (3, .int x3), (4, .int x4), (5, .int x5), (6, .int x6), (7, .ref out)] := hl
  have hc0 : (Cond.classLink RL 25 "java/lang/IndexOutOfBoundsException").before args s = true := hts _ (by decide +kernel)
  have hc1 : (Cond.classLink RL 13 "java/lang/IllegalArgumentException").before args s = true := hts _ (by decide +kernel)
  have hc2 : (Cond.classLink RL 35 "java/lang/UnsupportedOperationException").before args s = true := hts _ (by decide +kernel)
  have hc3 : (Cond.classLink RL 15 "java/lang/IllegalStateException").before args s = true := hts _ (by decide +kernel)
  refine lv_aload hx hb dL_addNote_0 (lv_at hl 7 rfl) ?_
  refine lv_iconst (v := 0) hx hb dL_addNote_2 (by decide) ?_
  refine lv_aload_n hx hb dL_addNote_3 rfl (lv_at hl 0 rfl) ?_
  refine lv_iload_n hx hb dL_addNote_4 rfl (lv_at hl 1 rfl) ?_
  refine lv_iload_n hx hb dL_addNote_5 rfl (lv_at hl 2 rfl) ?_
  refine lv_iload_n hx hb dL_addNote_6 rfl (lv_at hl 3 rfl) ?_
  refine lv_iload hx hb dL_addNote_7 (lv_at hl 4 rfl) ?_
  refine lv_iload hx hb dL_addNote_9 (lv_at hl 5 rfl) ?_
  refine lv_iload hx hb dL_addNote_11 (lv_at hl 6 rfl) ?_
  refine r_callVK (b := x0) (P9 := P9) (ci := 6) hx hb hml hown hts hE hA9 hW hl.1 hO gL_addNote_X4_addNote rfl hx0 (by decide) rfl (by decide +kernel) (n := 6) rfl (by decide) (Nat.le_of_ble_eq_true rfl) dL_addNote_13 rfl (fun e9 E ce q9 m9 H locs hP hE9 hW hcell hv hcl => ?_) (fun v m9 H locs hP hW => ?_)
  · rcases hPe _ _ hP with rfl | rfl | rfl | rfl
    · subst hE9
      have hNc := hE.2.2.2.2.2.2.2.2.2.2.2.1
      refine vx_catch (name := "java/lang/IndexOutOfBoundsException") hown [] ⟨0, 18, 21, 25⟩ [⟨0, 18, 25, 13⟩, ⟨0, 18, 29, 35⟩, ⟨0, 18, 33, 15⟩] htab (fun z hz => absurd hz List.not_mem_nil) (by decide) (by decide) hc0 (va_Nw.use rfl (hE.2.2.2.1 _ (by decide +kernel))) hcell hv hcl ?_
      refine lv_astore (lv' := [(8, .ref q9), (0, .ref x0), (1, .int x1), (2, .int x2), (3, .int x3), (4, .int x4), (5, .int x5), (6, .int x6), (7, .ref out)]) hx hb dL_addNote_21 hl (by decide) rfl (fun ls hl => ?_)
      refine lv_iconst (v := 1) hx hb dL_addNote_23 (by decide) ?_
      exact r_iretW hx hb hlk hr hW (Or.inr ⟨3, hP, rfl⟩) (by decide) (by decide) dL_addNote_24
    · subst hE9
      have hNc := hE.2.2.2.2.2.2.2.2.2.2.2.1
      refine vx_catch (name := "java/lang/IllegalArgumentException") hown [⟨0, 18, 21, 25⟩] ⟨0, 18, 25, 13⟩ [⟨0, 18, 29, 35⟩, ⟨0, 18, 33, 15⟩] htab (fun z hz => (List.mem_cons.mp hz).elim (fun e9 => by subst e9; exact Or.inr ⟨by decide, "java/lang/IndexOutOfBoundsException", hc0, hNc ("java/lang/IllegalArgumentException", "java/lang/IndexOutOfBoundsException") (by decide +kernel)⟩) (fun hz => absurd hz List.not_mem_nil)) (by decide) (by decide) hc1 (va_Nw.use rfl (hE.2.2.2.1 _ (by decide +kernel))) hcell hv hcl ?_
      refine lv_astore (lv' := [(8, .ref q9), (0, .ref x0), (1, .int x1), (2, .int x2), (3, .int x3), (4, .int x4), (5, .int x5), (6, .int x6), (7, .ref out)]) hx hb dL_addNote_25 hl (by decide) rfl (fun ls hl => ?_)
      refine lv_iconst (v := 2) hx hb dL_addNote_27 (by decide) ?_
      exact r_iretW hx hb hlk hr hW (Or.inr ⟨1, hP, rfl⟩) (by decide) (by decide) dL_addNote_28
    · subst hE9
      have hNc := hE.2.2.2.2.2.2.2.2.2.2.2.1
      refine vx_catch (name := "java/lang/UnsupportedOperationException") hown [⟨0, 18, 21, 25⟩, ⟨0, 18, 25, 13⟩] ⟨0, 18, 29, 35⟩ [⟨0, 18, 33, 15⟩] htab (fun z hz => (List.mem_cons.mp hz).elim (fun e9 => by subst e9; exact Or.inr ⟨by decide, "java/lang/IndexOutOfBoundsException", hc0, hNc ("java/lang/UnsupportedOperationException", "java/lang/IndexOutOfBoundsException") (by decide +kernel)⟩) (fun hz => (List.mem_cons.mp hz).elim (fun e9 => by subst e9; exact Or.inr ⟨by decide, "java/lang/IllegalArgumentException", hc1, hNc ("java/lang/UnsupportedOperationException", "java/lang/IllegalArgumentException") (by decide +kernel)⟩) (fun hz => absurd hz List.not_mem_nil))) (by decide) (by decide) hc2 (va_Nw.use rfl (hE.2.2.2.1 _ (by decide +kernel))) hcell hv hcl ?_
      refine lv_astore (lv' := [(8, .ref q9), (0, .ref x0), (1, .int x1), (2, .int x2), (3, .int x3), (4, .int x4), (5, .int x5), (6, .int x6), (7, .ref out)]) hx hb dL_addNote_29 hl (by decide) rfl (fun ls hl => ?_)
      refine lv_iconst (v := 3) hx hb dL_addNote_31 (by decide) ?_
      exact r_iretW hx hb hlk hr hW (Or.inr ⟨5, hP, rfl⟩) (by decide) (by decide) dL_addNote_32
    · subst hE9
      have hNc := hE.2.2.2.2.2.2.2.2.2.2.2.1
      refine vx_catch (name := "java/lang/IllegalStateException") hown [⟨0, 18, 21, 25⟩, ⟨0, 18, 25, 13⟩, ⟨0, 18, 29, 35⟩] ⟨0, 18, 33, 15⟩ [] htab (fun z hz => (List.mem_cons.mp hz).elim (fun e9 => by subst e9; exact Or.inr ⟨by decide, "java/lang/IndexOutOfBoundsException", hc0, hNc ("java/lang/IllegalStateException", "java/lang/IndexOutOfBoundsException") (by decide +kernel)⟩) (fun hz => (List.mem_cons.mp hz).elim (fun e9 => by subst e9; exact Or.inr ⟨by decide, "java/lang/IllegalArgumentException", hc1, hNc ("java/lang/IllegalStateException", "java/lang/IllegalArgumentException") (by decide +kernel)⟩) (fun hz => (List.mem_cons.mp hz).elim (fun e9 => by subst e9; exact Or.inr ⟨by decide, "java/lang/UnsupportedOperationException", hc2, hNc ("java/lang/IllegalStateException", "java/lang/UnsupportedOperationException") (by decide +kernel)⟩) (fun hz => absurd hz List.not_mem_nil)))) (by decide) (by decide) hc3 (va_Nw.use rfl (hE.2.2.2.1 _ (by decide +kernel))) hcell hv hcl ?_
      refine lv_astore (lv' := [(8, .ref q9), (0, .ref x0), (1, .int x1), (2, .int x2), (3, .int x3), (4, .int x4), (5, .int x5), (6, .int x6), (7, .ref out)]) hx hb dL_addNote_33 hl (by decide) rfl (fun ls hl => ?_)
      refine lv_iconst (v := 4) hx hb dL_addNote_35 (by decide) ?_
      exact r_iretW hx hb hlk hr hW (Or.inr ⟨2, hP, rfl⟩) (by decide) (by decide) dL_addNote_36
  · obtain ⟨z, m2, hv9, hz⟩ := hPr _ _ hP
    subst hv9
    refine W.eq (g2 := F0 m 16 ls [.int z, .int 0, .ref out]) rfl ?_
    refine lv_i2l hx hb dL_addNote_16 rfl ?_
    refine r_lstK hx hb hE.1 hW hz dL_addNote_17 (fun H locs hW => ?_)
    refine lv_goto (tgt := 37) hx hb dL_addNote_18 (by decide) ?_
    refine lv_iconst (v := 0) hx hb dL_addNote_37 (by decide) ?_
    exact r_iretW hx hb hlk hr hW (Or.inl ⟨z, m9, hP, rfl, hz⟩) (by decide) (by decide) dL_addNote_38

set_option maxHeartbeats 1000000 in
set_option maxRecDepth 100000 in
theorem k_L_correct (l : Launch) (G : GG) (A : Nat → Prop) (mu : Mem) (x0 : Nat) (x1 : Int32) (x2 : Int32) (out : Nat) (P9 : Nat ⊕ Option Value → Mem → Prop) (hO : Ok l yX4_correct wsX4_correct ({ frames := 10, cells := 2, slots := 12, locals := 190 } : Room) [.ref x0, .int x1, .int x2] G A mu P9) (hx0 : ok9 mu 6 x0) (hPr : ∀ v μ9, P9 (.inr v) μ9 → ∃ (z : Int32) (m2 : Mem), v = some (.int z) ∧ lst μ9 out 0 z.toInt64 = some m2) (hPe : ∀ e μ9, P9 (.inl e) μ9 → e = 4 ∨ e = 1) : Ok l yL_correct wsL_correct ({ frames := 12, cells := 2, slots := 12, locals := 230 } : Room) [.ref x0, .int x1, .int x2, .ref out] G A mu (fun r9 m9 => (∃ (z : Int32) (μ9 : Mem), P9 (.inr (some (.int z))) μ9 ∧ r9 = .inr (some (.int 0)) ∧ lst μ9 out 0 z.toInt64 = some m9) ∨ (∃ e : Nat, P9 (.inl e) m9 ∧ r9 = .inr (some (.int (if e = 4 then 1 else 2))))) := by
  refine Ok.startW (cc := cL_correct) (maxL := 5) (ret := some .int) (hh := [(0, 10, 13, 40), (0, 10, 17, 13)]) rfl (by decide +kernel) (Nat.le_of_ble_eq_true rfl) ?_
  intro p e s m args below meth c ls hx hb hml hown hts hE hlk htab hA9 hr hW hl
  have hts : ∀ w ∈ wsL_correct, w.before args s = true := hts
  have hown : s.vm.findClass RL = some m.cls := hown
  have hl : lv_has ls 5 [(0, .ref x0), (1, .int x1), (2, .int x2), (3, .ref out)] := hl
  have hc0 : (Cond.classLink RL 40 "java/util/NoSuchElementException").before args s = true := hts _ (by decide +kernel)
  have hc1 : (Cond.classLink RL 13 "java/lang/IllegalArgumentException").before args s = true := hts _ (by decide +kernel)
  refine lv_aload_n hx hb dL_correct_0 rfl (lv_at hl 3 rfl) ?_
  refine lv_iconst (v := 0) hx hb dL_correct_1 (by decide) ?_
  refine lv_aload_n hx hb dL_correct_2 rfl (lv_at hl 0 rfl) ?_
  refine lv_iload_n hx hb dL_correct_3 rfl (lv_at hl 1 rfl) ?_
  refine lv_iload_n hx hb dL_correct_4 rfl (lv_at hl 2 rfl) ?_
  refine r_callVK (b := x0) (P9 := P9) (ci := 6) hx hb hml hown hts hE hA9 hW hl.1 hO gL_correct_X4_correct rfl hx0 (by decide) rfl (by decide +kernel) (n := 2) rfl (by decide) (Nat.le_of_ble_eq_true rfl) dL_correct_5 rfl (fun e9 E ce q9 m9 H locs hP hE9 hW hcell hv hcl => ?_) (fun v m9 H locs hP hW => ?_)
  · rcases hPe _ _ hP with rfl | rfl
    · subst hE9
      have hNc := hE.2.2.2.2.2.2.2.2.2.2.2.1
      refine vx_catch (name := "java/util/NoSuchElementException") hown [] ⟨0, 10, 13, 40⟩ [⟨0, 10, 17, 13⟩] htab (fun z hz => absurd hz List.not_mem_nil) (by decide) (by decide) hc0 (va_Nw.use rfl (hE.2.2.2.1 _ (by decide +kernel))) hcell hv hcl ?_
      refine lv_astore (lv' := [(4, .ref q9), (0, .ref x0), (1, .int x1), (2, .int x2), (3, .ref out)]) hx hb dL_correct_13 hl (by decide) rfl (fun ls hl => ?_)
      refine lv_iconst (v := 1) hx hb dL_correct_15 (by decide) ?_
      exact r_iretW hx hb hlk hr hW (Or.inr ⟨4, hP, rfl⟩) (by decide) (by decide) dL_correct_16
    · subst hE9
      have hNc := hE.2.2.2.2.2.2.2.2.2.2.2.1
      refine vx_catch (name := "java/lang/IllegalArgumentException") hown [⟨0, 10, 13, 40⟩] ⟨0, 10, 17, 13⟩ [] htab (fun z hz => (List.mem_cons.mp hz).elim (fun e9 => by subst e9; exact Or.inr ⟨by decide, "java/util/NoSuchElementException", hc0, hNc ("java/lang/IllegalArgumentException", "java/util/NoSuchElementException") (by decide +kernel)⟩) (fun hz => absurd hz List.not_mem_nil)) (by decide) (by decide) hc1 (va_Nw.use rfl (hE.2.2.2.1 _ (by decide +kernel))) hcell hv hcl ?_
      refine lv_astore (lv' := [(4, .ref q9), (0, .ref x0), (1, .int x1), (2, .int x2), (3, .ref out)]) hx hb dL_correct_17 hl (by decide) rfl (fun ls hl => ?_)
      refine lv_iconst (v := 2) hx hb dL_correct_19 (by decide) ?_
      exact r_iretW hx hb hlk hr hW (Or.inr ⟨1, hP, rfl⟩) (by decide) (by decide) dL_correct_20
  · obtain ⟨z, m2, hv9, hz⟩ := hPr _ _ hP
    subst hv9
    refine W.eq (g2 := F0 m 8 ls [.int z, .int 0, .ref out]) rfl ?_
    refine lv_i2l hx hb dL_correct_8 rfl ?_
    refine r_lstK hx hb hE.1 hW hz dL_correct_9 (fun H locs hW => ?_)
    refine lv_goto (tgt := 21) hx hb dL_correct_10 (by decide) ?_
    refine lv_iconst (v := 0) hx hb dL_correct_21 (by decide) ?_
    exact r_iretW hx hb hlk hr hW (Or.inl ⟨z, m9, hP, rfl, hz⟩) (by decide) (by decide) dL_correct_22

set_option maxHeartbeats 1000000 in
set_option maxRecDepth 100000 in
theorem k_L_stretch (l : Launch) (G : GG) (A : Nat → Prop) (mu : Mem) (x0 : Nat) (x1 : Int32) (x2 : Int32) (out : Nat) (P9 : Nat ⊕ Option Value → Mem → Prop) (hO : Ok l yX4_stretch wsX4_stretch ({ frames := 10, cells := 3, slots := 18, locals := 190 } : Room) [.ref x0, .int x1, .int x2] G A mu P9) (hx0 : ok9 mu 6 x0) (hPr : ∀ v μ9, P9 (.inr v) μ9 → ∃ (z : Int32) (m2 : Mem), v = some (.int z) ∧ lst μ9 out 0 z.toInt64 = some m2) (hPe : ∀ e μ9, P9 (.inl e) μ9 → e = 4 ∨ e = 1 ∨ e = 5) : Ok l yL_stretch wsL_stretch ({ frames := 12, cells := 3, slots := 18, locals := 230 } : Room) [.ref x0, .int x1, .int x2, .ref out] G A mu (fun r9 m9 => (∃ (z : Int32) (μ9 : Mem), P9 (.inr (some (.int z))) μ9 ∧ r9 = .inr (some (.int 0)) ∧ lst μ9 out 0 z.toInt64 = some m9) ∨ (∃ e : Nat, P9 (.inl e) m9 ∧ r9 = .inr (some (.int (if e = 4 then 1 else if e = 1 then 2 else 3))))) := by
  refine Ok.startW (cc := cL_stretch) (maxL := 5) (ret := some .int) (hh := [(0, 10, 13, 40), (0, 10, 17, 13), (0, 10, 21, 35)]) rfl (by decide +kernel) (Nat.le_of_ble_eq_true rfl) ?_
  intro p e s m args below meth c ls hx hb hml hown hts hE hlk htab hA9 hr hW hl
  have hts : ∀ w ∈ wsL_stretch, w.before args s = true := hts
  have hown : s.vm.findClass RL = some m.cls := hown
  have hl : lv_has ls 5 [(0, .ref x0), (1, .int x1), (2, .int x2), (3, .ref out)] := hl
  have hc0 : (Cond.classLink RL 40 "java/util/NoSuchElementException").before args s = true := hts _ (by decide +kernel)
  have hc1 : (Cond.classLink RL 13 "java/lang/IllegalArgumentException").before args s = true := hts _ (by decide +kernel)
  have hc2 : (Cond.classLink RL 35 "java/lang/UnsupportedOperationException").before args s = true := hts _ (by decide +kernel)
  refine lv_aload_n hx hb dL_stretch_0 rfl (lv_at hl 3 rfl) ?_
  refine lv_iconst (v := 0) hx hb dL_stretch_1 (by decide) ?_
  refine lv_aload_n hx hb dL_stretch_2 rfl (lv_at hl 0 rfl) ?_
  refine lv_iload_n hx hb dL_stretch_3 rfl (lv_at hl 1 rfl) ?_
  refine lv_iload_n hx hb dL_stretch_4 rfl (lv_at hl 2 rfl) ?_
  refine r_callVK (b := x0) (P9 := P9) (ci := 6) hx hb hml hown hts hE hA9 hW hl.1 hO gL_stretch_X4_stretch rfl hx0 (by decide) rfl (by decide +kernel) (n := 2) rfl (by decide) (Nat.le_of_ble_eq_true rfl) dL_stretch_5 rfl (fun e9 E ce q9 m9 H locs hP hE9 hW hcell hv hcl => ?_) (fun v m9 H locs hP hW => ?_)
  · rcases hPe _ _ hP with rfl | rfl | rfl
    · subst hE9
      have hNc := hE.2.2.2.2.2.2.2.2.2.2.2.1
      refine vx_catch (name := "java/util/NoSuchElementException") hown [] ⟨0, 10, 13, 40⟩ [⟨0, 10, 17, 13⟩, ⟨0, 10, 21, 35⟩] htab (fun z hz => absurd hz List.not_mem_nil) (by decide) (by decide) hc0 (va_Nw.use rfl (hE.2.2.2.1 _ (by decide +kernel))) hcell hv hcl ?_
      refine lv_astore (lv' := [(4, .ref q9), (0, .ref x0), (1, .int x1), (2, .int x2), (3, .ref out)]) hx hb dL_stretch_13 hl (by decide) rfl (fun ls hl => ?_)
      refine lv_iconst (v := 1) hx hb dL_stretch_15 (by decide) ?_
      exact r_iretW hx hb hlk hr hW (Or.inr ⟨4, hP, rfl⟩) (by decide) (by decide) dL_stretch_16
    · subst hE9
      have hNc := hE.2.2.2.2.2.2.2.2.2.2.2.1
      refine vx_catch (name := "java/lang/IllegalArgumentException") hown [⟨0, 10, 13, 40⟩] ⟨0, 10, 17, 13⟩ [⟨0, 10, 21, 35⟩] htab (fun z hz => (List.mem_cons.mp hz).elim (fun e9 => by subst e9; exact Or.inr ⟨by decide, "java/util/NoSuchElementException", hc0, hNc ("java/lang/IllegalArgumentException", "java/util/NoSuchElementException") (by decide +kernel)⟩) (fun hz => absurd hz List.not_mem_nil)) (by decide) (by decide) hc1 (va_Nw.use rfl (hE.2.2.2.1 _ (by decide +kernel))) hcell hv hcl ?_
      refine lv_astore (lv' := [(4, .ref q9), (0, .ref x0), (1, .int x1), (2, .int x2), (3, .ref out)]) hx hb dL_stretch_17 hl (by decide) rfl (fun ls hl => ?_)
      refine lv_iconst (v := 2) hx hb dL_stretch_19 (by decide) ?_
      exact r_iretW hx hb hlk hr hW (Or.inr ⟨1, hP, rfl⟩) (by decide) (by decide) dL_stretch_20
    · subst hE9
      have hNc := hE.2.2.2.2.2.2.2.2.2.2.2.1
      refine vx_catch (name := "java/lang/UnsupportedOperationException") hown [⟨0, 10, 13, 40⟩, ⟨0, 10, 17, 13⟩] ⟨0, 10, 21, 35⟩ [] htab (fun z hz => (List.mem_cons.mp hz).elim (fun e9 => by subst e9; exact Or.inr ⟨by decide, "java/util/NoSuchElementException", hc0, hNc ("java/lang/UnsupportedOperationException", "java/util/NoSuchElementException") (by decide +kernel)⟩) (fun hz => (List.mem_cons.mp hz).elim (fun e9 => by subst e9; exact Or.inr ⟨by decide, "java/lang/IllegalArgumentException", hc1, hNc ("java/lang/UnsupportedOperationException", "java/lang/IllegalArgumentException") (by decide +kernel)⟩) (fun hz => absurd hz List.not_mem_nil))) (by decide) (by decide) hc2 (va_Nw.use rfl (hE.2.2.2.1 _ (by decide +kernel))) hcell hv hcl ?_
      refine lv_astore (lv' := [(4, .ref q9), (0, .ref x0), (1, .int x1), (2, .int x2), (3, .ref out)]) hx hb dL_stretch_21 hl (by decide) rfl (fun ls hl => ?_)
      refine lv_iconst (v := 3) hx hb dL_stretch_23 (by decide) ?_
      exact r_iretW hx hb hlk hr hW (Or.inr ⟨5, hP, rfl⟩) (by decide) (by decide) dL_stretch_24
  · obtain ⟨z, m2, hv9, hz⟩ := hPr _ _ hP
    subst hv9
    refine W.eq (g2 := F0 m 8 ls [.int z, .int 0, .ref out]) rfl ?_
    refine lv_i2l hx hb dL_stretch_8 rfl ?_
    refine r_lstK hx hb hE.1 hW hz dL_stretch_9 (fun H locs hW => ?_)
    refine lv_goto (tgt := 25) hx hb dL_stretch_10 (by decide) ?_
    refine lv_iconst (v := 0) hx hb dL_stretch_25 (by decide) ?_
    exact r_iretW hx hb hlk hr hW (Or.inl ⟨z, m9, hP, rfl, hz⟩) (by decide) (by decide) dL_stretch_26

set_option maxHeartbeats 1000000 in
set_option maxRecDepth 100000 in
theorem k_L_takeOut (l : Launch) (G : GG) (A : Nat → Prop) (mu : Mem) (x0 : Nat) (x1 : Int32) (out : Nat) (P9 : Nat ⊕ Option Value → Mem → Prop) (hO : Ok l yX4_takeOut wsX4_takeOut ({ frames := 10, cells := 1, slots := 6, locals := 190 } : Room) [.ref x0, .int x1] G A mu P9) (hx0 : ok9 mu 6 x0) (hPr : ∀ v μ9, P9 (.inr v) μ9 → ∃ (z : Int32) (m2 : Mem), v = some (.int z) ∧ lst μ9 out 0 z.toInt64 = some m2) (hPe : ∀ e μ9, P9 (.inl e) μ9 → e = 4) : Ok l yL_takeOut wsL_takeOut ({ frames := 12, cells := 1, slots := 6, locals := 230 } : Room) [.ref x0, .int x1, .ref out] G A mu (fun r9 m9 => (∃ (z : Int32) (μ9 : Mem), P9 (.inr (some (.int z))) μ9 ∧ r9 = .inr (some (.int 0)) ∧ lst μ9 out 0 z.toInt64 = some m9) ∨ (∃ e : Nat, P9 (.inl e) m9 ∧ r9 = .inr (some (.int (1))))) := by
  refine Ok.startW (cc := cL_takeOut) (maxL := 4) (ret := some .int) (hh := [(0, 9, 12, 40)]) rfl (by decide +kernel) (Nat.le_of_ble_eq_true rfl) ?_
  intro p e s m args below meth c ls hx hb hml hown hts hE hlk htab hA9 hr hW hl
  have hts : ∀ w ∈ wsL_takeOut, w.before args s = true := hts
  have hown : s.vm.findClass RL = some m.cls := hown
  have hl : lv_has ls 4 [(0, .ref x0), (1, .int x1), (2, .ref out)] := hl
  have hc0 : (Cond.classLink RL 40 "java/util/NoSuchElementException").before args s = true := hts _ (by decide +kernel)
  refine lv_aload_n hx hb dL_takeOut_0 rfl (lv_at hl 2 rfl) ?_
  refine lv_iconst (v := 0) hx hb dL_takeOut_1 (by decide) ?_
  refine lv_aload_n hx hb dL_takeOut_2 rfl (lv_at hl 0 rfl) ?_
  refine lv_iload_n hx hb dL_takeOut_3 rfl (lv_at hl 1 rfl) ?_
  refine r_callVK (b := x0) (P9 := P9) (ci := 6) hx hb hml hown hts hE hA9 hW hl.1 hO gL_takeOut_X4_takeOut rfl hx0 (by decide) rfl (by decide +kernel) (n := 1) rfl (by decide) (Nat.le_of_ble_eq_true rfl) dL_takeOut_4 rfl (fun e9 E ce q9 m9 H locs hP hE9 hW hcell hv hcl => ?_) (fun v m9 H locs hP hW => ?_)
  · obtain rfl := hPe _ _ hP
    subst hE9
    have hNc := hE.2.2.2.2.2.2.2.2.2.2.2.1
    refine vx_catch (name := "java/util/NoSuchElementException") hown [] ⟨0, 9, 12, 40⟩ [] htab (fun z hz => absurd hz List.not_mem_nil) (by decide) (by decide) hc0 (va_Nw.use rfl (hE.2.2.2.1 _ (by decide +kernel))) hcell hv hcl ?_
    refine lv_astore_n (lv' := [(3, .ref q9), (0, .ref x0), (1, .int x1), (2, .ref out)]) hx hb dL_takeOut_12 rfl hl (by decide) rfl (fun ls hl => ?_)
    refine lv_iconst (v := 1) hx hb dL_takeOut_13 (by decide) ?_
    exact r_iretW hx hb hlk hr hW (Or.inr ⟨4, hP, rfl⟩) (by decide) (by decide) dL_takeOut_14
  · obtain ⟨z, m2, hv9, hz⟩ := hPr _ _ hP
    subst hv9
    refine W.eq (g2 := F0 m 7 ls [.int z, .int 0, .ref out]) rfl ?_
    refine lv_i2l hx hb dL_takeOut_7 rfl ?_
    refine r_lstK hx hb hE.1 hW hz dL_takeOut_8 (fun H locs hW => ?_)
    refine lv_goto (tgt := 15) hx hb dL_takeOut_9 (by decide) ?_
    refine lv_iconst (v := 0) hx hb dL_takeOut_15 (by decide) ?_
    exact r_iretW hx hb hlk hr hW (Or.inl ⟨z, m9, hP, rfl, hz⟩) (by decide) (by decide) dL_takeOut_16

set_option maxHeartbeats 1000000 in
set_option maxRecDepth 100000 in
theorem k_L_notesIn (l : Launch) (G : GG) (A : Nat → Prop) (mu : Mem) (x0 : Nat) (x1 : Int32) (x2 : Int32) (out : Nat) (P9 : Nat ⊕ Option Value → Mem → Prop) (hO : Ok l yX4_notesIn wsX4_notesIn ({ frames := 10, cells := 2, slots := 12, locals := 190 } : Room) [.ref x0, .int x1, .int x2] G A mu P9) (hx0 : ok9 mu 6 x0) (hPr : ∀ v μ9, P9 (.inr v) μ9 → ∃ (z : Int32) (m2 : Mem), v = some (.int z) ∧ lst μ9 out 0 z.toInt64 = some m2) (hPe : ∀ e μ9, P9 (.inl e) μ9 → e = 3) : Ok l yL_notesIn wsL_notesIn ({ frames := 12, cells := 2, slots := 12, locals := 230 } : Room) [.ref x0, .int x1, .int x2, .ref out] G A mu (fun r9 m9 => (∃ (z : Int32) (μ9 : Mem), P9 (.inr (some (.int z))) μ9 ∧ r9 = .inr (some (.int 0)) ∧ lst μ9 out 0 z.toInt64 = some m9) ∨ (∃ e : Nat, P9 (.inl e) m9 ∧ r9 = .inr (some (.int (1))))) := by
  refine Ok.startW (cc := cL_notesIn) (maxL := 5) (ret := some .int) (hh := [(0, 10, 13, 25)]) rfl (by decide +kernel) (Nat.le_of_ble_eq_true rfl) ?_
  intro p e s m args below meth c ls hx hb hml hown hts hE hlk htab hA9 hr hW hl
  have hts : ∀ w ∈ wsL_notesIn, w.before args s = true := hts
  have hown : s.vm.findClass RL = some m.cls := hown
  have hl : lv_has ls 5 [(0, .ref x0), (1, .int x1), (2, .int x2), (3, .ref out)] := hl
  have hc0 : (Cond.classLink RL 25 "java/lang/IndexOutOfBoundsException").before args s = true := hts _ (by decide +kernel)
  refine lv_aload_n hx hb dL_notesIn_0 rfl (lv_at hl 3 rfl) ?_
  refine lv_iconst (v := 0) hx hb dL_notesIn_1 (by decide) ?_
  refine lv_aload_n hx hb dL_notesIn_2 rfl (lv_at hl 0 rfl) ?_
  refine lv_iload_n hx hb dL_notesIn_3 rfl (lv_at hl 1 rfl) ?_
  refine lv_iload_n hx hb dL_notesIn_4 rfl (lv_at hl 2 rfl) ?_
  refine r_callVK (b := x0) (P9 := P9) (ci := 6) hx hb hml hown hts hE hA9 hW hl.1 hO gL_notesIn_X4_notesIn rfl hx0 (by decide) rfl (by decide +kernel) (n := 2) rfl (by decide) (Nat.le_of_ble_eq_true rfl) dL_notesIn_5 rfl (fun e9 E ce q9 m9 H locs hP hE9 hW hcell hv hcl => ?_) (fun v m9 H locs hP hW => ?_)
  · obtain rfl := hPe _ _ hP
    subst hE9
    have hNc := hE.2.2.2.2.2.2.2.2.2.2.2.1
    refine vx_catch (name := "java/lang/IndexOutOfBoundsException") hown [] ⟨0, 10, 13, 25⟩ [] htab (fun z hz => absurd hz List.not_mem_nil) (by decide) (by decide) hc0 (va_Nw.use rfl (hE.2.2.2.1 _ (by decide +kernel))) hcell hv hcl ?_
    refine lv_astore (lv' := [(4, .ref q9), (0, .ref x0), (1, .int x1), (2, .int x2), (3, .ref out)]) hx hb dL_notesIn_13 hl (by decide) rfl (fun ls hl => ?_)
    refine lv_iconst (v := 1) hx hb dL_notesIn_15 (by decide) ?_
    exact r_iretW hx hb hlk hr hW (Or.inr ⟨3, hP, rfl⟩) (by decide) (by decide) dL_notesIn_16
  · obtain ⟨z, m2, hv9, hz⟩ := hPr _ _ hP
    subst hv9
    refine W.eq (g2 := F0 m 8 ls [.int z, .int 0, .ref out]) rfl ?_
    refine lv_i2l hx hb dL_notesIn_8 rfl ?_
    refine r_lstK hx hb hE.1 hW hz dL_notesIn_9 (fun H locs hW => ?_)
    refine lv_goto (tgt := 17) hx hb dL_notesIn_10 (by decide) ?_
    refine lv_iconst (v := 0) hx hb dL_notesIn_17 (by decide) ?_
    exact r_iretW hx hb hlk hr hW (Or.inl ⟨z, m9, hP, rfl, hz⟩) (by decide) (by decide) dL_notesIn_18

set_option maxHeartbeats 1000000 in
set_option maxRecDepth 100000 in
theorem k_L_noteAt (l : Launch) (G : GG) (A : Nat → Prop) (mu : Mem) (x0 : Nat) (x1 : Int32) (x2 : Int32) (x3 : Int32) (out : Nat) (P9 : Nat ⊕ Option Value → Mem → Prop) (hO : Ok l yX4_noteAt wsX4_noteAt ({ frames := 12, cells := 3, slots := 18, locals := 230 } : Room) [.ref x0, .int x1, .int x2, .int x3] G A mu P9) (hx0 : ok9 mu 6 x0) (hPr : ∀ v μ9, P9 (.inr v) μ9 → ∃ (z : Int32) (m2 : Mem), v = some (.int z) ∧ lst μ9 out 0 z.toInt64 = some m2) (hPe : ∀ e μ9, P9 (.inl e) μ9 → e = 3 ∨ e = 4) : Ok l yL_noteAt wsL_noteAt ({ frames := 14, cells := 3, slots := 18, locals := 270 } : Room) [.ref x0, .int x1, .int x2, .int x3, .ref out] G A mu (fun r9 m9 => (∃ (z : Int32) (μ9 : Mem), P9 (.inr (some (.int z))) μ9 ∧ r9 = .inr (some (.int 0)) ∧ lst μ9 out 0 z.toInt64 = some m9) ∨ (∃ e : Nat, P9 (.inl e) m9 ∧ r9 = .inr (some (.int (if e = 3 then 1 else 2))))) := by
  refine Ok.startW (cc := cL_noteAt) (maxL := 6) (ret := some .int) (hh := [(0, 12, 15, 25), (0, 12, 19, 40)]) rfl (by decide +kernel) (Nat.le_of_ble_eq_true rfl) ?_
  intro p e s m args below meth c ls hx hb hml hown hts hE hlk htab hA9 hr hW hl
  have hts : ∀ w ∈ wsL_noteAt, w.before args s = true := hts
  have hown : s.vm.findClass RL = some m.cls := hown
  have hl : lv_has ls 6 [(0, .ref x0), (1, .int x1), (2, .int x2), (3, .int x3), (4, .ref out)] := hl
  have hc0 : (Cond.classLink RL 25 "java/lang/IndexOutOfBoundsException").before args s = true := hts _ (by decide +kernel)
  have hc1 : (Cond.classLink RL 40 "java/util/NoSuchElementException").before args s = true := hts _ (by decide +kernel)
  refine lv_aload hx hb dL_noteAt_0 (lv_at hl 4 rfl) ?_
  refine lv_iconst (v := 0) hx hb dL_noteAt_2 (by decide) ?_
  refine lv_aload_n hx hb dL_noteAt_3 rfl (lv_at hl 0 rfl) ?_
  refine lv_iload_n hx hb dL_noteAt_4 rfl (lv_at hl 1 rfl) ?_
  refine lv_iload_n hx hb dL_noteAt_5 rfl (lv_at hl 2 rfl) ?_
  refine lv_iload_n hx hb dL_noteAt_6 rfl (lv_at hl 3 rfl) ?_
  refine r_callVK (b := x0) (P9 := P9) (ci := 6) hx hb hml hown hts hE hA9 hW hl.1 hO gL_noteAt_X4_noteAt rfl hx0 (by decide) rfl (by decide +kernel) (n := 3) rfl (by decide) (Nat.le_of_ble_eq_true rfl) dL_noteAt_7 rfl (fun e9 E ce q9 m9 H locs hP hE9 hW hcell hv hcl => ?_) (fun v m9 H locs hP hW => ?_)
  · rcases hPe _ _ hP with rfl | rfl
    · subst hE9
      have hNc := hE.2.2.2.2.2.2.2.2.2.2.2.1
      refine vx_catch (name := "java/lang/IndexOutOfBoundsException") hown [] ⟨0, 12, 15, 25⟩ [⟨0, 12, 19, 40⟩] htab (fun z hz => absurd hz List.not_mem_nil) (by decide) (by decide) hc0 (va_Nw.use rfl (hE.2.2.2.1 _ (by decide +kernel))) hcell hv hcl ?_
      refine lv_astore (lv' := [(5, .ref q9), (0, .ref x0), (1, .int x1), (2, .int x2), (3, .int x3), (4, .ref out)]) hx hb dL_noteAt_15 hl (by decide) rfl (fun ls hl => ?_)
      refine lv_iconst (v := 1) hx hb dL_noteAt_17 (by decide) ?_
      exact r_iretW hx hb hlk hr hW (Or.inr ⟨3, hP, rfl⟩) (by decide) (by decide) dL_noteAt_18
    · subst hE9
      have hNc := hE.2.2.2.2.2.2.2.2.2.2.2.1
      refine vx_catch (name := "java/util/NoSuchElementException") hown [⟨0, 12, 15, 25⟩] ⟨0, 12, 19, 40⟩ [] htab (fun z hz => (List.mem_cons.mp hz).elim (fun e9 => by subst e9; exact Or.inr ⟨by decide, "java/lang/IndexOutOfBoundsException", hc0, hNc ("java/util/NoSuchElementException", "java/lang/IndexOutOfBoundsException") (by decide +kernel)⟩) (fun hz => absurd hz List.not_mem_nil)) (by decide) (by decide) hc1 (va_Nw.use rfl (hE.2.2.2.1 _ (by decide +kernel))) hcell hv hcl ?_
      refine lv_astore (lv' := [(5, .ref q9), (0, .ref x0), (1, .int x1), (2, .int x2), (3, .int x3), (4, .ref out)]) hx hb dL_noteAt_19 hl (by decide) rfl (fun ls hl => ?_)
      refine lv_iconst (v := 2) hx hb dL_noteAt_21 (by decide) ?_
      exact r_iretW hx hb hlk hr hW (Or.inr ⟨4, hP, rfl⟩) (by decide) (by decide) dL_noteAt_22
  · obtain ⟨z, m2, hv9, hz⟩ := hPr _ _ hP
    subst hv9
    refine W.eq (g2 := F0 m 10 ls [.int z, .int 0, .ref out]) rfl ?_
    refine lv_i2l hx hb dL_noteAt_10 rfl ?_
    refine r_lstK hx hb hE.1 hW hz dL_noteAt_11 (fun H locs hW => ?_)
    refine lv_goto (tgt := 23) hx hb dL_noteAt_12 (by decide) ?_
    refine lv_iconst (v := 0) hx hb dL_noteAt_23 (by decide) ?_
    exact r_iretW hx hb hlk hr hW (Or.inl ⟨z, m9, hP, rfl, hz⟩) (by decide) (by decide) dL_noteAt_24

set_option maxHeartbeats 1000000 in
set_option maxRecDepth 100000 in
theorem k_L_pitchOf (l : Launch) (G : GG) (A : Nat → Prop) (mu : Mem) (x0 : Nat) (x1 : Int32) (out : Nat) (P9 : Nat ⊕ Option Value → Mem → Prop) (hO : Ok l yX4_pitchOf wsX4_pitchOf ({ frames := 10, cells := 1, slots := 6, locals := 190 } : Room) [.ref x0, .int x1] G A mu P9) (hx0 : ok9 mu 6 x0) (hPr : ∀ v μ9, P9 (.inr v) μ9 → ∃ (z : Int32) (m2 : Mem), v = some (.int z) ∧ lst μ9 out 0 z.toInt64 = some m2) (hPe : ∀ e μ9, P9 (.inl e) μ9 → e = 4) : Ok l yL_pitchOf wsL_pitchOf ({ frames := 12, cells := 1, slots := 6, locals := 230 } : Room) [.ref x0, .int x1, .ref out] G A mu (fun r9 m9 => (∃ (z : Int32) (μ9 : Mem), P9 (.inr (some (.int z))) μ9 ∧ r9 = .inr (some (.int 0)) ∧ lst μ9 out 0 z.toInt64 = some m9) ∨ (∃ e : Nat, P9 (.inl e) m9 ∧ r9 = .inr (some (.int (1))))) := by
  refine Ok.startW (cc := cL_pitchOf) (maxL := 4) (ret := some .int) (hh := [(0, 9, 12, 40)]) rfl (by decide +kernel) (Nat.le_of_ble_eq_true rfl) ?_
  intro p e s m args below meth c ls hx hb hml hown hts hE hlk htab hA9 hr hW hl
  have hts : ∀ w ∈ wsL_pitchOf, w.before args s = true := hts
  have hown : s.vm.findClass RL = some m.cls := hown
  have hl : lv_has ls 4 [(0, .ref x0), (1, .int x1), (2, .ref out)] := hl
  have hc0 : (Cond.classLink RL 40 "java/util/NoSuchElementException").before args s = true := hts _ (by decide +kernel)
  refine lv_aload_n hx hb dL_pitchOf_0 rfl (lv_at hl 2 rfl) ?_
  refine lv_iconst (v := 0) hx hb dL_pitchOf_1 (by decide) ?_
  refine lv_aload_n hx hb dL_pitchOf_2 rfl (lv_at hl 0 rfl) ?_
  refine lv_iload_n hx hb dL_pitchOf_3 rfl (lv_at hl 1 rfl) ?_
  refine r_callVK (b := x0) (P9 := P9) (ci := 6) hx hb hml hown hts hE hA9 hW hl.1 hO gL_pitchOf_X4_pitchOf rfl hx0 (by decide) rfl (by decide +kernel) (n := 1) rfl (by decide) (Nat.le_of_ble_eq_true rfl) dL_pitchOf_4 rfl (fun e9 E ce q9 m9 H locs hP hE9 hW hcell hv hcl => ?_) (fun v m9 H locs hP hW => ?_)
  · obtain rfl := hPe _ _ hP
    subst hE9
    have hNc := hE.2.2.2.2.2.2.2.2.2.2.2.1
    refine vx_catch (name := "java/util/NoSuchElementException") hown [] ⟨0, 9, 12, 40⟩ [] htab (fun z hz => absurd hz List.not_mem_nil) (by decide) (by decide) hc0 (va_Nw.use rfl (hE.2.2.2.1 _ (by decide +kernel))) hcell hv hcl ?_
    refine lv_astore_n (lv' := [(3, .ref q9), (0, .ref x0), (1, .int x1), (2, .ref out)]) hx hb dL_pitchOf_12 rfl hl (by decide) rfl (fun ls hl => ?_)
    refine lv_iconst (v := 1) hx hb dL_pitchOf_13 (by decide) ?_
    exact r_iretW hx hb hlk hr hW (Or.inr ⟨4, hP, rfl⟩) (by decide) (by decide) dL_pitchOf_14
  · obtain ⟨z, m2, hv9, hz⟩ := hPr _ _ hP
    subst hv9
    refine W.eq (g2 := F0 m 7 ls [.int z, .int 0, .ref out]) rfl ?_
    refine lv_i2l hx hb dL_pitchOf_7 rfl ?_
    refine r_lstK hx hb hE.1 hW hz dL_pitchOf_8 (fun H locs hW => ?_)
    refine lv_goto (tgt := 15) hx hb dL_pitchOf_9 (by decide) ?_
    refine lv_iconst (v := 0) hx hb dL_pitchOf_15 (by decide) ?_
    exact r_iretW hx hb hlk hr hW (Or.inl ⟨z, m9, hP, rfl, hz⟩) (by decide) (by decide) dL_pitchOf_16

set_option maxHeartbeats 1000000 in
set_option maxRecDepth 100000 in
theorem k_L_lengthOf (l : Launch) (G : GG) (A : Nat → Prop) (mu : Mem) (x0 : Nat) (x1 : Int32) (out : Nat) (P9 : Nat ⊕ Option Value → Mem → Prop) (hO : Ok l yX4_lengthOf wsX4_lengthOf ({ frames := 10, cells := 1, slots := 6, locals := 190 } : Room) [.ref x0, .int x1] G A mu P9) (hx0 : ok9 mu 6 x0) (hPr : ∀ v μ9, P9 (.inr v) μ9 → ∃ (z : Int32) (m2 : Mem), v = some (.int z) ∧ lst μ9 out 0 z.toInt64 = some m2) (hPe : ∀ e μ9, P9 (.inl e) μ9 → e = 4) : Ok l yL_lengthOf wsL_lengthOf ({ frames := 12, cells := 1, slots := 6, locals := 230 } : Room) [.ref x0, .int x1, .ref out] G A mu (fun r9 m9 => (∃ (z : Int32) (μ9 : Mem), P9 (.inr (some (.int z))) μ9 ∧ r9 = .inr (some (.int 0)) ∧ lst μ9 out 0 z.toInt64 = some m9) ∨ (∃ e : Nat, P9 (.inl e) m9 ∧ r9 = .inr (some (.int (1))))) := by
  refine Ok.startW (cc := cL_lengthOf) (maxL := 4) (ret := some .int) (hh := [(0, 9, 12, 40)]) rfl (by decide +kernel) (Nat.le_of_ble_eq_true rfl) ?_
  intro p e s m args below meth c ls hx hb hml hown hts hE hlk htab hA9 hr hW hl
  have hts : ∀ w ∈ wsL_lengthOf, w.before args s = true := hts
  have hown : s.vm.findClass RL = some m.cls := hown
  have hl : lv_has ls 4 [(0, .ref x0), (1, .int x1), (2, .ref out)] := hl
  have hc0 : (Cond.classLink RL 40 "java/util/NoSuchElementException").before args s = true := hts _ (by decide +kernel)
  refine lv_aload_n hx hb dL_lengthOf_0 rfl (lv_at hl 2 rfl) ?_
  refine lv_iconst (v := 0) hx hb dL_lengthOf_1 (by decide) ?_
  refine lv_aload_n hx hb dL_lengthOf_2 rfl (lv_at hl 0 rfl) ?_
  refine lv_iload_n hx hb dL_lengthOf_3 rfl (lv_at hl 1 rfl) ?_
  refine r_callVK (b := x0) (P9 := P9) (ci := 6) hx hb hml hown hts hE hA9 hW hl.1 hO gL_lengthOf_X4_lengthOf rfl hx0 (by decide) rfl (by decide +kernel) (n := 1) rfl (by decide) (Nat.le_of_ble_eq_true rfl) dL_lengthOf_4 rfl (fun e9 E ce q9 m9 H locs hP hE9 hW hcell hv hcl => ?_) (fun v m9 H locs hP hW => ?_)
  · obtain rfl := hPe _ _ hP
    subst hE9
    have hNc := hE.2.2.2.2.2.2.2.2.2.2.2.1
    refine vx_catch (name := "java/util/NoSuchElementException") hown [] ⟨0, 9, 12, 40⟩ [] htab (fun z hz => absurd hz List.not_mem_nil) (by decide) (by decide) hc0 (va_Nw.use rfl (hE.2.2.2.1 _ (by decide +kernel))) hcell hv hcl ?_
    refine lv_astore_n (lv' := [(3, .ref q9), (0, .ref x0), (1, .int x1), (2, .ref out)]) hx hb dL_lengthOf_12 rfl hl (by decide) rfl (fun ls hl => ?_)
    refine lv_iconst (v := 1) hx hb dL_lengthOf_13 (by decide) ?_
    exact r_iretW hx hb hlk hr hW (Or.inr ⟨4, hP, rfl⟩) (by decide) (by decide) dL_lengthOf_14
  · obtain ⟨z, m2, hv9, hz⟩ := hPr _ _ hP
    subst hv9
    refine W.eq (g2 := F0 m 7 ls [.int z, .int 0, .ref out]) rfl ?_
    refine lv_i2l hx hb dL_lengthOf_7 rfl ?_
    refine r_lstK hx hb hE.1 hW hz dL_lengthOf_8 (fun H locs hW => ?_)
    refine lv_goto (tgt := 15) hx hb dL_lengthOf_9 (by decide) ?_
    refine lv_iconst (v := 0) hx hb dL_lengthOf_15 (by decide) ?_
    exact r_iretW hx hb hlk hr hW (Or.inl ⟨z, m9, hP, rfl, hz⟩) (by decide) (by decide) dL_lengthOf_16

set_option maxHeartbeats 1000000 in
set_option maxRecDepth 100000 in
theorem k_L_isDivided (l : Launch) (G : GG) (A : Nat → Prop) (mu : Mem) (x0 : Nat) (x1 : Int32) (x2 : Int32) (out : Nat) (P9 : Nat ⊕ Option Value → Mem → Prop) (hO : Ok l yX4_isDivided wsX4_isDivided ({ frames := 10, cells := 2, slots := 12, locals := 190 } : Room) [.ref x0, .int x1, .int x2] G A mu P9) (hx0 : ok9 mu 6 x0) (hPr : ∀ v μ9, P9 (.inr v) μ9 → ∃ (z : Int32) (m2 : Mem), v = some (.int z) ∧ lst μ9 out 0 (if z = 0 then 0 else 1) = some m2) (hPe : ∀ e μ9, P9 (.inl e) μ9 → e = 3) : Ok l yL_isDivided wsL_isDivided ({ frames := 12, cells := 2, slots := 12, locals := 230 } : Room) [.ref x0, .int x1, .int x2, .ref out] G A mu (fun r9 m9 => (∃ (z : Int32) (μ9 : Mem), P9 (.inr (some (.int z))) μ9 ∧ r9 = .inr (some (.int 0)) ∧ lst μ9 out 0 (if z = 0 then 0 else 1) = some m9) ∨ (∃ e : Nat, P9 (.inl e) m9 ∧ r9 = .inr (some (.int (1))))) := by
  refine Ok.startW (cc := cL_isDivided) (maxL := 5) (ret := some .int) (hh := [(0, 17, 20, 25)]) rfl (by decide +kernel) (Nat.le_of_ble_eq_true rfl) ?_
  intro p e s m args below meth c ls hx hb hml hown hts hE hlk htab hA9 hr hW hl
  have hts : ∀ w ∈ wsL_isDivided, w.before args s = true := hts
  have hown : s.vm.findClass RL = some m.cls := hown
  have hl : lv_has ls 5 [(0, .ref x0), (1, .int x1), (2, .int x2), (3, .ref out)] := hl
  have hc0 : (Cond.classLink RL 25 "java/lang/IndexOutOfBoundsException").before args s = true := hts _ (by decide +kernel)
  refine lv_aload_n hx hb dL_isDivided_0 rfl (lv_at hl 3 rfl) ?_
  refine lv_iconst (v := 0) hx hb dL_isDivided_1 (by decide) ?_
  refine lv_aload_n hx hb dL_isDivided_2 rfl (lv_at hl 0 rfl) ?_
  refine lv_iload_n hx hb dL_isDivided_3 rfl (lv_at hl 1 rfl) ?_
  refine lv_iload_n hx hb dL_isDivided_4 rfl (lv_at hl 2 rfl) ?_
  refine r_callVK (b := x0) (P9 := P9) (ci := 6) hx hb hml hown hts hE hA9 hW hl.1 hO gL_isDivided_X4_isDivided rfl hx0 (by decide) rfl (by decide +kernel) (n := 2) rfl (by decide) (Nat.le_of_ble_eq_true rfl) dL_isDivided_5 rfl (fun e9 E ce q9 m9 H locs hP hE9 hW hcell hv hcl => ?_) (fun v m9 H locs hP hW => ?_)
  · obtain rfl := hPe _ _ hP
    subst hE9
    have hNc := hE.2.2.2.2.2.2.2.2.2.2.2.1
    refine vx_catch (name := "java/lang/IndexOutOfBoundsException") hown [] ⟨0, 17, 20, 25⟩ [] htab (fun z hz => absurd hz List.not_mem_nil) (by decide) (by decide) hc0 (va_Nw.use rfl (hE.2.2.2.1 _ (by decide +kernel))) hcell hv hcl ?_
    refine lv_astore (lv' := [(4, .ref q9), (0, .ref x0), (1, .int x1), (2, .int x2), (3, .ref out)]) hx hb dL_isDivided_20 hl (by decide) rfl (fun ls hl => ?_)
    refine lv_iconst (v := 1) hx hb dL_isDivided_22 (by decide) ?_
    exact r_iretW hx hb hlk hr hW (Or.inr ⟨3, hP, rfl⟩) (by decide) (by decide) dL_isDivided_23
  · obtain ⟨z, m2, hv9, hz⟩ := hPr _ _ hP
    subst hv9
    refine W.eq (g2 := F0 m 8 ls [.int z, .int 0, .ref out]) rfl ?_
    refine lv_if_eq (tgt := 15) hx hb dL_isDivided_8 (by decide) (fun hc => ?_) (fun hc => ?_)
    · have hz0 := hz
      rw [if_pos hc] at hz0
      refine lv_lconst (v := 0) hx hb dL_isDivided_15 rfl ?_
      refine r_lstK hx hb hE.1 hW hz0 dL_isDivided_16 (fun H locs hW => ?_)
      refine lv_goto (tgt := 24) hx hb dL_isDivided_17 (by decide) ?_
      refine lv_iconst (v := 0) hx hb dL_isDivided_24 (by decide) ?_
      exact r_iretW hx hb hlk hr hW (Or.inl ⟨z, m9, hP, rfl, hz⟩) (by decide) (by decide) dL_isDivided_25
    · have hz0 := hz
      rw [if_neg hc] at hz0
      refine lv_lconst (v := 1) hx hb dL_isDivided_11 rfl ?_
      refine lv_goto (tgt := 16) hx hb dL_isDivided_12 (by decide) ?_
      refine r_lstK hx hb hE.1 hW hz0 dL_isDivided_16 (fun H locs hW => ?_)
      refine lv_goto (tgt := 24) hx hb dL_isDivided_17 (by decide) ?_
      refine lv_iconst (v := 0) hx hb dL_isDivided_24 (by decide) ?_
      exact r_iretW hx hb hlk hr hW (Or.inl ⟨z, m9, hP, rfl, hz⟩) (by decide) (by decide) dL_isDivided_25

set_option maxHeartbeats 1000000 in
set_option maxRecDepth 100000 in
theorem k_L_written (l : Launch) (G : GG) (A : Nat → Prop) (mu : Mem) (x0 : Nat) (x1 : Int32) (out : Nat) (P9 : Nat ⊕ Option Value → Mem → Prop) (hO : Ok l yX4_written wsX4_written ({ frames := 10, cells := 1, slots := 6, locals := 190 } : Room) [.ref x0, .int x1] G A mu P9) (hx0 : ok9 mu 6 x0) (hPr : ∀ v μ9, P9 (.inr v) μ9 → ∃ (z : Int32) (m2 : Mem), v = some (.int z) ∧ lst μ9 out 0 z.toInt64 = some m2) (hPe : ∀ e μ9, P9 (.inl e) μ9 → e = 4) : Ok l yL_written wsL_written ({ frames := 12, cells := 1, slots := 6, locals := 230 } : Room) [.ref x0, .int x1, .ref out] G A mu (fun r9 m9 => (∃ (z : Int32) (μ9 : Mem), P9 (.inr (some (.int z))) μ9 ∧ r9 = .inr (some (.int 0)) ∧ lst μ9 out 0 z.toInt64 = some m9) ∨ (∃ e : Nat, P9 (.inl e) m9 ∧ r9 = .inr (some (.int (1))))) := by
  refine Ok.startW (cc := cL_written) (maxL := 4) (ret := some .int) (hh := [(0, 9, 12, 40)]) rfl (by decide +kernel) (Nat.le_of_ble_eq_true rfl) ?_
  intro p e s m args below meth c ls hx hb hml hown hts hE hlk htab hA9 hr hW hl
  have hts : ∀ w ∈ wsL_written, w.before args s = true := hts
  have hown : s.vm.findClass RL = some m.cls := hown
  have hl : lv_has ls 4 [(0, .ref x0), (1, .int x1), (2, .ref out)] := hl
  have hc0 : (Cond.classLink RL 40 "java/util/NoSuchElementException").before args s = true := hts _ (by decide +kernel)
  refine lv_aload_n hx hb dL_written_0 rfl (lv_at hl 2 rfl) ?_
  refine lv_iconst (v := 0) hx hb dL_written_1 (by decide) ?_
  refine lv_aload_n hx hb dL_written_2 rfl (lv_at hl 0 rfl) ?_
  refine lv_iload_n hx hb dL_written_3 rfl (lv_at hl 1 rfl) ?_
  refine r_callVK (b := x0) (P9 := P9) (ci := 6) hx hb hml hown hts hE hA9 hW hl.1 hO gL_written_X4_written rfl hx0 (by decide) rfl (by decide +kernel) (n := 1) rfl (by decide) (Nat.le_of_ble_eq_true rfl) dL_written_4 rfl (fun e9 E ce q9 m9 H locs hP hE9 hW hcell hv hcl => ?_) (fun v m9 H locs hP hW => ?_)
  · obtain rfl := hPe _ _ hP
    subst hE9
    have hNc := hE.2.2.2.2.2.2.2.2.2.2.2.1
    refine vx_catch (name := "java/util/NoSuchElementException") hown [] ⟨0, 9, 12, 40⟩ [] htab (fun z hz => absurd hz List.not_mem_nil) (by decide) (by decide) hc0 (va_Nw.use rfl (hE.2.2.2.1 _ (by decide +kernel))) hcell hv hcl ?_
    refine lv_astore_n (lv' := [(3, .ref q9), (0, .ref x0), (1, .int x1), (2, .ref out)]) hx hb dL_written_12 rfl hl (by decide) rfl (fun ls hl => ?_)
    refine lv_iconst (v := 1) hx hb dL_written_13 (by decide) ?_
    exact r_iretW hx hb hlk hr hW (Or.inr ⟨4, hP, rfl⟩) (by decide) (by decide) dL_written_14
  · obtain ⟨z, m2, hv9, hz⟩ := hPr _ _ hP
    subst hv9
    refine W.eq (g2 := F0 m 7 ls [.int z, .int 0, .ref out]) rfl ?_
    refine lv_i2l hx hb dL_written_7 rfl ?_
    refine r_lstK hx hb hE.1 hW hz dL_written_8 (fun H locs hW => ?_)
    refine lv_goto (tgt := 15) hx hb dL_written_9 (by decide) ?_
    refine lv_iconst (v := 0) hx hb dL_written_15 (by decide) ?_
    exact r_iretW hx hb hlk hr hW (Or.inl ⟨z, m9, hP, rfl, hz⟩) (by decide) (by decide) dL_written_16

set_option maxHeartbeats 1000000 in
set_option maxRecDepth 100000 in
theorem k_L_writtenKey (l : Launch) (G : GG) (A : Nat → Prop) (mu : Mem) (x0 : Nat) (x1 : Int32) (x2 : Int32) (out : Nat) (P9 : Nat ⊕ Option Value → Mem → Prop) (hO : Ok l yX4_writtenKey wsX4_writtenKey ({ frames := 10, cells := 2, slots := 12, locals := 190 } : Room) [.ref x0, .int x1, .int x2] G A mu P9) (hx0 : ok9 mu 6 x0) (hPr : ∀ v μ9, P9 (.inr v) μ9 → ∃ (z : Int32) (m2 : Mem), v = some (.int z) ∧ lst μ9 out 0 z.toInt64 = some m2) (hPe : ∀ e μ9, P9 (.inl e) μ9 → e = 3) : Ok l yL_writtenKey wsL_writtenKey ({ frames := 12, cells := 2, slots := 12, locals := 230 } : Room) [.ref x0, .int x1, .int x2, .ref out] G A mu (fun r9 m9 => (∃ (z : Int32) (μ9 : Mem), P9 (.inr (some (.int z))) μ9 ∧ r9 = .inr (some (.int 0)) ∧ lst μ9 out 0 z.toInt64 = some m9) ∨ (∃ e : Nat, P9 (.inl e) m9 ∧ r9 = .inr (some (.int (1))))) := by
  refine Ok.startW (cc := cL_writtenKey) (maxL := 5) (ret := some .int) (hh := [(0, 10, 13, 25)]) rfl (by decide +kernel) (Nat.le_of_ble_eq_true rfl) ?_
  intro p e s m args below meth c ls hx hb hml hown hts hE hlk htab hA9 hr hW hl
  have hts : ∀ w ∈ wsL_writtenKey, w.before args s = true := hts
  have hown : s.vm.findClass RL = some m.cls := hown
  have hl : lv_has ls 5 [(0, .ref x0), (1, .int x1), (2, .int x2), (3, .ref out)] := hl
  have hc0 : (Cond.classLink RL 25 "java/lang/IndexOutOfBoundsException").before args s = true := hts _ (by decide +kernel)
  refine lv_aload_n hx hb dL_writtenKey_0 rfl (lv_at hl 3 rfl) ?_
  refine lv_iconst (v := 0) hx hb dL_writtenKey_1 (by decide) ?_
  refine lv_aload_n hx hb dL_writtenKey_2 rfl (lv_at hl 0 rfl) ?_
  refine lv_iload_n hx hb dL_writtenKey_3 rfl (lv_at hl 1 rfl) ?_
  refine lv_iload_n hx hb dL_writtenKey_4 rfl (lv_at hl 2 rfl) ?_
  refine r_callVK (b := x0) (P9 := P9) (ci := 6) hx hb hml hown hts hE hA9 hW hl.1 hO gL_writtenKey_X4_writtenKey rfl hx0 (by decide) rfl (by decide +kernel) (n := 2) rfl (by decide) (Nat.le_of_ble_eq_true rfl) dL_writtenKey_5 rfl (fun e9 E ce q9 m9 H locs hP hE9 hW hcell hv hcl => ?_) (fun v m9 H locs hP hW => ?_)
  · obtain rfl := hPe _ _ hP
    subst hE9
    have hNc := hE.2.2.2.2.2.2.2.2.2.2.2.1
    refine vx_catch (name := "java/lang/IndexOutOfBoundsException") hown [] ⟨0, 10, 13, 25⟩ [] htab (fun z hz => absurd hz List.not_mem_nil) (by decide) (by decide) hc0 (va_Nw.use rfl (hE.2.2.2.1 _ (by decide +kernel))) hcell hv hcl ?_
    refine lv_astore (lv' := [(4, .ref q9), (0, .ref x0), (1, .int x1), (2, .int x2), (3, .ref out)]) hx hb dL_writtenKey_13 hl (by decide) rfl (fun ls hl => ?_)
    refine lv_iconst (v := 1) hx hb dL_writtenKey_15 (by decide) ?_
    exact r_iretW hx hb hlk hr hW (Or.inr ⟨3, hP, rfl⟩) (by decide) (by decide) dL_writtenKey_16
  · obtain ⟨z, m2, hv9, hz⟩ := hPr _ _ hP
    subst hv9
    refine W.eq (g2 := F0 m 8 ls [.int z, .int 0, .ref out]) rfl ?_
    refine lv_i2l hx hb dL_writtenKey_8 rfl ?_
    refine r_lstK hx hb hE.1 hW hz dL_writtenKey_9 (fun H locs hW => ?_)
    refine lv_goto (tgt := 17) hx hb dL_writtenKey_10 (by decide) ?_
    refine lv_iconst (v := 0) hx hb dL_writtenKey_17 (by decide) ?_
    exact r_iretW hx hb hlk hr hW (Or.inl ⟨z, m9, hP, rfl, hz⟩) (by decide) (by decide) dL_writtenKey_18

set_option maxHeartbeats 1000000 in
set_option maxRecDepth 100000 in
theorem k_L_letterOf (l : Launch) (G : GG) (A : Nat → Prop) (mu : Mem) (x0 : Nat) (x1 : Int32) (out : Nat) (P9 : Nat ⊕ Option Value → Mem → Prop) (hO : Ok l yX4_letterOf wsX4_letterOf ({ frames := 12, cells := 1, slots := 6, locals := 230 } : Room) [.ref x0, .int x1] G A mu P9) (hx0 : ok9 mu 6 x0) (hPr : ∀ v μ9, P9 (.inr v) μ9 → ∃ (z : Int32) (m2 : Mem), v = some (.int z) ∧ lst μ9 out 0 z.toInt64 = some m2) (hPe : ∀ e μ9, P9 (.inl e) μ9 → e = 4) : Ok l yL_letterOf wsL_letterOf ({ frames := 14, cells := 1, slots := 6, locals := 270 } : Room) [.ref x0, .int x1, .ref out] G A mu (fun r9 m9 => (∃ (z : Int32) (μ9 : Mem), P9 (.inr (some (.int z))) μ9 ∧ r9 = .inr (some (.int 0)) ∧ lst μ9 out 0 z.toInt64 = some m9) ∨ (∃ e : Nat, P9 (.inl e) m9 ∧ r9 = .inr (some (.int (1))))) := by
  refine Ok.startW (cc := cL_letterOf) (maxL := 4) (ret := some .int) (hh := [(0, 9, 12, 40)]) rfl (by decide +kernel) (Nat.le_of_ble_eq_true rfl) ?_
  intro p e s m args below meth c ls hx hb hml hown hts hE hlk htab hA9 hr hW hl
  have hts : ∀ w ∈ wsL_letterOf, w.before args s = true := hts
  have hown : s.vm.findClass RL = some m.cls := hown
  have hl : lv_has ls 4 [(0, .ref x0), (1, .int x1), (2, .ref out)] := hl
  have hc0 : (Cond.classLink RL 40 "java/util/NoSuchElementException").before args s = true := hts _ (by decide +kernel)
  refine lv_aload_n hx hb dL_letterOf_0 rfl (lv_at hl 2 rfl) ?_
  refine lv_iconst (v := 0) hx hb dL_letterOf_1 (by decide) ?_
  refine lv_aload_n hx hb dL_letterOf_2 rfl (lv_at hl 0 rfl) ?_
  refine lv_iload_n hx hb dL_letterOf_3 rfl (lv_at hl 1 rfl) ?_
  refine r_callVK (b := x0) (P9 := P9) (ci := 6) hx hb hml hown hts hE hA9 hW hl.1 hO gL_letterOf_X4_letterOf rfl hx0 (by decide) rfl (by decide +kernel) (n := 1) rfl (by decide) (Nat.le_of_ble_eq_true rfl) dL_letterOf_4 rfl (fun e9 E ce q9 m9 H locs hP hE9 hW hcell hv hcl => ?_) (fun v m9 H locs hP hW => ?_)
  · obtain rfl := hPe _ _ hP
    subst hE9
    have hNc := hE.2.2.2.2.2.2.2.2.2.2.2.1
    refine vx_catch (name := "java/util/NoSuchElementException") hown [] ⟨0, 9, 12, 40⟩ [] htab (fun z hz => absurd hz List.not_mem_nil) (by decide) (by decide) hc0 (va_Nw.use rfl (hE.2.2.2.1 _ (by decide +kernel))) hcell hv hcl ?_
    refine lv_astore_n (lv' := [(3, .ref q9), (0, .ref x0), (1, .int x1), (2, .ref out)]) hx hb dL_letterOf_12 rfl hl (by decide) rfl (fun ls hl => ?_)
    refine lv_iconst (v := 1) hx hb dL_letterOf_13 (by decide) ?_
    exact r_iretW hx hb hlk hr hW (Or.inr ⟨4, hP, rfl⟩) (by decide) (by decide) dL_letterOf_14
  · obtain ⟨z, m2, hv9, hz⟩ := hPr _ _ hP
    subst hv9
    refine W.eq (g2 := F0 m 7 ls [.int z, .int 0, .ref out]) rfl ?_
    refine lv_i2l hx hb dL_letterOf_7 rfl ?_
    refine r_lstK hx hb hE.1 hW hz dL_letterOf_8 (fun H locs hW => ?_)
    refine lv_goto (tgt := 15) hx hb dL_letterOf_9 (by decide) ?_
    refine lv_iconst (v := 0) hx hb dL_letterOf_15 (by decide) ?_
    exact r_iretW hx hb hlk hr hW (Or.inl ⟨z, m9, hP, rfl, hz⟩) (by decide) (by decide) dL_letterOf_16

set_option maxHeartbeats 1000000 in
set_option maxRecDepth 100000 in
theorem k_L_accidentalOf (l : Launch) (G : GG) (A : Nat → Prop) (mu : Mem) (x0 : Nat) (x1 : Int32) (out : Nat) (P9 : Nat ⊕ Option Value → Mem → Prop) (hO : Ok l yX4_accidentalOf wsX4_accidentalOf ({ frames := 12, cells := 1, slots := 6, locals := 230 } : Room) [.ref x0, .int x1] G A mu P9) (hx0 : ok9 mu 6 x0) (hPr : ∀ v μ9, P9 (.inr v) μ9 → ∃ (z : Int32) (m2 : Mem), v = some (.int z) ∧ lst μ9 out 0 z.toInt64 = some m2) (hPe : ∀ e μ9, P9 (.inl e) μ9 → e = 4) : Ok l yL_accidentalOf wsL_accidentalOf ({ frames := 14, cells := 1, slots := 6, locals := 270 } : Room) [.ref x0, .int x1, .ref out] G A mu (fun r9 m9 => (∃ (z : Int32) (μ9 : Mem), P9 (.inr (some (.int z))) μ9 ∧ r9 = .inr (some (.int 0)) ∧ lst μ9 out 0 z.toInt64 = some m9) ∨ (∃ e : Nat, P9 (.inl e) m9 ∧ r9 = .inr (some (.int (1))))) := by
  refine Ok.startW (cc := cL_accidentalOf) (maxL := 4) (ret := some .int) (hh := [(0, 9, 12, 40)]) rfl (by decide +kernel) (Nat.le_of_ble_eq_true rfl) ?_
  intro p e s m args below meth c ls hx hb hml hown hts hE hlk htab hA9 hr hW hl
  have hts : ∀ w ∈ wsL_accidentalOf, w.before args s = true := hts
  have hown : s.vm.findClass RL = some m.cls := hown
  have hl : lv_has ls 4 [(0, .ref x0), (1, .int x1), (2, .ref out)] := hl
  have hc0 : (Cond.classLink RL 40 "java/util/NoSuchElementException").before args s = true := hts _ (by decide +kernel)
  refine lv_aload_n hx hb dL_accidentalOf_0 rfl (lv_at hl 2 rfl) ?_
  refine lv_iconst (v := 0) hx hb dL_accidentalOf_1 (by decide) ?_
  refine lv_aload_n hx hb dL_accidentalOf_2 rfl (lv_at hl 0 rfl) ?_
  refine lv_iload_n hx hb dL_accidentalOf_3 rfl (lv_at hl 1 rfl) ?_
  refine r_callVK (b := x0) (P9 := P9) (ci := 6) hx hb hml hown hts hE hA9 hW hl.1 hO gL_accidentalOf_X4_accidentalOf rfl hx0 (by decide) rfl (by decide +kernel) (n := 1) rfl (by decide) (Nat.le_of_ble_eq_true rfl) dL_accidentalOf_4 rfl (fun e9 E ce q9 m9 H locs hP hE9 hW hcell hv hcl => ?_) (fun v m9 H locs hP hW => ?_)
  · obtain rfl := hPe _ _ hP
    subst hE9
    have hNc := hE.2.2.2.2.2.2.2.2.2.2.2.1
    refine vx_catch (name := "java/util/NoSuchElementException") hown [] ⟨0, 9, 12, 40⟩ [] htab (fun z hz => absurd hz List.not_mem_nil) (by decide) (by decide) hc0 (va_Nw.use rfl (hE.2.2.2.1 _ (by decide +kernel))) hcell hv hcl ?_
    refine lv_astore_n (lv' := [(3, .ref q9), (0, .ref x0), (1, .int x1), (2, .ref out)]) hx hb dL_accidentalOf_12 rfl hl (by decide) rfl (fun ls hl => ?_)
    refine lv_iconst (v := 1) hx hb dL_accidentalOf_13 (by decide) ?_
    exact r_iretW hx hb hlk hr hW (Or.inr ⟨4, hP, rfl⟩) (by decide) (by decide) dL_accidentalOf_14
  · obtain ⟨z, m2, hv9, hz⟩ := hPr _ _ hP
    subst hv9
    refine W.eq (g2 := F0 m 7 ls [.int z, .int 0, .ref out]) rfl ?_
    refine lv_i2l hx hb dL_accidentalOf_7 rfl ?_
    refine r_lstK hx hb hE.1 hW hz dL_accidentalOf_8 (fun H locs hW => ?_)
    refine lv_goto (tgt := 15) hx hb dL_accidentalOf_9 (by decide) ?_
    refine lv_iconst (v := 0) hx hb dL_accidentalOf_15 (by decide) ?_
    exact r_iretW hx hb hlk hr hW (Or.inl ⟨z, m9, hP, rfl, hz⟩) (by decide) (by decide) dL_accidentalOf_16

set_option maxHeartbeats 1000000 in
set_option maxRecDepth 100000 in
theorem k_L_rests (l : Launch) (G : GG) (A : Nat → Prop) (mu : Mem) (x0 : Nat) (x1 : Int32) (out : Nat) (P9 : Nat ⊕ Option Value → Mem → Prop) (hO : Ok l yX4_rests wsX4_rests ({ frames := 14, cells := 1, slots := 6, locals := 270 } : Room) [.ref x0, .int x1] G A mu P9) (hx0 : ok9 mu 6 x0) (hPr : ∀ v μ9, P9 (.inr v) μ9 → ∃ (z : Int32) (m2 : Mem), v = some (.int z) ∧ lst μ9 out 0 z.toInt64 = some m2) (hPe : ∀ e μ9, P9 (.inl e) μ9 → e = 3) : Ok l yL_rests wsL_rests ({ frames := 16, cells := 1, slots := 6, locals := 310 } : Room) [.ref x0, .int x1, .ref out] G A mu (fun r9 m9 => (∃ (z : Int32) (μ9 : Mem), P9 (.inr (some (.int z))) μ9 ∧ r9 = .inr (some (.int 0)) ∧ lst μ9 out 0 z.toInt64 = some m9) ∨ (∃ e : Nat, P9 (.inl e) m9 ∧ r9 = .inr (some (.int (1))))) := by
  refine Ok.startW (cc := cL_rests) (maxL := 4) (ret := some .int) (hh := [(0, 9, 12, 25)]) rfl (by decide +kernel) (Nat.le_of_ble_eq_true rfl) ?_
  intro p e s m args below meth c ls hx hb hml hown hts hE hlk htab hA9 hr hW hl
  have hts : ∀ w ∈ wsL_rests, w.before args s = true := hts
  have hown : s.vm.findClass RL = some m.cls := hown
  have hl : lv_has ls 4 [(0, .ref x0), (1, .int x1), (2, .ref out)] := hl
  have hc0 : (Cond.classLink RL 25 "java/lang/IndexOutOfBoundsException").before args s = true := hts _ (by decide +kernel)
  refine lv_aload_n hx hb dL_rests_0 rfl (lv_at hl 2 rfl) ?_
  refine lv_iconst (v := 0) hx hb dL_rests_1 (by decide) ?_
  refine lv_aload_n hx hb dL_rests_2 rfl (lv_at hl 0 rfl) ?_
  refine lv_iload_n hx hb dL_rests_3 rfl (lv_at hl 1 rfl) ?_
  refine r_callVK (b := x0) (P9 := P9) (ci := 6) hx hb hml hown hts hE hA9 hW hl.1 hO gL_rests_X4_rests rfl hx0 (by decide) rfl (by decide +kernel) (n := 1) rfl (by decide) (Nat.le_of_ble_eq_true rfl) dL_rests_4 rfl (fun e9 E ce q9 m9 H locs hP hE9 hW hcell hv hcl => ?_) (fun v m9 H locs hP hW => ?_)
  · obtain rfl := hPe _ _ hP
    subst hE9
    have hNc := hE.2.2.2.2.2.2.2.2.2.2.2.1
    refine vx_catch (name := "java/lang/IndexOutOfBoundsException") hown [] ⟨0, 9, 12, 25⟩ [] htab (fun z hz => absurd hz List.not_mem_nil) (by decide) (by decide) hc0 (va_Nw.use rfl (hE.2.2.2.1 _ (by decide +kernel))) hcell hv hcl ?_
    refine lv_astore_n (lv' := [(3, .ref q9), (0, .ref x0), (1, .int x1), (2, .ref out)]) hx hb dL_rests_12 rfl hl (by decide) rfl (fun ls hl => ?_)
    refine lv_iconst (v := 1) hx hb dL_rests_13 (by decide) ?_
    exact r_iretW hx hb hlk hr hW (Or.inr ⟨3, hP, rfl⟩) (by decide) (by decide) dL_rests_14
  · obtain ⟨z, m2, hv9, hz⟩ := hPr _ _ hP
    subst hv9
    refine W.eq (g2 := F0 m 7 ls [.int z, .int 0, .ref out]) rfl ?_
    refine lv_i2l hx hb dL_rests_7 rfl ?_
    refine r_lstK hx hb hE.1 hW hz dL_rests_8 (fun H locs hW => ?_)
    refine lv_goto (tgt := 15) hx hb dL_rests_9 (by decide) ?_
    refine lv_iconst (v := 0) hx hb dL_rests_15 (by decide) ?_
    exact r_iretW hx hb hlk hr hW (Or.inl ⟨z, m9, hP, rfl, hz⟩) (by decide) (by decide) dL_rests_16

set_option maxHeartbeats 1000000 in
set_option maxRecDepth 100000 in
theorem k_L_restFirst (l : Launch) (G : GG) (A : Nat → Prop) (mu : Mem) (x0 : Nat) (x1 : Int32) (x2 : Int32) (out : Nat) (P9 : Nat ⊕ Option Value → Mem → Prop) (hO : Ok l yX4_restFirst wsX4_restFirst ({ frames := 16, cells := 2, slots := 12, locals := 310 } : Room) [.ref x0, .int x1, .int x2] G A mu P9) (hx0 : ok9 mu 6 x0) (hPr : ∀ v μ9, P9 (.inr v) μ9 → ∃ (z : Int32) (m2 : Mem), v = some (.int z) ∧ lst μ9 out 0 z.toInt64 = some m2) (hPe : ∀ e μ9, P9 (.inl e) μ9 → e = 3) : Ok l yL_restFirst wsL_restFirst ({ frames := 18, cells := 2, slots := 12, locals := 350 } : Room) [.ref x0, .int x1, .int x2, .ref out] G A mu (fun r9 m9 => (∃ (z : Int32) (μ9 : Mem), P9 (.inr (some (.int z))) μ9 ∧ r9 = .inr (some (.int 0)) ∧ lst μ9 out 0 z.toInt64 = some m9) ∨ (∃ e : Nat, P9 (.inl e) m9 ∧ r9 = .inr (some (.int (1))))) := by
  refine Ok.startW (cc := cL_restFirst) (maxL := 5) (ret := some .int) (hh := [(0, 10, 13, 25)]) rfl (by decide +kernel) (Nat.le_of_ble_eq_true rfl) ?_
  intro p e s m args below meth c ls hx hb hml hown hts hE hlk htab hA9 hr hW hl
  have hts : ∀ w ∈ wsL_restFirst, w.before args s = true := hts
  have hown : s.vm.findClass RL = some m.cls := hown
  have hl : lv_has ls 5 [(0, .ref x0), (1, .int x1), (2, .int x2), (3, .ref out)] := hl
  have hc0 : (Cond.classLink RL 25 "java/lang/IndexOutOfBoundsException").before args s = true := hts _ (by decide +kernel)
  refine lv_aload_n hx hb dL_restFirst_0 rfl (lv_at hl 3 rfl) ?_
  refine lv_iconst (v := 0) hx hb dL_restFirst_1 (by decide) ?_
  refine lv_aload_n hx hb dL_restFirst_2 rfl (lv_at hl 0 rfl) ?_
  refine lv_iload_n hx hb dL_restFirst_3 rfl (lv_at hl 1 rfl) ?_
  refine lv_iload_n hx hb dL_restFirst_4 rfl (lv_at hl 2 rfl) ?_
  refine r_callVK (b := x0) (P9 := P9) (ci := 6) hx hb hml hown hts hE hA9 hW hl.1 hO gL_restFirst_X4_restFirst rfl hx0 (by decide) rfl (by decide +kernel) (n := 2) rfl (by decide) (Nat.le_of_ble_eq_true rfl) dL_restFirst_5 rfl (fun e9 E ce q9 m9 H locs hP hE9 hW hcell hv hcl => ?_) (fun v m9 H locs hP hW => ?_)
  · obtain rfl := hPe _ _ hP
    subst hE9
    have hNc := hE.2.2.2.2.2.2.2.2.2.2.2.1
    refine vx_catch (name := "java/lang/IndexOutOfBoundsException") hown [] ⟨0, 10, 13, 25⟩ [] htab (fun z hz => absurd hz List.not_mem_nil) (by decide) (by decide) hc0 (va_Nw.use rfl (hE.2.2.2.1 _ (by decide +kernel))) hcell hv hcl ?_
    refine lv_astore (lv' := [(4, .ref q9), (0, .ref x0), (1, .int x1), (2, .int x2), (3, .ref out)]) hx hb dL_restFirst_13 hl (by decide) rfl (fun ls hl => ?_)
    refine lv_iconst (v := 1) hx hb dL_restFirst_15 (by decide) ?_
    exact r_iretW hx hb hlk hr hW (Or.inr ⟨3, hP, rfl⟩) (by decide) (by decide) dL_restFirst_16
  · obtain ⟨z, m2, hv9, hz⟩ := hPr _ _ hP
    subst hv9
    refine W.eq (g2 := F0 m 8 ls [.int z, .int 0, .ref out]) rfl ?_
    refine lv_i2l hx hb dL_restFirst_8 rfl ?_
    refine r_lstK hx hb hE.1 hW hz dL_restFirst_9 (fun H locs hW => ?_)
    refine lv_goto (tgt := 17) hx hb dL_restFirst_10 (by decide) ?_
    refine lv_iconst (v := 0) hx hb dL_restFirst_17 (by decide) ?_
    exact r_iretW hx hb hlk hr hW (Or.inl ⟨z, m9, hP, rfl, hz⟩) (by decide) (by decide) dL_restFirst_18

set_option maxHeartbeats 1000000 in
set_option maxRecDepth 100000 in
theorem k_L_restBars (l : Launch) (G : GG) (A : Nat → Prop) (mu : Mem) (x0 : Nat) (x1 : Int32) (x2 : Int32) (out : Nat) (P9 : Nat ⊕ Option Value → Mem → Prop) (hO : Ok l yX4_restBars wsX4_restBars ({ frames := 16, cells := 2, slots := 12, locals := 310 } : Room) [.ref x0, .int x1, .int x2] G A mu P9) (hx0 : ok9 mu 6 x0) (hPr : ∀ v μ9, P9 (.inr v) μ9 → ∃ (z : Int32) (m2 : Mem), v = some (.int z) ∧ lst μ9 out 0 z.toInt64 = some m2) (hPe : ∀ e μ9, P9 (.inl e) μ9 → e = 3) : Ok l yL_restBars wsL_restBars ({ frames := 18, cells := 2, slots := 12, locals := 350 } : Room) [.ref x0, .int x1, .int x2, .ref out] G A mu (fun r9 m9 => (∃ (z : Int32) (μ9 : Mem), P9 (.inr (some (.int z))) μ9 ∧ r9 = .inr (some (.int 0)) ∧ lst μ9 out 0 z.toInt64 = some m9) ∨ (∃ e : Nat, P9 (.inl e) m9 ∧ r9 = .inr (some (.int (1))))) := by
  refine Ok.startW (cc := cL_restBars) (maxL := 5) (ret := some .int) (hh := [(0, 10, 13, 25)]) rfl (by decide +kernel) (Nat.le_of_ble_eq_true rfl) ?_
  intro p e s m args below meth c ls hx hb hml hown hts hE hlk htab hA9 hr hW hl
  have hts : ∀ w ∈ wsL_restBars, w.before args s = true := hts
  have hown : s.vm.findClass RL = some m.cls := hown
  have hl : lv_has ls 5 [(0, .ref x0), (1, .int x1), (2, .int x2), (3, .ref out)] := hl
  have hc0 : (Cond.classLink RL 25 "java/lang/IndexOutOfBoundsException").before args s = true := hts _ (by decide +kernel)
  refine lv_aload_n hx hb dL_restBars_0 rfl (lv_at hl 3 rfl) ?_
  refine lv_iconst (v := 0) hx hb dL_restBars_1 (by decide) ?_
  refine lv_aload_n hx hb dL_restBars_2 rfl (lv_at hl 0 rfl) ?_
  refine lv_iload_n hx hb dL_restBars_3 rfl (lv_at hl 1 rfl) ?_
  refine lv_iload_n hx hb dL_restBars_4 rfl (lv_at hl 2 rfl) ?_
  refine r_callVK (b := x0) (P9 := P9) (ci := 6) hx hb hml hown hts hE hA9 hW hl.1 hO gL_restBars_X4_restBars rfl hx0 (by decide) rfl (by decide +kernel) (n := 2) rfl (by decide) (Nat.le_of_ble_eq_true rfl) dL_restBars_5 rfl (fun e9 E ce q9 m9 H locs hP hE9 hW hcell hv hcl => ?_) (fun v m9 H locs hP hW => ?_)
  · obtain rfl := hPe _ _ hP
    subst hE9
    have hNc := hE.2.2.2.2.2.2.2.2.2.2.2.1
    refine vx_catch (name := "java/lang/IndexOutOfBoundsException") hown [] ⟨0, 10, 13, 25⟩ [] htab (fun z hz => absurd hz List.not_mem_nil) (by decide) (by decide) hc0 (va_Nw.use rfl (hE.2.2.2.1 _ (by decide +kernel))) hcell hv hcl ?_
    refine lv_astore (lv' := [(4, .ref q9), (0, .ref x0), (1, .int x1), (2, .int x2), (3, .ref out)]) hx hb dL_restBars_13 hl (by decide) rfl (fun ls hl => ?_)
    refine lv_iconst (v := 1) hx hb dL_restBars_15 (by decide) ?_
    exact r_iretW hx hb hlk hr hW (Or.inr ⟨3, hP, rfl⟩) (by decide) (by decide) dL_restBars_16
  · obtain ⟨z, m2, hv9, hz⟩ := hPr _ _ hP
    subst hv9
    refine W.eq (g2 := F0 m 8 ls [.int z, .int 0, .ref out]) rfl ?_
    refine lv_i2l hx hb dL_restBars_8 rfl ?_
    refine r_lstK hx hb hE.1 hW hz dL_restBars_9 (fun H locs hW => ?_)
    refine lv_goto (tgt := 17) hx hb dL_restBars_10 (by decide) ?_
    refine lv_iconst (v := 0) hx hb dL_restBars_17 (by decide) ?_
    exact r_iretW hx hb hlk hr hW (Or.inl ⟨z, m9, hP, rfl, hz⟩) (by decide) (by decide) dL_restBars_18

set_option maxHeartbeats 1000000 in
set_option maxRecDepth 100000 in
theorem k_L_setPage (l : Launch) (G : GG) (A : Nat → Prop) (mu : Mem) (x0 : Nat) (x1 : Int32) (out : Nat) (P9 : Nat ⊕ Option Value → Mem → Prop) (hO : Ok l yX4_setPage wsX4_setPage ({ frames := 6, cells := 1, slots := 6, locals := 110 } : Room) [.ref x0, .int x1] G A mu P9) (hx0 : ok9 mu 6 x0) (hPr : ∀ v μ9, P9 (.inr v) μ9 → ∃ (z : Int32) (m2 : Mem), v = some (.int z) ∧ lst μ9 out 0 z.toInt64 = some m2) (hPe : ∀ e μ9, P9 (.inl e) μ9 → e = 1) : Ok l yL_setPage wsL_setPage ({ frames := 8, cells := 1, slots := 6, locals := 150 } : Room) [.ref x0, .int x1, .ref out] G A mu (fun r9 m9 => (∃ (z : Int32) (μ9 : Mem), P9 (.inr (some (.int z))) μ9 ∧ r9 = .inr (some (.int 0)) ∧ lst μ9 out 0 z.toInt64 = some m9) ∨ (∃ e : Nat, P9 (.inl e) m9 ∧ r9 = .inr (some (.int (1))))) := by
  refine Ok.startW (cc := cL_setPage) (maxL := 4) (ret := some .int) (hh := [(0, 9, 12, 13)]) rfl (by decide +kernel) (Nat.le_of_ble_eq_true rfl) ?_
  intro p e s m args below meth c ls hx hb hml hown hts hE hlk htab hA9 hr hW hl
  have hts : ∀ w ∈ wsL_setPage, w.before args s = true := hts
  have hown : s.vm.findClass RL = some m.cls := hown
  have hl : lv_has ls 4 [(0, .ref x0), (1, .int x1), (2, .ref out)] := hl
  have hc0 : (Cond.classLink RL 13 "java/lang/IllegalArgumentException").before args s = true := hts _ (by decide +kernel)
  refine lv_aload_n hx hb dL_setPage_0 rfl (lv_at hl 2 rfl) ?_
  refine lv_iconst (v := 0) hx hb dL_setPage_1 (by decide) ?_
  refine lv_aload_n hx hb dL_setPage_2 rfl (lv_at hl 0 rfl) ?_
  refine lv_iload_n hx hb dL_setPage_3 rfl (lv_at hl 1 rfl) ?_
  refine r_callVK (b := x0) (P9 := P9) (ci := 6) hx hb hml hown hts hE hA9 hW hl.1 hO gL_setPage_X4_setPage rfl hx0 (by decide) rfl (by decide +kernel) (n := 1) rfl (by decide) (Nat.le_of_ble_eq_true rfl) dL_setPage_4 rfl (fun e9 E ce q9 m9 H locs hP hE9 hW hcell hv hcl => ?_) (fun v m9 H locs hP hW => ?_)
  · obtain rfl := hPe _ _ hP
    subst hE9
    have hNc := hE.2.2.2.2.2.2.2.2.2.2.2.1
    refine vx_catch (name := "java/lang/IllegalArgumentException") hown [] ⟨0, 9, 12, 13⟩ [] htab (fun z hz => absurd hz List.not_mem_nil) (by decide) (by decide) hc0 (va_Nw.use rfl (hE.2.2.2.1 _ (by decide +kernel))) hcell hv hcl ?_
    refine lv_astore_n (lv' := [(3, .ref q9), (0, .ref x0), (1, .int x1), (2, .ref out)]) hx hb dL_setPage_12 rfl hl (by decide) rfl (fun ls hl => ?_)
    refine lv_iconst (v := 1) hx hb dL_setPage_13 (by decide) ?_
    exact r_iretW hx hb hlk hr hW (Or.inr ⟨1, hP, rfl⟩) (by decide) (by decide) dL_setPage_14
  · obtain ⟨z, m2, hv9, hz⟩ := hPr _ _ hP
    subst hv9
    refine W.eq (g2 := F0 m 7 ls [.int z, .int 0, .ref out]) rfl ?_
    refine lv_i2l hx hb dL_setPage_7 rfl ?_
    refine r_lstK hx hb hE.1 hW hz dL_setPage_8 (fun H locs hW => ?_)
    refine lv_goto (tgt := 15) hx hb dL_setPage_9 (by decide) ?_
    refine lv_iconst (v := 0) hx hb dL_setPage_15 (by decide) ?_
    exact r_iretW hx hb hlk hr hW (Or.inl ⟨z, m9, hP, rfl, hz⟩) (by decide) (by decide) dL_setPage_16

set_option maxHeartbeats 1000000 in
set_option maxRecDepth 100000 in
theorem k_L_setTurn (l : Launch) (G : GG) (A : Nat → Prop) (mu : Mem) (x0 : Nat) (x1 : Int32) (out : Nat) (P9 : Nat ⊕ Option Value → Mem → Prop) (hO : Ok l yX4_setTurn wsX4_setTurn ({ frames := 6, cells := 1, slots := 6, locals := 110 } : Room) [.ref x0, .int x1] G A mu P9) (hx0 : ok9 mu 6 x0) (hPr : ∀ v μ9, P9 (.inr v) μ9 → ∃ (z : Int32) (m2 : Mem), v = some (.int z) ∧ lst μ9 out 0 z.toInt64 = some m2) (hPe : ∀ e μ9, P9 (.inl e) μ9 → e = 1) : Ok l yL_setTurn wsL_setTurn ({ frames := 8, cells := 1, slots := 6, locals := 150 } : Room) [.ref x0, .int x1, .ref out] G A mu (fun r9 m9 => (∃ (z : Int32) (μ9 : Mem), P9 (.inr (some (.int z))) μ9 ∧ r9 = .inr (some (.int 0)) ∧ lst μ9 out 0 z.toInt64 = some m9) ∨ (∃ e : Nat, P9 (.inl e) m9 ∧ r9 = .inr (some (.int (1))))) := by
  refine Ok.startW (cc := cL_setTurn) (maxL := 4) (ret := some .int) (hh := [(0, 9, 12, 13)]) rfl (by decide +kernel) (Nat.le_of_ble_eq_true rfl) ?_
  intro p e s m args below meth c ls hx hb hml hown hts hE hlk htab hA9 hr hW hl
  have hts : ∀ w ∈ wsL_setTurn, w.before args s = true := hts
  have hown : s.vm.findClass RL = some m.cls := hown
  have hl : lv_has ls 4 [(0, .ref x0), (1, .int x1), (2, .ref out)] := hl
  have hc0 : (Cond.classLink RL 13 "java/lang/IllegalArgumentException").before args s = true := hts _ (by decide +kernel)
  refine lv_aload_n hx hb dL_setTurn_0 rfl (lv_at hl 2 rfl) ?_
  refine lv_iconst (v := 0) hx hb dL_setTurn_1 (by decide) ?_
  refine lv_aload_n hx hb dL_setTurn_2 rfl (lv_at hl 0 rfl) ?_
  refine lv_iload_n hx hb dL_setTurn_3 rfl (lv_at hl 1 rfl) ?_
  refine r_callVK (b := x0) (P9 := P9) (ci := 6) hx hb hml hown hts hE hA9 hW hl.1 hO gL_setTurn_X4_setTurn rfl hx0 (by decide) rfl (by decide +kernel) (n := 1) rfl (by decide) (Nat.le_of_ble_eq_true rfl) dL_setTurn_4 rfl (fun e9 E ce q9 m9 H locs hP hE9 hW hcell hv hcl => ?_) (fun v m9 H locs hP hW => ?_)
  · obtain rfl := hPe _ _ hP
    subst hE9
    have hNc := hE.2.2.2.2.2.2.2.2.2.2.2.1
    refine vx_catch (name := "java/lang/IllegalArgumentException") hown [] ⟨0, 9, 12, 13⟩ [] htab (fun z hz => absurd hz List.not_mem_nil) (by decide) (by decide) hc0 (va_Nw.use rfl (hE.2.2.2.1 _ (by decide +kernel))) hcell hv hcl ?_
    refine lv_astore_n (lv' := [(3, .ref q9), (0, .ref x0), (1, .int x1), (2, .ref out)]) hx hb dL_setTurn_12 rfl hl (by decide) rfl (fun ls hl => ?_)
    refine lv_iconst (v := 1) hx hb dL_setTurn_13 (by decide) ?_
    exact r_iretW hx hb hlk hr hW (Or.inr ⟨1, hP, rfl⟩) (by decide) (by decide) dL_setTurn_14
  · obtain ⟨z, m2, hv9, hz⟩ := hPr _ _ hP
    subst hv9
    refine W.eq (g2 := F0 m 7 ls [.int z, .int 0, .ref out]) rfl ?_
    refine lv_i2l hx hb dL_setTurn_7 rfl ?_
    refine r_lstK hx hb hE.1 hW hz dL_setTurn_8 (fun H locs hW => ?_)
    refine lv_goto (tgt := 15) hx hb dL_setTurn_9 (by decide) ?_
    refine lv_iconst (v := 0) hx hb dL_setTurn_15 (by decide) ?_
    exact r_iretW hx hb hlk hr hW (Or.inl ⟨z, m9, hP, rfl, hz⟩) (by decide) (by decide) dL_setTurn_16

set_option maxHeartbeats 1000000 in
set_option maxRecDepth 100000 in
theorem k_L_setCue (l : Launch) (G : GG) (A : Nat → Prop) (mu : Mem) (x0 : Nat) (x1 : Int32) (out : Nat) (P9 : Nat ⊕ Option Value → Mem → Prop) (hO : Ok l yX4_setCue wsX4_setCue ({ frames := 6, cells := 1, slots := 6, locals := 110 } : Room) [.ref x0, .int x1] G A mu P9) (hx0 : ok9 mu 6 x0) (hPr : ∀ v μ9, P9 (.inr v) μ9 → ∃ (z : Int32) (m2 : Mem), v = some (.int z) ∧ lst μ9 out 0 z.toInt64 = some m2) (hPe : ∀ e μ9, P9 (.inl e) μ9 → e = 1) : Ok l yL_setCue wsL_setCue ({ frames := 8, cells := 1, slots := 6, locals := 150 } : Room) [.ref x0, .int x1, .ref out] G A mu (fun r9 m9 => (∃ (z : Int32) (μ9 : Mem), P9 (.inr (some (.int z))) μ9 ∧ r9 = .inr (some (.int 0)) ∧ lst μ9 out 0 z.toInt64 = some m9) ∨ (∃ e : Nat, P9 (.inl e) m9 ∧ r9 = .inr (some (.int (1))))) := by
  refine Ok.startW (cc := cL_setCue) (maxL := 4) (ret := some .int) (hh := [(0, 9, 12, 13)]) rfl (by decide +kernel) (Nat.le_of_ble_eq_true rfl) ?_
  intro p e s m args below meth c ls hx hb hml hown hts hE hlk htab hA9 hr hW hl
  have hts : ∀ w ∈ wsL_setCue, w.before args s = true := hts
  have hown : s.vm.findClass RL = some m.cls := hown
  have hl : lv_has ls 4 [(0, .ref x0), (1, .int x1), (2, .ref out)] := hl
  have hc0 : (Cond.classLink RL 13 "java/lang/IllegalArgumentException").before args s = true := hts _ (by decide +kernel)
  refine lv_aload_n hx hb dL_setCue_0 rfl (lv_at hl 2 rfl) ?_
  refine lv_iconst (v := 0) hx hb dL_setCue_1 (by decide) ?_
  refine lv_aload_n hx hb dL_setCue_2 rfl (lv_at hl 0 rfl) ?_
  refine lv_iload_n hx hb dL_setCue_3 rfl (lv_at hl 1 rfl) ?_
  refine r_callVK (b := x0) (P9 := P9) (ci := 6) hx hb hml hown hts hE hA9 hW hl.1 hO gL_setCue_X4_setCue rfl hx0 (by decide) rfl (by decide +kernel) (n := 1) rfl (by decide) (Nat.le_of_ble_eq_true rfl) dL_setCue_4 rfl (fun e9 E ce q9 m9 H locs hP hE9 hW hcell hv hcl => ?_) (fun v m9 H locs hP hW => ?_)
  · obtain rfl := hPe _ _ hP
    subst hE9
    have hNc := hE.2.2.2.2.2.2.2.2.2.2.2.1
    refine vx_catch (name := "java/lang/IllegalArgumentException") hown [] ⟨0, 9, 12, 13⟩ [] htab (fun z hz => absurd hz List.not_mem_nil) (by decide) (by decide) hc0 (va_Nw.use rfl (hE.2.2.2.1 _ (by decide +kernel))) hcell hv hcl ?_
    refine lv_astore_n (lv' := [(3, .ref q9), (0, .ref x0), (1, .int x1), (2, .ref out)]) hx hb dL_setCue_12 rfl hl (by decide) rfl (fun ls hl => ?_)
    refine lv_iconst (v := 1) hx hb dL_setCue_13 (by decide) ?_
    exact r_iretW hx hb hlk hr hW (Or.inr ⟨1, hP, rfl⟩) (by decide) (by decide) dL_setCue_14
  · obtain ⟨z, m2, hv9, hz⟩ := hPr _ _ hP
    subst hv9
    refine W.eq (g2 := F0 m 7 ls [.int z, .int 0, .ref out]) rfl ?_
    refine lv_i2l hx hb dL_setCue_7 rfl ?_
    refine r_lstK hx hb hE.1 hW hz dL_setCue_8 (fun H locs hW => ?_)
    refine lv_goto (tgt := 15) hx hb dL_setCue_9 (by decide) ?_
    refine lv_iconst (v := 0) hx hb dL_setCue_15 (by decide) ?_
    exact r_iretW hx hb hlk hr hW (Or.inl ⟨z, m9, hP, rfl, hz⟩) (by decide) (by decide) dL_setCue_16

set_option maxHeartbeats 1000000 in
set_option maxRecDepth 100000 in
theorem k_L_hardTurns (l : Launch) (G : GG) (A : Nat → Prop) (mu : Mem) (x0 : Nat) (x1 : Int32) (out : Nat) (P9 : Nat ⊕ Option Value → Mem → Prop) (hO : Ok l yX4_hardTurns wsX4_hardTurns ({ frames := 14, cells := 1, slots := 6, locals := 270 } : Room) [.ref x0, .int x1] G A mu P9) (hx0 : ok9 mu 6 x0) (hPr : ∀ v μ9, P9 (.inr v) μ9 → ∃ (z : Int32) (m2 : Mem), v = some (.int z) ∧ lst μ9 out 0 z.toInt64 = some m2) (hPe : ∀ e μ9, P9 (.inl e) μ9 → e = 3) : Ok l yL_hardTurns wsL_hardTurns ({ frames := 16, cells := 1, slots := 6, locals := 310 } : Room) [.ref x0, .int x1, .ref out] G A mu (fun r9 m9 => (∃ (z : Int32) (μ9 : Mem), P9 (.inr (some (.int z))) μ9 ∧ r9 = .inr (some (.int 0)) ∧ lst μ9 out 0 z.toInt64 = some m9) ∨ (∃ e : Nat, P9 (.inl e) m9 ∧ r9 = .inr (some (.int (1))))) := by
  refine Ok.startW (cc := cL_hardTurns) (maxL := 4) (ret := some .int) (hh := [(0, 9, 12, 25)]) rfl (by decide +kernel) (Nat.le_of_ble_eq_true rfl) ?_
  intro p e s m args below meth c ls hx hb hml hown hts hE hlk htab hA9 hr hW hl
  have hts : ∀ w ∈ wsL_hardTurns, w.before args s = true := hts
  have hown : s.vm.findClass RL = some m.cls := hown
  have hl : lv_has ls 4 [(0, .ref x0), (1, .int x1), (2, .ref out)] := hl
  have hc0 : (Cond.classLink RL 25 "java/lang/IndexOutOfBoundsException").before args s = true := hts _ (by decide +kernel)
  refine lv_aload_n hx hb dL_hardTurns_0 rfl (lv_at hl 2 rfl) ?_
  refine lv_iconst (v := 0) hx hb dL_hardTurns_1 (by decide) ?_
  refine lv_aload_n hx hb dL_hardTurns_2 rfl (lv_at hl 0 rfl) ?_
  refine lv_iload_n hx hb dL_hardTurns_3 rfl (lv_at hl 1 rfl) ?_
  refine r_callVK (b := x0) (P9 := P9) (ci := 6) hx hb hml hown hts hE hA9 hW hl.1 hO gL_hardTurns_X4_hardTurns rfl hx0 (by decide) rfl (by decide +kernel) (n := 1) rfl (by decide) (Nat.le_of_ble_eq_true rfl) dL_hardTurns_4 rfl (fun e9 E ce q9 m9 H locs hP hE9 hW hcell hv hcl => ?_) (fun v m9 H locs hP hW => ?_)
  · obtain rfl := hPe _ _ hP
    subst hE9
    have hNc := hE.2.2.2.2.2.2.2.2.2.2.2.1
    refine vx_catch (name := "java/lang/IndexOutOfBoundsException") hown [] ⟨0, 9, 12, 25⟩ [] htab (fun z hz => absurd hz List.not_mem_nil) (by decide) (by decide) hc0 (va_Nw.use rfl (hE.2.2.2.1 _ (by decide +kernel))) hcell hv hcl ?_
    refine lv_astore_n (lv' := [(3, .ref q9), (0, .ref x0), (1, .int x1), (2, .ref out)]) hx hb dL_hardTurns_12 rfl hl (by decide) rfl (fun ls hl => ?_)
    refine lv_iconst (v := 1) hx hb dL_hardTurns_13 (by decide) ?_
    exact r_iretW hx hb hlk hr hW (Or.inr ⟨3, hP, rfl⟩) (by decide) (by decide) dL_hardTurns_14
  · obtain ⟨z, m2, hv9, hz⟩ := hPr _ _ hP
    subst hv9
    refine W.eq (g2 := F0 m 7 ls [.int z, .int 0, .ref out]) rfl ?_
    refine lv_i2l hx hb dL_hardTurns_7 rfl ?_
    refine r_lstK hx hb hE.1 hW hz dL_hardTurns_8 (fun H locs hW => ?_)
    refine lv_goto (tgt := 15) hx hb dL_hardTurns_9 (by decide) ?_
    refine lv_iconst (v := 0) hx hb dL_hardTurns_15 (by decide) ?_
    exact r_iretW hx hb hlk hr hW (Or.inl ⟨z, m9, hP, rfl, hz⟩) (by decide) (by decide) dL_hardTurns_16

set_option maxHeartbeats 1000000 in
set_option maxRecDepth 100000 in
theorem k_L_hardTurnsByTrying (l : Launch) (G : GG) (A : Nat → Prop) (mu : Mem) (x0 : Nat) (x1 : Int32) (out : Nat) (P9 : Nat ⊕ Option Value → Mem → Prop) (hO : Ok l yX4_hardTurnsByTrying wsX4_hardTurnsByTrying ({ frames := 56, cells := 1, slots := 6, locals := 1110 } : Room) [.ref x0, .int x1] G A mu P9) (hx0 : ok9 mu 6 x0) (hPr : ∀ v μ9, P9 (.inr v) μ9 → ∃ (z : Int32) (m2 : Mem), v = some (.int z) ∧ lst μ9 out 0 z.toInt64 = some m2) (hPe : ∀ e μ9, P9 (.inl e) μ9 → e = 3) : Ok l yL_hardTurnsByTrying wsL_hardTurnsByTrying ({ frames := 58, cells := 1, slots := 6, locals := 1150 } : Room) [.ref x0, .int x1, .ref out] G A mu (fun r9 m9 => (∃ (z : Int32) (μ9 : Mem), P9 (.inr (some (.int z))) μ9 ∧ r9 = .inr (some (.int 0)) ∧ lst μ9 out 0 z.toInt64 = some m9) ∨ (∃ e : Nat, P9 (.inl e) m9 ∧ r9 = .inr (some (.int (1))))) := by
  refine Ok.startW (cc := cL_hardTurnsByTrying) (maxL := 4) (ret := some .int) (hh := [(0, 9, 12, 25)]) rfl (by decide +kernel) (Nat.le_of_ble_eq_true rfl) ?_
  intro p e s m args below meth c ls hx hb hml hown hts hE hlk htab hA9 hr hW hl
  have hts : ∀ w ∈ wsL_hardTurnsByTrying, w.before args s = true := hts
  have hown : s.vm.findClass RL = some m.cls := hown
  have hl : lv_has ls 4 [(0, .ref x0), (1, .int x1), (2, .ref out)] := hl
  have hc0 : (Cond.classLink RL 25 "java/lang/IndexOutOfBoundsException").before args s = true := hts _ (by decide +kernel)
  refine lv_aload_n hx hb dL_hardTurnsByTrying_0 rfl (lv_at hl 2 rfl) ?_
  refine lv_iconst (v := 0) hx hb dL_hardTurnsByTrying_1 (by decide) ?_
  refine lv_aload_n hx hb dL_hardTurnsByTrying_2 rfl (lv_at hl 0 rfl) ?_
  refine lv_iload_n hx hb dL_hardTurnsByTrying_3 rfl (lv_at hl 1 rfl) ?_
  refine r_callVK (b := x0) (P9 := P9) (ci := 6) hx hb hml hown hts hE hA9 hW hl.1 hO gL_hardTurnsByTrying_X4_hardTurnsByTrying rfl hx0 (by decide) rfl (by decide +kernel) (n := 1) rfl (by decide) (Nat.le_of_ble_eq_true rfl) dL_hardTurnsByTrying_4 rfl (fun e9 E ce q9 m9 H locs hP hE9 hW hcell hv hcl => ?_) (fun v m9 H locs hP hW => ?_)
  · obtain rfl := hPe _ _ hP
    subst hE9
    have hNc := hE.2.2.2.2.2.2.2.2.2.2.2.1
    refine vx_catch (name := "java/lang/IndexOutOfBoundsException") hown [] ⟨0, 9, 12, 25⟩ [] htab (fun z hz => absurd hz List.not_mem_nil) (by decide) (by decide) hc0 (va_Nw.use rfl (hE.2.2.2.1 _ (by decide +kernel))) hcell hv hcl ?_
    refine lv_astore_n (lv' := [(3, .ref q9), (0, .ref x0), (1, .int x1), (2, .ref out)]) hx hb dL_hardTurnsByTrying_12 rfl hl (by decide) rfl (fun ls hl => ?_)
    refine lv_iconst (v := 1) hx hb dL_hardTurnsByTrying_13 (by decide) ?_
    exact r_iretW hx hb hlk hr hW (Or.inr ⟨3, hP, rfl⟩) (by decide) (by decide) dL_hardTurnsByTrying_14
  · obtain ⟨z, m2, hv9, hz⟩ := hPr _ _ hP
    subst hv9
    refine W.eq (g2 := F0 m 7 ls [.int z, .int 0, .ref out]) rfl ?_
    refine lv_i2l hx hb dL_hardTurnsByTrying_7 rfl ?_
    refine r_lstK hx hb hE.1 hW hz dL_hardTurnsByTrying_8 (fun H locs hW => ?_)
    refine lv_goto (tgt := 15) hx hb dL_hardTurnsByTrying_9 (by decide) ?_
    refine lv_iconst (v := 0) hx hb dL_hardTurnsByTrying_15 (by decide) ?_
    exact r_iretW hx hb hlk hr hW (Or.inl ⟨z, m9, hP, rfl, hz⟩) (by decide) (by decide) dL_hardTurnsByTrying_16

set_option maxHeartbeats 1000000 in
set_option maxRecDepth 100000 in
theorem k_L_pages (l : Launch) (G : GG) (A : Nat → Prop) (mu : Mem) (x0 : Nat) (x1 : Int32) (out : Nat) (P9 : Nat ⊕ Option Value → Mem → Prop) (hO : Ok l yX4_pages wsX4_pages ({ frames := 14, cells := 1, slots := 6, locals := 270 } : Room) [.ref x0, .int x1] G A mu P9) (hx0 : ok9 mu 6 x0) (hPr : ∀ v μ9, P9 (.inr v) μ9 → ∃ (z : Int32) (m2 : Mem), v = some (.int z) ∧ lst μ9 out 0 z.toInt64 = some m2) (hPe : ∀ e μ9, P9 (.inl e) μ9 → e = 3) : Ok l yL_pages wsL_pages ({ frames := 16, cells := 1, slots := 6, locals := 310 } : Room) [.ref x0, .int x1, .ref out] G A mu (fun r9 m9 => (∃ (z : Int32) (μ9 : Mem), P9 (.inr (some (.int z))) μ9 ∧ r9 = .inr (some (.int 0)) ∧ lst μ9 out 0 z.toInt64 = some m9) ∨ (∃ e : Nat, P9 (.inl e) m9 ∧ r9 = .inr (some (.int (1))))) := by
  refine Ok.startW (cc := cL_pages) (maxL := 4) (ret := some .int) (hh := [(0, 9, 12, 25)]) rfl (by decide +kernel) (Nat.le_of_ble_eq_true rfl) ?_
  intro p e s m args below meth c ls hx hb hml hown hts hE hlk htab hA9 hr hW hl
  have hts : ∀ w ∈ wsL_pages, w.before args s = true := hts
  have hown : s.vm.findClass RL = some m.cls := hown
  have hl : lv_has ls 4 [(0, .ref x0), (1, .int x1), (2, .ref out)] := hl
  have hc0 : (Cond.classLink RL 25 "java/lang/IndexOutOfBoundsException").before args s = true := hts _ (by decide +kernel)
  refine lv_aload_n hx hb dL_pages_0 rfl (lv_at hl 2 rfl) ?_
  refine lv_iconst (v := 0) hx hb dL_pages_1 (by decide) ?_
  refine lv_aload_n hx hb dL_pages_2 rfl (lv_at hl 0 rfl) ?_
  refine lv_iload_n hx hb dL_pages_3 rfl (lv_at hl 1 rfl) ?_
  refine r_callVK (b := x0) (P9 := P9) (ci := 6) hx hb hml hown hts hE hA9 hW hl.1 hO gL_pages_X4_pages rfl hx0 (by decide) rfl (by decide +kernel) (n := 1) rfl (by decide) (Nat.le_of_ble_eq_true rfl) dL_pages_4 rfl (fun e9 E ce q9 m9 H locs hP hE9 hW hcell hv hcl => ?_) (fun v m9 H locs hP hW => ?_)
  · obtain rfl := hPe _ _ hP
    subst hE9
    have hNc := hE.2.2.2.2.2.2.2.2.2.2.2.1
    refine vx_catch (name := "java/lang/IndexOutOfBoundsException") hown [] ⟨0, 9, 12, 25⟩ [] htab (fun z hz => absurd hz List.not_mem_nil) (by decide) (by decide) hc0 (va_Nw.use rfl (hE.2.2.2.1 _ (by decide +kernel))) hcell hv hcl ?_
    refine lv_astore_n (lv' := [(3, .ref q9), (0, .ref x0), (1, .int x1), (2, .ref out)]) hx hb dL_pages_12 rfl hl (by decide) rfl (fun ls hl => ?_)
    refine lv_iconst (v := 1) hx hb dL_pages_13 (by decide) ?_
    exact r_iretW hx hb hlk hr hW (Or.inr ⟨3, hP, rfl⟩) (by decide) (by decide) dL_pages_14
  · obtain ⟨z, m2, hv9, hz⟩ := hPr _ _ hP
    subst hv9
    refine W.eq (g2 := F0 m 7 ls [.int z, .int 0, .ref out]) rfl ?_
    refine lv_i2l hx hb dL_pages_7 rfl ?_
    refine r_lstK hx hb hE.1 hW hz dL_pages_8 (fun H locs hW => ?_)
    refine lv_goto (tgt := 15) hx hb dL_pages_9 (by decide) ?_
    refine lv_iconst (v := 0) hx hb dL_pages_15 (by decide) ?_
    exact r_iretW hx hb hlk hr hW (Or.inl ⟨z, m9, hP, rfl, hz⟩) (by decide) (by decide) dL_pages_16

set_option maxHeartbeats 1000000 in
set_option maxRecDepth 100000 in
theorem k_L_pageEnd (l : Launch) (G : GG) (A : Nat → Prop) (mu : Mem) (x0 : Nat) (x1 : Int32) (x2 : Int32) (out : Nat) (P9 : Nat ⊕ Option Value → Mem → Prop) (hO : Ok l yX4_pageEnd wsX4_pageEnd ({ frames := 14, cells := 2, slots := 12, locals := 270 } : Room) [.ref x0, .int x1, .int x2] G A mu P9) (hx0 : ok9 mu 6 x0) (hPr : ∀ v μ9, P9 (.inr v) μ9 → ∃ (z : Int32) (m2 : Mem), v = some (.int z) ∧ lst μ9 out 0 z.toInt64 = some m2) (hPe : ∀ e μ9, P9 (.inl e) μ9 → e = 3 ∨ e = 4) : Ok l yL_pageEnd wsL_pageEnd ({ frames := 16, cells := 2, slots := 12, locals := 310 } : Room) [.ref x0, .int x1, .int x2, .ref out] G A mu (fun r9 m9 => (∃ (z : Int32) (μ9 : Mem), P9 (.inr (some (.int z))) μ9 ∧ r9 = .inr (some (.int 0)) ∧ lst μ9 out 0 z.toInt64 = some m9) ∨ (∃ e : Nat, P9 (.inl e) m9 ∧ r9 = .inr (some (.int (if e = 3 then 1 else 2))))) := by
  refine Ok.startW (cc := cL_pageEnd) (maxL := 5) (ret := some .int) (hh := [(0, 10, 13, 25), (0, 10, 17, 40)]) rfl (by decide +kernel) (Nat.le_of_ble_eq_true rfl) ?_
  intro p e s m args below meth c ls hx hb hml hown hts hE hlk htab hA9 hr hW hl
  have hts : ∀ w ∈ wsL_pageEnd, w.before args s = true := hts
  have hown : s.vm.findClass RL = some m.cls := hown
  have hl : lv_has ls 5 [(0, .ref x0), (1, .int x1), (2, .int x2), (3, .ref out)] := hl
  have hc0 : (Cond.classLink RL 25 "java/lang/IndexOutOfBoundsException").before args s = true := hts _ (by decide +kernel)
  have hc1 : (Cond.classLink RL 40 "java/util/NoSuchElementException").before args s = true := hts _ (by decide +kernel)
  refine lv_aload_n hx hb dL_pageEnd_0 rfl (lv_at hl 3 rfl) ?_
  refine lv_iconst (v := 0) hx hb dL_pageEnd_1 (by decide) ?_
  refine lv_aload_n hx hb dL_pageEnd_2 rfl (lv_at hl 0 rfl) ?_
  refine lv_iload_n hx hb dL_pageEnd_3 rfl (lv_at hl 1 rfl) ?_
  refine lv_iload_n hx hb dL_pageEnd_4 rfl (lv_at hl 2 rfl) ?_
  refine r_callVK (b := x0) (P9 := P9) (ci := 6) hx hb hml hown hts hE hA9 hW hl.1 hO gL_pageEnd_X4_pageEnd rfl hx0 (by decide) rfl (by decide +kernel) (n := 2) rfl (by decide) (Nat.le_of_ble_eq_true rfl) dL_pageEnd_5 rfl (fun e9 E ce q9 m9 H locs hP hE9 hW hcell hv hcl => ?_) (fun v m9 H locs hP hW => ?_)
  · rcases hPe _ _ hP with rfl | rfl
    · subst hE9
      have hNc := hE.2.2.2.2.2.2.2.2.2.2.2.1
      refine vx_catch (name := "java/lang/IndexOutOfBoundsException") hown [] ⟨0, 10, 13, 25⟩ [⟨0, 10, 17, 40⟩] htab (fun z hz => absurd hz List.not_mem_nil) (by decide) (by decide) hc0 (va_Nw.use rfl (hE.2.2.2.1 _ (by decide +kernel))) hcell hv hcl ?_
      refine lv_astore (lv' := [(4, .ref q9), (0, .ref x0), (1, .int x1), (2, .int x2), (3, .ref out)]) hx hb dL_pageEnd_13 hl (by decide) rfl (fun ls hl => ?_)
      refine lv_iconst (v := 1) hx hb dL_pageEnd_15 (by decide) ?_
      exact r_iretW hx hb hlk hr hW (Or.inr ⟨3, hP, rfl⟩) (by decide) (by decide) dL_pageEnd_16
    · subst hE9
      have hNc := hE.2.2.2.2.2.2.2.2.2.2.2.1
      refine vx_catch (name := "java/util/NoSuchElementException") hown [⟨0, 10, 13, 25⟩] ⟨0, 10, 17, 40⟩ [] htab (fun z hz => (List.mem_cons.mp hz).elim (fun e9 => by subst e9; exact Or.inr ⟨by decide, "java/lang/IndexOutOfBoundsException", hc0, hNc ("java/util/NoSuchElementException", "java/lang/IndexOutOfBoundsException") (by decide +kernel)⟩) (fun hz => absurd hz List.not_mem_nil)) (by decide) (by decide) hc1 (va_Nw.use rfl (hE.2.2.2.1 _ (by decide +kernel))) hcell hv hcl ?_
      refine lv_astore (lv' := [(4, .ref q9), (0, .ref x0), (1, .int x1), (2, .int x2), (3, .ref out)]) hx hb dL_pageEnd_17 hl (by decide) rfl (fun ls hl => ?_)
      refine lv_iconst (v := 2) hx hb dL_pageEnd_19 (by decide) ?_
      exact r_iretW hx hb hlk hr hW (Or.inr ⟨4, hP, rfl⟩) (by decide) (by decide) dL_pageEnd_20
  · obtain ⟨z, m2, hv9, hz⟩ := hPr _ _ hP
    subst hv9
    refine W.eq (g2 := F0 m 8 ls [.int z, .int 0, .ref out]) rfl ?_
    refine lv_i2l hx hb dL_pageEnd_8 rfl ?_
    refine r_lstK hx hb hE.1 hW hz dL_pageEnd_9 (fun H locs hW => ?_)
    refine lv_goto (tgt := 21) hx hb dL_pageEnd_10 (by decide) ?_
    refine lv_iconst (v := 0) hx hb dL_pageEnd_21 (by decide) ?_
    exact r_iretW hx hb hlk hr hW (Or.inl ⟨z, m9, hP, rfl, hz⟩) (by decide) (by decide) dL_pageEnd_22

set_option maxHeartbeats 1000000 in
set_option maxRecDepth 100000 in
theorem k_L_cuePart (l : Launch) (G : GG) (A : Nat → Prop) (mu : Mem) (x0 : Nat) (x1 : Int32) (x2 : Int32) (out : Nat) (P9 : Nat ⊕ Option Value → Mem → Prop) (hO : Ok l yX4_cuePart wsX4_cuePart ({ frames := 16, cells := 3, slots := 18, locals := 310 } : Room) [.ref x0, .int x1, .int x2] G A mu P9) (hx0 : ok9 mu 6 x0) (hPr : ∀ v μ9, P9 (.inr v) μ9 → ∃ (z : Int32) (m2 : Mem), v = some (.int z) ∧ lst μ9 out 0 z.toInt64 = some m2) (hPe : ∀ e μ9, P9 (.inl e) μ9 → e = 3 ∨ e = 5) : Ok l yL_cuePart wsL_cuePart ({ frames := 18, cells := 3, slots := 18, locals := 350 } : Room) [.ref x0, .int x1, .int x2, .ref out] G A mu (fun r9 m9 => (∃ (z : Int32) (μ9 : Mem), P9 (.inr (some (.int z))) μ9 ∧ r9 = .inr (some (.int 0)) ∧ lst μ9 out 0 z.toInt64 = some m9) ∨ (∃ e : Nat, P9 (.inl e) m9 ∧ r9 = .inr (some (.int (if e = 3 then 1 else 2))))) := by
  refine Ok.startW (cc := cL_cuePart) (maxL := 5) (ret := some .int) (hh := [(0, 10, 13, 25), (0, 10, 17, 35)]) rfl (by decide +kernel) (Nat.le_of_ble_eq_true rfl) ?_
  intro p e s m args below meth c ls hx hb hml hown hts hE hlk htab hA9 hr hW hl
  have hts : ∀ w ∈ wsL_cuePart, w.before args s = true := hts
  have hown : s.vm.findClass RL = some m.cls := hown
  have hl : lv_has ls 5 [(0, .ref x0), (1, .int x1), (2, .int x2), (3, .ref out)] := hl
  have hc0 : (Cond.classLink RL 25 "java/lang/IndexOutOfBoundsException").before args s = true := hts _ (by decide +kernel)
  have hc1 : (Cond.classLink RL 35 "java/lang/UnsupportedOperationException").before args s = true := hts _ (by decide +kernel)
  refine lv_aload_n hx hb dL_cuePart_0 rfl (lv_at hl 3 rfl) ?_
  refine lv_iconst (v := 0) hx hb dL_cuePart_1 (by decide) ?_
  refine lv_aload_n hx hb dL_cuePart_2 rfl (lv_at hl 0 rfl) ?_
  refine lv_iload_n hx hb dL_cuePart_3 rfl (lv_at hl 1 rfl) ?_
  refine lv_iload_n hx hb dL_cuePart_4 rfl (lv_at hl 2 rfl) ?_
  refine r_callVK (b := x0) (P9 := P9) (ci := 6) hx hb hml hown hts hE hA9 hW hl.1 hO gL_cuePart_X4_cuePart rfl hx0 (by decide) rfl (by decide +kernel) (n := 2) rfl (by decide) (Nat.le_of_ble_eq_true rfl) dL_cuePart_5 rfl (fun e9 E ce q9 m9 H locs hP hE9 hW hcell hv hcl => ?_) (fun v m9 H locs hP hW => ?_)
  · rcases hPe _ _ hP with rfl | rfl
    · subst hE9
      have hNc := hE.2.2.2.2.2.2.2.2.2.2.2.1
      refine vx_catch (name := "java/lang/IndexOutOfBoundsException") hown [] ⟨0, 10, 13, 25⟩ [⟨0, 10, 17, 35⟩] htab (fun z hz => absurd hz List.not_mem_nil) (by decide) (by decide) hc0 (va_Nw.use rfl (hE.2.2.2.1 _ (by decide +kernel))) hcell hv hcl ?_
      refine lv_astore (lv' := [(4, .ref q9), (0, .ref x0), (1, .int x1), (2, .int x2), (3, .ref out)]) hx hb dL_cuePart_13 hl (by decide) rfl (fun ls hl => ?_)
      refine lv_iconst (v := 1) hx hb dL_cuePart_15 (by decide) ?_
      exact r_iretW hx hb hlk hr hW (Or.inr ⟨3, hP, rfl⟩) (by decide) (by decide) dL_cuePart_16
    · subst hE9
      have hNc := hE.2.2.2.2.2.2.2.2.2.2.2.1
      refine vx_catch (name := "java/lang/UnsupportedOperationException") hown [⟨0, 10, 13, 25⟩] ⟨0, 10, 17, 35⟩ [] htab (fun z hz => (List.mem_cons.mp hz).elim (fun e9 => by subst e9; exact Or.inr ⟨by decide, "java/lang/IndexOutOfBoundsException", hc0, hNc ("java/lang/UnsupportedOperationException", "java/lang/IndexOutOfBoundsException") (by decide +kernel)⟩) (fun hz => absurd hz List.not_mem_nil)) (by decide) (by decide) hc1 (va_Nw.use rfl (hE.2.2.2.1 _ (by decide +kernel))) hcell hv hcl ?_
      refine lv_astore (lv' := [(4, .ref q9), (0, .ref x0), (1, .int x1), (2, .int x2), (3, .ref out)]) hx hb dL_cuePart_17 hl (by decide) rfl (fun ls hl => ?_)
      refine lv_iconst (v := 2) hx hb dL_cuePart_19 (by decide) ?_
      exact r_iretW hx hb hlk hr hW (Or.inr ⟨5, hP, rfl⟩) (by decide) (by decide) dL_cuePart_20
  · obtain ⟨z, m2, hv9, hz⟩ := hPr _ _ hP
    subst hv9
    refine W.eq (g2 := F0 m 8 ls [.int z, .int 0, .ref out]) rfl ?_
    refine lv_i2l hx hb dL_cuePart_8 rfl ?_
    refine r_lstK hx hb hE.1 hW hz dL_cuePart_9 (fun H locs hW => ?_)
    refine lv_goto (tgt := 21) hx hb dL_cuePart_10 (by decide) ?_
    refine lv_iconst (v := 0) hx hb dL_cuePart_21 (by decide) ?_
    exact r_iretW hx hb hlk hr hW (Or.inl ⟨z, m9, hP, rfl, hz⟩) (by decide) (by decide) dL_cuePart_22

set_option maxHeartbeats 1000000 in
set_option maxRecDepth 100000 in
theorem k_L_cuePitch (l : Launch) (G : GG) (A : Nat → Prop) (mu : Mem) (x0 : Nat) (x1 : Int32) (x2 : Int32) (x3 : Int32) (out : Nat) (P9 : Nat ⊕ Option Value → Mem → Prop) (hO : Ok l yX4_cuePitch wsX4_cuePitch ({ frames := 16, cells := 5, slots := 30, locals := 310 } : Room) [.ref x0, .int x1, .int x2, .int x3] G A mu P9) (hx0 : ok9 mu 6 x0) (hPr : ∀ v μ9, P9 (.inr v) μ9 → ∃ (z : Int32) (m2 : Mem), v = some (.int z) ∧ lst μ9 out 0 z.toInt64 = some m2) (hPe : ∀ e μ9, P9 (.inl e) μ9 → e = 3 ∨ e = 5 ∨ e = 4) : Ok l yL_cuePitch wsL_cuePitch ({ frames := 18, cells := 5, slots := 30, locals := 350 } : Room) [.ref x0, .int x1, .int x2, .int x3, .ref out] G A mu (fun r9 m9 => (∃ (z : Int32) (μ9 : Mem), P9 (.inr (some (.int z))) μ9 ∧ r9 = .inr (some (.int 0)) ∧ lst μ9 out 0 z.toInt64 = some m9) ∨ (∃ e : Nat, P9 (.inl e) m9 ∧ r9 = .inr (some (.int (if e = 3 then 1 else if e = 5 then 2 else 3))))) := by
  refine Ok.startW (cc := cL_cuePitch) (maxL := 6) (ret := some .int) (hh := [(0, 12, 15, 25), (0, 12, 19, 35), (0, 12, 23, 40)]) rfl (by decide +kernel) (Nat.le_of_ble_eq_true rfl) ?_
  intro p e s m args below meth c ls hx hb hml hown hts hE hlk htab hA9 hr hW hl
  have hts : ∀ w ∈ wsL_cuePitch, w.before args s = true := hts
  have hown : s.vm.findClass RL = some m.cls := hown
  have hl : lv_has ls 6 [(0, .ref x0), (1, .int x1), (2, .int x2), (3, .int x3), (4, .ref out)] := hl
  have hc0 : (Cond.classLink RL 25 "java/lang/IndexOutOfBoundsException").before args s = true := hts _ (by decide +kernel)
  have hc1 : (Cond.classLink RL 35 "java/lang/UnsupportedOperationException").before args s = true := hts _ (by decide +kernel)
  have hc2 : (Cond.classLink RL 40 "java/util/NoSuchElementException").before args s = true := hts _ (by decide +kernel)
  refine lv_aload hx hb dL_cuePitch_0 (lv_at hl 4 rfl) ?_
  refine lv_iconst (v := 0) hx hb dL_cuePitch_2 (by decide) ?_
  refine lv_aload_n hx hb dL_cuePitch_3 rfl (lv_at hl 0 rfl) ?_
  refine lv_iload_n hx hb dL_cuePitch_4 rfl (lv_at hl 1 rfl) ?_
  refine lv_iload_n hx hb dL_cuePitch_5 rfl (lv_at hl 2 rfl) ?_
  refine lv_iload_n hx hb dL_cuePitch_6 rfl (lv_at hl 3 rfl) ?_
  refine r_callVK (b := x0) (P9 := P9) (ci := 6) hx hb hml hown hts hE hA9 hW hl.1 hO gL_cuePitch_X4_cuePitch rfl hx0 (by decide) rfl (by decide +kernel) (n := 3) rfl (by decide) (Nat.le_of_ble_eq_true rfl) dL_cuePitch_7 rfl (fun e9 E ce q9 m9 H locs hP hE9 hW hcell hv hcl => ?_) (fun v m9 H locs hP hW => ?_)
  · rcases hPe _ _ hP with rfl | rfl | rfl
    · subst hE9
      have hNc := hE.2.2.2.2.2.2.2.2.2.2.2.1
      refine vx_catch (name := "java/lang/IndexOutOfBoundsException") hown [] ⟨0, 12, 15, 25⟩ [⟨0, 12, 19, 35⟩, ⟨0, 12, 23, 40⟩] htab (fun z hz => absurd hz List.not_mem_nil) (by decide) (by decide) hc0 (va_Nw.use rfl (hE.2.2.2.1 _ (by decide +kernel))) hcell hv hcl ?_
      refine lv_astore (lv' := [(5, .ref q9), (0, .ref x0), (1, .int x1), (2, .int x2), (3, .int x3), (4, .ref out)]) hx hb dL_cuePitch_15 hl (by decide) rfl (fun ls hl => ?_)
      refine lv_iconst (v := 1) hx hb dL_cuePitch_17 (by decide) ?_
      exact r_iretW hx hb hlk hr hW (Or.inr ⟨3, hP, rfl⟩) (by decide) (by decide) dL_cuePitch_18
    · subst hE9
      have hNc := hE.2.2.2.2.2.2.2.2.2.2.2.1
      refine vx_catch (name := "java/lang/UnsupportedOperationException") hown [⟨0, 12, 15, 25⟩] ⟨0, 12, 19, 35⟩ [⟨0, 12, 23, 40⟩] htab (fun z hz => (List.mem_cons.mp hz).elim (fun e9 => by subst e9; exact Or.inr ⟨by decide, "java/lang/IndexOutOfBoundsException", hc0, hNc ("java/lang/UnsupportedOperationException", "java/lang/IndexOutOfBoundsException") (by decide +kernel)⟩) (fun hz => absurd hz List.not_mem_nil)) (by decide) (by decide) hc1 (va_Nw.use rfl (hE.2.2.2.1 _ (by decide +kernel))) hcell hv hcl ?_
      refine lv_astore (lv' := [(5, .ref q9), (0, .ref x0), (1, .int x1), (2, .int x2), (3, .int x3), (4, .ref out)]) hx hb dL_cuePitch_19 hl (by decide) rfl (fun ls hl => ?_)
      refine lv_iconst (v := 2) hx hb dL_cuePitch_21 (by decide) ?_
      exact r_iretW hx hb hlk hr hW (Or.inr ⟨5, hP, rfl⟩) (by decide) (by decide) dL_cuePitch_22
    · subst hE9
      have hNc := hE.2.2.2.2.2.2.2.2.2.2.2.1
      refine vx_catch (name := "java/util/NoSuchElementException") hown [⟨0, 12, 15, 25⟩, ⟨0, 12, 19, 35⟩] ⟨0, 12, 23, 40⟩ [] htab (fun z hz => (List.mem_cons.mp hz).elim (fun e9 => by subst e9; exact Or.inr ⟨by decide, "java/lang/IndexOutOfBoundsException", hc0, hNc ("java/util/NoSuchElementException", "java/lang/IndexOutOfBoundsException") (by decide +kernel)⟩) (fun hz => (List.mem_cons.mp hz).elim (fun e9 => by subst e9; exact Or.inr ⟨by decide, "java/lang/UnsupportedOperationException", hc1, hNc ("java/util/NoSuchElementException", "java/lang/UnsupportedOperationException") (by decide +kernel)⟩) (fun hz => absurd hz List.not_mem_nil))) (by decide) (by decide) hc2 (va_Nw.use rfl (hE.2.2.2.1 _ (by decide +kernel))) hcell hv hcl ?_
      refine lv_astore (lv' := [(5, .ref q9), (0, .ref x0), (1, .int x1), (2, .int x2), (3, .int x3), (4, .ref out)]) hx hb dL_cuePitch_23 hl (by decide) rfl (fun ls hl => ?_)
      refine lv_iconst (v := 3) hx hb dL_cuePitch_25 (by decide) ?_
      exact r_iretW hx hb hlk hr hW (Or.inr ⟨4, hP, rfl⟩) (by decide) (by decide) dL_cuePitch_26
  · obtain ⟨z, m2, hv9, hz⟩ := hPr _ _ hP
    subst hv9
    refine W.eq (g2 := F0 m 10 ls [.int z, .int 0, .ref out]) rfl ?_
    refine lv_i2l hx hb dL_cuePitch_10 rfl ?_
    refine r_lstK hx hb hE.1 hW hz dL_cuePitch_11 (fun H locs hW => ?_)
    refine lv_goto (tgt := 27) hx hb dL_cuePitch_12 (by decide) ?_
    refine lv_iconst (v := 0) hx hb dL_cuePitch_27 (by decide) ?_
    exact r_iretW hx hb hlk hr hW (Or.inl ⟨z, m9, hP, rfl, hz⟩) (by decide) (by decide) dL_cuePitch_28

set_option maxHeartbeats 1000000 in
set_option maxRecDepth 100000 in
theorem k_L_copyOut (l : Launch) (G : GG) (A : Nat → Prop) (mu : Mem) (x0 : Nat) (x1 : Int32) (out : Nat) (P9 : Nat ⊕ Option Value → Mem → Prop) (hO : Ok l yX4_copyOut wsX4_copyOut ({ frames := 10, cells := 1, slots := 6, locals := 190 } : Room) [.ref x0, .int x1] G A mu P9) (hx0 : ok9 mu 6 x0) (hPr : ∀ v μ9, P9 (.inr v) μ9 → ∃ (z : Int32) (m2 : Mem), v = some (.int z) ∧ lst μ9 out 0 z.toInt64 = some m2) (hPe : ∀ e μ9, P9 (.inl e) μ9 → e = 3) : Ok l yL_copyOut wsL_copyOut ({ frames := 12, cells := 1, slots := 6, locals := 230 } : Room) [.ref x0, .int x1, .ref out] G A mu (fun r9 m9 => (∃ (z : Int32) (μ9 : Mem), P9 (.inr (some (.int z))) μ9 ∧ r9 = .inr (some (.int 0)) ∧ lst μ9 out 0 z.toInt64 = some m9) ∨ (∃ e : Nat, P9 (.inl e) m9 ∧ r9 = .inr (some (.int (1))))) := by
  refine Ok.startW (cc := cL_copyOut) (maxL := 4) (ret := some .int) (hh := [(0, 9, 12, 25)]) rfl (by decide +kernel) (Nat.le_of_ble_eq_true rfl) ?_
  intro p e s m args below meth c ls hx hb hml hown hts hE hlk htab hA9 hr hW hl
  have hts : ∀ w ∈ wsL_copyOut, w.before args s = true := hts
  have hown : s.vm.findClass RL = some m.cls := hown
  have hl : lv_has ls 4 [(0, .ref x0), (1, .int x1), (2, .ref out)] := hl
  have hc0 : (Cond.classLink RL 25 "java/lang/IndexOutOfBoundsException").before args s = true := hts _ (by decide +kernel)
  refine lv_aload_n hx hb dL_copyOut_0 rfl (lv_at hl 2 rfl) ?_
  refine lv_iconst (v := 0) hx hb dL_copyOut_1 (by decide) ?_
  refine lv_aload_n hx hb dL_copyOut_2 rfl (lv_at hl 0 rfl) ?_
  refine lv_iload_n hx hb dL_copyOut_3 rfl (lv_at hl 1 rfl) ?_
  refine r_callVK (b := x0) (P9 := P9) (ci := 6) hx hb hml hown hts hE hA9 hW hl.1 hO gL_copyOut_X4_copyOut rfl hx0 (by decide) rfl (by decide +kernel) (n := 1) rfl (by decide) (Nat.le_of_ble_eq_true rfl) dL_copyOut_4 rfl (fun e9 E ce q9 m9 H locs hP hE9 hW hcell hv hcl => ?_) (fun v m9 H locs hP hW => ?_)
  · obtain rfl := hPe _ _ hP
    subst hE9
    have hNc := hE.2.2.2.2.2.2.2.2.2.2.2.1
    refine vx_catch (name := "java/lang/IndexOutOfBoundsException") hown [] ⟨0, 9, 12, 25⟩ [] htab (fun z hz => absurd hz List.not_mem_nil) (by decide) (by decide) hc0 (va_Nw.use rfl (hE.2.2.2.1 _ (by decide +kernel))) hcell hv hcl ?_
    refine lv_astore_n (lv' := [(3, .ref q9), (0, .ref x0), (1, .int x1), (2, .ref out)]) hx hb dL_copyOut_12 rfl hl (by decide) rfl (fun ls hl => ?_)
    refine lv_iconst (v := 1) hx hb dL_copyOut_13 (by decide) ?_
    exact r_iretW hx hb hlk hr hW (Or.inr ⟨3, hP, rfl⟩) (by decide) (by decide) dL_copyOut_14
  · obtain ⟨z, m2, hv9, hz⟩ := hPr _ _ hP
    subst hv9
    refine W.eq (g2 := F0 m 7 ls [.int z, .int 0, .ref out]) rfl ?_
    refine lv_i2l hx hb dL_copyOut_7 rfl ?_
    refine r_lstK hx hb hE.1 hW hz dL_copyOut_8 (fun H locs hW => ?_)
    refine lv_goto (tgt := 15) hx hb dL_copyOut_9 (by decide) ?_
    refine lv_iconst (v := 0) hx hb dL_copyOut_15 (by decide) ?_
    exact r_iretW hx hb hlk hr hW (Or.inl ⟨z, m9, hP, rfl, hz⟩) (by decide) (by decide) dL_copyOut_16

set_option maxHeartbeats 1000000 in
set_option maxRecDepth 100000 in
theorem k_L_carry (l : Launch) (G : GG) (A : Nat → Prop) (mu : Mem) (x0 : Nat) (x1 : Int32) (out : Nat) (P9 : Nat ⊕ Option Value → Mem → Prop) (hO : Ok l yX4_carry wsX4_carry ({ frames := 12, cells := 2, slots := 12, locals := 230 } : Room) [.ref x0, .int x1] G A mu P9) (hx0 : ok9 mu 6 x0) (hPr : ∀ v μ9, P9 (.inr v) μ9 → ∃ (z : Int32) (m2 : Mem), v = some (.int z) ∧ lst μ9 out 0 z.toInt64 = some m2) (hPe : ∀ e μ9, P9 (.inl e) μ9 → e = 3 ∨ e = 2) : Ok l yL_carry wsL_carry ({ frames := 14, cells := 2, slots := 12, locals := 270 } : Room) [.ref x0, .int x1, .ref out] G A mu (fun r9 m9 => (∃ (z : Int32) (μ9 : Mem), P9 (.inr (some (.int z))) μ9 ∧ r9 = .inr (some (.int 0)) ∧ lst μ9 out 0 z.toInt64 = some m9) ∨ (∃ e : Nat, P9 (.inl e) m9 ∧ r9 = .inr (some (.int (if e = 3 then 1 else 2))))) := by
  refine Ok.startW (cc := cL_carry) (maxL := 4) (ret := some .int) (hh := [(0, 9, 12, 25), (0, 9, 15, 15)]) rfl (by decide +kernel) (Nat.le_of_ble_eq_true rfl) ?_
  intro p e s m args below meth c ls hx hb hml hown hts hE hlk htab hA9 hr hW hl
  have hts : ∀ w ∈ wsL_carry, w.before args s = true := hts
  have hown : s.vm.findClass RL = some m.cls := hown
  have hl : lv_has ls 4 [(0, .ref x0), (1, .int x1), (2, .ref out)] := hl
  have hc0 : (Cond.classLink RL 25 "java/lang/IndexOutOfBoundsException").before args s = true := hts _ (by decide +kernel)
  have hc1 : (Cond.classLink RL 15 "java/lang/IllegalStateException").before args s = true := hts _ (by decide +kernel)
  refine lv_aload_n hx hb dL_carry_0 rfl (lv_at hl 2 rfl) ?_
  refine lv_iconst (v := 0) hx hb dL_carry_1 (by decide) ?_
  refine lv_aload_n hx hb dL_carry_2 rfl (lv_at hl 0 rfl) ?_
  refine lv_iload_n hx hb dL_carry_3 rfl (lv_at hl 1 rfl) ?_
  refine r_callVK (b := x0) (P9 := P9) (ci := 6) hx hb hml hown hts hE hA9 hW hl.1 hO gL_carry_X4_carry rfl hx0 (by decide) rfl (by decide +kernel) (n := 1) rfl (by decide) (Nat.le_of_ble_eq_true rfl) dL_carry_4 rfl (fun e9 E ce q9 m9 H locs hP hE9 hW hcell hv hcl => ?_) (fun v m9 H locs hP hW => ?_)
  · rcases hPe _ _ hP with rfl | rfl
    · subst hE9
      have hNc := hE.2.2.2.2.2.2.2.2.2.2.2.1
      refine vx_catch (name := "java/lang/IndexOutOfBoundsException") hown [] ⟨0, 9, 12, 25⟩ [⟨0, 9, 15, 15⟩] htab (fun z hz => absurd hz List.not_mem_nil) (by decide) (by decide) hc0 (va_Nw.use rfl (hE.2.2.2.1 _ (by decide +kernel))) hcell hv hcl ?_
      refine lv_astore_n (lv' := [(3, .ref q9), (0, .ref x0), (1, .int x1), (2, .ref out)]) hx hb dL_carry_12 rfl hl (by decide) rfl (fun ls hl => ?_)
      refine lv_iconst (v := 1) hx hb dL_carry_13 (by decide) ?_
      exact r_iretW hx hb hlk hr hW (Or.inr ⟨3, hP, rfl⟩) (by decide) (by decide) dL_carry_14
    · subst hE9
      have hNc := hE.2.2.2.2.2.2.2.2.2.2.2.1
      refine vx_catch (name := "java/lang/IllegalStateException") hown [⟨0, 9, 12, 25⟩] ⟨0, 9, 15, 15⟩ [] htab (fun z hz => (List.mem_cons.mp hz).elim (fun e9 => by subst e9; exact Or.inr ⟨by decide, "java/lang/IndexOutOfBoundsException", hc0, hNc ("java/lang/IllegalStateException", "java/lang/IndexOutOfBoundsException") (by decide +kernel)⟩) (fun hz => absurd hz List.not_mem_nil)) (by decide) (by decide) hc1 (va_Nw.use rfl (hE.2.2.2.1 _ (by decide +kernel))) hcell hv hcl ?_
      refine lv_astore_n (lv' := [(3, .ref q9), (0, .ref x0), (1, .int x1), (2, .ref out)]) hx hb dL_carry_15 rfl hl (by decide) rfl (fun ls hl => ?_)
      refine lv_iconst (v := 2) hx hb dL_carry_16 (by decide) ?_
      exact r_iretW hx hb hlk hr hW (Or.inr ⟨2, hP, rfl⟩) (by decide) (by decide) dL_carry_17
  · obtain ⟨z, m2, hv9, hz⟩ := hPr _ _ hP
    subst hv9
    refine W.eq (g2 := F0 m 7 ls [.int z, .int 0, .ref out]) rfl ?_
    refine lv_i2l hx hb dL_carry_7 rfl ?_
    refine r_lstK hx hb hE.1 hW hz dL_carry_8 (fun H locs hW => ?_)
    refine lv_goto (tgt := 18) hx hb dL_carry_9 (by decide) ?_
    refine lv_iconst (v := 0) hx hb dL_carry_18 (by decide) ?_
    exact r_iretW hx hb hlk hr hW (Or.inl ⟨z, m9, hP, rfl, hz⟩) (by decide) (by decide) dL_carry_19

set_option maxHeartbeats 1000000 in
set_option maxRecDepth 100000 in
theorem k_L_differences (l : Launch) (G : GG) (A : Nat → Prop) (mu : Mem) (x0 : Nat) (x1 : Int32) (out : Nat) (P9 : Nat ⊕ Option Value → Mem → Prop) (hO : Ok l yX4_differences wsX4_differences ({ frames := 12, cells := 2, slots := 12, locals := 230 } : Room) [.ref x0, .int x1] G A mu P9) (hx0 : ok9 mu 6 x0) (hPr : ∀ v μ9, P9 (.inr v) μ9 → ∃ (z : Int32) (m2 : Mem), v = some (.int z) ∧ lst μ9 out 0 z.toInt64 = some m2) (hPe : ∀ e μ9, P9 (.inl e) μ9 → e = 3 ∨ e = 2) : Ok l yL_differences wsL_differences ({ frames := 14, cells := 2, slots := 12, locals := 270 } : Room) [.ref x0, .int x1, .ref out] G A mu (fun r9 m9 => (∃ (z : Int32) (μ9 : Mem), P9 (.inr (some (.int z))) μ9 ∧ r9 = .inr (some (.int 0)) ∧ lst μ9 out 0 z.toInt64 = some m9) ∨ (∃ e : Nat, P9 (.inl e) m9 ∧ r9 = .inr (some (.int (if e = 3 then 1 else 2))))) := by
  refine Ok.startW (cc := cL_differences) (maxL := 4) (ret := some .int) (hh := [(0, 9, 12, 25), (0, 9, 15, 15)]) rfl (by decide +kernel) (Nat.le_of_ble_eq_true rfl) ?_
  intro p e s m args below meth c ls hx hb hml hown hts hE hlk htab hA9 hr hW hl
  have hts : ∀ w ∈ wsL_differences, w.before args s = true := hts
  have hown : s.vm.findClass RL = some m.cls := hown
  have hl : lv_has ls 4 [(0, .ref x0), (1, .int x1), (2, .ref out)] := hl
  have hc0 : (Cond.classLink RL 25 "java/lang/IndexOutOfBoundsException").before args s = true := hts _ (by decide +kernel)
  have hc1 : (Cond.classLink RL 15 "java/lang/IllegalStateException").before args s = true := hts _ (by decide +kernel)
  refine lv_aload_n hx hb dL_differences_0 rfl (lv_at hl 2 rfl) ?_
  refine lv_iconst (v := 0) hx hb dL_differences_1 (by decide) ?_
  refine lv_aload_n hx hb dL_differences_2 rfl (lv_at hl 0 rfl) ?_
  refine lv_iload_n hx hb dL_differences_3 rfl (lv_at hl 1 rfl) ?_
  refine r_callVK (b := x0) (P9 := P9) (ci := 6) hx hb hml hown hts hE hA9 hW hl.1 hO gL_differences_X4_differences rfl hx0 (by decide) rfl (by decide +kernel) (n := 1) rfl (by decide) (Nat.le_of_ble_eq_true rfl) dL_differences_4 rfl (fun e9 E ce q9 m9 H locs hP hE9 hW hcell hv hcl => ?_) (fun v m9 H locs hP hW => ?_)
  · rcases hPe _ _ hP with rfl | rfl
    · subst hE9
      have hNc := hE.2.2.2.2.2.2.2.2.2.2.2.1
      refine vx_catch (name := "java/lang/IndexOutOfBoundsException") hown [] ⟨0, 9, 12, 25⟩ [⟨0, 9, 15, 15⟩] htab (fun z hz => absurd hz List.not_mem_nil) (by decide) (by decide) hc0 (va_Nw.use rfl (hE.2.2.2.1 _ (by decide +kernel))) hcell hv hcl ?_
      refine lv_astore_n (lv' := [(3, .ref q9), (0, .ref x0), (1, .int x1), (2, .ref out)]) hx hb dL_differences_12 rfl hl (by decide) rfl (fun ls hl => ?_)
      refine lv_iconst (v := 1) hx hb dL_differences_13 (by decide) ?_
      exact r_iretW hx hb hlk hr hW (Or.inr ⟨3, hP, rfl⟩) (by decide) (by decide) dL_differences_14
    · subst hE9
      have hNc := hE.2.2.2.2.2.2.2.2.2.2.2.1
      refine vx_catch (name := "java/lang/IllegalStateException") hown [⟨0, 9, 12, 25⟩] ⟨0, 9, 15, 15⟩ [] htab (fun z hz => (List.mem_cons.mp hz).elim (fun e9 => by subst e9; exact Or.inr ⟨by decide, "java/lang/IndexOutOfBoundsException", hc0, hNc ("java/lang/IllegalStateException", "java/lang/IndexOutOfBoundsException") (by decide +kernel)⟩) (fun hz => absurd hz List.not_mem_nil)) (by decide) (by decide) hc1 (va_Nw.use rfl (hE.2.2.2.1 _ (by decide +kernel))) hcell hv hcl ?_
      refine lv_astore_n (lv' := [(3, .ref q9), (0, .ref x0), (1, .int x1), (2, .ref out)]) hx hb dL_differences_15 rfl hl (by decide) rfl (fun ls hl => ?_)
      refine lv_iconst (v := 2) hx hb dL_differences_16 (by decide) ?_
      exact r_iretW hx hb hlk hr hW (Or.inr ⟨2, hP, rfl⟩) (by decide) (by decide) dL_differences_17
  · obtain ⟨z, m2, hv9, hz⟩ := hPr _ _ hP
    subst hv9
    refine W.eq (g2 := F0 m 7 ls [.int z, .int 0, .ref out]) rfl ?_
    refine lv_i2l hx hb dL_differences_7 rfl ?_
    refine r_lstK hx hb hE.1 hW hz dL_differences_8 (fun H locs hW => ?_)
    refine lv_goto (tgt := 18) hx hb dL_differences_9 (by decide) ?_
    refine lv_iconst (v := 0) hx hb dL_differences_18 (by decide) ?_
    exact r_iretW hx hb hlk hr hW (Or.inl ⟨z, m9, hP, rfl, hz⟩) (by decide) (by decide) dL_differences_19

set_option maxHeartbeats 1000000 in
set_option maxRecDepth 100000 in
theorem k_L_differencesByComparing (l : Launch) (G : GG) (A : Nat → Prop) (mu : Mem) (x0 : Nat) (x1 : Int32) (out : Nat) (P9 : Nat ⊕ Option Value → Mem → Prop) (hO : Ok l yX4_differencesByComparing wsX4_differencesByComparing ({ frames := 12, cells := 2, slots := 12, locals := 230 } : Room) [.ref x0, .int x1] G A mu P9) (hx0 : ok9 mu 6 x0) (hPr : ∀ v μ9, P9 (.inr v) μ9 → ∃ (z : Int32) (m2 : Mem), v = some (.int z) ∧ lst μ9 out 0 z.toInt64 = some m2) (hPe : ∀ e μ9, P9 (.inl e) μ9 → e = 3 ∨ e = 2) : Ok l yL_differencesByComparing wsL_differencesByComparing ({ frames := 14, cells := 2, slots := 12, locals := 270 } : Room) [.ref x0, .int x1, .ref out] G A mu (fun r9 m9 => (∃ (z : Int32) (μ9 : Mem), P9 (.inr (some (.int z))) μ9 ∧ r9 = .inr (some (.int 0)) ∧ lst μ9 out 0 z.toInt64 = some m9) ∨ (∃ e : Nat, P9 (.inl e) m9 ∧ r9 = .inr (some (.int (if e = 3 then 1 else 2))))) := by
  refine Ok.startW (cc := cL_differencesByComparing) (maxL := 4) (ret := some .int) (hh := [(0, 9, 12, 25), (0, 9, 15, 15)]) rfl (by decide +kernel) (Nat.le_of_ble_eq_true rfl) ?_
  intro p e s m args below meth c ls hx hb hml hown hts hE hlk htab hA9 hr hW hl
  have hts : ∀ w ∈ wsL_differencesByComparing, w.before args s = true := hts
  have hown : s.vm.findClass RL = some m.cls := hown
  have hl : lv_has ls 4 [(0, .ref x0), (1, .int x1), (2, .ref out)] := hl
  have hc0 : (Cond.classLink RL 25 "java/lang/IndexOutOfBoundsException").before args s = true := hts _ (by decide +kernel)
  have hc1 : (Cond.classLink RL 15 "java/lang/IllegalStateException").before args s = true := hts _ (by decide +kernel)
  refine lv_aload_n hx hb dL_differencesByComparing_0 rfl (lv_at hl 2 rfl) ?_
  refine lv_iconst (v := 0) hx hb dL_differencesByComparing_1 (by decide) ?_
  refine lv_aload_n hx hb dL_differencesByComparing_2 rfl (lv_at hl 0 rfl) ?_
  refine lv_iload_n hx hb dL_differencesByComparing_3 rfl (lv_at hl 1 rfl) ?_
  refine r_callVK (b := x0) (P9 := P9) (ci := 6) hx hb hml hown hts hE hA9 hW hl.1 hO gL_differencesByComparing_X4_differencesByComparing rfl hx0 (by decide) rfl (by decide +kernel) (n := 1) rfl (by decide) (Nat.le_of_ble_eq_true rfl) dL_differencesByComparing_4 rfl (fun e9 E ce q9 m9 H locs hP hE9 hW hcell hv hcl => ?_) (fun v m9 H locs hP hW => ?_)
  · rcases hPe _ _ hP with rfl | rfl
    · subst hE9
      have hNc := hE.2.2.2.2.2.2.2.2.2.2.2.1
      refine vx_catch (name := "java/lang/IndexOutOfBoundsException") hown [] ⟨0, 9, 12, 25⟩ [⟨0, 9, 15, 15⟩] htab (fun z hz => absurd hz List.not_mem_nil) (by decide) (by decide) hc0 (va_Nw.use rfl (hE.2.2.2.1 _ (by decide +kernel))) hcell hv hcl ?_
      refine lv_astore_n (lv' := [(3, .ref q9), (0, .ref x0), (1, .int x1), (2, .ref out)]) hx hb dL_differencesByComparing_12 rfl hl (by decide) rfl (fun ls hl => ?_)
      refine lv_iconst (v := 1) hx hb dL_differencesByComparing_13 (by decide) ?_
      exact r_iretW hx hb hlk hr hW (Or.inr ⟨3, hP, rfl⟩) (by decide) (by decide) dL_differencesByComparing_14
    · subst hE9
      have hNc := hE.2.2.2.2.2.2.2.2.2.2.2.1
      refine vx_catch (name := "java/lang/IllegalStateException") hown [⟨0, 9, 12, 25⟩] ⟨0, 9, 15, 15⟩ [] htab (fun z hz => (List.mem_cons.mp hz).elim (fun e9 => by subst e9; exact Or.inr ⟨by decide, "java/lang/IndexOutOfBoundsException", hc0, hNc ("java/lang/IllegalStateException", "java/lang/IndexOutOfBoundsException") (by decide +kernel)⟩) (fun hz => absurd hz List.not_mem_nil)) (by decide) (by decide) hc1 (va_Nw.use rfl (hE.2.2.2.1 _ (by decide +kernel))) hcell hv hcl ?_
      refine lv_astore_n (lv' := [(3, .ref q9), (0, .ref x0), (1, .int x1), (2, .ref out)]) hx hb dL_differencesByComparing_15 rfl hl (by decide) rfl (fun ls hl => ?_)
      refine lv_iconst (v := 2) hx hb dL_differencesByComparing_16 (by decide) ?_
      exact r_iretW hx hb hlk hr hW (Or.inr ⟨2, hP, rfl⟩) (by decide) (by decide) dL_differencesByComparing_17
  · obtain ⟨z, m2, hv9, hz⟩ := hPr _ _ hP
    subst hv9
    refine W.eq (g2 := F0 m 7 ls [.int z, .int 0, .ref out]) rfl ?_
    refine lv_i2l hx hb dL_differencesByComparing_7 rfl ?_
    refine r_lstK hx hb hE.1 hW hz dL_differencesByComparing_8 (fun H locs hW => ?_)
    refine lv_goto (tgt := 18) hx hb dL_differencesByComparing_9 (by decide) ?_
    refine lv_iconst (v := 0) hx hb dL_differencesByComparing_18 (by decide) ?_
    exact r_iretW hx hb hlk hr hW (Or.inl ⟨z, m9, hP, rfl, hz⟩) (by decide) (by decide) dL_differencesByComparing_19

set_option maxHeartbeats 1000000 in
set_option maxRecDepth 100000 in
theorem k_L_copied (l : Launch) (G : GG) (A : Nat → Prop) (mu : Mem) (x0 : Nat) (x1 : Int32) (out : Nat) (P9 : Nat ⊕ Option Value → Mem → Prop) (hO : Ok l yX4_copied wsX4_copied ({ frames := 8, cells := 2, slots := 12, locals := 150 } : Room) [.ref x0, .int x1] G A mu P9) (hx0 : ok9 mu 6 x0) (hPr : ∀ v μ9, P9 (.inr v) μ9 → ∃ (z : Int32) (m2 : Mem), v = some (.int z) ∧ lst μ9 out 0 z.toInt64 = some m2) (hPe : ∀ e μ9, P9 (.inl e) μ9 → e = 4 ∨ e = 2) : Ok l yL_copied wsL_copied ({ frames := 10, cells := 2, slots := 12, locals := 190 } : Room) [.ref x0, .int x1, .ref out] G A mu (fun r9 m9 => (∃ (z : Int32) (μ9 : Mem), P9 (.inr (some (.int z))) μ9 ∧ r9 = .inr (some (.int 0)) ∧ lst μ9 out 0 z.toInt64 = some m9) ∨ (∃ e : Nat, P9 (.inl e) m9 ∧ r9 = .inr (some (.int (if e = 4 then 1 else 2))))) := by
  refine Ok.startW (cc := cL_copied) (maxL := 4) (ret := some .int) (hh := [(0, 9, 12, 40), (0, 9, 15, 15)]) rfl (by decide +kernel) (Nat.le_of_ble_eq_true rfl) ?_
  intro p e s m args below meth c ls hx hb hml hown hts hE hlk htab hA9 hr hW hl
  have hts : ∀ w ∈ wsL_copied, w.before args s = true := hts
  have hown : s.vm.findClass RL = some m.cls := hown
  have hl : lv_has ls 4 [(0, .ref x0), (1, .int x1), (2, .ref out)] := hl
  have hc0 : (Cond.classLink RL 40 "java/util/NoSuchElementException").before args s = true := hts _ (by decide +kernel)
  have hc1 : (Cond.classLink RL 15 "java/lang/IllegalStateException").before args s = true := hts _ (by decide +kernel)
  refine lv_aload_n hx hb dL_copied_0 rfl (lv_at hl 2 rfl) ?_
  refine lv_iconst (v := 0) hx hb dL_copied_1 (by decide) ?_
  refine lv_aload_n hx hb dL_copied_2 rfl (lv_at hl 0 rfl) ?_
  refine lv_iload_n hx hb dL_copied_3 rfl (lv_at hl 1 rfl) ?_
  refine r_callVK (b := x0) (P9 := P9) (ci := 6) hx hb hml hown hts hE hA9 hW hl.1 hO gL_copied_X4_copied rfl hx0 (by decide) rfl (by decide +kernel) (n := 1) rfl (by decide) (Nat.le_of_ble_eq_true rfl) dL_copied_4 rfl (fun e9 E ce q9 m9 H locs hP hE9 hW hcell hv hcl => ?_) (fun v m9 H locs hP hW => ?_)
  · rcases hPe _ _ hP with rfl | rfl
    · subst hE9
      have hNc := hE.2.2.2.2.2.2.2.2.2.2.2.1
      refine vx_catch (name := "java/util/NoSuchElementException") hown [] ⟨0, 9, 12, 40⟩ [⟨0, 9, 15, 15⟩] htab (fun z hz => absurd hz List.not_mem_nil) (by decide) (by decide) hc0 (va_Nw.use rfl (hE.2.2.2.1 _ (by decide +kernel))) hcell hv hcl ?_
      refine lv_astore_n (lv' := [(3, .ref q9), (0, .ref x0), (1, .int x1), (2, .ref out)]) hx hb dL_copied_12 rfl hl (by decide) rfl (fun ls hl => ?_)
      refine lv_iconst (v := 1) hx hb dL_copied_13 (by decide) ?_
      exact r_iretW hx hb hlk hr hW (Or.inr ⟨4, hP, rfl⟩) (by decide) (by decide) dL_copied_14
    · subst hE9
      have hNc := hE.2.2.2.2.2.2.2.2.2.2.2.1
      refine vx_catch (name := "java/lang/IllegalStateException") hown [⟨0, 9, 12, 40⟩] ⟨0, 9, 15, 15⟩ [] htab (fun z hz => (List.mem_cons.mp hz).elim (fun e9 => by subst e9; exact Or.inr ⟨by decide, "java/util/NoSuchElementException", hc0, hNc ("java/lang/IllegalStateException", "java/util/NoSuchElementException") (by decide +kernel)⟩) (fun hz => absurd hz List.not_mem_nil)) (by decide) (by decide) hc1 (va_Nw.use rfl (hE.2.2.2.1 _ (by decide +kernel))) hcell hv hcl ?_
      refine lv_astore_n (lv' := [(3, .ref q9), (0, .ref x0), (1, .int x1), (2, .ref out)]) hx hb dL_copied_15 rfl hl (by decide) rfl (fun ls hl => ?_)
      refine lv_iconst (v := 2) hx hb dL_copied_16 (by decide) ?_
      exact r_iretW hx hb hlk hr hW (Or.inr ⟨2, hP, rfl⟩) (by decide) (by decide) dL_copied_17
  · obtain ⟨z, m2, hv9, hz⟩ := hPr _ _ hP
    subst hv9
    refine W.eq (g2 := F0 m 7 ls [.int z, .int 0, .ref out]) rfl ?_
    refine lv_i2l hx hb dL_copied_7 rfl ?_
    refine r_lstK hx hb hE.1 hW hz dL_copied_8 (fun H locs hW => ?_)
    refine lv_goto (tgt := 18) hx hb dL_copied_9 (by decide) ?_
    refine lv_iconst (v := 0) hx hb dL_copied_18 (by decide) ?_
    exact r_iretW hx hb hlk hr hW (Or.inl ⟨z, m9, hP, rfl, hz⟩) (by decide) (by decide) dL_copied_19

set_option maxHeartbeats 1000000 in
set_option maxRecDepth 100000 in
theorem k_L_meanPitch (l : Launch) (G : GG) (A : Nat → Prop) (mu : Mem) (x0 : Nat) (x1 : Int32) (out : Nat) (P9 : Nat ⊕ Option Value → Mem → Prop) (hO : Ok l yX4_meanPitch wsX4_meanPitch ({ frames := 10, cells := 2, slots := 12, locals := 190 } : Room) [.ref x0, .int x1] G A mu P9) (hx0 : ok9 mu 6 x0) (hPr : ∀ v μ9, P9 (.inr v) μ9 → ∃ (z : UInt64) (m2 : Mem), v = some (.double z) ∧ dst μ9 out 0 z = some m2) (hPe : ∀ e μ9, P9 (.inl e) μ9 → e = 3 ∨ e = 6) : Ok l yL_meanPitch wsL_meanPitch ({ frames := 12, cells := 2, slots := 12, locals := 230 } : Room) [.ref x0, .int x1, .ref out] G A mu (fun r9 m9 => (∃ (z : UInt64) (μ9 : Mem), P9 (.inr (some (.double z))) μ9 ∧ r9 = .inr (some (.int 0)) ∧ dst μ9 out 0 z = some m9) ∨ (∃ e : Nat, P9 (.inl e) m9 ∧ r9 = .inr (some (.int (if e = 3 then 1 else 2))))) := by
  refine Ok.startW (cc := cL_meanPitch) (maxL := 4) (ret := some .int) (hh := [(0, 8, 11, 25), (0, 8, 14, 133)]) rfl (by decide +kernel) (Nat.le_of_ble_eq_true rfl) ?_
  intro p e s m args below meth c ls hx hb hml hown hts hE hlk htab hA9 hr hW hl
  have hts : ∀ w ∈ wsL_meanPitch, w.before args s = true := hts
  have hown : s.vm.findClass RL = some m.cls := hown
  have hl : lv_has ls 4 [(0, .ref x0), (1, .int x1), (2, .ref out)] := hl
  have hc0 : (Cond.classLink RL 25 "java/lang/IndexOutOfBoundsException").before args s = true := hts _ (by decide +kernel)
  have hc1 : (Cond.classLink RL 133 "java/lang/ArithmeticException").before args s = true := hts _ (by decide +kernel)
  refine lv_aload_n hx hb dL_meanPitch_0 rfl (lv_at hl 2 rfl) ?_
  refine lv_iconst (v := 0) hx hb dL_meanPitch_1 (by decide) ?_
  refine lv_aload_n hx hb dL_meanPitch_2 rfl (lv_at hl 0 rfl) ?_
  refine lv_iload_n hx hb dL_meanPitch_3 rfl (lv_at hl 1 rfl) ?_
  refine r_callVK (b := x0) (P9 := P9) (ci := 6) hx hb hml hown hts hE hA9 hW hl.1 hO gL_meanPitch_X4_meanPitch rfl hx0 (by decide) rfl (by decide +kernel) (n := 1) rfl (by decide) (Nat.le_of_ble_eq_true rfl) dL_meanPitch_4 rfl (fun e9 E ce q9 m9 H locs hP hE9 hW hcell hv hcl => ?_) (fun v m9 H locs hP hW => ?_)
  · rcases hPe _ _ hP with rfl | rfl
    · subst hE9
      have hNc := hE.2.2.2.2.2.2.2.2.2.2.2.1
      refine vx_catch (name := "java/lang/IndexOutOfBoundsException") hown [] ⟨0, 8, 11, 25⟩ [⟨0, 8, 14, 133⟩] htab (fun z hz => absurd hz List.not_mem_nil) (by decide) (by decide) hc0 (va_Nw.use rfl (hE.2.2.2.1 _ (by decide +kernel))) hcell hv hcl ?_
      refine lv_astore_n (lv' := [(3, .ref q9), (0, .ref x0), (1, .int x1), (2, .ref out)]) hx hb dL_meanPitch_11 rfl hl (by decide) rfl (fun ls hl => ?_)
      refine lv_iconst (v := 1) hx hb dL_meanPitch_12 (by decide) ?_
      exact r_iretW hx hb hlk hr hW (Or.inr ⟨3, hP, rfl⟩) (by decide) (by decide) dL_meanPitch_13
    · subst hE9
      have hNc := hE.2.2.2.2.2.2.2.2.2.2.2.1
      refine vx_catch (name := "java/lang/ArithmeticException") hown [⟨0, 8, 11, 25⟩] ⟨0, 8, 14, 133⟩ [] htab (fun z hz => (List.mem_cons.mp hz).elim (fun e9 => by subst e9; exact Or.inr ⟨by decide, "java/lang/IndexOutOfBoundsException", hc0, hNc ("java/lang/ArithmeticException", "java/lang/IndexOutOfBoundsException") (by decide +kernel)⟩) (fun hz => absurd hz List.not_mem_nil)) (by decide) (by decide) hc1 (va_Nw.use rfl (hE.2.2.2.1 _ (by decide +kernel))) hcell hv hcl ?_
      refine lv_astore_n (lv' := [(3, .ref q9), (0, .ref x0), (1, .int x1), (2, .ref out)]) hx hb dL_meanPitch_14 rfl hl (by decide) rfl (fun ls hl => ?_)
      refine lv_iconst (v := 2) hx hb dL_meanPitch_15 (by decide) ?_
      exact r_iretW hx hb hlk hr hW (Or.inr ⟨6, hP, rfl⟩) (by decide) (by decide) dL_meanPitch_16
  · obtain ⟨z, m2, hv9, hz⟩ := hPr _ _ hP
    subst hv9
    refine W.eq (g2 := F0 m 7 ls [.double z, .int 0, .ref out]) rfl ?_
    refine r_dstK hx hb hE.1 hW hz dL_meanPitch_7 (fun H locs hW => ?_)
    refine lv_goto (tgt := 17) hx hb dL_meanPitch_8 (by decide) ?_
    refine lv_iconst (v := 0) hx hb dL_meanPitch_17 (by decide) ?_
    exact r_iretW hx hb hlk hr hW (Or.inl ⟨z, m9, hP, rfl, hz⟩) (by decide) (by decide) dL_meanPitch_18

set_option maxHeartbeats 1000000 in
set_option maxRecDepth 100000 in
theorem k_L_restShare (l : Launch) (G : GG) (A : Nat → Prop) (mu : Mem) (x0 : Nat) (x1 : Int32) (out : Nat) (P9 : Nat ⊕ Option Value → Mem → Prop) (hO : Ok l yX4_restShare wsX4_restShare ({ frames := 12, cells := 2, slots := 12, locals := 230 } : Room) [.ref x0, .int x1] G A mu P9) (hx0 : ok9 mu 6 x0) (hPr : ∀ v μ9, P9 (.inr v) μ9 → ∃ (z : UInt32) (m2 : Mem), v = some (.float z) ∧ dst μ9 out 0 (FP.f2d z) = some m2 ∧ vf_n64 (FP.f2d z)) (hPe : ∀ e μ9, P9 (.inl e) μ9 → e = 3 ∨ e = 6) : Ok l yL_restShare wsL_restShare ({ frames := 14, cells := 2, slots := 12, locals := 270 } : Room) [.ref x0, .int x1, .ref out] G A mu (fun r9 m9 => (∃ (z : UInt32) (μ9 : Mem), P9 (.inr (some (.float z))) μ9 ∧ r9 = .inr (some (.int 0)) ∧ dst μ9 out 0 (FP.f2d z) = some m9) ∨ (∃ e : Nat, P9 (.inl e) m9 ∧ r9 = .inr (some (.int (if e = 3 then 1 else 2))))) := by
  refine Ok.startW (cc := cL_restShare) (maxL := 4) (ret := some .int) (hh := [(0, 9, 12, 25), (0, 9, 15, 133)]) rfl (by decide +kernel) (Nat.le_of_ble_eq_true rfl) ?_
  intro p e s m args below meth c ls hx hb hml hown hts hE hlk htab hA9 hr hW hl
  have hts : ∀ w ∈ wsL_restShare, w.before args s = true := hts
  have hown : s.vm.findClass RL = some m.cls := hown
  have hl : lv_has ls 4 [(0, .ref x0), (1, .int x1), (2, .ref out)] := hl
  have hc0 : (Cond.classLink RL 25 "java/lang/IndexOutOfBoundsException").before args s = true := hts _ (by decide +kernel)
  have hc1 : (Cond.classLink RL 133 "java/lang/ArithmeticException").before args s = true := hts _ (by decide +kernel)
  refine lv_aload_n hx hb dL_restShare_0 rfl (lv_at hl 2 rfl) ?_
  refine lv_iconst (v := 0) hx hb dL_restShare_1 (by decide) ?_
  refine lv_aload_n hx hb dL_restShare_2 rfl (lv_at hl 0 rfl) ?_
  refine lv_iload_n hx hb dL_restShare_3 rfl (lv_at hl 1 rfl) ?_
  refine r_callVK (b := x0) (P9 := P9) (ci := 6) hx hb hml hown hts hE hA9 hW hl.1 hO gL_restShare_X4_restShare rfl hx0 (by decide) rfl (by decide +kernel) (n := 1) rfl (by decide) (Nat.le_of_ble_eq_true rfl) dL_restShare_4 rfl (fun e9 E ce q9 m9 H locs hP hE9 hW hcell hv hcl => ?_) (fun v m9 H locs hP hW => ?_)
  · rcases hPe _ _ hP with rfl | rfl
    · subst hE9
      have hNc := hE.2.2.2.2.2.2.2.2.2.2.2.1
      refine vx_catch (name := "java/lang/IndexOutOfBoundsException") hown [] ⟨0, 9, 12, 25⟩ [⟨0, 9, 15, 133⟩] htab (fun z hz => absurd hz List.not_mem_nil) (by decide) (by decide) hc0 (va_Nw.use rfl (hE.2.2.2.1 _ (by decide +kernel))) hcell hv hcl ?_
      refine lv_astore_n (lv' := [(3, .ref q9), (0, .ref x0), (1, .int x1), (2, .ref out)]) hx hb dL_restShare_12 rfl hl (by decide) rfl (fun ls hl => ?_)
      refine lv_iconst (v := 1) hx hb dL_restShare_13 (by decide) ?_
      exact r_iretW hx hb hlk hr hW (Or.inr ⟨3, hP, rfl⟩) (by decide) (by decide) dL_restShare_14
    · subst hE9
      have hNc := hE.2.2.2.2.2.2.2.2.2.2.2.1
      refine vx_catch (name := "java/lang/ArithmeticException") hown [⟨0, 9, 12, 25⟩] ⟨0, 9, 15, 133⟩ [] htab (fun z hz => (List.mem_cons.mp hz).elim (fun e9 => by subst e9; exact Or.inr ⟨by decide, "java/lang/IndexOutOfBoundsException", hc0, hNc ("java/lang/ArithmeticException", "java/lang/IndexOutOfBoundsException") (by decide +kernel)⟩) (fun hz => absurd hz List.not_mem_nil)) (by decide) (by decide) hc1 (va_Nw.use rfl (hE.2.2.2.1 _ (by decide +kernel))) hcell hv hcl ?_
      refine lv_astore_n (lv' := [(3, .ref q9), (0, .ref x0), (1, .int x1), (2, .ref out)]) hx hb dL_restShare_15 rfl hl (by decide) rfl (fun ls hl => ?_)
      refine lv_iconst (v := 2) hx hb dL_restShare_16 (by decide) ?_
      exact r_iretW hx hb hlk hr hW (Or.inr ⟨6, hP, rfl⟩) (by decide) (by decide) dL_restShare_17
  · obtain ⟨z, m2, hv9, hz, hnan⟩ := hPr _ _ hP
    subst hv9
    refine W.eq (g2 := F0 m 7 ls [.float z, .int 0, .ref out]) rfl ?_
    refine lv_f2d hx hb dL_restShare_7 hnan ?_
    refine r_dstK hx hb hE.1 hW hz dL_restShare_8 (fun H locs hW => ?_)
    refine lv_goto (tgt := 18) hx hb dL_restShare_9 (by decide) ?_
    refine lv_iconst (v := 0) hx hb dL_restShare_18 (by decide) ?_
    exact r_iretW hx hb hlk hr hW (Or.inl ⟨z, m9, hP, rfl, hz⟩) (by decide) (by decide) dL_restShare_19
