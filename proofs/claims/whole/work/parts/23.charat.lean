/-! the JDK's charAt on the one String constant of the reference -/
section R17
variable {p : Program} {l : Launch} {e : Env} {R : Room} {s : State} {m : MethodId} {args : Array Value} {below : List Frame} {meth : Method} {c : Code} {H : Heap} {locs : List Loc} {cells slots : Nat} {Q : State → Prop} {cc : ByteArray} {pc nL : Nat} {ls : Array Slot} {rest : List Value} {own : String} {Ts : List Cond} {G : GG} {A : Nat → Prop} {μ : Mem} {P : Nat ⊕ Option Value → Mem → Prop} {mc ms : Nat}
theorem r_callVr {y : MethodName} {wsY wsY' : List Cond} {bytes : ByteArray} {maxL n index b : Nat} {C : String} {ret : Option FieldType} {rmY : Room} {As : List Value} {res : Nat ⊕ Option Value} {μ9 : Mem} {v9 : Option Value} (X : BX p l s m args meth c cc nL own Ts G A) (hW : MW G A μ s.heap H locs) (hl : ls.size = nL)
    (hO : Ok l y wsY rmY (.ref b :: As) G A μ (dP res μ9)) (hg : GoodIn Ts (wsV own index C y wsY)) (hw : wsY = .code y bytes maxL ret :: wsY') (hrecv : ∃ cell : Cell, H[b]? = some cell ∧ cell.vm.isStatics = false ∧ s.vm.findClass C = some cell.cls)
    (hd : y.cls = C ∧ y.cls ≠ "java/lang/invoke/MethodHandle" ∧ y.cls ≠ "java/lang/invoke/VarHandle" ∧ (parseMethodDescriptor y.desc).map (fun d => d.parameters.length) = some n) (hn : As.length = n) (hR : rmY.frames + 1 ≤ R.frames ∧ 8 + (maxL + 11) + rmY.locals ≤ R.locals ∧ cells + rmY.cells ≤ R.cells ∧ slots + rmY.slots ≤ R.slots ∧ cells + rmY.cells ≤ mc ∧ slots + rmY.slots ≤ ms) (hcat : (rest.map fun v => v.category).sum ≤ 8)
    (hdg : decode cc pc = .ok (.invokevirtual index, 3)) (hres : res = .inr v9) {st0 : List Value} (hst : st0 = As.reverse ++ .ref b :: rest) {stk : List Value} (hstk : v9.toList ++ rest = stk)
    (kk : ∀ (H1 : Heap) (locs1 : List Loc), MW G A μ9 s.heap H1 locs1 → W p l e R s m args below meth c H1 locs1 (cells + rmY.cells) (slots + rmY.slots) (QQ below G A P args s mc ms) (F0 m (pc + 3) ls stk)) :
    W p l e R s m args below meth c H locs cells slots (QQ below G A P args s mc ms) (F0 m pc ls st0) := by
  refine r_run X hW (rmY := rmY) (P9 := dP res μ9) (a9 := (Value.ref b :: As).toArray) (rest := rest) ?_ (fun e9 μ' h => ?_) hR.2.2.2.2.1 hR.2.2.2.2.2 (fun v μ' H1 locs1 h hW1 => ?_)
  · exact vx_runV (As := As) (rest := rest) ⟨X.1, X.2.1, X.2.2.1, X.2.2.2.1, X.2.2.2.2.1⟩ hO (cwV n X.2.2.2.2.1 hg hw rfl rfl hd ⟨hR.1, hR.2.1⟩) ⟨Pn_blind, hrecv, fun U hU hWm => pre_of X hW U hU hWm⟩ rfl hn hl hst (lv_room hcat) hdg ⟨hR.2.2.1, hR.2.2.2.1⟩
  · have h1 := h.1; rw [hres] at h1; cases h1
  · obtain ⟨h1, rfl⟩ := h
    rw [hres] at h1
    cases h1
    rw [hstk]
    exact kk H1 locs1 hW1
end R17
def ltr (k : Nat) : Int32 := ([70, 67, 71, 68, 65, 69, 66] : List Int32).getD k 0
theorem k_J3_checkIndex (l : Launch) (hsl : l.stackTraces = false) (G : GG) (A : Nat → Prop) (mu : Mem) (i n : Int32) (q : Option Nat) (h1 : ¬ i < 0) (h2 : i < n) : Ok l yJ3_checkIndex_8e157 wsJ3_checkIndex_8e157 ({ frames := 6, cells := 0, slots := 0, locals := 110 } : Room) [.int i, .int n, va_rf q] G A mu (dP (.inr (rI i)) mu) := by
  refine Ok.startF (cc := cJ3_checkIndex_8e157) (maxL := 3) (ret := some .int) rfl (by decide +kernel) hsl (by cases q <;> exact Nat.le_of_ble_eq_true rfl) ?_
  intro p e s m args below meth c ls X hr hname hW hl
  have hx := X.1
  have hb := X.2.1
  have hl : lv_has ls 3 [(0, .int i), (1, .int n), (2, va_rf q)] := by cases q <;> exact hl
  refine lv_iload_n hx hb dJ3_checkIndex_8e157_0 rfl (lv_at hl 0 rfl) ?_
  refine lv_if_lt (tgt := 9) hx hb dJ3_checkIndex_8e157_1 (by decide) (fun hc => absurd hc h1) (fun _ => ?_)
  refine lv_iload_n hx hb dJ3_checkIndex_8e157_4 rfl (lv_at hl 0 rfl) ?_
  refine lv_iload_n hx hb dJ3_checkIndex_8e157_5 rfl (lv_at hl 1 rfl) ?_
  refine lv_icmp_lt (tgt := 16) hx hb dJ3_checkIndex_8e157_6 (by decide) (fun _ => ?_) (fun hc => absurd h2 hc)
  refine lv_iload_n hx hb dJ3_checkIndex_8e157_16 rfl (lv_at hl 0 rfl) ?_
  exact r_iret X hr hW ⟨rfl, rfl⟩ (by decide) (by decide) dJ3_checkIndex_8e157_17
theorem k_J0_checkIndex (l : Launch) (hsl : l.stackTraces = false) (G : GG) (A : Nat → Prop) (mu : Mem) (i n : Int32) (h1 : ¬ i < 0) (h2 : i < n) : Ok l yJ0_checkIndex_df160 wsJ0_checkIndex_df160 ({ frames := 8, cells := 0, slots := 0, locals := 150 } : Room) [.int i, .int n] G A mu (dP (.inr none) mu) := by
  refine Ok.startF (cc := cJ0_checkIndex_df160) (maxL := 2) (ret := none) rfl (by decide +kernel) hsl (Nat.le_of_ble_eq_true rfl) ?_
  intro p e s m args below meth c ls X hr hname hW hl
  have X : BX p l s m args meth c cJ0_checkIndex_df160 2 RJ0 wsJ0_checkIndex_df160 G A := X
  have hx := X.1
  have hb := X.2.1
  have hts := X.2.2.2.2.1
  have hE := X.2.2.2.2.2.1
  have hl : lv_has ls 2 [(0, .int i), (1, .int n)] := hl
  have hF : (Cond.fieldLink RJ0 1053 "jdk/internal/util/Preconditions" "SIOOBE_FORMATTER" "Ljava/util/function/BiFunction;").before args s = true := hts _ (by decide +kernel)
  have hz : ∃ q : Option Nat, va_Z "jdk/internal/util/Preconditions" "SIOOBE_FORMATTER" "Ljava/util/function/BiFunction;" (va_rf q) A s s.heap := by
    rcases hE.2.2.2.2.2.2.2.2.2.2.2.2.2.1 with h | ⟨t, h⟩
    · exact ⟨none, h⟩
    · exact ⟨some t, h⟩
  obtain ⟨q, hz⟩ := hz
  refine lv_iload_n hx hb dJ0_checkIndex_df160_0 rfl (lv_at hl 0 rfl) ?_
  refine lv_iload_n hx hb dJ0_checkIndex_df160_1 rfl (lv_at hl 1 rfl) ?_
  refine va_gets hx hb hz hW.2 X.2.2.2.1 hF (fun _ h => h) dJ0_checkIndex_df160_2 ?_
  refine r_callS_ok X hW hl.1 (k_J3_checkIndex l hsl G A mu i n q h1 h2) gJ0_checkIndex_df160_J3_checkIndex_8e157 rfl (by decide +kernel) (n := 3) rfl (by decide) (Nat.le_of_ble_eq_true rfl) dJ0_checkIndex_df160_5 rfl rfl (stk := [.int i]) rfl (fun H locs hW => ?_)
  refine lv_pop hx hb dJ0_checkIndex_df160_8 rfl ?_
  exact r_vret X hr hW ⟨rfl, rfl⟩ (by decide) (by decide) dJ0_checkIndex_df160_9
theorem ltr_at : ∀ k, k < 7 → (((([70, 67, 71, 68, 65, 69, 66] : List Int32).getD k 0) &&& 255).toUInt32 % 65536).toInt32 = ltr k ∧ 0 ≤ (ltr k).toInt ∧ (ltr k).toInt < 65536 := by decide
theorem k_J1_charAt (l : Launch) (hsl : l.stackTraces = false) (G : GG) (A : Nat → Prop) (mu : Mem) (k : Nat) (hk : k < 7) : Ok l yJ1_charAt_3b067 wsJ1_charAt_3b067 ({ frames := 10, cells := 0, slots := 0, locals := 190 } : Room) [.ref (G.2.2 2000), .int (nI k)] G A mu (dP (.inr (rI (ltr k))) mu) := by
  refine Ok.startF (cc := cJ1_charAt_3b067) (maxL := 2) (ret := some .char) rfl (by decide +kernel) hsl (Nat.le_of_ble_eq_true rfl) ?_
  intro p e s m args below meth c ls X hr hname hW hl
  have X : BX p l s m args meth c cJ1_charAt_3b067 2 RJ1 wsJ1_charAt_3b067 G A := X
  have hx := X.1
  have hb := X.2.1
  have hts := X.2.2.2.2.1
  have hE := X.2.2.2.2.2.1
  have hl : lv_has ls 2 [(0, .ref (G.2.2 2000)), (1, .int (nI k))] := hl
  have hT : va_T .byte (G.2.2 2000) 7 (fun j => .int (([70, 67, 71, 68, 65, 69, 66] : List Int32).getD j 0)) A s s.heap := (hE.2.2.2.2.2.2.2.2.2.2.2.2.2.2.1.1 0 (by decide)).2.2.2
  refine lv_iload_n hx hb dJ1_charAt_3b067_0 rfl (lv_at hl 1 rfl) ?_
  refine lv_aload_n hx hb dJ1_charAt_3b067_1 rfl (lv_at hl 0 rfl) ?_
  refine va_tlen hx hb hT hW.2 (v := nI 7) rfl dJ1_charAt_3b067_2 ?_
  refine r_callS_ok X hW hl.1 (k_J0_checkIndex l hsl G A mu (nI k) (nI 7) (nI_pos (by omega)) (nI_lt hk (by decide))) gJ1_charAt_3b067_J0_checkIndex_df160 rfl (by decide +kernel) (n := 2) rfl (by decide) (Nat.le_of_ble_eq_true rfl) dJ1_charAt_3b067_3 rfl rfl (stk := []) rfl (fun H locs hW => ?_)
  refine lv_aload_n hx hb dJ1_charAt_3b067_6 rfl (lv_at hl 0 rfl) ?_
  refine lv_iload_n hx hb dJ1_charAt_3b067_7 rfl (lv_at hl 1 rfl) ?_
  refine va_tb hx hb hT hW.2 (vp_in_nI hk (by decide)) (v := .int (([70, 67, 71, 68, 65, 69, 66] : List Int32).getD k 0)) (by rw [nI_clamp (by omega)]) dJ1_charAt_3b067_8 ?_
  refine lv_sipush (v := 255) hx hb dJ1_charAt_3b067_9 (by decide) ?_
  refine lv_iand hx hb dJ1_charAt_3b067_12 ?_
  refine lv_i2c hx hb dJ1_charAt_3b067_13 (ltr_at k hk).1 ?_
  exact r_cret X hr hW (ltr_at k hk).2 ⟨rfl, rfl⟩ (by decide) (by decide) dJ1_charAt_3b067_14
theorem k_J0_isLatin1 (l : Launch) (hsl : l.stackTraces = false) (G : GG) (A : Nat → Prop) (mu : Mem) : Ok l yJ0_isLatin1_aae02 wsJ0_isLatin1_aae02 ({ frames := 6, cells := 0, slots := 0, locals := 110 } : Room) [.ref (G.2.2 1000)] G A mu (dP (.inr (rI 1)) mu) := by
  refine Ok.startF (cc := cJ0_isLatin1_aae02) (maxL := 1) (ret := some .boolean) rfl (by decide +kernel) hsl (Nat.le_of_ble_eq_true rfl) ?_
  intro p e s m args below meth c ls X hr hname hW hl
  have X : BX p l s m args meth c cJ0_isLatin1_aae02 1 RJ0 wsJ0_isLatin1_aae02 G A := X
  have hx := X.1
  have hb := X.2.1
  have hts := X.2.2.2.2.1
  have hE := X.2.2.2.2.2.1
  have hl : lv_has ls 1 [(0, .ref (G.2.2 1000))] := hl
  have hF1 : (Cond.fieldLink RJ0 38 "java/lang/String" "COMPACT_STRINGS" "Z").before args s = true := hts _ (by decide +kernel)
  have hF2 : (Cond.fieldLink RJ0 15 "java/lang/String" "coder" "B").before args s = true := hts _ (by decide +kernel)
  refine va_gets hx hb hE.2.2.2.2.2.2.2.2.2.2.2.2.1 hW.2 X.2.2.2.1 hF1 (fun _ h => h) dJ0_isLatin1_aae02_0 ?_
  refine lv_if_eq (tgt := 17) hx hb dJ0_isLatin1_aae02_3 (by decide) (fun hc => absurd hc (by decide)) (fun _ => ?_)
  refine lv_aload_n hx hb dJ0_isLatin1_aae02_6 rfl (lv_at hl 0 rfl) ?_
  refine vk_getf hx hb (hE.2.2.2.2.2.2.2.2.2.2.2.2.2.2.1.1 0 (by decide)).2.1 hW.2 X.2.2.2.1 hF2 (fun _ h => h) dJ0_isLatin1_aae02_7 ?_
  refine lv_if_ne (tgt := 17) hx hb dJ0_isLatin1_aae02_10 (by decide) (fun hc => absurd rfl hc) (fun _ => ?_)
  refine lv_iconst (v := 1) hx hb dJ0_isLatin1_aae02_13 (by decide) ?_
  refine lv_goto (tgt := 18) hx hb dJ0_isLatin1_aae02_14 (by decide) ?_
  exact r_zret X hr hW (Or.inr rfl) ⟨rfl, rfl⟩ (by decide) (by decide) dJ0_isLatin1_aae02_18
theorem k_J0_charAt (l : Launch) (hsl : l.stackTraces = false) (G : GG) (A : Nat → Prop) (mu : Mem) (k : Nat) (hk : k < 7) : Ok l yJ0_charAt_5068e wsJ0_charAt_5068e ({ frames := 12, cells := 0, slots := 0, locals := 230 } : Room) [.ref (G.2.2 1000), .int (nI k)] G A mu (dP (.inr (rI (ltr k))) mu) := by
  refine Ok.startF (cc := cJ0_charAt_5068e) (maxL := 2) (ret := some .char) rfl (by decide +kernel) hsl (Nat.le_of_ble_eq_true rfl) ?_
  intro p e s m args below meth c ls X hr hname hW hl
  have X : BX p l s m args meth c cJ0_charAt_5068e 2 RJ0 wsJ0_charAt_5068e G A := X
  have hx := X.1
  have hb := X.2.1
  have hts := X.2.2.2.2.1
  have hE := X.2.2.2.2.2.1
  have hl : lv_has ls 2 [(0, .ref (G.2.2 1000)), (1, .int (nI k))] := hl
  have hF : (Cond.fieldLink RJ0 9 "java/lang/String" "value" "[B").before args s = true := hts _ (by decide +kernel)
  have hS1 := hE.2.2.2.2.2.2.2.2.2.2.2.2.2.2.1
  refine lv_aload_n hx hb dJ0_charAt_5068e_0 rfl (lv_at hl 0 rfl) ?_
  refine r_callVr X hW hl.1 (k_J0_isLatin1 l hsl G A mu) gJ0_charAt_5068e_J0_isLatin1_aae02 rfl (vk_recv hS1 (i := 0) (by decide) hW.2) (by decide +kernel) (n := 0) rfl (by decide) (Nat.le_of_ble_eq_true rfl) dJ0_charAt_5068e_1 rfl rfl (stk := [.int 1]) rfl (fun H locs hW => ?_)
  refine lv_if_eq (tgt := 16) hx hb dJ0_charAt_5068e_4 (by decide) (fun hc => absurd hc (by decide)) (fun _ => ?_)
  refine lv_aload_n hx hb dJ0_charAt_5068e_7 rfl (lv_at hl 0 rfl) ?_
  refine vk_getf hx hb (hS1.1 0 (by decide)).2.2.1 hW.2 X.2.2.2.1 hF (fun _ h => h) dJ0_charAt_5068e_8 ?_
  refine lv_iload_n hx hb dJ0_charAt_5068e_11 rfl (lv_at hl 1 rfl) ?_
  refine r_callS_ok X hW hl.1 (k_J1_charAt l hsl G A mu k hk) gJ0_charAt_5068e_J1_charAt_3b067 rfl (by decide +kernel) (n := 2) rfl (by decide) (Nat.le_of_ble_eq_true rfl) dJ0_charAt_5068e_12 rfl rfl (stk := [.int (ltr k)]) rfl (fun H locs hW => ?_)
  exact r_cret X hr hW (ltr_at k hk).2 ⟨rfl, rfl⟩ (by decide) (by decide) dJ0_charAt_5068e_15
/-- the letter at a place, as a program -/
def chr9 (x : Int32) : Option Int32 := if inb x 7 = true then some (ltr x.toNatClampNeg) else none
theorem chr9_ok {x r : Int32} (h : chr9 x = some r) : ∃ k, k < 7 ∧ x = nI k ∧ r = ltr k := by
  obtain ⟨h1, rfl⟩ := ifs h
  obtain ⟨k, hk, rfl⟩ := vp_in_of (inb_vp h1) (by decide)
  exact ⟨k, hk, rfl, by rw [nI_clamp (by omega)]⟩
