def f_X5_makes_L48 (u0_48 : Nat) (u1_48 : Int32) (u2_48 : Int32) (k9 : Mem → Int32 → Int32 → Option ((Unit) × Mem)) : Nat → Mem → Int32 → Int32 → Option ((Unit) × Mem)
  | 0, _, _, _ => none
  | n + 1, mu48, w3_48, w4_48 => (getI mu48 7 23 u0_48).bind fun t29 => if t29 ≤ w4_48 then (k9 mu48 w3_48 w4_48) else ((getQ mu48 7 22 u0_48).bind fun t31 => t31.bind fun a33 => (ald mu48 a33 w4_48).bind fun t35 => if t35 ≤ 0 then ((getQ mu48 7 21 u0_48).bind fun t37 => t37.bind fun a39 => (ald mu48 a39 w4_48).bind fun t41 => (chk mu48 7 u0_48).bind fun _ => (f_X5_many mu48 u0_48 u1_48 t41).bind fun t44 => if w4_48 ≤ u2_48 then ((chk mu48 7 u0_48).bind fun _ => (f_X5_turnBehind mu48 u0_48 u1_48 w4_48).bind fun t47 => (getQ mu48 7 24 u0_48).bind fun t49 => t49.bind fun a51 => (ald mu48 a51 (w4_48 + 1)).bind fun t53 => (getQ mu48 7 25 u0_48).bind fun t55 => t55.bind fun a57 => (ald mu48 a57 (w4_48 + 1)).bind fun t59 => (getQ mu48 7 26 u0_48).bind fun t61 => t61.bind fun a63 => (ald mu48 a63 u2_48).bind fun t65 => if t65 ≤ 0 then ((getQ mu48 7 24 u0_48).bind fun t67 => t67.bind fun a69 => (ast mu48 a69 u2_48 (t47 + t53)).bind fun m71 => (getQ m71 7 25 u0_48).bind fun t73 => t73.bind fun a75 => (ast m71 a75 u2_48 (1 + t59)).bind fun m77 => (getQ m77 7 26 u0_48).bind fun t79 => t79.bind fun a81 => (ast m77 a81 u2_48 ((w4_48 - u2_48) + 1)).bind fun m83 => f_X5_makes_L48 u0_48 u1_48 u2_48 k9 n m83 (w3_48 + t44) (w4_48 + 1)) else ((getQ mu48 7 24 u0_48).bind fun t85 => t85.bind fun a87 => (ald mu48 a87 u2_48).bind fun t89 => if t89 < (t47 + t53) then (f_X5_makes_L48 u0_48 u1_48 u2_48 k9 n mu48 (w3_48 + t44) (w4_48 + 1)) else ((getQ mu48 7 24 u0_48).bind fun t91 => t91.bind fun a93 => (ald mu48 a93 u2_48).bind fun t95 => if (t47 + t53) = t95 then ((getQ mu48 7 25 u0_48).bind fun t115 => t115.bind fun a117 => (ald mu48 a117 u2_48).bind fun t119 => if (1 + t59) ≤ t119 then ((getQ mu48 7 24 u0_48).bind fun t121 => t121.bind fun a123 => (ast mu48 a123 u2_48 (t47 + t53)).bind fun m125 => (getQ m125 7 25 u0_48).bind fun t127 => t127.bind fun a129 => (ast m125 a129 u2_48 (1 + t59)).bind fun m131 => (getQ m131 7 26 u0_48).bind fun t133 => t133.bind fun a135 => (ast m131 a135 u2_48 ((w4_48 - u2_48) + 1)).bind fun m137 => f_X5_makes_L48 u0_48 u1_48 u2_48 k9 n m137 (w3_48 + t44) (w4_48 + 1)) else (f_X5_makes_L48 u0_48 u1_48 u2_48 k9 n mu48 (w3_48 + t44) (w4_48 + 1))) else ((getQ mu48 7 24 u0_48).bind fun t97 => t97.bind fun a99 => (ast mu48 a99 u2_48 (t47 + t53)).bind fun m101 => (getQ m101 7 25 u0_48).bind fun t103 => t103.bind fun a105 => (ast m101 a105 u2_48 (1 + t59)).bind fun m107 => (getQ m107 7 26 u0_48).bind fun t109 => t109.bind fun a111 => (ast m107 a111 u2_48 ((w4_48 - u2_48) + 1)).bind fun m113 => f_X5_makes_L48 u0_48 u1_48 u2_48 k9 n m113 (w3_48 + t44) (w4_48 + 1))))) else ((getI mu48 7 18 u0_48).bind fun t139 => if (w3_48 + t44) ≤ t139 then ((chk mu48 7 u0_48).bind fun _ => (f_X5_turnBehind mu48 u0_48 u1_48 w4_48).bind fun t142 => (getQ mu48 7 24 u0_48).bind fun t144 => t144.bind fun a146 => (ald mu48 a146 (w4_48 + 1)).bind fun t148 => (getQ mu48 7 25 u0_48).bind fun t150 => t150.bind fun a152 => (ald mu48 a152 (w4_48 + 1)).bind fun t154 => (getQ mu48 7 26 u0_48).bind fun t156 => t156.bind fun a158 => (ald mu48 a158 u2_48).bind fun t160 => if t160 ≤ 0 then ((getQ mu48 7 24 u0_48).bind fun t162 => t162.bind fun a164 => (ast mu48 a164 u2_48 (t142 + t148)).bind fun m166 => (getQ m166 7 25 u0_48).bind fun t168 => t168.bind fun a170 => (ast m166 a170 u2_48 (1 + t154)).bind fun m172 => (getQ m172 7 26 u0_48).bind fun t174 => t174.bind fun a176 => (ast m172 a176 u2_48 ((w4_48 - u2_48) + 1)).bind fun m178 => f_X5_makes_L48 u0_48 u1_48 u2_48 k9 n m178 (w3_48 + t44) (w4_48 + 1)) else ((getQ mu48 7 24 u0_48).bind fun t180 => t180.bind fun a182 => (ald mu48 a182 u2_48).bind fun t184 => if t184 < (t142 + t148) then (f_X5_makes_L48 u0_48 u1_48 u2_48 k9 n mu48 (w3_48 + t44) (w4_48 + 1)) else ((getQ mu48 7 24 u0_48).bind fun t186 => t186.bind fun a188 => (ald mu48 a188 u2_48).bind fun t190 => if (t142 + t148) = t190 then ((getQ mu48 7 25 u0_48).bind fun t210 => t210.bind fun a212 => (ald mu48 a212 u2_48).bind fun t214 => if (1 + t154) ≤ t214 then ((getQ mu48 7 24 u0_48).bind fun t216 => t216.bind fun a218 => (ast mu48 a218 u2_48 (t142 + t148)).bind fun m220 => (getQ m220 7 25 u0_48).bind fun t222 => t222.bind fun a224 => (ast m220 a224 u2_48 (1 + t154)).bind fun m226 => (getQ m226 7 26 u0_48).bind fun t228 => t228.bind fun a230 => (ast m226 a230 u2_48 ((w4_48 - u2_48) + 1)).bind fun m232 => f_X5_makes_L48 u0_48 u1_48 u2_48 k9 n m232 (w3_48 + t44) (w4_48 + 1)) else (f_X5_makes_L48 u0_48 u1_48 u2_48 k9 n mu48 (w3_48 + t44) (w4_48 + 1))) else ((getQ mu48 7 24 u0_48).bind fun t192 => t192.bind fun a194 => (ast mu48 a194 u2_48 (t142 + t148)).bind fun m196 => (getQ m196 7 25 u0_48).bind fun t198 => t198.bind fun a200 => (ast m196 a200 u2_48 (1 + t154)).bind fun m202 => (getQ m202 7 26 u0_48).bind fun t204 => t204.bind fun a206 => (ast m202 a206 u2_48 ((w4_48 - u2_48) + 1)).bind fun m208 => f_X5_makes_L48 u0_48 u1_48 u2_48 k9 n m208 (w3_48 + t44) (w4_48 + 1))))) else (k9 mu48 (w3_48 + t44) w4_48))) else (if w4_48 ≤ u2_48 then ((chk mu48 7 u0_48).bind fun _ => (f_X5_turnBehind mu48 u0_48 u1_48 w4_48).bind fun t235 => (getQ mu48 7 24 u0_48).bind fun t237 => t237.bind fun a239 => (ald mu48 a239 (w4_48 + 1)).bind fun t241 => (getQ mu48 7 25 u0_48).bind fun t243 => t243.bind fun a245 => (ald mu48 a245 (w4_48 + 1)).bind fun t247 => (getQ mu48 7 26 u0_48).bind fun t249 => t249.bind fun a251 => (ald mu48 a251 u2_48).bind fun t253 => if t253 ≤ 0 then ((getQ mu48 7 24 u0_48).bind fun t255 => t255.bind fun a257 => (ast mu48 a257 u2_48 (t235 + t241)).bind fun m259 => (getQ m259 7 25 u0_48).bind fun t261 => t261.bind fun a263 => (ast m259 a263 u2_48 (1 + t247)).bind fun m265 => (getQ m265 7 26 u0_48).bind fun t267 => t267.bind fun a269 => (ast m265 a269 u2_48 ((w4_48 - u2_48) + 1)).bind fun m271 => f_X5_makes_L48 u0_48 u1_48 u2_48 k9 n m271 (w3_48 + 1) (w4_48 + 1)) else ((getQ mu48 7 24 u0_48).bind fun t273 => t273.bind fun a275 => (ald mu48 a275 u2_48).bind fun t277 => if t277 < (t235 + t241) then (f_X5_makes_L48 u0_48 u1_48 u2_48 k9 n mu48 (w3_48 + 1) (w4_48 + 1)) else ((getQ mu48 7 24 u0_48).bind fun t279 => t279.bind fun a281 => (ald mu48 a281 u2_48).bind fun t283 => if (t235 + t241) = t283 then ((getQ mu48 7 25 u0_48).bind fun t303 => t303.bind fun a305 => (ald mu48 a305 u2_48).bind fun t307 => if (1 + t247) ≤ t307 then ((getQ mu48 7 24 u0_48).bind fun t309 => t309.bind fun a311 => (ast mu48 a311 u2_48 (t235 + t241)).bind fun m313 => (getQ m313 7 25 u0_48).bind fun t315 => t315.bind fun a317 => (ast m313 a317 u2_48 (1 + t247)).bind fun m319 => (getQ m319 7 26 u0_48).bind fun t321 => t321.bind fun a323 => (ast m319 a323 u2_48 ((w4_48 - u2_48) + 1)).bind fun m325 => f_X5_makes_L48 u0_48 u1_48 u2_48 k9 n m325 (w3_48 + 1) (w4_48 + 1)) else (f_X5_makes_L48 u0_48 u1_48 u2_48 k9 n mu48 (w3_48 + 1) (w4_48 + 1))) else ((getQ mu48 7 24 u0_48).bind fun t285 => t285.bind fun a287 => (ast mu48 a287 u2_48 (t235 + t241)).bind fun m289 => (getQ m289 7 25 u0_48).bind fun t291 => t291.bind fun a293 => (ast m289 a293 u2_48 (1 + t247)).bind fun m295 => (getQ m295 7 26 u0_48).bind fun t297 => t297.bind fun a299 => (ast m295 a299 u2_48 ((w4_48 - u2_48) + 1)).bind fun m301 => f_X5_makes_L48 u0_48 u1_48 u2_48 k9 n m301 (w3_48 + 1) (w4_48 + 1))))) else ((getI mu48 7 18 u0_48).bind fun t327 => if (w3_48 + 1) ≤ t327 then ((chk mu48 7 u0_48).bind fun _ => (f_X5_turnBehind mu48 u0_48 u1_48 w4_48).bind fun t330 => (getQ mu48 7 24 u0_48).bind fun t332 => t332.bind fun a334 => (ald mu48 a334 (w4_48 + 1)).bind fun t336 => (getQ mu48 7 25 u0_48).bind fun t338 => t338.bind fun a340 => (ald mu48 a340 (w4_48 + 1)).bind fun t342 => (getQ mu48 7 26 u0_48).bind fun t344 => t344.bind fun a346 => (ald mu48 a346 u2_48).bind fun t348 => if t348 ≤ 0 then ((getQ mu48 7 24 u0_48).bind fun t350 => t350.bind fun a352 => (ast mu48 a352 u2_48 (t330 + t336)).bind fun m354 => (getQ m354 7 25 u0_48).bind fun t356 => t356.bind fun a358 => (ast m354 a358 u2_48 (1 + t342)).bind fun m360 => (getQ m360 7 26 u0_48).bind fun t362 => t362.bind fun a364 => (ast m360 a364 u2_48 ((w4_48 - u2_48) + 1)).bind fun m366 => f_X5_makes_L48 u0_48 u1_48 u2_48 k9 n m366 (w3_48 + 1) (w4_48 + 1)) else ((getQ mu48 7 24 u0_48).bind fun t368 => t368.bind fun a370 => (ald mu48 a370 u2_48).bind fun t372 => if t372 < (t330 + t336) then (f_X5_makes_L48 u0_48 u1_48 u2_48 k9 n mu48 (w3_48 + 1) (w4_48 + 1)) else ((getQ mu48 7 24 u0_48).bind fun t374 => t374.bind fun a376 => (ald mu48 a376 u2_48).bind fun t378 => if (t330 + t336) = t378 then ((getQ mu48 7 25 u0_48).bind fun t398 => t398.bind fun a400 => (ald mu48 a400 u2_48).bind fun t402 => if (1 + t342) ≤ t402 then ((getQ mu48 7 24 u0_48).bind fun t404 => t404.bind fun a406 => (ast mu48 a406 u2_48 (t330 + t336)).bind fun m408 => (getQ m408 7 25 u0_48).bind fun t410 => t410.bind fun a412 => (ast m408 a412 u2_48 (1 + t342)).bind fun m414 => (getQ m414 7 26 u0_48).bind fun t416 => t416.bind fun a418 => (ast m414 a418 u2_48 ((w4_48 - u2_48) + 1)).bind fun m420 => f_X5_makes_L48 u0_48 u1_48 u2_48 k9 n m420 (w3_48 + 1) (w4_48 + 1)) else (f_X5_makes_L48 u0_48 u1_48 u2_48 k9 n mu48 (w3_48 + 1) (w4_48 + 1))) else ((getQ mu48 7 24 u0_48).bind fun t380 => t380.bind fun a382 => (ast mu48 a382 u2_48 (t330 + t336)).bind fun m384 => (getQ m384 7 25 u0_48).bind fun t386 => t386.bind fun a388 => (ast m384 a388 u2_48 (1 + t342)).bind fun m390 => (getQ m390 7 26 u0_48).bind fun t392 => t392.bind fun a394 => (ast m390 a394 u2_48 ((w4_48 - u2_48) + 1)).bind fun m396 => f_X5_makes_L48 u0_48 u1_48 u2_48 k9 n m396 (w3_48 + 1) (w4_48 + 1))))) else (k9 mu48 (w3_48 + 1) w4_48))))
def f_X5_makes_L32 (u0_32 : Nat) (u1_32 : Int32) (k9 : Mem → Int32 → Option ((Unit) × Mem)) : Nat → Mem → Int32 → Option ((Unit) × Mem)
  | 0, _, _ => none
  | n + 1, mu32, w2_32 => if w2_32 < 0 then (k9 mu32 w2_32) else ((getQ mu32 7 26 u0_32).bind fun t23 => t23.bind fun a25 => (ast mu32 a25 w2_32 0).bind fun m27 => f_X5_makes_L48 u0_32 u1_32 w2_32 (fun (zmu48 : Mem) (zw3_48 : Int32) (zw4_48 : Int32) => f_X5_makes_L32 u0_32 u1_32 k9 n zmu48 (w2_32 + (-1))) 200 m27 0 w2_32)
def f_X5_makes (mu : Mem) (x0 : Nat) (x1 : Int32) : Option ((Unit) × Mem) := (chk mu 7 x0).bind fun _ => bi2 (f_X5_finds mu x0 x1) (fun (t2 : (Unit)) m4 => (getQ m4 7 24 x0).bind fun t5 => (getI m4 7 23 x0).bind fun t7 => t5.bind fun a9 => (ast m4 a9 t7 0).bind fun m11 => (getQ m11 7 25 x0).bind fun t13 => (getI m11 7 23 x0).bind fun t15 => t13.bind fun a17 => (ast m11 a17 t15 0).bind fun m19 => (getI m19 7 23 x0).bind fun t21 => f_X5_makes_L32 x0 x1 (fun (zmu32 : Mem) (zw2_32 : Int32) => some ((), zmu32)) 200 m19 (t21 - 1))
set_option maxHeartbeats 1000000 in
set_option maxRecDepth 100000 in
theorem k_X5_makes (l : Launch) (hsl : l.stackTraces = false) (G : GG) (A : Nat → Prop) (mu : Mem) (x0 : Nat) (x1 : Int32) (r : (Unit) × Mem) (hf : f_X5_makes mu x0 x1 = some r) : Ok l yX5_makes wsX5_makes ({ frames := 12, cells := 0, slots := 0, locals := 230 } : Room) [.ref x0, .int x1] G A mu (dP (.inr (rV r.1)) r.2) := by
  refine Ok.start (cc := cX5_makes) (maxL := 7) (ret := none) rfl (by decide +kernel) hsl (by first | exact Nat.le_of_ble_eq_true rfl | simp [lg_sl, cat_rf, Value.category]) ?_
  intro p e s m args below meth c ls X hr hname hW hl
  have X : BX p l s m args meth c cX5_makes 7 RX5 wsX5_makes G A := X
  have hx := X.1
  have hb := X.2.1
  have hts := X.2.2.2.2.1
  have hl : lv_has ls 7 [(0, .ref x0), (1, .int x1)] := hl
  have hinX5 : ∀ w ∈ wsX50, w ∈ wsX5_makes := by decide +kernel
  have hF159 : (Cond.fieldLink RX5 159 "PartcopyistBenchModel" "blocks" "I").before args s = true := hts _ (by decide +kernel)
  have hF53 : (Cond.fieldLink RX5 53 "PartcopyistBenchModel" "page" "I").before args s = true := hts _ (by decide +kernel)
  have hF63 : (Cond.fieldLink RX5 63 "PartcopyistBenchModel" "blockFirst" "[I").before args s = true := hts _ (by decide +kernel)
  have hF66 : (Cond.fieldLink RX5 66 "PartcopyistBenchModel" "blockRest" "[I").before args s = true := hts _ (by decide +kernel)
  have hF69 : (Cond.fieldLink RX5 69 "PartcopyistBenchModel" "hard" "[I").before args s = true := hts _ (by decide +kernel)
  have hF72 : (Cond.fieldLink RX5 72 "PartcopyistBenchModel" "pageMany" "[I").before args s = true := hts _ (by decide +kernel)
  have hF75 : (Cond.fieldLink RX5 75 "PartcopyistBenchModel" "take" "[I").before args s = true := hts _ (by decide +kernel)
  unfold f_X5_makes at hf
  refine lv_aload_n hx hb dX5_makes_0 rfl (lv_at hl 0 rfl) ?_
  refine lv_iload_n hx hb dX5_makes_1 rfl (lv_at hl 1 rfl) ?_
  replace hf := bnd hf
  obtain ⟨_, h1, hf⟩ := hf
  replace hf := bnd2 hf
  obtain ⟨t2, m4, h3, hf⟩ := hf
  refine r_callV_ok (μ9 := m4) X hW hl.1 (k_X5_finds l hsl G A mu x0 x1 _ h3) gX5_makes_X5_finds rfl (chk_ok h1) (by decide) rfl (by decide +kernel) (n := 1) rfl (by decide) (Nat.le_of_ble_eq_true rfl) dX5_makes_2 rfl rfl (stk := []) rfl (fun H locs hW => ?_)
  refine lv_aload_n hx hb dX5_makes_5 rfl (lv_at hl 0 rfl) ?_
  replace hf := bnd hf
  obtain ⟨t5, h6, hf⟩ := hf
  refine g_7_24 X hW hinX5 hF69 h6 dX5_makes_6 ?_
  refine lv_aload_n hx hb dX5_makes_9 rfl (lv_at hl 0 rfl) ?_
  replace hf := bnd hf
  obtain ⟨t7, h8, hf⟩ := hf
  refine g_7_23 X hW hinX5 hF159 h8 dX5_makes_10 ?_
  refine lv_iconst (v := 0) hx hb dX5_makes_13 (by decide) ?_
  replace hf := bnd hf
  obtain ⟨a9, h10, hf⟩ := hf
  subst h10
  replace hf := bnd hf
  obtain ⟨m11, h12, hf⟩ := hf
  refine r_ast X hW h12 dX5_makes_14 (fun H locs hW => ?_)
  refine lv_aload_n hx hb dX5_makes_15 rfl (lv_at hl 0 rfl) ?_
  replace hf := bnd hf
  obtain ⟨t13, h14, hf⟩ := hf
  refine g_7_25 X hW hinX5 hF72 h14 dX5_makes_16 ?_
  refine lv_aload_n hx hb dX5_makes_19 rfl (lv_at hl 0 rfl) ?_
  replace hf := bnd hf
  obtain ⟨t15, h16, hf⟩ := hf
  refine g_7_23 X hW hinX5 hF159 h16 dX5_makes_20 ?_
  refine lv_iconst (v := 0) hx hb dX5_makes_23 (by decide) ?_
  replace hf := bnd hf
  obtain ⟨a17, h18, hf⟩ := hf
  subst h18
  replace hf := bnd hf
  obtain ⟨m19, h20, hf⟩ := hf
  refine r_ast X hW h20 dX5_makes_24 (fun H locs hW => ?_)
  refine lv_aload_n hx hb dX5_makes_25 rfl (lv_at hl 0 rfl) ?_
  replace hf := bnd hf
  obtain ⟨t21, h22, hf⟩ := hf
  refine g_7_23 X hW hinX5 hF159 h22 dX5_makes_26 ?_
  refine lv_iconst (v := 1) hx hb dX5_makes_29 (by decide) ?_
  refine lv_isub hx hb dX5_makes_30 ?_
  refine lv_istore_n (lv' := [(2, .int (t21 - 1)), (0, .ref x0), (1, .int x1)]) hx hb dX5_makes_31 rfl hl (by decide) rfl (fun ls hl => ?_)
  have L32 : ∀ (u0_32 : Nat) (u1_32 : Int32) (k9 : Mem → Int32 → Option ((Unit) × Mem)),
      (∀ (mu32 : Mem) (w2_32 : Int32) (H : Heap) (locs : List Loc) (ls : Array Slot), k9 mu32 w2_32 = some r → MW G A mu32 s.heap H locs → lv_has ls 7 [(0, .ref u0_32), (1, .int u1_32), (2, .int w2_32)] → W p l e ({ frames := 12, cells := 0, slots := 0, locals := 230 } : Room) s m args below meth c H locs 0 0 (QQ below G A (dP (.inr (rV r.1)) r.2) args s 0 0) (F0 m 220 ls [])) →
      ∀ (n : Nat) (mu32 : Mem) (w2_32 : Int32) (H : Heap) (locs : List Loc) (ls : Array Slot), f_X5_makes_L32 u0_32 u1_32 k9 n mu32 w2_32 = some r → MW G A mu32 s.heap H locs → lv_has ls 7 [(0, .ref u0_32), (1, .int u1_32), (2, .int w2_32)] → W p l e ({ frames := 12, cells := 0, slots := 0, locals := 230 } : Room) s m args below meth c H locs 0 0 (QQ below G A (dP (.inr (rV r.1)) r.2) args s 0 0) (F0 m 32 ls []) := by
    intro u0_32 u1_32 k9 hk32 n
    induction n with
    | zero => intro mu32 w2_32 H locs ls hf hW hl; rw [f_X5_makes_L32] at hf; cases hf
    | succ n ih32 =>
      intro mu32 w2_32 H locs ls hf hW hl
      rw [f_X5_makes_L32] at hf
      refine lv_iload_n hx hb dX5_makes_32 rfl (lv_at hl 2 rfl) ?_
      refine lv_if_lt (tgt := 220) hx hb dX5_makes_33 (by decide) (fun hc => ?_) (fun hc => ?_)
      · replace hf := itp hc hf
        exact hk32 _ _ _ _ _ hf hW (lv_sub hl [0, 1, 2] rfl)
      · replace hf := itn hc hf
        refine lv_aload_n hx hb dX5_makes_36 rfl (lv_at hl 0 rfl) ?_
        replace hf := bnd hf
        obtain ⟨t23, h24, hf⟩ := hf
        refine g_7_26 X hW hinX5 hF75 h24 dX5_makes_37 ?_
        refine lv_iload_n hx hb dX5_makes_40 rfl (lv_at hl 2 rfl) ?_
        refine lv_iconst (v := 0) hx hb dX5_makes_41 (by decide) ?_
        replace hf := bnd hf
        obtain ⟨a25, h26, hf⟩ := hf
        subst h26
        replace hf := bnd hf
        obtain ⟨m27, h28, hf⟩ := hf
        refine r_ast X hW h28 dX5_makes_42 (fun H locs hW => ?_)
        refine lv_iconst (v := 0) hx hb dX5_makes_43 (by decide) ?_
        refine lv_istore_n (lv' := [(3, .int 0), (0, .ref u0_32), (1, .int u1_32), (2, .int w2_32)]) hx hb dX5_makes_44 rfl hl (by decide) rfl (fun ls hl => ?_)
        refine lv_iload_n hx hb dX5_makes_45 rfl (lv_at hl 3 rfl) ?_
        refine lv_istore (lv' := [(4, .int w2_32), (3, .int 0), (0, .ref u0_32), (1, .int u1_32), (2, .int w2_32)]) hx hb dX5_makes_46 hl (by decide) rfl (fun ls hl => ?_)
        have L48 : ∀ (u0_48 : Nat) (u1_48 : Int32) (u2_48 : Int32) (k9 : Mem → Int32 → Int32 → Option ((Unit) × Mem)),
            (∀ (mu48 : Mem) (w3_48 : Int32) (w4_48 : Int32) (H : Heap) (locs : List Loc) (ls : Array Slot), k9 mu48 w3_48 w4_48 = some r → MW G A mu48 s.heap H locs → lv_has ls 7 [(0, .ref u0_48), (1, .int u1_48), (2, .int u2_48), (3, .int w3_48), (4, .int w4_48)] → W p l e ({ frames := 12, cells := 0, slots := 0, locals := 230 } : Room) s m args below meth c H locs 0 0 (QQ below G A (dP (.inr (rV r.1)) r.2) args s 0 0) (F0 m 214 ls [])) →
            ∀ (n : Nat) (mu48 : Mem) (w3_48 : Int32) (w4_48 : Int32) (H : Heap) (locs : List Loc) (ls : Array Slot), f_X5_makes_L48 u0_48 u1_48 u2_48 k9 n mu48 w3_48 w4_48 = some r → MW G A mu48 s.heap H locs → lv_has ls 7 [(0, .ref u0_48), (1, .int u1_48), (2, .int u2_48), (3, .int w3_48), (4, .int w4_48)] → W p l e ({ frames := 12, cells := 0, slots := 0, locals := 230 } : Room) s m args below meth c H locs 0 0 (QQ below G A (dP (.inr (rV r.1)) r.2) args s 0 0) (F0 m 48 ls []) := by
          intro u0_48 u1_48 u2_48 k9 hk48 n
          induction n with
          | zero => intro mu48 w3_48 w4_48 H locs ls hf hW hl; rw [f_X5_makes_L48] at hf; cases hf
          | succ n ih48 =>
            intro mu48 w3_48 w4_48 H locs ls hf hW hl
            rw [f_X5_makes_L48] at hf
            refine lv_iload hx hb dX5_makes_48 (lv_at hl 4 rfl) ?_
            refine lv_aload_n hx hb dX5_makes_50 rfl (lv_at hl 0 rfl) ?_
            replace hf := bnd hf
            obtain ⟨t29, h30, hf⟩ := hf
            refine g_7_23 X hW hinX5 hF159 h30 dX5_makes_51 ?_
            refine lv_icmp_ge (tgt := 214) hx hb dX5_makes_54 (by decide) (fun hc => ?_) (fun hc => ?_)
            · replace hf := itp hc hf
              exact hk48 _ _ _ _ _ _ hf hW (lv_sub hl [0, 1, 2, 3, 4] rfl)
            · replace hf := itn hc hf
              refine lv_iload_n hx hb dX5_makes_57 rfl (lv_at hl 3 rfl) ?_
              refine lv_aload_n hx hb dX5_makes_58 rfl (lv_at hl 0 rfl) ?_
              replace hf := bnd hf
              obtain ⟨t31, h32, hf⟩ := hf
              refine g_7_22 X hW hinX5 hF66 h32 dX5_makes_59 ?_
              refine lv_iload hx hb dX5_makes_62 (lv_at hl 4 rfl) ?_
              replace hf := bnd hf
              obtain ⟨a33, h34, hf⟩ := hf
              subst h34
              replace hf := bnd hf
              obtain ⟨t35, h36, hf⟩ := hf
              refine r_ald X hW h36 dX5_makes_64 ?_
              refine lv_if_le (tgt := 72) hx hb dX5_makes_65 (by decide) (fun hc => ?_) (fun hc => ?_)
              · replace hf := itp hc hf
                refine lv_aload_n hx hb dX5_makes_72 rfl (lv_at hl 0 rfl) ?_
                refine lv_iload_n hx hb dX5_makes_73 rfl (lv_at hl 1 rfl) ?_
                refine lv_aload_n hx hb dX5_makes_74 rfl (lv_at hl 0 rfl) ?_
                replace hf := bnd hf
                obtain ⟨t37, h38, hf⟩ := hf
                refine g_7_21 X hW hinX5 hF63 h38 dX5_makes_75 ?_
                refine lv_iload hx hb dX5_makes_78 (lv_at hl 4 rfl) ?_
                replace hf := bnd hf
                obtain ⟨a39, h40, hf⟩ := hf
                subst h40
                replace hf := bnd hf
                obtain ⟨t41, h42, hf⟩ := hf
                refine r_ald X hW h42 dX5_makes_80 ?_
                replace hf := bnd hf
                obtain ⟨_, h43, hf⟩ := hf
                replace hf := bnd hf
                obtain ⟨t44, h45, hf⟩ := hf
                refine r_callV_ok X hW hl.1 (k_X5_many l hsl G A mu48 u0_48 u1_48 t41 _ h45) gX5_makes_X5_many rfl (chk_ok h43) (by decide) rfl (by decide +kernel) (n := 2) rfl (by decide) (Nat.le_of_ble_eq_true rfl) dX5_makes_81 rfl rfl (stk := [.int t44, .int w3_48]) rfl (fun H locs hW => ?_)
                refine lv_iadd hx hb dX5_makes_84 ?_
                refine lv_istore_n (lv' := [(3, .int (w3_48 + t44)), (0, .ref u0_48), (1, .int u1_48), (2, .int u2_48), (4, .int w4_48)]) hx hb dX5_makes_85 rfl hl (by decide) rfl (fun ls hl => ?_)
                refine lv_iload hx hb dX5_makes_86 (lv_at hl 4 rfl) ?_
                refine lv_iload_n hx hb dX5_makes_88 rfl (lv_at hl 3 rfl) ?_
                refine lv_icmp_le (tgt := 103) hx hb dX5_makes_89 (by decide) (fun hc => ?_) (fun hc => ?_)
                · replace hf := itp hc hf
                  refine lv_aload_n hx hb dX5_makes_103 rfl (lv_at hl 1 rfl) ?_
                  refine lv_iload_n hx hb dX5_makes_104 rfl (lv_at hl 2 rfl) ?_
                  refine lv_iload hx hb dX5_makes_105 (lv_at hl 4 rfl) ?_
                  replace hf := bnd hf
                  obtain ⟨_, h46, hf⟩ := hf
                  replace hf := bnd hf
                  obtain ⟨t47, h48, hf⟩ := hf
                  refine r_callV_ok X hW hl.1 (k_X5_turnBehind l hsl G A mu48 u0_48 u1_48 w4_48 _ h48) gX5_makes_X5_turnBehind rfl (chk_ok h46) (by decide) rfl (by decide +kernel) (n := 2) rfl (by decide) (Nat.le_of_ble_eq_true rfl) dX5_makes_107 rfl rfl (stk := [.int t47]) rfl (fun H locs hW => ?_)
                  refine lv_aload_n hx hb dX5_makes_110 rfl (lv_at hl 1 rfl) ?_
                  replace hf := bnd hf
                  obtain ⟨t49, h50, hf⟩ := hf
                  refine g_7_24 X hW hinX5 hF69 h50 dX5_makes_111 ?_
                  refine lv_iload hx hb dX5_makes_114 (lv_at hl 4 rfl) ?_
                  refine lv_iconst (v := 1) hx hb dX5_makes_116 (by decide) ?_
                  refine lv_iadd hx hb dX5_makes_117 ?_
                  replace hf := bnd hf
                  obtain ⟨a51, h52, hf⟩ := hf
                  subst h52
                  replace hf := bnd hf
                  obtain ⟨t53, h54, hf⟩ := hf
                  refine r_ald X hW h54 dX5_makes_118 ?_
                  refine lv_iadd hx hb dX5_makes_119 ?_
                  refine lv_istore (lv' := [(5, .int (t47 + t53)), (3, .int (w3_48 + t44)), (0, .ref u0_48), (1, .int u1_48), (2, .int u2_48), (4, .int w4_48)]) hx hb dX5_makes_120 hl (by decide) rfl (fun ls hl => ?_)
                  refine lv_iconst (v := 1) hx hb dX5_makes_122 (by decide) ?_
                  refine lv_aload_n hx hb dX5_makes_123 rfl (lv_at hl 2 rfl) ?_
                  replace hf := bnd hf
                  obtain ⟨t55, h56, hf⟩ := hf
                  refine g_7_25 X hW hinX5 hF72 h56 dX5_makes_124 ?_
                  refine lv_iload hx hb dX5_makes_127 (lv_at hl 5 rfl) ?_
                  refine lv_iconst (v := 1) hx hb dX5_makes_129 (by decide) ?_
                  refine lv_iadd hx hb dX5_makes_130 ?_
                  replace hf := bnd hf
                  obtain ⟨a57, h58, hf⟩ := hf
                  subst h58
                  replace hf := bnd hf
                  obtain ⟨t59, h60, hf⟩ := hf
                  refine r_ald X hW h60 dX5_makes_131 ?_
                  refine lv_iadd hx hb dX5_makes_132 ?_
                  refine lv_istore (lv' := [(6, .int (1 + t59)), (5, .int (t47 + t53)), (3, .int (w3_48 + t44)), (0, .ref u0_48), (1, .int u1_48), (2, .int u2_48), (4, .int w4_48)]) hx hb dX5_makes_133 hl (by decide) rfl (fun ls hl => ?_)
                  refine lv_aload_n hx hb dX5_makes_135 rfl (lv_at hl 3 rfl) ?_
                  replace hf := bnd hf
                  obtain ⟨t61, h62, hf⟩ := hf
                  refine g_7_26 X hW hinX5 hF75 h62 dX5_makes_136 ?_
                  refine lv_iload_n hx hb dX5_makes_139 rfl (lv_at hl 5 rfl) ?_
                  replace hf := bnd hf
                  obtain ⟨a63, h64, hf⟩ := hf
                  subst h64
                  replace hf := bnd hf
                  obtain ⟨t65, h66, hf⟩ := hf
                  refine r_ald X hW h66 dX5_makes_140 ?_
                  refine lv_if_le (tgt := 180) hx hb dX5_makes_141 (by decide) (fun hc => ?_) (fun hc => ?_)
                  · replace hf := itp hc hf
                    refine lv_aload_n hx hb dX5_makes_180 rfl (lv_at hl 3 rfl) ?_
                    replace hf := bnd hf
                    obtain ⟨t67, h68, hf⟩ := hf
                    refine g_7_24 X hW hinX5 hF69 h68 dX5_makes_181 ?_
                    refine lv_iload_n hx hb dX5_makes_184 rfl (lv_at hl 5 rfl) ?_
                    refine lv_iload hx hb dX5_makes_185 (lv_at hl 1 rfl) ?_
                    replace hf := bnd hf
                    obtain ⟨a69, h70, hf⟩ := hf
                    subst h70
                    replace hf := bnd hf
                    obtain ⟨m71, h72, hf⟩ := hf
                    refine r_ast X hW h72 dX5_makes_187 (fun H locs hW => ?_)
                    refine lv_aload_n hx hb dX5_makes_188 rfl (lv_at hl 3 rfl) ?_
                    replace hf := bnd hf
                    obtain ⟨t73, h74, hf⟩ := hf
                    refine g_7_25 X hW hinX5 hF72 h74 dX5_makes_189 ?_
                    refine lv_iload_n hx hb dX5_makes_192 rfl (lv_at hl 5 rfl) ?_
                    refine lv_iload hx hb dX5_makes_193 (lv_at hl 0 rfl) ?_
                    replace hf := bnd hf
                    obtain ⟨a75, h76, hf⟩ := hf
                    subst h76
                    replace hf := bnd hf
                    obtain ⟨m77, h78, hf⟩ := hf
                    refine r_ast X hW h78 dX5_makes_195 (fun H locs hW => ?_)
                    refine lv_aload_n hx hb dX5_makes_196 rfl (lv_at hl 3 rfl) ?_
                    replace hf := bnd hf
                    obtain ⟨t79, h80, hf⟩ := hf
                    refine g_7_26 X hW hinX5 hF75 h80 dX5_makes_197 ?_
                    refine lv_iload_n hx hb dX5_makes_200 rfl (lv_at hl 5 rfl) ?_
                    refine lv_iload hx hb dX5_makes_201 (lv_at hl 6 rfl) ?_
                    refine lv_iload_n hx hb dX5_makes_203 rfl (lv_at hl 5 rfl) ?_
                    refine lv_isub hx hb dX5_makes_204 ?_
                    refine lv_iconst (v := 1) hx hb dX5_makes_205 (by decide) ?_
                    refine lv_iadd hx hb dX5_makes_206 ?_
                    replace hf := bnd hf
                    obtain ⟨a81, h82, hf⟩ := hf
                    subst h82
                    replace hf := bnd hf
                    obtain ⟨m83, h84, hf⟩ := hf
                    refine r_ast X hW h84 dX5_makes_207 (fun H locs hW => ?_)
                    refine lv_iinc (v := (w4_48 + 1)) (lv' := [(4, .int (w4_48 + 1)), (6, .int (1 + t59)), (5, .int (t47 + t53)), (3, .int (w3_48 + t44)), (0, .ref u0_48), (1, .int u1_48), (2, .int u2_48)]) hx hb dX5_makes_208 hl (k := 6) rfl rfl (by decide) rfl (fun ls hl => ?_)
                    refine lv_goto (tgt := 48) hx hb dX5_makes_211 (by decide) ?_
                    exact ih48 _ _ _ _ _ _ hf hW (lv_sub hl [4, 5, 6, 3, 0] rfl)
                  · replace hf := itn hc hf
                    refine lv_iload hx hb dX5_makes_144 (lv_at hl 1 rfl) ?_
                    refine lv_aload_n hx hb dX5_makes_146 rfl (lv_at hl 3 rfl) ?_
                    replace hf := bnd hf
                    obtain ⟨t85, h86, hf⟩ := hf
                    refine g_7_24 X hW hinX5 hF69 h86 dX5_makes_147 ?_
                    refine lv_iload_n hx hb dX5_makes_150 rfl (lv_at hl 5 rfl) ?_
                    replace hf := bnd hf
                    obtain ⟨a87, h88, hf⟩ := hf
                    subst h88
                    replace hf := bnd hf
                    obtain ⟨t89, h90, hf⟩ := hf
                    refine r_ald X hW h90 dX5_makes_151 ?_
                    refine lv_icmp_gt (tgt := 208) hx hb dX5_makes_152 (by decide) (fun hc => ?_) (fun hc => ?_)
                    · replace hf := itp hc hf
                      refine lv_iinc (v := (w4_48 + 1)) (lv' := [(4, .int (w4_48 + 1)), (6, .int (1 + t59)), (5, .int (t47 + t53)), (3, .int (w3_48 + t44)), (0, .ref u0_48), (1, .int u1_48), (2, .int u2_48)]) hx hb dX5_makes_208 hl (k := 6) rfl rfl (by decide) rfl (fun ls hl => ?_)
                      refine lv_goto (tgt := 48) hx hb dX5_makes_211 (by decide) ?_
                      exact ih48 _ _ _ _ _ _ hf hW (lv_sub hl [4, 5, 6, 3, 0] rfl)
                    · replace hf := itn hc hf
                      refine lv_iload hx hb dX5_makes_155 (lv_at hl 1 rfl) ?_
                      refine lv_aload_n hx hb dX5_makes_157 rfl (lv_at hl 3 rfl) ?_
                      replace hf := bnd hf
                      obtain ⟨t91, h92, hf⟩ := hf
                      refine g_7_24 X hW hinX5 hF69 h92 dX5_makes_158 ?_
                      refine lv_iload_n hx hb dX5_makes_161 rfl (lv_at hl 5 rfl) ?_
                      replace hf := bnd hf
                      obtain ⟨a93, h94, hf⟩ := hf
                      subst h94
                      replace hf := bnd hf
                      obtain ⟨t95, h96, hf⟩ := hf
                      refine r_ald X hW h96 dX5_makes_162 ?_
                      refine lv_icmp_ne (tgt := 180) hx hb dX5_makes_163 (by decide) (fun hc => ?_) (fun hc => ?_)
                      · replace hf := itn hc hf
                        refine lv_aload_n hx hb dX5_makes_180 rfl (lv_at hl 3 rfl) ?_
                        replace hf := bnd hf
                        obtain ⟨t97, h98, hf⟩ := hf
                        refine g_7_24 X hW hinX5 hF69 h98 dX5_makes_181 ?_
                        refine lv_iload_n hx hb dX5_makes_184 rfl (lv_at hl 5 rfl) ?_
                        refine lv_iload hx hb dX5_makes_185 (lv_at hl 1 rfl) ?_
                        replace hf := bnd hf
                        obtain ⟨a99, h100, hf⟩ := hf
                        subst h100
                        replace hf := bnd hf
                        obtain ⟨m101, h102, hf⟩ := hf
                        refine r_ast X hW h102 dX5_makes_187 (fun H locs hW => ?_)
                        refine lv_aload_n hx hb dX5_makes_188 rfl (lv_at hl 3 rfl) ?_
                        replace hf := bnd hf
                        obtain ⟨t103, h104, hf⟩ := hf
                        refine g_7_25 X hW hinX5 hF72 h104 dX5_makes_189 ?_
                        refine lv_iload_n hx hb dX5_makes_192 rfl (lv_at hl 5 rfl) ?_
                        refine lv_iload hx hb dX5_makes_193 (lv_at hl 0 rfl) ?_
                        replace hf := bnd hf
                        obtain ⟨a105, h106, hf⟩ := hf
                        subst h106
                        replace hf := bnd hf
                        obtain ⟨m107, h108, hf⟩ := hf
                        refine r_ast X hW h108 dX5_makes_195 (fun H locs hW => ?_)
                        refine lv_aload_n hx hb dX5_makes_196 rfl (lv_at hl 3 rfl) ?_
                        replace hf := bnd hf
                        obtain ⟨t109, h110, hf⟩ := hf
                        refine g_7_26 X hW hinX5 hF75 h110 dX5_makes_197 ?_
                        refine lv_iload_n hx hb dX5_makes_200 rfl (lv_at hl 5 rfl) ?_
                        refine lv_iload hx hb dX5_makes_201 (lv_at hl 6 rfl) ?_
                        refine lv_iload_n hx hb dX5_makes_203 rfl (lv_at hl 5 rfl) ?_
                        refine lv_isub hx hb dX5_makes_204 ?_
                        refine lv_iconst (v := 1) hx hb dX5_makes_205 (by decide) ?_
                        refine lv_iadd hx hb dX5_makes_206 ?_
                        replace hf := bnd hf
                        obtain ⟨a111, h112, hf⟩ := hf
                        subst h112
                        replace hf := bnd hf
                        obtain ⟨m113, h114, hf⟩ := hf
                        refine r_ast X hW h114 dX5_makes_207 (fun H locs hW => ?_)
                        refine lv_iinc (v := (w4_48 + 1)) (lv' := [(4, .int (w4_48 + 1)), (6, .int (1 + t59)), (5, .int (t47 + t53)), (3, .int (w3_48 + t44)), (0, .ref u0_48), (1, .int u1_48), (2, .int u2_48)]) hx hb dX5_makes_208 hl (k := 6) rfl rfl (by decide) rfl (fun ls hl => ?_)
                        refine lv_goto (tgt := 48) hx hb dX5_makes_211 (by decide) ?_
                        exact ih48 _ _ _ _ _ _ hf hW (lv_sub hl [4, 5, 6, 3, 0] rfl)
                      · replace hf := itp hc hf
                        refine lv_iload hx hb dX5_makes_166 (lv_at hl 0 rfl) ?_
                        refine lv_aload_n hx hb dX5_makes_168 rfl (lv_at hl 3 rfl) ?_
                        replace hf := bnd hf
                        obtain ⟨t115, h116, hf⟩ := hf
                        refine g_7_25 X hW hinX5 hF72 h116 dX5_makes_169 ?_
                        refine lv_iload_n hx hb dX5_makes_172 rfl (lv_at hl 5 rfl) ?_
                        replace hf := bnd hf
                        obtain ⟨a117, h118, hf⟩ := hf
                        subst h118
                        replace hf := bnd hf
                        obtain ⟨t119, h120, hf⟩ := hf
                        refine r_ald X hW h120 dX5_makes_173 ?_
                        refine lv_icmp_le (tgt := 180) hx hb dX5_makes_174 (by decide) (fun hc => ?_) (fun hc => ?_)
                        · replace hf := itp hc hf
                          refine lv_aload_n hx hb dX5_makes_180 rfl (lv_at hl 3 rfl) ?_
                          replace hf := bnd hf
                          obtain ⟨t121, h122, hf⟩ := hf
                          refine g_7_24 X hW hinX5 hF69 h122 dX5_makes_181 ?_
                          refine lv_iload_n hx hb dX5_makes_184 rfl (lv_at hl 5 rfl) ?_
                          refine lv_iload hx hb dX5_makes_185 (lv_at hl 1 rfl) ?_
                          replace hf := bnd hf
                          obtain ⟨a123, h124, hf⟩ := hf
                          subst h124
                          replace hf := bnd hf
                          obtain ⟨m125, h126, hf⟩ := hf
                          refine r_ast X hW h126 dX5_makes_187 (fun H locs hW => ?_)
                          refine lv_aload_n hx hb dX5_makes_188 rfl (lv_at hl 3 rfl) ?_
                          replace hf := bnd hf
                          obtain ⟨t127, h128, hf⟩ := hf
                          refine g_7_25 X hW hinX5 hF72 h128 dX5_makes_189 ?_
                          refine lv_iload_n hx hb dX5_makes_192 rfl (lv_at hl 5 rfl) ?_
                          refine lv_iload hx hb dX5_makes_193 (lv_at hl 0 rfl) ?_
                          replace hf := bnd hf
                          obtain ⟨a129, h130, hf⟩ := hf
                          subst h130
                          replace hf := bnd hf
                          obtain ⟨m131, h132, hf⟩ := hf
                          refine r_ast X hW h132 dX5_makes_195 (fun H locs hW => ?_)
                          refine lv_aload_n hx hb dX5_makes_196 rfl (lv_at hl 3 rfl) ?_
                          replace hf := bnd hf
                          obtain ⟨t133, h134, hf⟩ := hf
                          refine g_7_26 X hW hinX5 hF75 h134 dX5_makes_197 ?_
                          refine lv_iload_n hx hb dX5_makes_200 rfl (lv_at hl 5 rfl) ?_
                          refine lv_iload hx hb dX5_makes_201 (lv_at hl 6 rfl) ?_
                          refine lv_iload_n hx hb dX5_makes_203 rfl (lv_at hl 5 rfl) ?_
                          refine lv_isub hx hb dX5_makes_204 ?_
                          refine lv_iconst (v := 1) hx hb dX5_makes_205 (by decide) ?_
                          refine lv_iadd hx hb dX5_makes_206 ?_
                          replace hf := bnd hf
                          obtain ⟨a135, h136, hf⟩ := hf
                          subst h136
                          replace hf := bnd hf
                          obtain ⟨m137, h138, hf⟩ := hf
                          refine r_ast X hW h138 dX5_makes_207 (fun H locs hW => ?_)
                          refine lv_iinc (v := (w4_48 + 1)) (lv' := [(4, .int (w4_48 + 1)), (6, .int (1 + t59)), (5, .int (t47 + t53)), (3, .int (w3_48 + t44)), (0, .ref u0_48), (1, .int u1_48), (2, .int u2_48)]) hx hb dX5_makes_208 hl (k := 6) rfl rfl (by decide) rfl (fun ls hl => ?_)
                          refine lv_goto (tgt := 48) hx hb dX5_makes_211 (by decide) ?_
                          exact ih48 _ _ _ _ _ _ hf hW (lv_sub hl [4, 5, 6, 3, 0] rfl)
                        · replace hf := itn hc hf
                          refine lv_goto (tgt := 208) hx hb dX5_makes_177 (by decide) ?_
                          refine lv_iinc (v := (w4_48 + 1)) (lv' := [(4, .int (w4_48 + 1)), (6, .int (1 + t59)), (5, .int (t47 + t53)), (3, .int (w3_48 + t44)), (0, .ref u0_48), (1, .int u1_48), (2, .int u2_48)]) hx hb dX5_makes_208 hl (k := 6) rfl rfl (by decide) rfl (fun ls hl => ?_)
                          refine lv_goto (tgt := 48) hx hb dX5_makes_211 (by decide) ?_
                          exact ih48 _ _ _ _ _ _ hf hW (lv_sub hl [4, 5, 6, 3, 0] rfl)
                · replace hf := itn hc hf
                  refine lv_iload_n hx hb dX5_makes_92 rfl (lv_at hl 0 rfl) ?_
                  refine lv_aload_n hx hb dX5_makes_93 rfl (lv_at hl 1 rfl) ?_
                  replace hf := bnd hf
                  obtain ⟨t139, h140, hf⟩ := hf
                  refine g_7_18 X hW hinX5 hF53 h140 dX5_makes_94 ?_
                  refine lv_icmp_le (tgt := 103) hx hb dX5_makes_97 (by decide) (fun hc => ?_) (fun hc => ?_)
                  · replace hf := itp hc hf
                    refine lv_aload_n hx hb dX5_makes_103 rfl (lv_at hl 1 rfl) ?_
                    refine lv_iload_n hx hb dX5_makes_104 rfl (lv_at hl 2 rfl) ?_
                    refine lv_iload hx hb dX5_makes_105 (lv_at hl 4 rfl) ?_
                    replace hf := bnd hf
                    obtain ⟨_, h141, hf⟩ := hf
                    replace hf := bnd hf
                    obtain ⟨t142, h143, hf⟩ := hf
                    refine r_callV_ok X hW hl.1 (k_X5_turnBehind l hsl G A mu48 u0_48 u1_48 w4_48 _ h143) gX5_makes_X5_turnBehind rfl (chk_ok h141) (by decide) rfl (by decide +kernel) (n := 2) rfl (by decide) (Nat.le_of_ble_eq_true rfl) dX5_makes_107 rfl rfl (stk := [.int t142]) rfl (fun H locs hW => ?_)
                    refine lv_aload_n hx hb dX5_makes_110 rfl (lv_at hl 1 rfl) ?_
                    replace hf := bnd hf
                    obtain ⟨t144, h145, hf⟩ := hf
                    refine g_7_24 X hW hinX5 hF69 h145 dX5_makes_111 ?_
                    refine lv_iload hx hb dX5_makes_114 (lv_at hl 4 rfl) ?_
                    refine lv_iconst (v := 1) hx hb dX5_makes_116 (by decide) ?_
                    refine lv_iadd hx hb dX5_makes_117 ?_
                    replace hf := bnd hf
                    obtain ⟨a146, h147, hf⟩ := hf
                    subst h147
                    replace hf := bnd hf
                    obtain ⟨t148, h149, hf⟩ := hf
                    refine r_ald X hW h149 dX5_makes_118 ?_
                    refine lv_iadd hx hb dX5_makes_119 ?_
                    refine lv_istore (lv' := [(5, .int (t142 + t148)), (3, .int (w3_48 + t44)), (0, .ref u0_48), (1, .int u1_48), (2, .int u2_48), (4, .int w4_48)]) hx hb dX5_makes_120 hl (by decide) rfl (fun ls hl => ?_)
                    refine lv_iconst (v := 1) hx hb dX5_makes_122 (by decide) ?_
                    refine lv_aload_n hx hb dX5_makes_123 rfl (lv_at hl 2 rfl) ?_
                    replace hf := bnd hf
                    obtain ⟨t150, h151, hf⟩ := hf
                    refine g_7_25 X hW hinX5 hF72 h151 dX5_makes_124 ?_
                    refine lv_iload hx hb dX5_makes_127 (lv_at hl 5 rfl) ?_
                    refine lv_iconst (v := 1) hx hb dX5_makes_129 (by decide) ?_
                    refine lv_iadd hx hb dX5_makes_130 ?_
                    replace hf := bnd hf
                    obtain ⟨a152, h153, hf⟩ := hf
                    subst h153
                    replace hf := bnd hf
                    obtain ⟨t154, h155, hf⟩ := hf
                    refine r_ald X hW h155 dX5_makes_131 ?_
                    refine lv_iadd hx hb dX5_makes_132 ?_
                    refine lv_istore (lv' := [(6, .int (1 + t154)), (5, .int (t142 + t148)), (3, .int (w3_48 + t44)), (0, .ref u0_48), (1, .int u1_48), (2, .int u2_48), (4, .int w4_48)]) hx hb dX5_makes_133 hl (by decide) rfl (fun ls hl => ?_)
                    refine lv_aload_n hx hb dX5_makes_135 rfl (lv_at hl 3 rfl) ?_
                    replace hf := bnd hf
                    obtain ⟨t156, h157, hf⟩ := hf
                    refine g_7_26 X hW hinX5 hF75 h157 dX5_makes_136 ?_
                    refine lv_iload_n hx hb dX5_makes_139 rfl (lv_at hl 5 rfl) ?_
                    replace hf := bnd hf
                    obtain ⟨a158, h159, hf⟩ := hf
                    subst h159
                    replace hf := bnd hf
                    obtain ⟨t160, h161, hf⟩ := hf
                    refine r_ald X hW h161 dX5_makes_140 ?_
                    refine lv_if_le (tgt := 180) hx hb dX5_makes_141 (by decide) (fun hc => ?_) (fun hc => ?_)
                    · replace hf := itp hc hf
                      refine lv_aload_n hx hb dX5_makes_180 rfl (lv_at hl 3 rfl) ?_
                      replace hf := bnd hf
                      obtain ⟨t162, h163, hf⟩ := hf
                      refine g_7_24 X hW hinX5 hF69 h163 dX5_makes_181 ?_
                      refine lv_iload_n hx hb dX5_makes_184 rfl (lv_at hl 5 rfl) ?_
                      refine lv_iload hx hb dX5_makes_185 (lv_at hl 1 rfl) ?_
                      replace hf := bnd hf
                      obtain ⟨a164, h165, hf⟩ := hf
                      subst h165
                      replace hf := bnd hf
                      obtain ⟨m166, h167, hf⟩ := hf
                      refine r_ast X hW h167 dX5_makes_187 (fun H locs hW => ?_)
                      refine lv_aload_n hx hb dX5_makes_188 rfl (lv_at hl 3 rfl) ?_
                      replace hf := bnd hf
                      obtain ⟨t168, h169, hf⟩ := hf
                      refine g_7_25 X hW hinX5 hF72 h169 dX5_makes_189 ?_
                      refine lv_iload_n hx hb dX5_makes_192 rfl (lv_at hl 5 rfl) ?_
                      refine lv_iload hx hb dX5_makes_193 (lv_at hl 0 rfl) ?_
                      replace hf := bnd hf
                      obtain ⟨a170, h171, hf⟩ := hf
                      subst h171
                      replace hf := bnd hf
                      obtain ⟨m172, h173, hf⟩ := hf
                      refine r_ast X hW h173 dX5_makes_195 (fun H locs hW => ?_)
                      refine lv_aload_n hx hb dX5_makes_196 rfl (lv_at hl 3 rfl) ?_
                      replace hf := bnd hf
                      obtain ⟨t174, h175, hf⟩ := hf
                      refine g_7_26 X hW hinX5 hF75 h175 dX5_makes_197 ?_
                      refine lv_iload_n hx hb dX5_makes_200 rfl (lv_at hl 5 rfl) ?_
                      refine lv_iload hx hb dX5_makes_201 (lv_at hl 6 rfl) ?_
                      refine lv_iload_n hx hb dX5_makes_203 rfl (lv_at hl 5 rfl) ?_
                      refine lv_isub hx hb dX5_makes_204 ?_
                      refine lv_iconst (v := 1) hx hb dX5_makes_205 (by decide) ?_
                      refine lv_iadd hx hb dX5_makes_206 ?_
                      replace hf := bnd hf
                      obtain ⟨a176, h177, hf⟩ := hf
                      subst h177
                      replace hf := bnd hf
                      obtain ⟨m178, h179, hf⟩ := hf
                      refine r_ast X hW h179 dX5_makes_207 (fun H locs hW => ?_)
                      refine lv_iinc (v := (w4_48 + 1)) (lv' := [(4, .int (w4_48 + 1)), (6, .int (1 + t154)), (5, .int (t142 + t148)), (3, .int (w3_48 + t44)), (0, .ref u0_48), (1, .int u1_48), (2, .int u2_48)]) hx hb dX5_makes_208 hl (k := 6) rfl rfl (by decide) rfl (fun ls hl => ?_)
                      refine lv_goto (tgt := 48) hx hb dX5_makes_211 (by decide) ?_
                      exact ih48 _ _ _ _ _ _ hf hW (lv_sub hl [4, 5, 6, 3, 0] rfl)
                    · replace hf := itn hc hf
                      refine lv_iload hx hb dX5_makes_144 (lv_at hl 1 rfl) ?_
                      refine lv_aload_n hx hb dX5_makes_146 rfl (lv_at hl 3 rfl) ?_
                      replace hf := bnd hf
                      obtain ⟨t180, h181, hf⟩ := hf
                      refine g_7_24 X hW hinX5 hF69 h181 dX5_makes_147 ?_
                      refine lv_iload_n hx hb dX5_makes_150 rfl (lv_at hl 5 rfl) ?_
                      replace hf := bnd hf
                      obtain ⟨a182, h183, hf⟩ := hf
                      subst h183
                      replace hf := bnd hf
                      obtain ⟨t184, h185, hf⟩ := hf
                      refine r_ald X hW h185 dX5_makes_151 ?_
                      refine lv_icmp_gt (tgt := 208) hx hb dX5_makes_152 (by decide) (fun hc => ?_) (fun hc => ?_)
                      · replace hf := itp hc hf
                        refine lv_iinc (v := (w4_48 + 1)) (lv' := [(4, .int (w4_48 + 1)), (6, .int (1 + t154)), (5, .int (t142 + t148)), (3, .int (w3_48 + t44)), (0, .ref u0_48), (1, .int u1_48), (2, .int u2_48)]) hx hb dX5_makes_208 hl (k := 6) rfl rfl (by decide) rfl (fun ls hl => ?_)
                        refine lv_goto (tgt := 48) hx hb dX5_makes_211 (by decide) ?_
                        exact ih48 _ _ _ _ _ _ hf hW (lv_sub hl [4, 5, 6, 3, 0] rfl)
                      · replace hf := itn hc hf
                        refine lv_iload hx hb dX5_makes_155 (lv_at hl 1 rfl) ?_
                        refine lv_aload_n hx hb dX5_makes_157 rfl (lv_at hl 3 rfl) ?_
                        replace hf := bnd hf
                        obtain ⟨t186, h187, hf⟩ := hf
                        refine g_7_24 X hW hinX5 hF69 h187 dX5_makes_158 ?_
                        refine lv_iload_n hx hb dX5_makes_161 rfl (lv_at hl 5 rfl) ?_
                        replace hf := bnd hf
                        obtain ⟨a188, h189, hf⟩ := hf
                        subst h189
                        replace hf := bnd hf
                        obtain ⟨t190, h191, hf⟩ := hf
                        refine r_ald X hW h191 dX5_makes_162 ?_
                        refine lv_icmp_ne (tgt := 180) hx hb dX5_makes_163 (by decide) (fun hc => ?_) (fun hc => ?_)
                        · replace hf := itn hc hf
                          refine lv_aload_n hx hb dX5_makes_180 rfl (lv_at hl 3 rfl) ?_
                          replace hf := bnd hf
                          obtain ⟨t192, h193, hf⟩ := hf
                          refine g_7_24 X hW hinX5 hF69 h193 dX5_makes_181 ?_
                          refine lv_iload_n hx hb dX5_makes_184 rfl (lv_at hl 5 rfl) ?_
                          refine lv_iload hx hb dX5_makes_185 (lv_at hl 1 rfl) ?_
                          replace hf := bnd hf
                          obtain ⟨a194, h195, hf⟩ := hf
                          subst h195
                          replace hf := bnd hf
                          obtain ⟨m196, h197, hf⟩ := hf
                          refine r_ast X hW h197 dX5_makes_187 (fun H locs hW => ?_)
                          refine lv_aload_n hx hb dX5_makes_188 rfl (lv_at hl 3 rfl) ?_
                          replace hf := bnd hf
                          obtain ⟨t198, h199, hf⟩ := hf
                          refine g_7_25 X hW hinX5 hF72 h199 dX5_makes_189 ?_
                          refine lv_iload_n hx hb dX5_makes_192 rfl (lv_at hl 5 rfl) ?_
                          refine lv_iload hx hb dX5_makes_193 (lv_at hl 0 rfl) ?_
                          replace hf := bnd hf
                          obtain ⟨a200, h201, hf⟩ := hf
                          subst h201
                          replace hf := bnd hf
                          obtain ⟨m202, h203, hf⟩ := hf
                          refine r_ast X hW h203 dX5_makes_195 (fun H locs hW => ?_)
                          refine lv_aload_n hx hb dX5_makes_196 rfl (lv_at hl 3 rfl) ?_
                          replace hf := bnd hf
                          obtain ⟨t204, h205, hf⟩ := hf
                          refine g_7_26 X hW hinX5 hF75 h205 dX5_makes_197 ?_
                          refine lv_iload_n hx hb dX5_makes_200 rfl (lv_at hl 5 rfl) ?_
                          refine lv_iload hx hb dX5_makes_201 (lv_at hl 6 rfl) ?_
                          refine lv_iload_n hx hb dX5_makes_203 rfl (lv_at hl 5 rfl) ?_
                          refine lv_isub hx hb dX5_makes_204 ?_
                          refine lv_iconst (v := 1) hx hb dX5_makes_205 (by decide) ?_
                          refine lv_iadd hx hb dX5_makes_206 ?_
                          replace hf := bnd hf
                          obtain ⟨a206, h207, hf⟩ := hf
                          subst h207
                          replace hf := bnd hf
                          obtain ⟨m208, h209, hf⟩ := hf
                          refine r_ast X hW h209 dX5_makes_207 (fun H locs hW => ?_)
                          refine lv_iinc (v := (w4_48 + 1)) (lv' := [(4, .int (w4_48 + 1)), (6, .int (1 + t154)), (5, .int (t142 + t148)), (3, .int (w3_48 + t44)), (0, .ref u0_48), (1, .int u1_48), (2, .int u2_48)]) hx hb dX5_makes_208 hl (k := 6) rfl rfl (by decide) rfl (fun ls hl => ?_)
                          refine lv_goto (tgt := 48) hx hb dX5_makes_211 (by decide) ?_
                          exact ih48 _ _ _ _ _ _ hf hW (lv_sub hl [4, 5, 6, 3, 0] rfl)
                        · replace hf := itp hc hf
                          refine lv_iload hx hb dX5_makes_166 (lv_at hl 0 rfl) ?_
                          refine lv_aload_n hx hb dX5_makes_168 rfl (lv_at hl 3 rfl) ?_
                          replace hf := bnd hf
                          obtain ⟨t210, h211, hf⟩ := hf
                          refine g_7_25 X hW hinX5 hF72 h211 dX5_makes_169 ?_
                          refine lv_iload_n hx hb dX5_makes_172 rfl (lv_at hl 5 rfl) ?_
                          replace hf := bnd hf
                          obtain ⟨a212, h213, hf⟩ := hf
                          subst h213
                          replace hf := bnd hf
                          obtain ⟨t214, h215, hf⟩ := hf
                          refine r_ald X hW h215 dX5_makes_173 ?_
                          refine lv_icmp_le (tgt := 180) hx hb dX5_makes_174 (by decide) (fun hc => ?_) (fun hc => ?_)
                          · replace hf := itp hc hf
                            refine lv_aload_n hx hb dX5_makes_180 rfl (lv_at hl 3 rfl) ?_
                            replace hf := bnd hf
                            obtain ⟨t216, h217, hf⟩ := hf
                            refine g_7_24 X hW hinX5 hF69 h217 dX5_makes_181 ?_
                            refine lv_iload_n hx hb dX5_makes_184 rfl (lv_at hl 5 rfl) ?_
                            refine lv_iload hx hb dX5_makes_185 (lv_at hl 1 rfl) ?_
                            replace hf := bnd hf
                            obtain ⟨a218, h219, hf⟩ := hf
                            subst h219
                            replace hf := bnd hf
                            obtain ⟨m220, h221, hf⟩ := hf
                            refine r_ast X hW h221 dX5_makes_187 (fun H locs hW => ?_)
                            refine lv_aload_n hx hb dX5_makes_188 rfl (lv_at hl 3 rfl) ?_
                            replace hf := bnd hf
                            obtain ⟨t222, h223, hf⟩ := hf
                            refine g_7_25 X hW hinX5 hF72 h223 dX5_makes_189 ?_
                            refine lv_iload_n hx hb dX5_makes_192 rfl (lv_at hl 5 rfl) ?_
                            refine lv_iload hx hb dX5_makes_193 (lv_at hl 0 rfl) ?_
                            replace hf := bnd hf
                            obtain ⟨a224, h225, hf⟩ := hf
                            subst h225
                            replace hf := bnd hf
                            obtain ⟨m226, h227, hf⟩ := hf
                            refine r_ast X hW h227 dX5_makes_195 (fun H locs hW => ?_)
                            refine lv_aload_n hx hb dX5_makes_196 rfl (lv_at hl 3 rfl) ?_
                            replace hf := bnd hf
                            obtain ⟨t228, h229, hf⟩ := hf
                            refine g_7_26 X hW hinX5 hF75 h229 dX5_makes_197 ?_
                            refine lv_iload_n hx hb dX5_makes_200 rfl (lv_at hl 5 rfl) ?_
                            refine lv_iload hx hb dX5_makes_201 (lv_at hl 6 rfl) ?_
                            refine lv_iload_n hx hb dX5_makes_203 rfl (lv_at hl 5 rfl) ?_
                            refine lv_isub hx hb dX5_makes_204 ?_
                            refine lv_iconst (v := 1) hx hb dX5_makes_205 (by decide) ?_
                            refine lv_iadd hx hb dX5_makes_206 ?_
                            replace hf := bnd hf
                            obtain ⟨a230, h231, hf⟩ := hf
                            subst h231
                            replace hf := bnd hf
                            obtain ⟨m232, h233, hf⟩ := hf
                            refine r_ast X hW h233 dX5_makes_207 (fun H locs hW => ?_)
                            refine lv_iinc (v := (w4_48 + 1)) (lv' := [(4, .int (w4_48 + 1)), (6, .int (1 + t154)), (5, .int (t142 + t148)), (3, .int (w3_48 + t44)), (0, .ref u0_48), (1, .int u1_48), (2, .int u2_48)]) hx hb dX5_makes_208 hl (k := 6) rfl rfl (by decide) rfl (fun ls hl => ?_)
                            refine lv_goto (tgt := 48) hx hb dX5_makes_211 (by decide) ?_
                            exact ih48 _ _ _ _ _ _ hf hW (lv_sub hl [4, 5, 6, 3, 0] rfl)
                          · replace hf := itn hc hf
                            refine lv_goto (tgt := 208) hx hb dX5_makes_177 (by decide) ?_
                            refine lv_iinc (v := (w4_48 + 1)) (lv' := [(4, .int (w4_48 + 1)), (6, .int (1 + t154)), (5, .int (t142 + t148)), (3, .int (w3_48 + t44)), (0, .ref u0_48), (1, .int u1_48), (2, .int u2_48)]) hx hb dX5_makes_208 hl (k := 6) rfl rfl (by decide) rfl (fun ls hl => ?_)
                            refine lv_goto (tgt := 48) hx hb dX5_makes_211 (by decide) ?_
                            exact ih48 _ _ _ _ _ _ hf hW (lv_sub hl [4, 5, 6, 3, 0] rfl)
                  · replace hf := itn hc hf
                    refine lv_goto (tgt := 214) hx hb dX5_makes_100 (by decide) ?_
                    exact hk48 _ _ _ _ _ _ hf hW (lv_sub hl [1, 2, 3, 0, 4] rfl)
              · replace hf := itn hc hf
                refine lv_iconst (v := 1) hx hb dX5_makes_68 (by decide) ?_
                refine lv_goto (tgt := 84) hx hb dX5_makes_69 (by decide) ?_
                refine lv_iadd hx hb dX5_makes_84 ?_
                refine lv_istore_n (lv' := [(3, .int (w3_48 + 1)), (0, .ref u0_48), (1, .int u1_48), (2, .int u2_48), (4, .int w4_48)]) hx hb dX5_makes_85 rfl hl (by decide) rfl (fun ls hl => ?_)
                refine lv_iload hx hb dX5_makes_86 (lv_at hl 4 rfl) ?_
                refine lv_iload_n hx hb dX5_makes_88 rfl (lv_at hl 3 rfl) ?_
                refine lv_icmp_le (tgt := 103) hx hb dX5_makes_89 (by decide) (fun hc => ?_) (fun hc => ?_)
                · replace hf := itp hc hf
                  refine lv_aload_n hx hb dX5_makes_103 rfl (lv_at hl 1 rfl) ?_
                  refine lv_iload_n hx hb dX5_makes_104 rfl (lv_at hl 2 rfl) ?_
                  refine lv_iload hx hb dX5_makes_105 (lv_at hl 4 rfl) ?_
                  replace hf := bnd hf
                  obtain ⟨_, h234, hf⟩ := hf
                  replace hf := bnd hf
                  obtain ⟨t235, h236, hf⟩ := hf
                  refine r_callV_ok X hW hl.1 (k_X5_turnBehind l hsl G A mu48 u0_48 u1_48 w4_48 _ h236) gX5_makes_X5_turnBehind rfl (chk_ok h234) (by decide) rfl (by decide +kernel) (n := 2) rfl (by decide) (Nat.le_of_ble_eq_true rfl) dX5_makes_107 rfl rfl (stk := [.int t235]) rfl (fun H locs hW => ?_)
                  refine lv_aload_n hx hb dX5_makes_110 rfl (lv_at hl 1 rfl) ?_
                  replace hf := bnd hf
                  obtain ⟨t237, h238, hf⟩ := hf
                  refine g_7_24 X hW hinX5 hF69 h238 dX5_makes_111 ?_
                  refine lv_iload hx hb dX5_makes_114 (lv_at hl 4 rfl) ?_
                  refine lv_iconst (v := 1) hx hb dX5_makes_116 (by decide) ?_
                  refine lv_iadd hx hb dX5_makes_117 ?_
                  replace hf := bnd hf
                  obtain ⟨a239, h240, hf⟩ := hf
                  subst h240
                  replace hf := bnd hf
                  obtain ⟨t241, h242, hf⟩ := hf
                  refine r_ald X hW h242 dX5_makes_118 ?_
                  refine lv_iadd hx hb dX5_makes_119 ?_
                  refine lv_istore (lv' := [(5, .int (t235 + t241)), (3, .int (w3_48 + 1)), (0, .ref u0_48), (1, .int u1_48), (2, .int u2_48), (4, .int w4_48)]) hx hb dX5_makes_120 hl (by decide) rfl (fun ls hl => ?_)
                  refine lv_iconst (v := 1) hx hb dX5_makes_122 (by decide) ?_
                  refine lv_aload_n hx hb dX5_makes_123 rfl (lv_at hl 2 rfl) ?_
                  replace hf := bnd hf
                  obtain ⟨t243, h244, hf⟩ := hf
                  refine g_7_25 X hW hinX5 hF72 h244 dX5_makes_124 ?_
                  refine lv_iload hx hb dX5_makes_127 (lv_at hl 5 rfl) ?_
                  refine lv_iconst (v := 1) hx hb dX5_makes_129 (by decide) ?_
                  refine lv_iadd hx hb dX5_makes_130 ?_
                  replace hf := bnd hf
                  obtain ⟨a245, h246, hf⟩ := hf
                  subst h246
                  replace hf := bnd hf
                  obtain ⟨t247, h248, hf⟩ := hf
                  refine r_ald X hW h248 dX5_makes_131 ?_
                  refine lv_iadd hx hb dX5_makes_132 ?_
                  refine lv_istore (lv' := [(6, .int (1 + t247)), (5, .int (t235 + t241)), (3, .int (w3_48 + 1)), (0, .ref u0_48), (1, .int u1_48), (2, .int u2_48), (4, .int w4_48)]) hx hb dX5_makes_133 hl (by decide) rfl (fun ls hl => ?_)
                  refine lv_aload_n hx hb dX5_makes_135 rfl (lv_at hl 3 rfl) ?_
                  replace hf := bnd hf
                  obtain ⟨t249, h250, hf⟩ := hf
                  refine g_7_26 X hW hinX5 hF75 h250 dX5_makes_136 ?_
                  refine lv_iload_n hx hb dX5_makes_139 rfl (lv_at hl 5 rfl) ?_
                  replace hf := bnd hf
                  obtain ⟨a251, h252, hf⟩ := hf
                  subst h252
                  replace hf := bnd hf
                  obtain ⟨t253, h254, hf⟩ := hf
                  refine r_ald X hW h254 dX5_makes_140 ?_
                  refine lv_if_le (tgt := 180) hx hb dX5_makes_141 (by decide) (fun hc => ?_) (fun hc => ?_)
                  · replace hf := itp hc hf
                    refine lv_aload_n hx hb dX5_makes_180 rfl (lv_at hl 3 rfl) ?_
                    replace hf := bnd hf
                    obtain ⟨t255, h256, hf⟩ := hf
                    refine g_7_24 X hW hinX5 hF69 h256 dX5_makes_181 ?_
                    refine lv_iload_n hx hb dX5_makes_184 rfl (lv_at hl 5 rfl) ?_
                    refine lv_iload hx hb dX5_makes_185 (lv_at hl 1 rfl) ?_
                    replace hf := bnd hf
                    obtain ⟨a257, h258, hf⟩ := hf
                    subst h258
                    replace hf := bnd hf
                    obtain ⟨m259, h260, hf⟩ := hf
                    refine r_ast X hW h260 dX5_makes_187 (fun H locs hW => ?_)
                    refine lv_aload_n hx hb dX5_makes_188 rfl (lv_at hl 3 rfl) ?_
                    replace hf := bnd hf
                    obtain ⟨t261, h262, hf⟩ := hf
                    refine g_7_25 X hW hinX5 hF72 h262 dX5_makes_189 ?_
                    refine lv_iload_n hx hb dX5_makes_192 rfl (lv_at hl 5 rfl) ?_
                    refine lv_iload hx hb dX5_makes_193 (lv_at hl 0 rfl) ?_
                    replace hf := bnd hf
                    obtain ⟨a263, h264, hf⟩ := hf
                    subst h264
                    replace hf := bnd hf
                    obtain ⟨m265, h266, hf⟩ := hf
                    refine r_ast X hW h266 dX5_makes_195 (fun H locs hW => ?_)
                    refine lv_aload_n hx hb dX5_makes_196 rfl (lv_at hl 3 rfl) ?_
                    replace hf := bnd hf
                    obtain ⟨t267, h268, hf⟩ := hf
                    refine g_7_26 X hW hinX5 hF75 h268 dX5_makes_197 ?_
                    refine lv_iload_n hx hb dX5_makes_200 rfl (lv_at hl 5 rfl) ?_
                    refine lv_iload hx hb dX5_makes_201 (lv_at hl 6 rfl) ?_
                    refine lv_iload_n hx hb dX5_makes_203 rfl (lv_at hl 5 rfl) ?_
                    refine lv_isub hx hb dX5_makes_204 ?_
                    refine lv_iconst (v := 1) hx hb dX5_makes_205 (by decide) ?_
                    refine lv_iadd hx hb dX5_makes_206 ?_
                    replace hf := bnd hf
                    obtain ⟨a269, h270, hf⟩ := hf
                    subst h270
                    replace hf := bnd hf
                    obtain ⟨m271, h272, hf⟩ := hf
                    refine r_ast X hW h272 dX5_makes_207 (fun H locs hW => ?_)
                    refine lv_iinc (v := (w4_48 + 1)) (lv' := [(4, .int (w4_48 + 1)), (6, .int (1 + t247)), (5, .int (t235 + t241)), (3, .int (w3_48 + 1)), (0, .ref u0_48), (1, .int u1_48), (2, .int u2_48)]) hx hb dX5_makes_208 hl (k := 6) rfl rfl (by decide) rfl (fun ls hl => ?_)
                    refine lv_goto (tgt := 48) hx hb dX5_makes_211 (by decide) ?_
                    exact ih48 _ _ _ _ _ _ hf hW (lv_sub hl [4, 5, 6, 3, 0] rfl)
                  · replace hf := itn hc hf
                    refine lv_iload hx hb dX5_makes_144 (lv_at hl 1 rfl) ?_
                    refine lv_aload_n hx hb dX5_makes_146 rfl (lv_at hl 3 rfl) ?_
                    replace hf := bnd hf
                    obtain ⟨t273, h274, hf⟩ := hf
                    refine g_7_24 X hW hinX5 hF69 h274 dX5_makes_147 ?_
                    refine lv_iload_n hx hb dX5_makes_150 rfl (lv_at hl 5 rfl) ?_
                    replace hf := bnd hf
                    obtain ⟨a275, h276, hf⟩ := hf
                    subst h276
                    replace hf := bnd hf
                    obtain ⟨t277, h278, hf⟩ := hf
                    refine r_ald X hW h278 dX5_makes_151 ?_
                    refine lv_icmp_gt (tgt := 208) hx hb dX5_makes_152 (by decide) (fun hc => ?_) (fun hc => ?_)
                    · replace hf := itp hc hf
                      refine lv_iinc (v := (w4_48 + 1)) (lv' := [(4, .int (w4_48 + 1)), (6, .int (1 + t247)), (5, .int (t235 + t241)), (3, .int (w3_48 + 1)), (0, .ref u0_48), (1, .int u1_48), (2, .int u2_48)]) hx hb dX5_makes_208 hl (k := 6) rfl rfl (by decide) rfl (fun ls hl => ?_)
                      refine lv_goto (tgt := 48) hx hb dX5_makes_211 (by decide) ?_
                      exact ih48 _ _ _ _ _ _ hf hW (lv_sub hl [4, 5, 6, 3, 0] rfl)
                    · replace hf := itn hc hf
                      refine lv_iload hx hb dX5_makes_155 (lv_at hl 1 rfl) ?_
                      refine lv_aload_n hx hb dX5_makes_157 rfl (lv_at hl 3 rfl) ?_
                      replace hf := bnd hf
                      obtain ⟨t279, h280, hf⟩ := hf
                      refine g_7_24 X hW hinX5 hF69 h280 dX5_makes_158 ?_
                      refine lv_iload_n hx hb dX5_makes_161 rfl (lv_at hl 5 rfl) ?_
                      replace hf := bnd hf
                      obtain ⟨a281, h282, hf⟩ := hf
                      subst h282
                      replace hf := bnd hf
                      obtain ⟨t283, h284, hf⟩ := hf
                      refine r_ald X hW h284 dX5_makes_162 ?_
                      refine lv_icmp_ne (tgt := 180) hx hb dX5_makes_163 (by decide) (fun hc => ?_) (fun hc => ?_)
                      · replace hf := itn hc hf
                        refine lv_aload_n hx hb dX5_makes_180 rfl (lv_at hl 3 rfl) ?_
                        replace hf := bnd hf
                        obtain ⟨t285, h286, hf⟩ := hf
                        refine g_7_24 X hW hinX5 hF69 h286 dX5_makes_181 ?_
                        refine lv_iload_n hx hb dX5_makes_184 rfl (lv_at hl 5 rfl) ?_
                        refine lv_iload hx hb dX5_makes_185 (lv_at hl 1 rfl) ?_
                        replace hf := bnd hf
                        obtain ⟨a287, h288, hf⟩ := hf
                        subst h288
                        replace hf := bnd hf
                        obtain ⟨m289, h290, hf⟩ := hf
                        refine r_ast X hW h290 dX5_makes_187 (fun H locs hW => ?_)
                        refine lv_aload_n hx hb dX5_makes_188 rfl (lv_at hl 3 rfl) ?_
                        replace hf := bnd hf
                        obtain ⟨t291, h292, hf⟩ := hf
                        refine g_7_25 X hW hinX5 hF72 h292 dX5_makes_189 ?_
                        refine lv_iload_n hx hb dX5_makes_192 rfl (lv_at hl 5 rfl) ?_
                        refine lv_iload hx hb dX5_makes_193 (lv_at hl 0 rfl) ?_
                        replace hf := bnd hf
                        obtain ⟨a293, h294, hf⟩ := hf
                        subst h294
                        replace hf := bnd hf
                        obtain ⟨m295, h296, hf⟩ := hf
                        refine r_ast X hW h296 dX5_makes_195 (fun H locs hW => ?_)
                        refine lv_aload_n hx hb dX5_makes_196 rfl (lv_at hl 3 rfl) ?_
                        replace hf := bnd hf
                        obtain ⟨t297, h298, hf⟩ := hf
                        refine g_7_26 X hW hinX5 hF75 h298 dX5_makes_197 ?_
                        refine lv_iload_n hx hb dX5_makes_200 rfl (lv_at hl 5 rfl) ?_
                        refine lv_iload hx hb dX5_makes_201 (lv_at hl 6 rfl) ?_
                        refine lv_iload_n hx hb dX5_makes_203 rfl (lv_at hl 5 rfl) ?_
                        refine lv_isub hx hb dX5_makes_204 ?_
                        refine lv_iconst (v := 1) hx hb dX5_makes_205 (by decide) ?_
                        refine lv_iadd hx hb dX5_makes_206 ?_
                        replace hf := bnd hf
                        obtain ⟨a299, h300, hf⟩ := hf
                        subst h300
                        replace hf := bnd hf
                        obtain ⟨m301, h302, hf⟩ := hf
                        refine r_ast X hW h302 dX5_makes_207 (fun H locs hW => ?_)
                        refine lv_iinc (v := (w4_48 + 1)) (lv' := [(4, .int (w4_48 + 1)), (6, .int (1 + t247)), (5, .int (t235 + t241)), (3, .int (w3_48 + 1)), (0, .ref u0_48), (1, .int u1_48), (2, .int u2_48)]) hx hb dX5_makes_208 hl (k := 6) rfl rfl (by decide) rfl (fun ls hl => ?_)
                        refine lv_goto (tgt := 48) hx hb dX5_makes_211 (by decide) ?_
                        exact ih48 _ _ _ _ _ _ hf hW (lv_sub hl [4, 5, 6, 3, 0] rfl)
                      · replace hf := itp hc hf
                        refine lv_iload hx hb dX5_makes_166 (lv_at hl 0 rfl) ?_
                        refine lv_aload_n hx hb dX5_makes_168 rfl (lv_at hl 3 rfl) ?_
                        replace hf := bnd hf
                        obtain ⟨t303, h304, hf⟩ := hf
                        refine g_7_25 X hW hinX5 hF72 h304 dX5_makes_169 ?_
                        refine lv_iload_n hx hb dX5_makes_172 rfl (lv_at hl 5 rfl) ?_
                        replace hf := bnd hf
                        obtain ⟨a305, h306, hf⟩ := hf
                        subst h306
                        replace hf := bnd hf
                        obtain ⟨t307, h308, hf⟩ := hf
                        refine r_ald X hW h308 dX5_makes_173 ?_
                        refine lv_icmp_le (tgt := 180) hx hb dX5_makes_174 (by decide) (fun hc => ?_) (fun hc => ?_)
                        · replace hf := itp hc hf
                          refine lv_aload_n hx hb dX5_makes_180 rfl (lv_at hl 3 rfl) ?_
                          replace hf := bnd hf
                          obtain ⟨t309, h310, hf⟩ := hf
                          refine g_7_24 X hW hinX5 hF69 h310 dX5_makes_181 ?_
                          refine lv_iload_n hx hb dX5_makes_184 rfl (lv_at hl 5 rfl) ?_
                          refine lv_iload hx hb dX5_makes_185 (lv_at hl 1 rfl) ?_
                          replace hf := bnd hf
                          obtain ⟨a311, h312, hf⟩ := hf
                          subst h312
                          replace hf := bnd hf
                          obtain ⟨m313, h314, hf⟩ := hf
                          refine r_ast X hW h314 dX5_makes_187 (fun H locs hW => ?_)
                          refine lv_aload_n hx hb dX5_makes_188 rfl (lv_at hl 3 rfl) ?_
                          replace hf := bnd hf
                          obtain ⟨t315, h316, hf⟩ := hf
                          refine g_7_25 X hW hinX5 hF72 h316 dX5_makes_189 ?_
                          refine lv_iload_n hx hb dX5_makes_192 rfl (lv_at hl 5 rfl) ?_
                          refine lv_iload hx hb dX5_makes_193 (lv_at hl 0 rfl) ?_
                          replace hf := bnd hf
                          obtain ⟨a317, h318, hf⟩ := hf
                          subst h318
                          replace hf := bnd hf
                          obtain ⟨m319, h320, hf⟩ := hf
                          refine r_ast X hW h320 dX5_makes_195 (fun H locs hW => ?_)
                          refine lv_aload_n hx hb dX5_makes_196 rfl (lv_at hl 3 rfl) ?_
                          replace hf := bnd hf
                          obtain ⟨t321, h322, hf⟩ := hf
                          refine g_7_26 X hW hinX5 hF75 h322 dX5_makes_197 ?_
                          refine lv_iload_n hx hb dX5_makes_200 rfl (lv_at hl 5 rfl) ?_
                          refine lv_iload hx hb dX5_makes_201 (lv_at hl 6 rfl) ?_
                          refine lv_iload_n hx hb dX5_makes_203 rfl (lv_at hl 5 rfl) ?_
                          refine lv_isub hx hb dX5_makes_204 ?_
                          refine lv_iconst (v := 1) hx hb dX5_makes_205 (by decide) ?_
                          refine lv_iadd hx hb dX5_makes_206 ?_
                          replace hf := bnd hf
                          obtain ⟨a323, h324, hf⟩ := hf
                          subst h324
                          replace hf := bnd hf
                          obtain ⟨m325, h326, hf⟩ := hf
                          refine r_ast X hW h326 dX5_makes_207 (fun H locs hW => ?_)
                          refine lv_iinc (v := (w4_48 + 1)) (lv' := [(4, .int (w4_48 + 1)), (6, .int (1 + t247)), (5, .int (t235 + t241)), (3, .int (w3_48 + 1)), (0, .ref u0_48), (1, .int u1_48), (2, .int u2_48)]) hx hb dX5_makes_208 hl (k := 6) rfl rfl (by decide) rfl (fun ls hl => ?_)
                          refine lv_goto (tgt := 48) hx hb dX5_makes_211 (by decide) ?_
                          exact ih48 _ _ _ _ _ _ hf hW (lv_sub hl [4, 5, 6, 3, 0] rfl)
                        · replace hf := itn hc hf
                          refine lv_goto (tgt := 208) hx hb dX5_makes_177 (by decide) ?_
                          refine lv_iinc (v := (w4_48 + 1)) (lv' := [(4, .int (w4_48 + 1)), (6, .int (1 + t247)), (5, .int (t235 + t241)), (3, .int (w3_48 + 1)), (0, .ref u0_48), (1, .int u1_48), (2, .int u2_48)]) hx hb dX5_makes_208 hl (k := 6) rfl rfl (by decide) rfl (fun ls hl => ?_)
                          refine lv_goto (tgt := 48) hx hb dX5_makes_211 (by decide) ?_
                          exact ih48 _ _ _ _ _ _ hf hW (lv_sub hl [4, 5, 6, 3, 0] rfl)
                · replace hf := itn hc hf
                  refine lv_iload_n hx hb dX5_makes_92 rfl (lv_at hl 0 rfl) ?_
                  refine lv_aload_n hx hb dX5_makes_93 rfl (lv_at hl 1 rfl) ?_
                  replace hf := bnd hf
                  obtain ⟨t327, h328, hf⟩ := hf
                  refine g_7_18 X hW hinX5 hF53 h328 dX5_makes_94 ?_
                  refine lv_icmp_le (tgt := 103) hx hb dX5_makes_97 (by decide) (fun hc => ?_) (fun hc => ?_)
                  · replace hf := itp hc hf
                    refine lv_aload_n hx hb dX5_makes_103 rfl (lv_at hl 1 rfl) ?_
                    refine lv_iload_n hx hb dX5_makes_104 rfl (lv_at hl 2 rfl) ?_
                    refine lv_iload hx hb dX5_makes_105 (lv_at hl 4 rfl) ?_
                    replace hf := bnd hf
                    obtain ⟨_, h329, hf⟩ := hf
                    replace hf := bnd hf
                    obtain ⟨t330, h331, hf⟩ := hf
                    refine r_callV_ok X hW hl.1 (k_X5_turnBehind l hsl G A mu48 u0_48 u1_48 w4_48 _ h331) gX5_makes_X5_turnBehind rfl (chk_ok h329) (by decide) rfl (by decide +kernel) (n := 2) rfl (by decide) (Nat.le_of_ble_eq_true rfl) dX5_makes_107 rfl rfl (stk := [.int t330]) rfl (fun H locs hW => ?_)
                    refine lv_aload_n hx hb dX5_makes_110 rfl (lv_at hl 1 rfl) ?_
                    replace hf := bnd hf
                    obtain ⟨t332, h333, hf⟩ := hf
                    refine g_7_24 X hW hinX5 hF69 h333 dX5_makes_111 ?_
                    refine lv_iload hx hb dX5_makes_114 (lv_at hl 4 rfl) ?_
                    refine lv_iconst (v := 1) hx hb dX5_makes_116 (by decide) ?_
                    refine lv_iadd hx hb dX5_makes_117 ?_
                    replace hf := bnd hf
                    obtain ⟨a334, h335, hf⟩ := hf
                    subst h335
                    replace hf := bnd hf
                    obtain ⟨t336, h337, hf⟩ := hf
                    refine r_ald X hW h337 dX5_makes_118 ?_
                    refine lv_iadd hx hb dX5_makes_119 ?_
                    refine lv_istore (lv' := [(5, .int (t330 + t336)), (3, .int (w3_48 + 1)), (0, .ref u0_48), (1, .int u1_48), (2, .int u2_48), (4, .int w4_48)]) hx hb dX5_makes_120 hl (by decide) rfl (fun ls hl => ?_)
                    refine lv_iconst (v := 1) hx hb dX5_makes_122 (by decide) ?_
                    refine lv_aload_n hx hb dX5_makes_123 rfl (lv_at hl 2 rfl) ?_
                    replace hf := bnd hf
                    obtain ⟨t338, h339, hf⟩ := hf
                    refine g_7_25 X hW hinX5 hF72 h339 dX5_makes_124 ?_
                    refine lv_iload hx hb dX5_makes_127 (lv_at hl 5 rfl) ?_
                    refine lv_iconst (v := 1) hx hb dX5_makes_129 (by decide) ?_
                    refine lv_iadd hx hb dX5_makes_130 ?_
                    replace hf := bnd hf
                    obtain ⟨a340, h341, hf⟩ := hf
                    subst h341
                    replace hf := bnd hf
                    obtain ⟨t342, h343, hf⟩ := hf
                    refine r_ald X hW h343 dX5_makes_131 ?_
                    refine lv_iadd hx hb dX5_makes_132 ?_
                    refine lv_istore (lv' := [(6, .int (1 + t342)), (5, .int (t330 + t336)), (3, .int (w3_48 + 1)), (0, .ref u0_48), (1, .int u1_48), (2, .int u2_48), (4, .int w4_48)]) hx hb dX5_makes_133 hl (by decide) rfl (fun ls hl => ?_)
                    refine lv_aload_n hx hb dX5_makes_135 rfl (lv_at hl 3 rfl) ?_
                    replace hf := bnd hf
                    obtain ⟨t344, h345, hf⟩ := hf
                    refine g_7_26 X hW hinX5 hF75 h345 dX5_makes_136 ?_
                    refine lv_iload_n hx hb dX5_makes_139 rfl (lv_at hl 5 rfl) ?_
                    replace hf := bnd hf
                    obtain ⟨a346, h347, hf⟩ := hf
                    subst h347
                    replace hf := bnd hf
                    obtain ⟨t348, h349, hf⟩ := hf
                    refine r_ald X hW h349 dX5_makes_140 ?_
                    refine lv_if_le (tgt := 180) hx hb dX5_makes_141 (by decide) (fun hc => ?_) (fun hc => ?_)
                    · replace hf := itp hc hf
                      refine lv_aload_n hx hb dX5_makes_180 rfl (lv_at hl 3 rfl) ?_
                      replace hf := bnd hf
                      obtain ⟨t350, h351, hf⟩ := hf
                      refine g_7_24 X hW hinX5 hF69 h351 dX5_makes_181 ?_
                      refine lv_iload_n hx hb dX5_makes_184 rfl (lv_at hl 5 rfl) ?_
                      refine lv_iload hx hb dX5_makes_185 (lv_at hl 1 rfl) ?_
                      replace hf := bnd hf
                      obtain ⟨a352, h353, hf⟩ := hf
                      subst h353
                      replace hf := bnd hf
                      obtain ⟨m354, h355, hf⟩ := hf
                      refine r_ast X hW h355 dX5_makes_187 (fun H locs hW => ?_)
                      refine lv_aload_n hx hb dX5_makes_188 rfl (lv_at hl 3 rfl) ?_
                      replace hf := bnd hf
                      obtain ⟨t356, h357, hf⟩ := hf
                      refine g_7_25 X hW hinX5 hF72 h357 dX5_makes_189 ?_
                      refine lv_iload_n hx hb dX5_makes_192 rfl (lv_at hl 5 rfl) ?_
                      refine lv_iload hx hb dX5_makes_193 (lv_at hl 0 rfl) ?_
                      replace hf := bnd hf
                      obtain ⟨a358, h359, hf⟩ := hf
                      subst h359
                      replace hf := bnd hf
                      obtain ⟨m360, h361, hf⟩ := hf
                      refine r_ast X hW h361 dX5_makes_195 (fun H locs hW => ?_)
                      refine lv_aload_n hx hb dX5_makes_196 rfl (lv_at hl 3 rfl) ?_
                      replace hf := bnd hf
                      obtain ⟨t362, h363, hf⟩ := hf
                      refine g_7_26 X hW hinX5 hF75 h363 dX5_makes_197 ?_
                      refine lv_iload_n hx hb dX5_makes_200 rfl (lv_at hl 5 rfl) ?_
                      refine lv_iload hx hb dX5_makes_201 (lv_at hl 6 rfl) ?_
                      refine lv_iload_n hx hb dX5_makes_203 rfl (lv_at hl 5 rfl) ?_
                      refine lv_isub hx hb dX5_makes_204 ?_
                      refine lv_iconst (v := 1) hx hb dX5_makes_205 (by decide) ?_
                      refine lv_iadd hx hb dX5_makes_206 ?_
                      replace hf := bnd hf
                      obtain ⟨a364, h365, hf⟩ := hf
                      subst h365
                      replace hf := bnd hf
                      obtain ⟨m366, h367, hf⟩ := hf
                      refine r_ast X hW h367 dX5_makes_207 (fun H locs hW => ?_)
                      refine lv_iinc (v := (w4_48 + 1)) (lv' := [(4, .int (w4_48 + 1)), (6, .int (1 + t342)), (5, .int (t330 + t336)), (3, .int (w3_48 + 1)), (0, .ref u0_48), (1, .int u1_48), (2, .int u2_48)]) hx hb dX5_makes_208 hl (k := 6) rfl rfl (by decide) rfl (fun ls hl => ?_)
                      refine lv_goto (tgt := 48) hx hb dX5_makes_211 (by decide) ?_
                      exact ih48 _ _ _ _ _ _ hf hW (lv_sub hl [4, 5, 6, 3, 0] rfl)
                    · replace hf := itn hc hf
                      refine lv_iload hx hb dX5_makes_144 (lv_at hl 1 rfl) ?_
                      refine lv_aload_n hx hb dX5_makes_146 rfl (lv_at hl 3 rfl) ?_
                      replace hf := bnd hf
                      obtain ⟨t368, h369, hf⟩ := hf
                      refine g_7_24 X hW hinX5 hF69 h369 dX5_makes_147 ?_
                      refine lv_iload_n hx hb dX5_makes_150 rfl (lv_at hl 5 rfl) ?_
                      replace hf := bnd hf
                      obtain ⟨a370, h371, hf⟩ := hf
                      subst h371
                      replace hf := bnd hf
                      obtain ⟨t372, h373, hf⟩ := hf
                      refine r_ald X hW h373 dX5_makes_151 ?_
                      refine lv_icmp_gt (tgt := 208) hx hb dX5_makes_152 (by decide) (fun hc => ?_) (fun hc => ?_)
                      · replace hf := itp hc hf
                        refine lv_iinc (v := (w4_48 + 1)) (lv' := [(4, .int (w4_48 + 1)), (6, .int (1 + t342)), (5, .int (t330 + t336)), (3, .int (w3_48 + 1)), (0, .ref u0_48), (1, .int u1_48), (2, .int u2_48)]) hx hb dX5_makes_208 hl (k := 6) rfl rfl (by decide) rfl (fun ls hl => ?_)
                        refine lv_goto (tgt := 48) hx hb dX5_makes_211 (by decide) ?_
                        exact ih48 _ _ _ _ _ _ hf hW (lv_sub hl [4, 5, 6, 3, 0] rfl)
                      · replace hf := itn hc hf
                        refine lv_iload hx hb dX5_makes_155 (lv_at hl 1 rfl) ?_
                        refine lv_aload_n hx hb dX5_makes_157 rfl (lv_at hl 3 rfl) ?_
                        replace hf := bnd hf
                        obtain ⟨t374, h375, hf⟩ := hf
                        refine g_7_24 X hW hinX5 hF69 h375 dX5_makes_158 ?_
                        refine lv_iload_n hx hb dX5_makes_161 rfl (lv_at hl 5 rfl) ?_
                        replace hf := bnd hf
                        obtain ⟨a376, h377, hf⟩ := hf
                        subst h377
                        replace hf := bnd hf
                        obtain ⟨t378, h379, hf⟩ := hf
                        refine r_ald X hW h379 dX5_makes_162 ?_
                        refine lv_icmp_ne (tgt := 180) hx hb dX5_makes_163 (by decide) (fun hc => ?_) (fun hc => ?_)
                        · replace hf := itn hc hf
                          refine lv_aload_n hx hb dX5_makes_180 rfl (lv_at hl 3 rfl) ?_
                          replace hf := bnd hf
                          obtain ⟨t380, h381, hf⟩ := hf
                          refine g_7_24 X hW hinX5 hF69 h381 dX5_makes_181 ?_
                          refine lv_iload_n hx hb dX5_makes_184 rfl (lv_at hl 5 rfl) ?_
                          refine lv_iload hx hb dX5_makes_185 (lv_at hl 1 rfl) ?_
                          replace hf := bnd hf
                          obtain ⟨a382, h383, hf⟩ := hf
                          subst h383
                          replace hf := bnd hf
                          obtain ⟨m384, h385, hf⟩ := hf
                          refine r_ast X hW h385 dX5_makes_187 (fun H locs hW => ?_)
                          refine lv_aload_n hx hb dX5_makes_188 rfl (lv_at hl 3 rfl) ?_
                          replace hf := bnd hf
                          obtain ⟨t386, h387, hf⟩ := hf
                          refine g_7_25 X hW hinX5 hF72 h387 dX5_makes_189 ?_
                          refine lv_iload_n hx hb dX5_makes_192 rfl (lv_at hl 5 rfl) ?_
                          refine lv_iload hx hb dX5_makes_193 (lv_at hl 0 rfl) ?_
                          replace hf := bnd hf
                          obtain ⟨a388, h389, hf⟩ := hf
                          subst h389
                          replace hf := bnd hf
                          obtain ⟨m390, h391, hf⟩ := hf
                          refine r_ast X hW h391 dX5_makes_195 (fun H locs hW => ?_)
                          refine lv_aload_n hx hb dX5_makes_196 rfl (lv_at hl 3 rfl) ?_
                          replace hf := bnd hf
                          obtain ⟨t392, h393, hf⟩ := hf
                          refine g_7_26 X hW hinX5 hF75 h393 dX5_makes_197 ?_
                          refine lv_iload_n hx hb dX5_makes_200 rfl (lv_at hl 5 rfl) ?_
                          refine lv_iload hx hb dX5_makes_201 (lv_at hl 6 rfl) ?_
                          refine lv_iload_n hx hb dX5_makes_203 rfl (lv_at hl 5 rfl) ?_
                          refine lv_isub hx hb dX5_makes_204 ?_
                          refine lv_iconst (v := 1) hx hb dX5_makes_205 (by decide) ?_
                          refine lv_iadd hx hb dX5_makes_206 ?_
                          replace hf := bnd hf
                          obtain ⟨a394, h395, hf⟩ := hf
                          subst h395
                          replace hf := bnd hf
                          obtain ⟨m396, h397, hf⟩ := hf
                          refine r_ast X hW h397 dX5_makes_207 (fun H locs hW => ?_)
                          refine lv_iinc (v := (w4_48 + 1)) (lv' := [(4, .int (w4_48 + 1)), (6, .int (1 + t342)), (5, .int (t330 + t336)), (3, .int (w3_48 + 1)), (0, .ref u0_48), (1, .int u1_48), (2, .int u2_48)]) hx hb dX5_makes_208 hl (k := 6) rfl rfl (by decide) rfl (fun ls hl => ?_)
                          refine lv_goto (tgt := 48) hx hb dX5_makes_211 (by decide) ?_
                          exact ih48 _ _ _ _ _ _ hf hW (lv_sub hl [4, 5, 6, 3, 0] rfl)
                        · replace hf := itp hc hf
                          refine lv_iload hx hb dX5_makes_166 (lv_at hl 0 rfl) ?_
                          refine lv_aload_n hx hb dX5_makes_168 rfl (lv_at hl 3 rfl) ?_
                          replace hf := bnd hf
                          obtain ⟨t398, h399, hf⟩ := hf
                          refine g_7_25 X hW hinX5 hF72 h399 dX5_makes_169 ?_
                          refine lv_iload_n hx hb dX5_makes_172 rfl (lv_at hl 5 rfl) ?_
                          replace hf := bnd hf
                          obtain ⟨a400, h401, hf⟩ := hf
                          subst h401
                          replace hf := bnd hf
                          obtain ⟨t402, h403, hf⟩ := hf
                          refine r_ald X hW h403 dX5_makes_173 ?_
                          refine lv_icmp_le (tgt := 180) hx hb dX5_makes_174 (by decide) (fun hc => ?_) (fun hc => ?_)
                          · replace hf := itp hc hf
                            refine lv_aload_n hx hb dX5_makes_180 rfl (lv_at hl 3 rfl) ?_
                            replace hf := bnd hf
                            obtain ⟨t404, h405, hf⟩ := hf
                            refine g_7_24 X hW hinX5 hF69 h405 dX5_makes_181 ?_
                            refine lv_iload_n hx hb dX5_makes_184 rfl (lv_at hl 5 rfl) ?_
                            refine lv_iload hx hb dX5_makes_185 (lv_at hl 1 rfl) ?_
                            replace hf := bnd hf
                            obtain ⟨a406, h407, hf⟩ := hf
                            subst h407
                            replace hf := bnd hf
                            obtain ⟨m408, h409, hf⟩ := hf
                            refine r_ast X hW h409 dX5_makes_187 (fun H locs hW => ?_)
                            refine lv_aload_n hx hb dX5_makes_188 rfl (lv_at hl 3 rfl) ?_
                            replace hf := bnd hf
                            obtain ⟨t410, h411, hf⟩ := hf
                            refine g_7_25 X hW hinX5 hF72 h411 dX5_makes_189 ?_
                            refine lv_iload_n hx hb dX5_makes_192 rfl (lv_at hl 5 rfl) ?_
                            refine lv_iload hx hb dX5_makes_193 (lv_at hl 0 rfl) ?_
                            replace hf := bnd hf
                            obtain ⟨a412, h413, hf⟩ := hf
                            subst h413
                            replace hf := bnd hf
                            obtain ⟨m414, h415, hf⟩ := hf
                            refine r_ast X hW h415 dX5_makes_195 (fun H locs hW => ?_)
                            refine lv_aload_n hx hb dX5_makes_196 rfl (lv_at hl 3 rfl) ?_
                            replace hf := bnd hf
                            obtain ⟨t416, h417, hf⟩ := hf
                            refine g_7_26 X hW hinX5 hF75 h417 dX5_makes_197 ?_
                            refine lv_iload_n hx hb dX5_makes_200 rfl (lv_at hl 5 rfl) ?_
                            refine lv_iload hx hb dX5_makes_201 (lv_at hl 6 rfl) ?_
                            refine lv_iload_n hx hb dX5_makes_203 rfl (lv_at hl 5 rfl) ?_
                            refine lv_isub hx hb dX5_makes_204 ?_
                            refine lv_iconst (v := 1) hx hb dX5_makes_205 (by decide) ?_
                            refine lv_iadd hx hb dX5_makes_206 ?_
                            replace hf := bnd hf
                            obtain ⟨a418, h419, hf⟩ := hf
                            subst h419
                            replace hf := bnd hf
                            obtain ⟨m420, h421, hf⟩ := hf
                            refine r_ast X hW h421 dX5_makes_207 (fun H locs hW => ?_)
                            refine lv_iinc (v := (w4_48 + 1)) (lv' := [(4, .int (w4_48 + 1)), (6, .int (1 + t342)), (5, .int (t330 + t336)), (3, .int (w3_48 + 1)), (0, .ref u0_48), (1, .int u1_48), (2, .int u2_48)]) hx hb dX5_makes_208 hl (k := 6) rfl rfl (by decide) rfl (fun ls hl => ?_)
                            refine lv_goto (tgt := 48) hx hb dX5_makes_211 (by decide) ?_
                            exact ih48 _ _ _ _ _ _ hf hW (lv_sub hl [4, 5, 6, 3, 0] rfl)
                          · replace hf := itn hc hf
                            refine lv_goto (tgt := 208) hx hb dX5_makes_177 (by decide) ?_
                            refine lv_iinc (v := (w4_48 + 1)) (lv' := [(4, .int (w4_48 + 1)), (6, .int (1 + t342)), (5, .int (t330 + t336)), (3, .int (w3_48 + 1)), (0, .ref u0_48), (1, .int u1_48), (2, .int u2_48)]) hx hb dX5_makes_208 hl (k := 6) rfl rfl (by decide) rfl (fun ls hl => ?_)
                            refine lv_goto (tgt := 48) hx hb dX5_makes_211 (by decide) ?_
                            exact ih48 _ _ _ _ _ _ hf hW (lv_sub hl [4, 5, 6, 3, 0] rfl)
                  · replace hf := itn hc hf
                    refine lv_goto (tgt := 214) hx hb dX5_makes_100 (by decide) ?_
                    exact hk48 _ _ _ _ _ _ hf hW (lv_sub hl [1, 2, 3, 0, 4] rfl)
        refine L48 u0_32 u1_32 w2_32 _ ?_ 200 m27 0 w2_32 _ _ _ hf hW (lv_sub hl [2, 3, 4, 1, 0] rfl)
        intro zmu48 zw3_48 zw4_48 H locs ls hf hW hl
        refine lv_iinc (v := (w2_32 + (-1))) (lv' := [(2, .int (w2_32 + (-1))), (0, .ref u0_32), (1, .int u1_32), (3, .int zw3_48), (4, .int zw4_48)]) hx hb dX5_makes_214 hl (k := 2) rfl rfl (by decide) rfl (fun ls hl => ?_)
        refine lv_goto (tgt := 32) hx hb dX5_makes_217 (by decide) ?_
        exact ih32 _ _ _ _ _ hf hW (lv_sub hl [1, 2, 0] rfl)
  refine L32 x0 x1 _ ?_ 200 m19 (t21 - 1) _ _ _ hf hW (lv_sub hl [1, 2, 0] rfl)
  intro zmu32 zw2_32 H locs ls hf hW hl
  exact r_vret X hr hW (by cases hf; exact ⟨rfl, rfl⟩) (by decide) (by decide) dX5_makes_220

def f_X5_hardTurns (mu : Mem) (x0 : Nat) (x1 : Int32) : Option ((Int32) × Mem) := (chk mu 7 x0).bind fun _ => bi2 (f_X5_isNoPart mu x0 x1) (fun (t2 : (Int32)) m4 => if t2 = 0 then ((chk m4 7 x0).bind fun _ => bi2 (f_X5_makes m4 x0 x1) (fun (t6 : (Unit)) m8 => (getQ m8 7 24 x0).bind fun t9 => t9.bind fun a11 => (ald m8 a11 0).bind fun t13 => some (t13, m8))) else (some (0, m4)))
set_option maxHeartbeats 1000000 in
set_option maxRecDepth 100000 in
theorem k_X5_hardTurns (l : Launch) (hsl : l.stackTraces = false) (G : GG) (A : Nat → Prop) (mu : Mem) (x0 : Nat) (x1 : Int32) (r : (Int32) × Mem) (hf : f_X5_hardTurns mu x0 x1 = some r) : Ok l yX5_hardTurns wsX5_hardTurns ({ frames := 14, cells := 0, slots := 0, locals := 270 } : Room) [.ref x0, .int x1] G A mu (dP (.inr (rI r.1)) r.2) := by
  refine Ok.start (cc := cX5_hardTurns) (maxL := 2) (ret := (some .int)) rfl (by decide +kernel) hsl (by first | exact Nat.le_of_ble_eq_true rfl | simp [lg_sl, cat_rf, Value.category]) ?_
  intro p e s m args below meth c ls X hr hname hW hl
  have X : BX p l s m args meth c cX5_hardTurns 2 RX5 wsX5_hardTurns G A := X
  have hx := X.1
  have hb := X.2.1
  have hts := X.2.2.2.2.1
  have hl : lv_has ls 2 [(0, .ref x0), (1, .int x1)] := hl
  have hinX5 : ∀ w ∈ wsX50, w ∈ wsX5_hardTurns := by decide +kernel
  have hF69 : (Cond.fieldLink RX5 69 "PartcopyistBenchModel" "hard" "[I").before args s = true := hts _ (by decide +kernel)
  unfold f_X5_hardTurns at hf
  refine lv_aload_n hx hb dX5_hardTurns_0 rfl (lv_at hl 0 rfl) ?_
  refine lv_iload_n hx hb dX5_hardTurns_1 rfl (lv_at hl 1 rfl) ?_
  replace hf := bnd hf
  obtain ⟨_, h1, hf⟩ := hf
  replace hf := bnd2 hf
  obtain ⟨t2, m4, h3, hf⟩ := hf
  refine r_callV_ok (μ9 := m4) X hW hl.1 (k_X5_isNoPart l hsl G A mu x0 x1 _ h3) gX5_hardTurns_X5_isNoPart rfl (chk_ok h1) (by decide) rfl (by decide +kernel) (n := 1) rfl (by decide) (Nat.le_of_ble_eq_true rfl) dX5_hardTurns_2 rfl rfl (stk := [.int t2]) rfl (fun H locs hW => ?_)
  refine lv_if_eq (tgt := 10) hx hb dX5_hardTurns_5 (by decide) (fun hc => ?_) (fun hc => ?_)
  · replace hf := itp hc hf
    refine lv_aload_n hx hb dX5_hardTurns_10 rfl (lv_at hl 0 rfl) ?_
    refine lv_iload_n hx hb dX5_hardTurns_11 rfl (lv_at hl 1 rfl) ?_
    replace hf := bnd hf
    obtain ⟨_, h5, hf⟩ := hf
    replace hf := bnd2 hf
    obtain ⟨t6, m8, h7, hf⟩ := hf
    refine r_callV_ok (μ9 := m8) X hW hl.1 (k_X5_makes l hsl G A m4 x0 x1 _ h7) gX5_hardTurns_X5_makes rfl (chk_ok h5) (by decide) rfl (by decide +kernel) (n := 1) rfl (by decide) (Nat.le_of_ble_eq_true rfl) dX5_hardTurns_12 rfl rfl (stk := []) rfl (fun H locs hW => ?_)
    refine lv_aload_n hx hb dX5_hardTurns_15 rfl (lv_at hl 0 rfl) ?_
    replace hf := bnd hf
    obtain ⟨t9, h10, hf⟩ := hf
    refine g_7_24 X hW hinX5 hF69 h10 dX5_hardTurns_16 ?_
    refine lv_iconst (v := 0) hx hb dX5_hardTurns_19 (by decide) ?_
    replace hf := bnd hf
    obtain ⟨a11, h12, hf⟩ := hf
    subst h12
    replace hf := bnd hf
    obtain ⟨t13, h14, hf⟩ := hf
    refine r_ald X hW h14 dX5_hardTurns_20 ?_
    exact r_iret X hr hW (by cases hf; exact ⟨rfl, rfl⟩) (by decide) (by decide) dX5_hardTurns_21
  · replace hf := itn hc hf
    refine lv_iconst (v := 0) hx hb dX5_hardTurns_8 (by decide) ?_
    exact r_iret X hr hW (by cases hf; exact ⟨rfl, rfl⟩) (by decide) (by decide) dX5_hardTurns_9

def f_X5_hardTurnsByTrying (mu : Mem) (x0 : Nat) (x1 : Int32) : Option ((Int32) × Mem) := (chk mu 7 x0).bind fun _ => bi2 (f_X5_hardTurns mu x0 x1) (fun (t2 : (Int32)) m4 => some (t2, m4))
set_option maxHeartbeats 1000000 in
set_option maxRecDepth 100000 in
theorem k_X5_hardTurnsByTrying (l : Launch) (hsl : l.stackTraces = false) (G : GG) (A : Nat → Prop) (mu : Mem) (x0 : Nat) (x1 : Int32) (r : (Int32) × Mem) (hf : f_X5_hardTurnsByTrying mu x0 x1 = some r) : Ok l yX5_hardTurnsByTrying wsX5_hardTurnsByTrying ({ frames := 16, cells := 0, slots := 0, locals := 310 } : Room) [.ref x0, .int x1] G A mu (dP (.inr (rI r.1)) r.2) := by
  refine Ok.start (cc := cX5_hardTurnsByTrying) (maxL := 2) (ret := (some .int)) rfl (by decide +kernel) hsl (by first | exact Nat.le_of_ble_eq_true rfl | simp [lg_sl, cat_rf, Value.category]) ?_
  intro p e s m args below meth c ls X hr hname hW hl
  have X : BX p l s m args meth c cX5_hardTurnsByTrying 2 RX5 wsX5_hardTurnsByTrying G A := X
  have hx := X.1
  have hb := X.2.1
  have hts := X.2.2.2.2.1
  have hl : lv_has ls 2 [(0, .ref x0), (1, .int x1)] := hl
  unfold f_X5_hardTurnsByTrying at hf
  refine lv_aload_n hx hb dX5_hardTurnsByTrying_0 rfl (lv_at hl 0 rfl) ?_
  refine lv_iload_n hx hb dX5_hardTurnsByTrying_1 rfl (lv_at hl 1 rfl) ?_
  replace hf := bnd hf
  obtain ⟨_, h1, hf⟩ := hf
  replace hf := bnd2 hf
  obtain ⟨t2, m4, h3, hf⟩ := hf
  refine r_callV_ok (μ9 := m4) X hW hl.1 (k_X5_hardTurns l hsl G A mu x0 x1 _ h3) gX5_hardTurnsByTrying_X5_hardTurns rfl (chk_ok h1) (by decide) rfl (by decide +kernel) (n := 1) rfl (by decide) (Nat.le_of_ble_eq_true rfl) dX5_hardTurnsByTrying_2 rfl rfl (stk := [.int t2]) rfl (fun H locs hW => ?_)
  exact r_iret X hr hW (by cases hf; exact ⟨rfl, rfl⟩) (by decide) (by decide) dX5_hardTurnsByTrying_5

def f_X5_pages (mu : Mem) (x0 : Nat) (x1 : Int32) : Option ((Int32) × Mem) := (chk mu 7 x0).bind fun _ => bi2 (f_X5_isNoPart mu x0 x1) (fun (t2 : (Int32)) m4 => if t2 = 0 then ((chk m4 7 x0).bind fun _ => bi2 (f_X5_makes m4 x0 x1) (fun (t6 : (Unit)) m8 => (getQ m8 7 25 x0).bind fun t9 => t9.bind fun a11 => (ald m8 a11 0).bind fun t13 => some (t13, m8))) else (some (0, m4)))
set_option maxHeartbeats 1000000 in
set_option maxRecDepth 100000 in
theorem k_X5_pages (l : Launch) (hsl : l.stackTraces = false) (G : GG) (A : Nat → Prop) (mu : Mem) (x0 : Nat) (x1 : Int32) (r : (Int32) × Mem) (hf : f_X5_pages mu x0 x1 = some r) : Ok l yX5_pages wsX5_pages ({ frames := 14, cells := 0, slots := 0, locals := 270 } : Room) [.ref x0, .int x1] G A mu (dP (.inr (rI r.1)) r.2) := by
  refine Ok.start (cc := cX5_pages) (maxL := 2) (ret := (some .int)) rfl (by decide +kernel) hsl (by first | exact Nat.le_of_ble_eq_true rfl | simp [lg_sl, cat_rf, Value.category]) ?_
  intro p e s m args below meth c ls X hr hname hW hl
  have X : BX p l s m args meth c cX5_pages 2 RX5 wsX5_pages G A := X
  have hx := X.1
  have hb := X.2.1
  have hts := X.2.2.2.2.1
  have hl : lv_has ls 2 [(0, .ref x0), (1, .int x1)] := hl
  have hinX5 : ∀ w ∈ wsX50, w ∈ wsX5_pages := by decide +kernel
  have hF72 : (Cond.fieldLink RX5 72 "PartcopyistBenchModel" "pageMany" "[I").before args s = true := hts _ (by decide +kernel)
  unfold f_X5_pages at hf
  refine lv_aload_n hx hb dX5_pages_0 rfl (lv_at hl 0 rfl) ?_
  refine lv_iload_n hx hb dX5_pages_1 rfl (lv_at hl 1 rfl) ?_
  replace hf := bnd hf
  obtain ⟨_, h1, hf⟩ := hf
  replace hf := bnd2 hf
  obtain ⟨t2, m4, h3, hf⟩ := hf
  refine r_callV_ok (μ9 := m4) X hW hl.1 (k_X5_isNoPart l hsl G A mu x0 x1 _ h3) gX5_pages_X5_isNoPart rfl (chk_ok h1) (by decide) rfl (by decide +kernel) (n := 1) rfl (by decide) (Nat.le_of_ble_eq_true rfl) dX5_pages_2 rfl rfl (stk := [.int t2]) rfl (fun H locs hW => ?_)
  refine lv_if_eq (tgt := 10) hx hb dX5_pages_5 (by decide) (fun hc => ?_) (fun hc => ?_)
  · replace hf := itp hc hf
    refine lv_aload_n hx hb dX5_pages_10 rfl (lv_at hl 0 rfl) ?_
    refine lv_iload_n hx hb dX5_pages_11 rfl (lv_at hl 1 rfl) ?_
    replace hf := bnd hf
    obtain ⟨_, h5, hf⟩ := hf
    replace hf := bnd2 hf
    obtain ⟨t6, m8, h7, hf⟩ := hf
    refine r_callV_ok (μ9 := m8) X hW hl.1 (k_X5_makes l hsl G A m4 x0 x1 _ h7) gX5_pages_X5_makes rfl (chk_ok h5) (by decide) rfl (by decide +kernel) (n := 1) rfl (by decide) (Nat.le_of_ble_eq_true rfl) dX5_pages_12 rfl rfl (stk := []) rfl (fun H locs hW => ?_)
    refine lv_aload_n hx hb dX5_pages_15 rfl (lv_at hl 0 rfl) ?_
    replace hf := bnd hf
    obtain ⟨t9, h10, hf⟩ := hf
    refine g_7_25 X hW hinX5 hF72 h10 dX5_pages_16 ?_
    refine lv_iconst (v := 0) hx hb dX5_pages_19 (by decide) ?_
    replace hf := bnd hf
    obtain ⟨a11, h12, hf⟩ := hf
    subst h12
    replace hf := bnd hf
    obtain ⟨t13, h14, hf⟩ := hf
    refine r_ald X hW h14 dX5_pages_20 ?_
    exact r_iret X hr hW (by cases hf; exact ⟨rfl, rfl⟩) (by decide) (by decide) dX5_pages_21
  · replace hf := itn hc hf
    refine lv_iconst (v := 0) hx hb dX5_pages_8 (by decide) ?_
    exact r_iret X hr hW (by cases hf; exact ⟨rfl, rfl⟩) (by decide) (by decide) dX5_pages_9

def f_X5_pageEnd_L42 (m8 : Mem) (u0_42 : Nat) (u1_42 : Int32) (u2_42 : Int32) (k9 : Int32 → Int32 → Option ((Int32) × Mem)) : Nat → Int32 → Int32 → Option ((Int32) × Mem)
  | 0, _, _ => none
  | n + 1, w3_42, w4_42 => if u2_42 ≤ w4_42 then (k9 w3_42 w4_42) else ((getQ m8 7 26 u0_42).bind fun t17 => t17.bind fun a19 => (ald m8 a19 w3_42).bind fun t21 => f_X5_pageEnd_L42 m8 u0_42 u1_42 u2_42 k9 n (w3_42 + t21) (w4_42 + 1))
def f_X5_pageEnd (mu : Mem) (x0 : Nat) (x1 : Int32) (x2 : Int32) : Option ((Int32) × Mem) := (chk mu 7 x0).bind fun _ => bi2 (f_X5_isNoPart mu x0 x1) (fun (t2 : (Int32)) m4 => if t2 = 0 then ((chk m4 7 x0).bind fun _ => bi2 (f_X5_makes m4 x0 x1) (fun (t6 : (Unit)) m8 => (getQ m8 7 25 x0).bind fun t9 => t9.bind fun a11 => (ald m8 a11 0).bind fun t13 => (f_X5_isBetween m8 x2 0 (t13 - 1)).bind fun t15 => if t15 = 0 then ((chk m8 7 x0).bind fun _ => bi2 (f_X5_fails m8 x0 2) (fun (t33 : (Int32)) m35 => some (t33, m35))) else (f_X5_pageEnd_L42 m8 x0 x1 x2 (fun (zw3_42 : Int32) (zw4_42 : Int32) => (getQ m8 7 26 x0).bind fun t23 => t23.bind fun a25 => (ald m8 a25 zw3_42).bind fun t27 => (chk m8 7 x0).bind fun _ => (f_X5_lastBar m8 x0 ((zw3_42 + t27) - 1)).bind fun t30 => some (t30, m8)) 200 0 0))) else (some (0, m4)))
set_option maxHeartbeats 1000000 in
set_option maxRecDepth 100000 in
theorem k_X5_pageEnd (l : Launch) (hsl : l.stackTraces = false) (G : GG) (A : Nat → Prop) (mu : Mem) (x0 : Nat) (x1 : Int32) (x2 : Int32) (r : (Int32) × Mem) (hf : f_X5_pageEnd mu x0 x1 x2 = some r) : Ok l yX5_pageEnd wsX5_pageEnd ({ frames := 14, cells := 0, slots := 0, locals := 270 } : Room) [.ref x0, .int x1, .int x2] G A mu (dP (.inr (rI r.1)) r.2) := by
  refine Ok.start (cc := cX5_pageEnd) (maxL := 5) (ret := (some .int)) rfl (by decide +kernel) hsl (by first | exact Nat.le_of_ble_eq_true rfl | simp [lg_sl, cat_rf, Value.category]) ?_
  intro p e s m args below meth c ls X hr hname hW hl
  have X : BX p l s m args meth c cX5_pageEnd 5 RX5 wsX5_pageEnd G A := X
  have hx := X.1
  have hb := X.2.1
  have hts := X.2.2.2.2.1
  have hl : lv_has ls 5 [(0, .ref x0), (1, .int x1), (2, .int x2)] := hl
  have hinX5 : ∀ w ∈ wsX50, w ∈ wsX5_pageEnd := by decide +kernel
  have hF72 : (Cond.fieldLink RX5 72 "PartcopyistBenchModel" "pageMany" "[I").before args s = true := hts _ (by decide +kernel)
  have hF75 : (Cond.fieldLink RX5 75 "PartcopyistBenchModel" "take" "[I").before args s = true := hts _ (by decide +kernel)
  unfold f_X5_pageEnd at hf
  refine lv_aload_n hx hb dX5_pageEnd_0 rfl (lv_at hl 0 rfl) ?_
  refine lv_iload_n hx hb dX5_pageEnd_1 rfl (lv_at hl 1 rfl) ?_
  replace hf := bnd hf
  obtain ⟨_, h1, hf⟩ := hf
  replace hf := bnd2 hf
  obtain ⟨t2, m4, h3, hf⟩ := hf
  refine r_callV_ok (μ9 := m4) X hW hl.1 (k_X5_isNoPart l hsl G A mu x0 x1 _ h3) gX5_pageEnd_X5_isNoPart rfl (chk_ok h1) (by decide) rfl (by decide +kernel) (n := 1) rfl (by decide) (Nat.le_of_ble_eq_true rfl) dX5_pageEnd_2 rfl rfl (stk := [.int t2]) rfl (fun H locs hW => ?_)
  refine lv_if_eq (tgt := 10) hx hb dX5_pageEnd_5 (by decide) (fun hc => ?_) (fun hc => ?_)
  · replace hf := itp hc hf
    refine lv_aload_n hx hb dX5_pageEnd_10 rfl (lv_at hl 0 rfl) ?_
    refine lv_iload_n hx hb dX5_pageEnd_11 rfl (lv_at hl 1 rfl) ?_
    replace hf := bnd hf
    obtain ⟨_, h5, hf⟩ := hf
    replace hf := bnd2 hf
    obtain ⟨t6, m8, h7, hf⟩ := hf
    refine r_callV_ok (μ9 := m8) X hW hl.1 (k_X5_makes l hsl G A m4 x0 x1 _ h7) gX5_pageEnd_X5_makes rfl (chk_ok h5) (by decide) rfl (by decide +kernel) (n := 1) rfl (by decide) (Nat.le_of_ble_eq_true rfl) dX5_pageEnd_12 rfl rfl (stk := []) rfl (fun H locs hW => ?_)
    refine lv_iload_n hx hb dX5_pageEnd_15 rfl (lv_at hl 2 rfl) ?_
    refine lv_iconst (v := 0) hx hb dX5_pageEnd_16 (by decide) ?_
    refine lv_aload_n hx hb dX5_pageEnd_17 rfl (lv_at hl 0 rfl) ?_
    replace hf := bnd hf
    obtain ⟨t9, h10, hf⟩ := hf
    refine g_7_25 X hW hinX5 hF72 h10 dX5_pageEnd_18 ?_
    refine lv_iconst (v := 0) hx hb dX5_pageEnd_21 (by decide) ?_
    replace hf := bnd hf
    obtain ⟨a11, h12, hf⟩ := hf
    subst h12
    replace hf := bnd hf
    obtain ⟨t13, h14, hf⟩ := hf
    refine r_ald X hW h14 dX5_pageEnd_22 ?_
    refine lv_iconst (v := 1) hx hb dX5_pageEnd_23 (by decide) ?_
    refine lv_isub hx hb dX5_pageEnd_24 ?_
    replace hf := bnd hf
    obtain ⟨t15, h16, hf⟩ := hf
    refine r_callS_ok X hW hl.1 (k_X5_isBetween l hsl G A m8 x2 0 (t13 - 1) _ h16) gX5_pageEnd_X5_isBetween rfl (by decide +kernel) (n := 3) rfl (by decide) (Nat.le_of_ble_eq_true rfl) dX5_pageEnd_25 rfl rfl (stk := [.int t15]) rfl (fun H locs hW => ?_)
    refine lv_if_ne (tgt := 37) hx hb dX5_pageEnd_28 (by decide) (fun hc => ?_) (fun hc => ?_)
    · replace hf := itn hc hf
      refine lv_iconst (v := 0) hx hb dX5_pageEnd_37 (by decide) ?_
      refine lv_istore_n (lv' := [(3, .int 0), (0, .ref x0), (1, .int x1), (2, .int x2)]) hx hb dX5_pageEnd_38 rfl hl (by decide) rfl (fun ls hl => ?_)
      refine lv_iconst (v := 0) hx hb dX5_pageEnd_39 (by decide) ?_
      refine lv_istore (lv' := [(4, .int 0), (3, .int 0), (0, .ref x0), (1, .int x1), (2, .int x2)]) hx hb dX5_pageEnd_40 hl (by decide) rfl (fun ls hl => ?_)
      have L42 : ∀ (u0_42 : Nat) (u1_42 : Int32) (u2_42 : Int32) (k9 : Int32 → Int32 → Option ((Int32) × Mem)),
          (∀ (w3_42 : Int32) (w4_42 : Int32) (H : Heap) (locs : List Loc) (ls : Array Slot), k9 w3_42 w4_42 = some r → MW G A m8 s.heap H locs → lv_has ls 5 [(0, .ref u0_42), (1, .int u1_42), (2, .int u2_42), (3, .int w3_42), (4, .int w4_42)] → W p l e ({ frames := 14, cells := 0, slots := 0, locals := 270 } : Room) s m args below meth c H locs 0 0 (QQ below G A (dP (.inr (rI r.1)) r.2) args s 0 0) (F0 m 63 ls [])) →
          ∀ (n : Nat) (w3_42 : Int32) (w4_42 : Int32) (H : Heap) (locs : List Loc) (ls : Array Slot), f_X5_pageEnd_L42 m8 u0_42 u1_42 u2_42 k9 n w3_42 w4_42 = some r → MW G A m8 s.heap H locs → lv_has ls 5 [(0, .ref u0_42), (1, .int u1_42), (2, .int u2_42), (3, .int w3_42), (4, .int w4_42)] → W p l e ({ frames := 14, cells := 0, slots := 0, locals := 270 } : Room) s m args below meth c H locs 0 0 (QQ below G A (dP (.inr (rI r.1)) r.2) args s 0 0) (F0 m 42 ls []) := by
        intro u0_42 u1_42 u2_42 k9 hk42 n
        induction n with
        | zero => intro w3_42 w4_42 H locs ls hf hW hl; rw [f_X5_pageEnd_L42] at hf; cases hf
        | succ n ih42 =>
          intro w3_42 w4_42 H locs ls hf hW hl
          rw [f_X5_pageEnd_L42] at hf
          refine lv_iload hx hb dX5_pageEnd_42 (lv_at hl 4 rfl) ?_
          refine lv_iload_n hx hb dX5_pageEnd_44 rfl (lv_at hl 2 rfl) ?_
          refine lv_icmp_ge (tgt := 63) hx hb dX5_pageEnd_45 (by decide) (fun hc => ?_) (fun hc => ?_)
          · replace hf := itp hc hf
            exact hk42 _ _ _ _ _ hf hW (lv_sub hl [0, 1, 2, 3, 4] rfl)
          · replace hf := itn hc hf
            refine lv_iload_n hx hb dX5_pageEnd_48 rfl (lv_at hl 3 rfl) ?_
            refine lv_aload_n hx hb dX5_pageEnd_49 rfl (lv_at hl 0 rfl) ?_
            replace hf := bnd hf
            obtain ⟨t17, h18, hf⟩ := hf
            refine g_7_26 X hW hinX5 hF75 h18 dX5_pageEnd_50 ?_
            refine lv_iload_n hx hb dX5_pageEnd_53 rfl (lv_at hl 3 rfl) ?_
            replace hf := bnd hf
            obtain ⟨a19, h20, hf⟩ := hf
            subst h20
            replace hf := bnd hf
            obtain ⟨t21, h22, hf⟩ := hf
            refine r_ald X hW h22 dX5_pageEnd_54 ?_
            refine lv_iadd hx hb dX5_pageEnd_55 ?_
            refine lv_istore_n (lv' := [(3, .int (w3_42 + t21)), (0, .ref u0_42), (1, .int u1_42), (2, .int u2_42), (4, .int w4_42)]) hx hb dX5_pageEnd_56 rfl hl (by decide) rfl (fun ls hl => ?_)
            refine lv_iinc (v := (w4_42 + 1)) (lv' := [(4, .int (w4_42 + 1)), (3, .int (w3_42 + t21)), (0, .ref u0_42), (1, .int u1_42), (2, .int u2_42)]) hx hb dX5_pageEnd_57 hl (k := 4) rfl rfl (by decide) rfl (fun ls hl => ?_)
            refine lv_goto (tgt := 42) hx hb dX5_pageEnd_60 (by decide) ?_
            exact ih42 _ _ _ _ _ hf hW (lv_sub hl [2, 3, 4, 1, 0] rfl)
      refine L42 x0 x1 x2 _ ?_ 200 0 0 _ _ _ hf hW (lv_sub hl [2, 3, 4, 1, 0] rfl)
      intro zw3_42 zw4_42 H locs ls hf hW hl
      refine lv_aload_n hx hb dX5_pageEnd_63 rfl (lv_at hl 0 rfl) ?_
      refine lv_iload_n hx hb dX5_pageEnd_64 rfl (lv_at hl 3 rfl) ?_
      refine lv_aload_n hx hb dX5_pageEnd_65 rfl (lv_at hl 0 rfl) ?_
      replace hf := bnd hf
      obtain ⟨t23, h24, hf⟩ := hf
      refine g_7_26 X hW hinX5 hF75 h24 dX5_pageEnd_66 ?_
      refine lv_iload_n hx hb dX5_pageEnd_69 rfl (lv_at hl 3 rfl) ?_
      replace hf := bnd hf
      obtain ⟨a25, h26, hf⟩ := hf
      subst h26
      replace hf := bnd hf
      obtain ⟨t27, h28, hf⟩ := hf
      refine r_ald X hW h28 dX5_pageEnd_70 ?_
      refine lv_iadd hx hb dX5_pageEnd_71 ?_
      refine lv_iconst (v := 1) hx hb dX5_pageEnd_72 (by decide) ?_
      refine lv_isub hx hb dX5_pageEnd_73 ?_
      replace hf := bnd hf
      obtain ⟨_, h29, hf⟩ := hf
      replace hf := bnd hf
      obtain ⟨t30, h31, hf⟩ := hf
      refine r_callV_ok X hW hl.1 (k_X5_lastBar l hsl G A m8 x0 ((zw3_42 + t27) - 1) _ h31) gX5_pageEnd_X5_lastBar rfl (chk_ok h29) (by decide) rfl (by decide +kernel) (n := 1) rfl (by decide) (Nat.le_of_ble_eq_true rfl) dX5_pageEnd_74 rfl rfl (stk := [.int t30]) rfl (fun H locs hW => ?_)
      exact r_iret X hr hW (by cases hf; exact ⟨rfl, rfl⟩) (by decide) (by decide) dX5_pageEnd_77
    · replace hf := itp hc hf
      refine lv_aload_n hx hb dX5_pageEnd_31 rfl (lv_at hl 0 rfl) ?_
      refine lv_iconst (v := 2) hx hb dX5_pageEnd_32 (by decide) ?_
      replace hf := bnd hf
      obtain ⟨_, h32, hf⟩ := hf
      replace hf := bnd2 hf
      obtain ⟨t33, m35, h34, hf⟩ := hf
      refine r_callV_ok (μ9 := m35) X hW hl.1 (k_X5_fails l hsl G A m8 x0 2 _ h34) gX5_pageEnd_X5_fails rfl (chk_ok h32) (by decide) rfl (by decide +kernel) (n := 1) rfl (by decide) (Nat.le_of_ble_eq_true rfl) dX5_pageEnd_33 rfl rfl (stk := [.int t33]) rfl (fun H locs hW => ?_)
      exact r_iret X hr hW (by cases hf; exact ⟨rfl, rfl⟩) (by decide) (by decide) dX5_pageEnd_36
  · replace hf := itn hc hf
    refine lv_iconst (v := 0) hx hb dX5_pageEnd_8 (by decide) ?_
    exact r_iret X hr hW (by cases hf; exact ⟨rfl, rfl⟩) (by decide) (by decide) dX5_pageEnd_9
