/-! THE LAW'S LOOP (printed by mk_walk.py) -/
theorem and63 (x : Int32) : ∃ k : Nat, k ≤ 63 ∧ (x &&& 63).toInt = (k : Int) := by
  refine ⟨(x &&& 63).toBitVec.toNat, ?_, ?_⟩
  · show (x.toBitVec &&& 63#32).toNat ≤ 63
    rw [BitVec.toNat_and]
    exact Nat.and_le_right
  · show (x &&& 63).toBitVec.toInt = _
    apply BitVec.toInt_eq_toNat_of_lt
    show 2 * (x.toBitVec &&& 63#32).toNat < 2 ^ 32
    rw [BitVec.toNat_and]
    have h : x.toBitVec.toNat &&& (63#32).toNat ≤ (63#32).toNat := Nat.and_le_right
    have h2 : (63#32).toNat = 63 := rfl
    omega
set_option maxHeartbeats 4000000 in
theorem law_disp {p : Program} {l : Launch} {e : Env} {s : State} {m : MethodId} {below : List Frame} {meth : Method} {c : Code} {b L : Nat} {xs : Nat → Int32} {G : GG} {Q : State → Prop} (C : LC p l s m c b L xs G) {i : Nat} (hi : 7 * i + 7 ≤ L) {x y out od cells slots : Nat} {μ : Mem} {S : SS} {H : Heap} {locs : List Loc} {ls : Array Slot} (hS : Sm μ x y out od S) (hW : MW G (LA s) μ s.heap H locs) (hl : lv_has ls 9 [(5, .int (nI (7 * i))), (4, .ref od), (3, .ref out), (2, .ref y), (1, .ref x), (0, .ref b)]) (hR : cells + 20 ≤ 603072 ∧ slots + 200 ≤ 7194730) (K : Nx p l e s m below meth c b cells slots Q G x y out od i) (w : Int32) (hw : ∃ k : Nat, k ≤ 63 ∧ w.toInt = (k : Int)) :
    W p l e room_1 s m #[Value.ref b] below meth c H locs cells slots Q (F0 m 45 ls [.int w]) := by
  obtain ⟨k, hk, ek⟩ := hw
  have hx := C.1
  have hb := C.2.1
  by_cases h : 37 < k
  · refine lv_tableOut (tgt := 2610) hx hb dL_law_45 (Or.inr (by rw [ek]; omega)) (by decide) ?_
    exact W.widen (k := cells + 20) (n := slots + 200) (by omega) (by omega) (K μ S H locs ls hS hW hl)
  · rcases (show k = 0 ∨ k = 1 ∨ k = 2 ∨ k = 3 ∨ k = 4 ∨ k = 5 ∨ k = 6 ∨ k = 7 ∨ k = 8 ∨ k = 9 ∨ k = 10 ∨ k = 11 ∨ k = 12 ∨ k = 13 ∨ k = 14 ∨ k = 15 ∨ k = 16 ∨ k = 17 ∨ k = 18 ∨ k = 19 ∨ k = 20 ∨ k = 21 ∨ k = 22 ∨ k = 23 ∨ k = 24 ∨ k = 25 ∨ k = 26 ∨ k = 27 ∨ k = 28 ∨ k = 29 ∨ k = 30 ∨ k = 31 ∨ k = 32 ∨ k = 33 ∨ k = 34 ∨ k = 35 ∨ k = 36 ∨ k = 37 by omega) with rfl | rfl | rfl | rfl | rfl | rfl | rfl | rfl | rfl | rfl | rfl | rfl | rfl | rfl | rfl | rfl | rfl | rfl | rfl | rfl | rfl | rfl | rfl | rfl | rfl | rfl | rfl | rfl | rfl | rfl | rfl | rfl | rfl | rfl | rfl | rfl | rfl | rfl
    · exact lv_tableIn (off := 167) (tgt := 212) hx hb dL_law_45 (by rw [ek]; decide) (by rw [ek]; decide) (by rw [ek]; rfl) (by decide) (cs_addPart C hi hS hW hl hR K)
    · exact lv_tableIn (off := 223) (tgt := 268) hx hb dL_law_45 (by rw [ek]; decide) (by rw [ek]; decide) (by rw [ek]; rfl) (by decide) (cs_addBar C hi hS hW hl hR K)
    · exact lv_tableIn (off := 319) (tgt := 364) hx hb dL_law_45 (by rw [ek]; decide) (by rw [ek]; decide) (by rw [ek]; rfl) (by decide) (cs_setMark C hi hS hW hl hR K)
    · exact lv_tableIn (off := 410) (tgt := 455) hx hb dL_law_45 (by rw [ek]; decide) (by rw [ek]; decide) (by rw [ek]; rfl) (by decide) (cs_setKey C hi hS hW hl hR K)
    · exact lv_tableIn (off := 478) (tgt := 523) hx hb dL_law_45 (by rw [ek]; decide) (by rw [ek]; decide) (by rw [ek]; rfl) (by decide) (cs_addNote C hi hS hW hl hR K)
    · exact lv_tableIn (off := 596) (tgt := 641) hx hb dL_law_45 (by rw [ek]; decide) (by rw [ek]; decide) (by rw [ek]; rfl) (by decide) (cs_correct C hi hS hW hl hR K)
    · exact lv_tableIn (off := 664) (tgt := 709) hx hb dL_law_45 (by rw [ek]; decide) (by rw [ek]; decide) (by rw [ek]; rfl) (by decide) (cs_stretch C hi hS hW hl hR K)
    · exact lv_tableIn (off := 732) (tgt := 777) hx hb dL_law_45 (by rw [ek]; decide) (by rw [ek]; decide) (by rw [ek]; rfl) (by decide) (cs_takeOut C hi hS hW hl hR K)
    · exact lv_tableIn (off := 788) (tgt := 833) hx hb dL_law_45 (by rw [ek]; decide) (by rw [ek]; decide) (by rw [ek]; rfl) (by decide) (cs_notesIn C hi hS hW hl hR K)
    · exact lv_tableIn (off := 856) (tgt := 901) hx hb dL_law_45 (by rw [ek]; decide) (by rw [ek]; decide) (by rw [ek]; rfl) (by decide) (cs_noteAt C hi hS hW hl hR K)
    · exact lv_tableIn (off := 936) (tgt := 981) hx hb dL_law_45 (by rw [ek]; decide) (by rw [ek]; decide) (by rw [ek]; rfl) (by decide) (cs_pitchOf C hi hS hW hl hR K)
    · exact lv_tableIn (off := 992) (tgt := 1037) hx hb dL_law_45 (by rw [ek]; decide) (by rw [ek]; decide) (by rw [ek]; rfl) (by decide) (cs_lengthOf C hi hS hW hl hR K)
    · exact lv_tableIn (off := 1048) (tgt := 1093) hx hb dL_law_45 (by rw [ek]; decide) (by rw [ek]; decide) (by rw [ek]; rfl) (by decide) (cs_isDivided C hi hS hW hl hR K)
    · exact lv_tableIn (off := 1123) (tgt := 1168) hx hb dL_law_45 (by rw [ek]; decide) (by rw [ek]; decide) (by rw [ek]; rfl) (by decide) (cs_written C hi hS hW hl hR K)
    · exact lv_tableIn (off := 1179) (tgt := 1224) hx hb dL_law_45 (by rw [ek]; decide) (by rw [ek]; decide) (by rw [ek]; rfl) (by decide) (cs_writtenKey C hi hS hW hl hR K)
    · exact lv_tableIn (off := 1247) (tgt := 1292) hx hb dL_law_45 (by rw [ek]; decide) (by rw [ek]; decide) (by rw [ek]; rfl) (by decide) (cs_letterOf C hi hS hW hl hR K)
    · exact lv_tableIn (off := 1303) (tgt := 1348) hx hb dL_law_45 (by rw [ek]; decide) (by rw [ek]; decide) (by rw [ek]; rfl) (by decide) (cs_accidentalOf C hi hS hW hl hR K)
    · exact lv_tableIn (off := 1359) (tgt := 1404) hx hb dL_law_45 (by rw [ek]; decide) (by rw [ek]; decide) (by rw [ek]; rfl) (by decide) (cs_rests C hi hS hW hl hR K)
    · exact lv_tableIn (off := 1415) (tgt := 1460) hx hb dL_law_45 (by rw [ek]; decide) (by rw [ek]; decide) (by rw [ek]; rfl) (by decide) (cs_restFirst C hi hS hW hl hR K)
    · exact lv_tableIn (off := 1483) (tgt := 1528) hx hb dL_law_45 (by rw [ek]; decide) (by rw [ek]; decide) (by rw [ek]; rfl) (by decide) (cs_restBars C hi hS hW hl hR K)
    · exact lv_tableIn (off := 1551) (tgt := 1596) hx hb dL_law_45 (by rw [ek]; decide) (by rw [ek]; decide) (by rw [ek]; rfl) (by decide) (cs_setPage C hi hS hW hl hR K)
    · exact lv_tableIn (off := 1607) (tgt := 1652) hx hb dL_law_45 (by rw [ek]; decide) (by rw [ek]; decide) (by rw [ek]; rfl) (by decide) (cs_setTurn C hi hS hW hl hR K)
    · exact lv_tableIn (off := 1663) (tgt := 1708) hx hb dL_law_45 (by rw [ek]; decide) (by rw [ek]; decide) (by rw [ek]; rfl) (by decide) (cs_setCue C hi hS hW hl hR K)
    · exact lv_tableIn (off := 1719) (tgt := 1764) hx hb dL_law_45 (by rw [ek]; decide) (by rw [ek]; decide) (by rw [ek]; rfl) (by decide) (cs_hardTurns C hi hS hW hl hR K)
    · exact lv_tableIn (off := 1775) (tgt := 1820) hx hb dL_law_45 (by rw [ek]; decide) (by rw [ek]; decide) (by rw [ek]; rfl) (by decide) (cs_hardTurnsByTrying C hi hS hW hl hR K)
    · exact lv_tableIn (off := 1831) (tgt := 1876) hx hb dL_law_45 (by rw [ek]; decide) (by rw [ek]; decide) (by rw [ek]; rfl) (by decide) (cs_pages C hi hS hW hl hR K)
    · exact lv_tableIn (off := 1887) (tgt := 1932) hx hb dL_law_45 (by rw [ek]; decide) (by rw [ek]; decide) (by rw [ek]; rfl) (by decide) (cs_pageEnd C hi hS hW hl hR K)
    · exact lv_tableIn (off := 1955) (tgt := 2000) hx hb dL_law_45 (by rw [ek]; decide) (by rw [ek]; decide) (by rw [ek]; rfl) (by decide) (cs_cuePart C hi hS hW hl hR K)
    · exact lv_tableIn (off := 2023) (tgt := 2068) hx hb dL_law_45 (by rw [ek]; decide) (by rw [ek]; decide) (by rw [ek]; rfl) (by decide) (cs_cuePitch C hi hS hW hl hR K)
    · exact lv_tableIn (off := 2103) (tgt := 2148) hx hb dL_law_45 (by rw [ek]; decide) (by rw [ek]; decide) (by rw [ek]; rfl) (by decide) (cs_copyOut C hi hS hW hl hR K)
    · exact lv_tableIn (off := 2159) (tgt := 2204) hx hb dL_law_45 (by rw [ek]; decide) (by rw [ek]; decide) (by rw [ek]; rfl) (by decide) (cs_carry C hi hS hW hl hR K)
    · exact lv_tableIn (off := 2215) (tgt := 2260) hx hb dL_law_45 (by rw [ek]; decide) (by rw [ek]; decide) (by rw [ek]; rfl) (by decide) (cs_differences C hi hS hW hl hR K)
    · exact lv_tableIn (off := 2271) (tgt := 2316) hx hb dL_law_45 (by rw [ek]; decide) (by rw [ek]; decide) (by rw [ek]; rfl) (by decide) (cs_differencesByComparing C hi hS hW hl hR K)
    · exact lv_tableIn (off := 2327) (tgt := 2372) hx hb dL_law_45 (by rw [ek]; decide) (by rw [ek]; decide) (by rw [ek]; rfl) (by decide) (cs_copied C hi hS hW hl hR K)
    · exact lv_tableIn (off := 2383) (tgt := 2428) hx hb dL_law_45 (by rw [ek]; decide) (by rw [ek]; decide) (by rw [ek]; rfl) (by decide) (cs_ticks C hi hS hW hl hR K)
    · exact lv_tableIn (off := 2397) (tgt := 2442) hx hb dL_law_45 (by rw [ek]; decide) (by rw [ek]; decide) (by rw [ek]; rfl) (by decide) (cs_meanPitch C hi hS hW hl hR K)
    · exact lv_tableIn (off := 2474) (tgt := 2519) hx hb dL_law_45 (by rw [ek]; decide) (by rw [ek]; decide) (by rw [ek]; rfl) (by decide) (cs_restShare C hi hS hW hl hR K)
    · exact lv_tableIn (off := 2552) (tgt := 2597) hx hb dL_law_45 (by rw [ek]; decide) (by rw [ek]; decide) (by rw [ek]; rfl) (by decide) (cs_isTrue C hi hS hW hl hR K)
theorem law_stop {L i : Nat} (hL : L ≤ 3584) (h : ¬ Int32.ofNat L - 7 < nI (7 * i)) (hi : 7 * i ≤ L) : 7 * i + 7 ≤ L := by
  rcases Nat.lt_or_ge L (7 * i + 7) with h1 | h1
  · refine absurd ?_ h
    rw [Int32.lt_iff_toInt_lt, show (Int32.ofNat L - 7).toInt = (nI L - nI 7).toInt from rfl, pk_sub_toInt (by omega) (by omega), nI_toInt (by omega)]
    omega
  · exact h1
set_option maxHeartbeats 1000000 in
theorem law_loop {p : Program} {l : Launch} {e : Env} {s : State} {m : MethodId} {below : List Frame} {meth : Method} {c : Code} {b L : Nat} {xs : Nat → Int32} {G : GG} {Q : State → Prop} (C : LC p l s m c b L xs G) (hEnd : ∀ (H : Heap) (locs : List Loc) (ls : Array Slot), va_S (LA s) s.heap H locs → W p l e room_1 s m #[Value.ref b] below meth c H locs 603072 7194730 Q (F0 m 2616 ls [])) {x y out od : Nat} :
    ∀ (k i : Nat), i + k = 513 → 7 * i ≤ L → ∀ {μ : Mem} {S : SS} {H : Heap} {locs : List Loc} {ls : Array Slot}, Sm μ x y out od S → MW G (LA s) μ s.heap H locs → lv_has ls 9 [(5, .int (nI (7 * i))), (4, .ref od), (3, .ref out), (2, .ref y), (1, .ref x), (0, .ref b)] → W p l e room_1 s m #[Value.ref b] below meth c H locs (36 + 20 * i) (1530 + 200 * i) Q (F0 m 28 ls []) := by
  obtain ⟨hx, hb, hml, hown, hts, hE, hX, hbl, hsl, hL⟩ := id C
  have hbA : ¬ LA s b := Nat.not_le.mpr hbl
  intro k
  induction k with
  | zero =>
    intro i hik hi
    exact absurd hi (by omega)
  | succ k ih =>
    intro i hik hi μ S H locs ls hS hW hl
    refine lv_iload hx hb dL_law_28 (lv_at hl 0 rfl) ?_
    refine lv_aload_n hx hb dL_law_30 rfl (lv_at hl 5 rfl) ?_
    refine va_slen hx hb hX hbl hbA hW.2 dL_law_31 ?_
    refine lv_bipush (v := 7) hx hb dL_law_32 (by decide) ?_
    refine lv_isub hx hb dL_law_34 ?_
    refine lv_icmp_gt (tgt := 2616) hx hb dL_law_35 (by decide) (fun _ => W.widen (k := 603072) (n := 7194730) (by omega) (by omega) (hEnd H locs ls hW.2)) (fun hgo => ?_)
    have hi7 : 7 * i + 7 ≤ L := law_stop hL hgo hi
    have hin0 : vp_in (nI (7 * i)) L := vp_in_nI (by omega) (by omega)
    refine lv_aload_n hx hb dL_law_38 rfl (lv_at hl 5 rfl) ?_
    refine lv_iload hx hb dL_law_39 (lv_at hl 0 rfl) ?_
    refine va_sld hx hb hX hbl hbA hW.2 hin0 dL_law_41 ?_
    refine lv_bipush (v := 63) hx hb dL_law_42 (by decide) ?_
    refine lv_iand hx hb dL_law_44 ?_
    refine law_disp C hi7 hS hW hl ⟨by omega, by omega⟩ ?_ _ (and63 _)
    intro μ' S' H' locs' ls' hS' hW' hl'
    refine lv_iinc (k := 0) (lv' := [(5, .int (nI (7 * i) + Int32.ofInt 7)), (4, .ref od), (3, .ref out), (2, .ref y), (1, .ref x), (0, .ref b)]) hx hb dL_law_2610 hl' rfl rfl (by decide) rfl (fun ls2 hl2 => ?_)
    refine lv_goto (tgt := 28) hx hb dL_law_2613 (by decide) ?_
    have hl2 : lv_has ls2 9 [(5, .int (nI (7 * (i + 1)))), (4, .ref od), (3, .ref out), (2, .ref y), (1, .ref x), (0, .ref b)] := by
      rw [show nI (7 * (i + 1)) = nI (7 * i) + Int32.ofInt 7 from (nI_add (7 * i) 7).symm]
      exact hl2
    have h := ih (i + 1) (by omega) (by omega) hS' hW' hl2
    rw [show 36 + 20 * (i + 1) = 36 + 20 * i + 20 by omega, show 1530 + 200 * (i + 1) = 1530 + 200 * i + 200 by omega] at h
    exact h
