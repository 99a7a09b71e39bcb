theorem Ok.startW {l : Launch} {y : MethodName} {cc : ByteArray} {maxL : Nat} {ret : Option FieldType} {hh : List (Nat × Nat × Nat × Nat)} {ws ws' : List Cond} {rm : Room} {av : List Value} {G : GG} {A : Nat → Prop} {μ : Mem} {P : Nat ⊕ Option Value → Mem → Prop} (hw : ws = .codeWith y cc maxL ret hh :: ws') (hy : plainName y.cls = true) (hn : (lg_sl av).length ≤ maxL)
    (body : ∀ (p : Program) (e : Env) (s : State) (m : MethodId) (args : Array Value) (below : List Frame) (meth : Method) (c : Code) (ls : Array Slot), p.tables.exec = Jvm.exec → c.code = cc → c.maxLocals = maxL → s.vm.findClass y.cls = some m.cls → (∀ w ∈ ws, w.before args s = true) → EN G A s s.heap → meth.locks = false → c.exceptionTable.toList = tableOf hh → (∀ q, s.heap.size ≤ q → A q) → meth.sig.returnType = ret → MW G A μ s.heap s.heap [] → lv_has ls maxL (lv_args 0 av) →
      W p l e rm s m args below meth c s.heap [] 0 0 (QQ below G A P args s rm.cells rm.slots) (F0 m 0 ls [])) : Ok l y ws rm av G A μ P := by
  refine vx_ofWH (cc := cc) (maxL := maxL) (ret := ret) (hh := hh) hy hw ?_
  intro p e s m args below meth c s₁ B hml hv
  obtain ⟨rfl, hE, hM, hA⟩ := hv
  have hts := atoms_spec (ws := ws) B.pre
  have hl := lv_entry av (n := maxL) hn
  have htab : c.exceptionTable.toList = tableOf hh := vx_table (x := y) B (hts (.codeWith y cc maxL ret hh) (by rw [hw]; exact List.mem_cons_self))
  rw [lg_entry_eq]
  exact body p e s m _ below meth c _ B.exec B.bytes hml (findClass_of_methodNamed B.named) hts hE B.notSynchronized htab hA B.returns ⟨hM, va_S.rf⟩ hl
section R16
variable {p : Program} {l : Launch} {e : Env} {R : Room} {s : State} {m : MethodId} {args : Array Value} {below : List Frame} {meth : Method} {c : Code} {H : Heap} {locs : List Loc} {cells slots : Nat} {Q : State → Prop} {cc : ByteArray} {pc nL : Nat} {ls : Array Slot} {rest : List Value} {own : String} {Ts : List Cond} {G : GG} {A : Nat → Prop} {μ : Mem} {P : Nat ⊕ Option Value → Mem → Prop} {mc ms : Nat}
theorem r_lstK {a : Nat} {i : Int32} {v : Int64} {μ' : Mem} (hx : p.tables.exec = Jvm.exec) (hb : c.code = cc) (hEK : va_K G.1 vwCl (tyL G.2.1) s) (hW : MW G A μ s.heap H locs) (h : lst μ a i v = some μ') (hdg : decode cc pc = .ok (.lastore, 1))
    (kk : ∀ (H1 : Heap) (locs1 : List Loc), MW G A μ' s.heap H1 locs1 → W p l e R s m args below meth c H1 locs1 cells slots Q (F0 m (pc + 1) ls rest)) : W p l e R s m args below meth c H locs cells slots Q (F0 m pc ls (.long v :: .int i :: .ref a :: rest)) := by
  obtain ⟨⟨ha, hk, ht, hi⟩, rfl⟩ := ifs h
  obtain ⟨q0, hq0⟩ := hW.1.at ha
  refine va_last (D := G.1) (cl := vwCl) hx hb hEK hW.1.1 hW.1.2 hW.2 q0 5 (cA := G.2.1 5) (n := mN μ a) (f := mJ μ (mK μ a) a) (by rw [hq0, ent_arr hk, ht, rw9_l ht]) (show (tyL G.2.1)[5]? = some (G.2.1 5, .long) from rfl) (inb_vp hi) hdg (fun H1 locs1 hP hD hS => ?_)
  refine kk H1 locs1 ⟨MM.set (D := G.1) hW.1.2 ha hq0 rfl (fun b => ?_) hP hD, hS⟩
  rw [show G.2.1 5 = G.2.1 (aT (mK μ a)) from by rw [ht]]
  refine ent_row (μ' := sJ μ (mK μ a) a i.toNatClampNeg v) hk rfl rfl rfl rfl ?_ (fun k b hb9 => rw9_sJ hb9 k) b
  rw [rw9_l ht]
  exact congrArg (fun z => Sum.inr (Sum.inl z)) (up3_row _ _ _ _ _)
theorem r_dstK {a : Nat} {i : Int32} {v : UInt64} {μ' : Mem} (hx : p.tables.exec = Jvm.exec) (hb : c.code = cc) (hEK : va_K G.1 vwCl (tyL G.2.1) s) (hW : MW G A μ s.heap H locs) (h : dst μ a i v = some μ') (hdg : decode cc pc = .ok (.dastore, 1))
    (kk : ∀ (H1 : Heap) (locs1 : List Loc), MW G A μ' s.heap H1 locs1 → W p l e R s m args below meth c H1 locs1 cells slots Q (F0 m (pc + 1) ls rest)) : W p l e R s m args below meth c H locs cells slots Q (F0 m pc ls (.double v :: .int i :: .ref a :: rest)) := by
  obtain ⟨⟨ha, hk, ht, hi⟩, rfl⟩ := ifs h
  obtain ⟨q0, hq0⟩ := hW.1.at ha
  refine va_dast (D := G.1) (cl := vwCl) hx hb hEK hW.1.1 hW.1.2 hW.2 q0 6 (cA := G.2.1 6) (n := mN μ a) (f := mE μ (mK μ a) a) (by rw [hq0, ent_arr hk, ht, rw9_d ht]) (show (tyL G.2.1)[6]? = some (G.2.1 6, .double) from rfl) (inb_vp hi) hdg (fun H1 locs1 hP hD hS => ?_)
  refine kk H1 locs1 ⟨MM.set (D := G.1) hW.1.2 ha hq0 rfl (fun b => ?_) hP hD, hS⟩
  rw [show G.2.1 6 = G.2.1 (aT (mK μ a)) from by rw [ht]]
  refine ent_row (μ' := sE μ (mK μ a) a i.toNatClampNeg v) hk rfl rfl rfl rfl ?_ (fun k b hb9 => rw9_sE hb9 k) b
  rw [rw9_d ht]
  exact congrArg (fun z => Sum.inr (Sum.inr (Sum.inr (Sum.inl z)))) (up3_row _ _ _ _ _)
theorem r_lldK {a : Nat} {i : Int32} {v : Int64} (hx : p.tables.exec = Jvm.exec) (hb : c.code = cc) (hEK : va_K G.1 vwCl (tyL G.2.1) s) (hW : MW G A μ s.heap H locs) (h : lld μ a i = some v) (hdg : decode cc pc = .ok (.laload, 1))
    (kk : W p l e R s m args below meth c H locs cells slots Q (F0 m (pc + 1) ls (.long v :: rest))) : W p l e R s m args below meth c H locs cells slots Q (F0 m pc ls (.int i :: .ref a :: rest)) := by
  obtain ⟨⟨ha, hk, ht, hi⟩, rfl⟩ := ifs h
  obtain ⟨q0, hq0⟩ := hW.1.at ha
  exact va_lald (D := G.1) (cl := vwCl) hx hb hEK hW.1.1 q0 5 (by rw [hq0, ent_arr hk, ht, rw9_l ht]) (show (tyL G.2.1)[5]? = some (G.2.1 5, .long) from rfl) (inb_vp hi) hdg kk
theorem r_dldK {a : Nat} {i : Int32} {v : UInt64} (hx : p.tables.exec = Jvm.exec) (hb : c.code = cc) (hEK : va_K G.1 vwCl (tyL G.2.1) s) (hW : MW G A μ s.heap H locs) (h : dld μ a i = some v) (hdg : decode cc pc = .ok (.daload, 1))
    (kk : W p l e R s m args below meth c H locs cells slots Q (F0 m (pc + 1) ls (.double v :: rest))) : W p l e R s m args below meth c H locs cells slots Q (F0 m pc ls (.int i :: .ref a :: rest)) := by
  obtain ⟨⟨ha, hk, ht, hi⟩, rfl⟩ := ifs h
  obtain ⟨q0, hq0⟩ := hW.1.at ha
  exact va_dald (D := G.1) (cl := vwCl) hx hb hEK hW.1.1 q0 6 (by rw [hq0, ent_arr hk, ht, rw9_d ht]) (show (tyL G.2.1)[6]? = some (G.2.1 6, .double) from rfl) (inb_vp hi) hdg kk
theorem r_iretW {v : Int32} (hx : p.tables.exec = Jvm.exec) (hb : c.code = cc) (hlk : meth.locks = false) (hr : meth.sig.returnType = some .int) (hW : MW G A μ s.heap H locs) (hP : P (.inr (some (.int v))) μ) (hc : cells ≤ mc) (hs : slots ≤ ms) (hdg : decode cc pc = .ok (.ireturn, 1)) : W p l e R s m args below meth c H locs cells slots (QQ below G A P args s mc ms) (F0 m pc ls [.int v]) := by
  refine W.widen hc hs ?_
  refine vx_ret ?_
  exact W.iret hx hb hr (fun t ht _ => qn_of hW hP _ t ht) hW.2.2.2 hdg hlk
theorem pre_ofK {av : List Value} (hE : EN G A s s.heap) (hA9 : ∀ q, s.heap.size ≤ q → A q) (hW : MW G A μ s.heap H locs) (U : State) (hU : U.heap = H) (hWm : s.WarmedH U.vm) : Pn G A μ av av.toArray U := by
  refine ⟨rfl, ?_, by rw [hU]; exact hW.1, fun q hq => hA9 q ?_⟩
  · rw [hU]; exact hE.to hW.2.2.1 hWm
  · rw [hU] at hq; exact Nat.le_trans hW.2.1 hq
/-- a call whose throw goes on as the caller says -/
theorem r_runK {rmY : Room} {P9 : Nat ⊕ Option Value → Mem → Prop} {a9 : Array Value} {st0 : List Value} (hW : MW G A μ s.heap H locs)
    (hrun : vx_Run p l e R s m args below meth c H locs cells slots rmY.cells rmY.slots (F0 m pc ls st0) rest (Qn G A P9 a9) (Xn G A P9) A)
    (kx : ∀ (e9 : Nat) (E : String) (ce : Cell) (q9 : Nat) (μ' : Mem) (H1 : Heap) (locs1 : List Loc), P9 (.inl e9) μ' → E = xn e9 → MW G A μ' s.heap H1 locs1 → H1[q9]? = some ce → ce.vm = .none → s.vm.findClass E = some ce.cls → vx_W p l e R s m args below meth c H1 locs1 (cells + rmY.cells) (slots + rmY.slots) Q (F0 m pc ls rest) q9)
    (kk : ∀ (v : Option Value) (μ' : Mem) (H1 : Heap) (locs1 : List Loc), P9 (.inr v) μ' → MW G A μ' s.heap H1 locs1 → W p l e R s m args below meth c H1 locs1 (cells + rmY.cells) (slots + rmY.slots) Q (F0 m (pc + 3) ls (v.toList ++ rest))) :
    W p l e R s m args below meth c H locs cells slots Q (F0 m pc ls st0) := by
  intro T hT XT
  rcases hrun T hT XT with ⟨v, st₀, t, T', L, h0, X', hL, e1, e2, ⟨v', μ', hP, hv, hM', hF⟩, st⟩ | ⟨q, st₀, t, T', L, E, ce, h0, X', hL, e1, e2, ⟨e', μ', hP, hE9, hM', hF⟩, hce, hcv, hcl, st⟩
  · cases hv
    obtain ⟨-, -, k3⟩ := vx_keep h0 e1 hW.2 (fun q _ h => h) (fun q h => h) hL hF
    obtain ⟨t2, a1, b1⟩ := kk v μ' T'.heap (locs ++ L) hP ⟨by rw [e1]; exact hM', k3⟩ T' rfl X'
    exact ⟨t2, st t2 a1, b1⟩
  · obtain ⟨-, -, k3⟩ := vx_keep h0 e1 hW.2 (fun q _ h => h) (fun q h => h) hL hF
    obtain ⟨t2, a1, b1⟩ := kx e' E ce q μ' T'.heap (locs ++ L) hP hE9 ⟨by rw [e1]; exact hM', k3⟩ (by rw [e1]; exact hce) hcv hcl T' rfl X'
    exact ⟨t2, st.trans a1, b1⟩
theorem r_callVK {y : MethodName} {wsY wsY' : List Cond} {bytes : ByteArray} {maxL n index b ci : Nat} {ret : Option FieldType} {rmY : Room} {As : List Value} {P9 : Nat ⊕ Option Value → Mem → Prop} {q : vw_C} (hx : p.tables.exec = Jvm.exec) (hb : c.code = cc) (hml : c.maxLocals = nL) (hown : s.vm.findClass own = some m.cls) (hts : ∀ w ∈ Ts, w.before args s = true) (hE : EN G A s s.heap) (hA9 : ∀ q, s.heap.size ≤ q → A q) (hW : MW G A μ s.heap H locs) (hl : ls.size = nL)
    (hO : Ok l y wsY rmY (.ref b :: As) G A μ P9) (hg : GoodIn Ts (wsV own index q.1 y wsY)) (hw : wsY = .code y bytes maxL ret :: wsY') (hb9 : ok9 μ ci b) (hc9 : ci < 10) (hcl : vwCl[ci]? = some q)
    (hd : y.cls = q.1 ∧ y.cls ≠ "java/lang/invoke/MethodHandle" ∧ y.cls ≠ "java/lang/invoke/VarHandle" ∧ (parseMethodDescriptor y.desc).map (fun d => d.parameters.length) = some n) (hn : As.length = n) (hR : rmY.frames + 1 ≤ R.frames ∧ 8 + (maxL + 11) + rmY.locals ≤ R.locals ∧ cells + rmY.cells ≤ R.cells ∧ slots + rmY.slots ≤ R.slots) (hcat : (rest.map fun v => v.category).sum ≤ 8)
    (hdg : decode cc pc = .ok (.invokevirtual index, 3)) {st0 : List Value} (hst : st0 = As.reverse ++ .ref b :: rest)
    (kx : ∀ (e9 : Nat) (E : String) (ce : Cell) (q9 : Nat) (μ' : Mem) (H1 : Heap) (locs1 : List Loc), P9 (.inl e9) μ' → E = xn e9 → MW G A μ' s.heap H1 locs1 → H1[q9]? = some ce → ce.vm = .none → s.vm.findClass E = some ce.cls → vx_W p l e R s m args below meth c H1 locs1 (cells + rmY.cells) (slots + rmY.slots) Q (F0 m pc ls rest) q9)
    (kk : ∀ (v : Option Value) (μ' : Mem) (H1 : Heap) (locs1 : List Loc), P9 (.inr v) μ' → MW G A μ' s.heap H1 locs1 → W p l e R s m args below meth c H1 locs1 (cells + rmY.cells) (slots + rmY.slots) Q (F0 m (pc + 3) ls (v.toList ++ rest))) :
    W p l e R s m args below meth c H locs cells slots Q (F0 m pc ls st0) := by
  obtain ⟨q0, hq0⟩ := hW.1.at hb9.1
  rw [ent_obj hc9 hb9.2] at hq0
  refine r_runK hW (rmY := rmY) (P9 := P9) (a9 := (Value.ref b :: As).toArray) (rest := rest) ?_ kx kk
  exact vx_runV (As := As) (rest := rest) ⟨hx, hb, hml, hown, hts⟩ hO (cwV n hts hg hw rfl rfl hd ⟨hR.1, hR.2.1⟩) ⟨Pn_blind, va_recv hE.1 hW.1.1 hcl hq0, fun U hU hWm => pre_ofK hE hA9 hW U hU hWm⟩ rfl hn hl hst (lv_room hcat) hdg ⟨hR.2.2.1, hR.2.2.2⟩
end R16
