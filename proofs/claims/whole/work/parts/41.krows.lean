/-! calls that never throw, from the law -/
section P41
variable {p : Program} {l : Launch} {e : Env} {R : Room} {s : State} {m : MethodId} {args : Array Value} {below : List Frame} {meth : Method} {c : Code} {H : Heap} {locs : List Loc} {cells slots : Nat} {Q : State → Prop} {cc : ByteArray} {pc nL : Nat} {ls : Array Slot} {rest : List Value} {own : String} {Ts : List Cond} {G : GG} {A : Nat → Prop} {μ : Mem} {P : Nat ⊕ Option Value → Mem → Prop} {mc ms : Nat}
theorem Ok.mono {y : MethodName} {ws : List Cond} {rm : Room} {av : List Value} {P P' : Nat ⊕ Option Value → Mem → Prop} (h : Ok l y ws rm av G A μ P) (hP : ∀ r m, P r m → P' r m) : Ok l y ws rm av G A μ P' := by
  refine MetFree.mono h (fun _ _ h => h) (fun _ _ _ _ _ h => h) (fun a s o s' _ hq => ?_)
  rcases hq with ⟨⟨v, m, h1, h2⟩, h3⟩ | ⟨q, h1, E, ce, L, ⟨e, m, h2, h3⟩, h4⟩
  · exact Or.inl ⟨⟨v, m, hP _ _ h1, h2⟩, h3⟩
  · exact Or.inr ⟨q, h1, E, ce, L, ⟨e, m, hP _ _ h2, h3⟩, h4⟩
theorem r_callVZ {y : MethodName} {wsY wsY' : List Cond} {bytes : ByteArray} {maxL n index b ci : Nat} {ret : Option FieldType} {rmY : Room} {As : List Value} {P9 : Nat ⊕ Option Value → Mem → Prop} {q : vw_C} (hx : p.tables.exec = Jvm.exec) (hb : c.code = cc) (hml : c.maxLocals = nL) (hown : s.vm.findClass own = some m.cls) (hts : ∀ w ∈ Ts, w.before args s = true) (hE : EN G A s s.heap) (hA9 : ∀ q, s.heap.size ≤ q → A q) (hW : MW G A μ s.heap H locs) (hl : ls.size = nL)
    (hO : Ok l y wsY rmY (.ref b :: As) G A μ P9) (hg : GoodIn Ts (wsV own index q.1 y wsY)) (hw : wsY = .code y bytes maxL ret :: wsY') (hb9 : ok9 μ ci b) (hc9 : ci < 10) (hcl : vwCl[ci]? = some q)
    (hd : y.cls = q.1 ∧ y.cls ≠ "java/lang/invoke/MethodHandle" ∧ y.cls ≠ "java/lang/invoke/VarHandle" ∧ (parseMethodDescriptor y.desc).map (fun d => d.parameters.length) = some n) (hn : As.length = n) (hR : rmY.frames + 1 ≤ R.frames ∧ 8 + (maxL + 11) + rmY.locals ≤ R.locals ∧ cells + rmY.cells ≤ R.cells ∧ slots + rmY.slots ≤ R.slots) (hcat : (rest.map fun v => v.category).sum ≤ 8)
    (hdg : decode cc pc = .ok (.invokevirtual index, 3)) {st0 : List Value} (hst : st0 = As.reverse ++ .ref b :: rest) (hnx : ∀ e9 μ', ¬ P9 (.inl e9) μ')
    (kk : ∀ (v : Option Value) (μ' : Mem) (H1 : Heap) (locs1 : List Loc), P9 (.inr v) μ' → MW G A μ' s.heap H1 locs1 → W p l e R s m args below meth c H1 locs1 (cells + rmY.cells) (slots + rmY.slots) Q (F0 m (pc + 3) ls (v.toList ++ rest))) :
    W p l e R s m args below meth c H locs cells slots Q (F0 m pc ls st0) :=
  r_callVK hx hb hml hown hts hE hA9 hW hl hO hg hw hb9 hc9 hcl hd hn hR hcat hdg hst (fun e9 E ce q9 μ' H1 locs1 h => absurd h (hnx e9 μ')) kk
theorem Ok.met {y : MethodName} {ws : List Cond} {rm : Room} {av : List Value} (h : Ok l y ws rm av G A μ P) (hnx : ∀ e9 μ', ¬ P (.inl e9) μ') : Met l y ws rm (Pn G A μ av) (Qn G A P) rm.cells rm.slots A := by
  refine MetFree.mono h (fun _ _ h => h) (fun _ _ _ _ _ h => h) (fun a s o s' _ hq => ?_)
  rcases hq with h1 | ⟨q, h1, E, ce, L, ⟨e, m, h2, h3⟩, h4⟩
  · exact h1
  · exact absurd h2 (hnx e m)
theorem r_callSZ {y : MethodName} {wsY wsY' : List Cond} {bytes : ByteArray} {maxL n index : Nat} {hh : List (Nat × Nat × Nat × Nat)} {ret : Option FieldType} {rmY : Room} {As : List Value} {P9 : Nat ⊕ Option Value → Mem → Prop} (hx : p.tables.exec = Jvm.exec) (hb : c.code = cc) (hml : c.maxLocals = nL) (hown : s.vm.findClass own = some m.cls) (hts : ∀ w ∈ Ts, w.before args s = true) (hE : EN G A s s.heap) (hA9 : ∀ q, s.heap.size ≤ q → A q) (hW : MW G A μ s.heap H locs) (hl : ls.size = nL)
    (hO : Ok l y wsY rmY As G A μ P9) (hg : GoodIn Ts (va_wsS own index y wsY)) (hw : wsY = .codeWith y bytes maxL ret hh :: wsY')
    (hd : y.cls ≠ "java/lang/invoke/MethodHandle" ∧ y.cls ≠ "java/lang/invoke/VarHandle" ∧ (parseMethodDescriptor y.desc).map (fun d => d.parameters.length) = some n) (hn : As.length = n) (hR : rmY.frames + 1 ≤ R.frames ∧ 8 + (maxL + 11) + rmY.locals ≤ R.locals ∧ cells + rmY.cells ≤ R.cells ∧ slots + rmY.slots ≤ R.slots) (hcat : (rest.map fun v => v.category).sum ≤ 8)
    (hdg : decode cc pc = .ok (.invokestatic index, 3)) {st0 : List Value} (hst : st0 = As.reverse ++ rest) (hnx : ∀ e9 μ', ¬ P9 (.inl e9) μ')
    (kk : ∀ (v : Option Value) (μ' : Mem) (H1 : Heap) (locs1 : List Loc), P9 (.inr v) μ' → MW G A μ' s.heap H1 locs1 → W p l e R s m args below meth c H1 locs1 (cells + rmY.cells) (slots + rmY.slots) Q (F0 m (pc + 3) ls (v.toList ++ rest))) :
    W p l e R s m args below meth c H locs cells slots Q (F0 m pc ls st0) := by
  have hrun := vx_runSW (p := p) (e := e) (below := below) (meth := meth) (H := H) (locs := locs) (cells := cells) (slots := slots) (g := F0 m pc ls st0) (As := As) (rest := rest) ⟨hx, hb, hml, hown, hts⟩ (hO.met hnx) (vx_cwSW (R := R) n hts hg hw rfl rfl hd ⟨hR.1, hR.2.1⟩) ⟨Pn_blind, fun U hU hWm => pre_ofK hE hA9 hW U hU hWm⟩ rfl hn hl hst (lv_room hcat) hdg ⟨hR.2.2.1, hR.2.2.2⟩
  intro T hT XT
  obtain ⟨v, st₀, t, T', L, h0, X', hL, e1, e2, ⟨v', μ', hP, hv, hM', hF⟩, st⟩ := hrun T hT XT
  cases hv
  obtain ⟨-, -, k3⟩ := vx_keep h0 e1 hW.2 (fun q _ h => h) (fun q h => h) hL hF
  obtain ⟨t2, a1, b1⟩ := kk v μ' T'.heap (locs ++ L) hP ⟨by rw [e1]; exact hM', k3⟩ T' rfl X'
  exact ⟨t2, st t2 a1, b1⟩
theorem r_callIZ {y : MethodName} {wsY wsY' : List Cond} {bytes : ByteArray} {maxL n index b : Nat} {rmY : Room} {As : List Value} {P9 : Nat ⊕ Option Value → Mem → Prop} (hx : p.tables.exec = Jvm.exec) (hb : c.code = cc) (hml : c.maxLocals = nL) (hown : s.vm.findClass own = some m.cls) (hts : ∀ w ∈ Ts, w.before args s = true) (hE : EN G A s s.heap) (hA9 : ∀ q, s.heap.size ≤ q → A q) (hW : MW G A μ s.heap H locs) (hl : ls.size = nL)
    (hO : Ok l y wsY rmY (.ref b :: As) G A μ P9) (hg : GoodIn Ts wsY) (hw : wsY = .code y bytes maxL none :: wsY') (hini : (Cond.initialized y.cls).before args s = true) (hlk : (Cond.methodLink own index y).before args s = true) (him : (Cond.instanceMethod y).before args s = true) (hy1 : y.name = "<init>")
    (hd : y.cls ≠ "java/lang/invoke/MethodHandle" ∧ y.cls ≠ "java/lang/invoke/VarHandle" ∧ (parseMethodDescriptor y.desc).map (fun d => d.parameters.length) = some n) (hn : As.length = n) (hR : rmY.frames + 1 ≤ R.frames ∧ 8 + (maxL + 11) + rmY.locals ≤ R.locals ∧ cells + rmY.cells ≤ R.cells ∧ slots + rmY.slots ≤ R.slots) (hcat : (rest.map fun v => v.category).sum ≤ 8)
    (hdg : decode cc pc = .ok (.invokespecial index, 3)) {st0 : List Value} (hst : st0 = As.reverse ++ .ref b :: rest) (hnx : ∀ e9 μ', ¬ P9 (.inl e9) μ')
    (kk : ∀ (v : Option Value) (μ' : Mem) (H1 : Heap) (locs1 : List Loc), P9 (.inr v) μ' → MW G A μ' s.heap H1 locs1 → W p l e R s m args below meth c H1 locs1 (cells + rmY.cells) (slots + rmY.slots) Q (F0 m (pc + 3) ls (v.toList ++ rest))) :
    W p l e R s m args below meth c H locs cells slots Q (F0 m pc ls st0) := by
  refine r_runK hW (rmY := rmY) (P9 := P9) (a9 := (Value.ref b :: As).toArray) (rest := rest) ?_ (fun e9 E ce q9 μ' H1 locs1 h => absurd h (hnx e9 μ')) kk
  exact vx_runI (As := As) (rest := rest) ⟨hx, hb, hml, hown, hts⟩ hO (cwI n hts hg hw rfl rfl hini hlk him hy1 hd ⟨hR.1, hR.2.1⟩) ⟨Pn_blind, fun U hU hWm => pre_ofK hE hA9 hW U hU hWm⟩ rfl hn hl hst (lv_room hcat) hdg ⟨hR.2.2.1, hR.2.2.2⟩
theorem r_newZ {ci N index : Nat} {C : String} {T : u_T} (hx : p.tables.exec = Jvm.exec) (hb : c.code = cc) (hml : c.maxLocals = nL) (hown : s.vm.findClass own = some m.cls) (hts : ∀ w ∈ Ts, w.before args s = true) (hE : EN G A s s.heap) (hA9 : ∀ q, s.heap.size ≤ q → A q) (hW : MW G A μ s.heap H locs) (hl : ls.size = nL) (hc : vwCl[ci]? = some (C, T, N)) (hc9 : ci < 10) (hin : ∀ w ∈ u_ws C T N, w ∈ Ts) (ty0 : Nat → FieldType) (hty : ∀ k, k < N → parseFieldDescriptor (T k).2.2.1 = some (ty0 k))
    (hcl : (Cond.classLink own index C).before args s = true) (hinst : (Cond.instantiable C N).before args s = true) (hini : (Cond.initialized C).before args s = true) (hfs : ∀ j, j < N → defaultValue (ty0 j) = vp_V (dl ci) j) (hR : cells + 1 ≤ R.cells ∧ slots + N ≤ R.slots) (hdg : decode cc pc = .ok (.new index, 3))
    (kk : ∀ (q : Nat) (H1 : Heap), q ∉ mL μ → MW G A (sNew μ q ci 0) s.heap H1 locs → W p l e R s m args below meth c H1 locs (cells + 1) (slots + N) Q (F0 m (pc + 3) ls (.ref q :: rest))) : W p l e R s m args below meth c H locs cells slots Q (F0 m pc ls rest) := by
  refine va_new (D := G.1) (cl := vwCl) (ci := ci) (fs := dl ci) hx hb hts hin ty0 hty hown hcl hinst hini hE.1 hW.1.1 hW.1.2 hW.2 hA9 hc hfs hR.1 hR.2 hdg (fun q H1 hP hD hS => ?_)
  have h1 : ent G.2.1 (sNew μ q ci 0) q = .inr (ci, dl ci) := by
    rw [ent_obj hc9 (show mK (sNew μ q ci 0) q = ci from va_up_self _ _ _), fl_new]
  obtain ⟨hq, hW1⟩ := MW.push hP hD hS h1
  exact kk q H1 hq hW1
end P41
