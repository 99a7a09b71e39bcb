/-- the room of the method that calls itself, by the depth that it may still go -/
abbrev RMd (d : Nat) : Room := { frames := 8 + 2 * d, cells := 0, slots := 0, locals := 150 + 40 * d }
section R12
variable {p : Program} {l : Launch} {e : Env} {R : Room} {s : State} {m : MethodId} {args : Array Value} {below : List Frame} {meth : Method} {c : Code} {H : Heap} {locs : List Loc} {cells slots : Nat} {Q : State → Prop} {cc : ByteArray} {pc nL : Nat} {ls : Array Slot} {rest : List Value} {own : String} {Ts : List Cond} {G : GG} {A : Nat → Prop} {μ : Mem} {P : Nat ⊕ Option Value → Mem → Prop} {mc ms : Nat}
/-- a private static method of a nest mate -/
theorem r_callSN_ok {y : MethodName} {wsY wsY' : List Cond} {bytes : ByteArray} {maxL n index : Nat} {host : String} {ret : Option FieldType} {rmY : Room} {As : List Value} {res : Nat ⊕ Option Value} {μ9 : Mem} {v9 : Option Value} (X : BX p l s m args meth c cc nL own Ts G A) (hW : MW G A μ s.heap H locs) (hl : ls.size = nL)
    (hO : Ok l y wsY rmY As G A μ (dP res μ9)) (hg : GoodIn Ts wsY) (hw : wsY = .code y bytes maxL ret :: wsY') (hlk : va_Nw (.methodLinkNest own index y host) s) (hini : (Cond.initialized y.cls).before args s = true) (hstt : (Cond.static y).before args s = true)
    (hd : y.cls ≠ "java/lang/invoke/MethodHandle" ∧ y.cls ≠ "java/lang/invoke/VarHandle" ∧ (parseMethodDescriptor y.desc).map (fun d => d.parameters.length) = some n) (hn : As.length = n) (hR : rmY.frames + 1 ≤ R.frames ∧ 8 + (maxL + 11) + rmY.locals ≤ R.locals ∧ cells + rmY.cells ≤ R.cells ∧ slots + rmY.slots ≤ R.slots ∧ cells + rmY.cells ≤ mc ∧ slots + rmY.slots ≤ ms) (hcat : (rest.map fun v => v.category).sum ≤ 8)
    (hdg : decode cc pc = .ok (.invokestatic index, 3)) (hres : res = .inr v9) {st0 : List Value} (hst : st0 = As.reverse ++ rest) {stk : List Value} (hstk : v9.toList ++ rest = stk)
    (kk : ∀ (H1 : Heap) (locs1 : List Loc), MW G A μ9 s.heap H1 locs1 → W p l e R s m args below meth c H1 locs1 (cells + rmY.cells) (slots + rmY.slots) (QQ below G A P args s mc ms) (F0 m (pc + 3) ls stk)) :
    W p l e R s m args below meth c H locs cells slots (QQ below G A P args s mc ms) (F0 m pc ls st0) := by
  refine r_run X hW (rmY := rmY) (P9 := dP res μ9) (a9 := As.toArray) (rest := rest) ?_ (fun e9 μ' h => ?_) hR.2.2.2.2.1 hR.2.2.2.2.2 (fun v μ' H1 locs1 h hW1 => ?_)
  · exact vx_runSN (As := As) (rest := rest) ⟨X.1, X.2.1, X.2.2.1, X.2.2.2.1, X.2.2.2.2.1⟩ hO ⟨va_cnB n X.2.2.2.2.1 hg hw rfl rfl hlk hini hd ⟨hR.1, hR.2.1⟩, hstt, trivial⟩ ⟨Pn_blind, fun U hU hWm => pre_of X hW U hU hWm⟩ rfl hn hl hst (lv_room hcat) hdg ⟨hR.2.2.1, hR.2.2.2.1⟩
  · have h1 := h.1; rw [hres] at h1; cases h1
  · obtain ⟨h1, rfl⟩ := h
    rw [hres] at h1
    cases h1
    rw [hstk]
    exact kk H1 locs1 hW1
end R12
section R15
variable {p : Program} {l : Launch} {e : Env} {R : Room} {s : State} {m : MethodId} {args : Array Value} {below : List Frame} {meth : Method} {c : Code} {H : Heap} {locs : List Loc} {cells slots : Nat} {Q : State → Prop} {cc : ByteArray} {pc nL : Nat} {ls : Array Slot} {rest : List Value} {own : String} {Ts : List Cond} {G : GG} {A : Nat → Prop} {μ : Mem} {P : Nat ⊕ Option Value → Mem → Prop} {mc ms : Nat}
/-- a private constructor of a nest mate -/
theorem r_callIN {y : MethodName} {wsY wsY' : List Cond} {bytes : ByteArray} {maxL n index b : Nat} {host : String} {rmY : Room} {As : List Value} {P9 : Nat ⊕ Option Value → Mem → Prop} (X : BX p l s m args meth c cc nL own Ts G A) (hW : MW G A μ s.heap H locs) (hl : ls.size = nL)
    (hO : Ok l y wsY rmY (.ref b :: As) G A μ P9) (hg : GoodIn Ts wsY) (hw : wsY = .code y bytes maxL none :: wsY') (hlk : va_Nw (.methodLinkNest own index y host) s) (hini : (Cond.initialized y.cls).before args s = true) (him : (Cond.instanceMethod y).before args s = true) (hy1 : y.name = "<init>")
    (hd : y.cls ≠ "java/lang/invoke/MethodHandle" ∧ y.cls ≠ "java/lang/invoke/VarHandle" ∧ (parseMethodDescriptor y.desc).map (fun d => d.parameters.length) = some n) (hn : As.length = n) (hR : rmY.frames + 1 ≤ R.frames ∧ 8 + (maxL + 11) + rmY.locals ≤ R.locals ∧ cells + rmY.cells ≤ R.cells ∧ slots + rmY.slots ≤ R.slots ∧ cells + rmY.cells ≤ mc ∧ slots + rmY.slots ≤ ms) (hcat : (rest.map fun v => v.category).sum ≤ 8)
    (hdg : decode cc pc = .ok (.invokespecial index, 3)) (hx9 : ∀ (e9 : Nat) (μ' : Mem), P9 (.inl e9) μ' → P (.inl e9) μ') {st0 : List Value} (hst : st0 = As.reverse ++ .ref b :: rest)
    (kk : ∀ (v : Option Value) (μ' : Mem) (H1 : Heap) (locs1 : List Loc), P9 (.inr v) μ' → MW G A μ' s.heap H1 locs1 → W p l e R s m args below meth c H1 locs1 (cells + rmY.cells) (slots + rmY.slots) (QQ below G A P args s mc ms) (F0 m (pc + 3) ls (v.toList ++ rest))) :
    W p l e R s m args below meth c H locs cells slots (QQ below G A P args s mc ms) (F0 m pc ls st0) := by
  refine r_run X hW (rmY := rmY) (P9 := P9) (a9 := (Value.ref b :: As).toArray) (rest := rest) ?_ hx9 hR.2.2.2.2.1 hR.2.2.2.2.2 kk
  exact vx_runIN (As := As) (rest := rest) ⟨X.1, X.2.1, X.2.2.1, X.2.2.2.1, X.2.2.2.2.1⟩ hO ⟨va_cnB n X.2.2.2.2.1 hg hw rfl rfl hlk hini hd ⟨hR.1, hR.2.1⟩, hy1, him⟩ ⟨Pn_blind, fun U hU hWm => pre_of X hW U hU hWm⟩ rfl hn hl hst (lv_room hcat) hdg ⟨hR.2.2.1, hR.2.2.2.1⟩
end R15
