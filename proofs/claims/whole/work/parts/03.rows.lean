/-! THE ENVIRONMENT: what a state gives that no method changes -/
def exL : List String := ["java/lang/IllegalArgumentException", "java/lang/IllegalStateException", "java/lang/IndexOutOfBoundsException", "java/util/NoSuchElementException", "java/lang/UnsupportedOperationException", "java/lang/ArithmeticException"]
def ncL : List (String × String) := exL.flatMap (fun a => (exL.filter (fun b => b != a)).map (fun b => (a, b)))
def dcL : List String := ["java/lang/RuntimeException", "java/lang/Exception", "java/lang/Throwable"]
def strL : List (Nat × String) := [(103, "the voice, the pitch or the ticks are out of range"), (114, "a note of this voice has a tick in common"), (117, "as many notes as there can be have been put in"), (123, "the pitch is out of range"), (140, "the note would not be within its bar"), (142, "a note of this voice would have a tick in common"), (205, "the places are out of range"), (207, "the ticks are out of range"), (209, "the bars are out of range"), (226, "there is no such page"), (256, "no such note was put in"), (264, "its part was not copied, or the copy does not have it"), (271, "the part has no notes"), (277, "there are no bars"), (294, "there is no such part"), (297, "there is no such bar"), (299, "there is no such note"), (301, "the part was not copied"), (315, "there is no such index"), (356, "there is no such long rest"), (361, "the long rest has no cue"), (55, "the shift is out of range"), (62, "there are as many parts as there can be"), (72, "the beats or the key are out of range"), (74, "there are as many bars as there can be"), (87, "the key is out of range")]
def xn (e : Nat) : String := match e with
  | 1 => "java/lang/IllegalArgumentException"
  | 2 => "java/lang/IllegalStateException"
  | 3 => "java/lang/IndexOutOfBoundsException"
  | 4 => "java/util/NoSuchElementException"
  | 5 => "java/lang/UnsupportedOperationException"
  | _ => "java/lang/ArithmeticException"
def EN (G : GG) (A : Nat → Prop) (U : State) (H : Heap) : Prop :=
  va_K G.1 vwCl (tyL G.2.1) U ∧ vx_Zq Bundle.tN "UNASSIGNED_STACK" Bundle.steD A U H ∧ vx_Zq Bundle.tN "SUPPRESSED_SENTINEL" Bundle.listD A U H ∧
  (∀ E ∈ exL, va_Nw (.castable E E) U) ∧ (∀ Y ∈ dcL, va_Nw (.declares ⟨Y, "<init>", "(Ljava/lang/String;)V"⟩) U) ∧ (∀ q ∈ strL, vk_R "PartcopyistBench" q.1 q.2 (G.2.2 q.1) U) ∧
  va_Nw (.methodLinkNest "PartcopyistBench" 29 yX1_init "PartcopyistBench") U ∧ va_Nw (.methodLinkNest "PartcopyistBench" 217 yX1_fewestHardTurns "PartcopyistBench") U ∧
  va_AO "PartcopyistBench$Part" U ∧ va_AO "PartcopyistBench$Bar" U ∧ va_AO "PartcopyistBench$Note" U ∧ (∀ q ∈ ncL, va_Nc q.1 q.2 U) ∧
  va_Z "java/lang/String" "COMPACT_STRINGS" "Z" (.int 1) A U H ∧ va_Zq "jdk/internal/util/Preconditions" "SIOOBE_FORMATTER" "Ljava/util/function/BiFunction;" A U H ∧
  vk_S 1 [7] [[70, 67, 71, 68, 65, 69, 66]] (fun i => G.2.2 (1000 + i)) (fun i => G.2.2 (2000 + i)) A U H ∧ vk_R "PartcopyistBenchModel" 148 "FCGDAEB" (G.2.2 1000) U
theorem EN.to {G : GG} {A : Nat → Prop} {s U : State} {H H1 : Heap} (h : EN G A s H) (hq : ∀ a : Nat, a < H.size → ¬ A a → H1[a]? = H[a]?) (hW : s.WarmedH U.vm) : EN G A U H1 := by
  obtain ⟨h1, h2, h3, h4, h5, h6, h7, h8, h9, h10, h11, h12, h13, h14, h15, h16⟩ := h
  exact ⟨va_K.moved hW.alike h1, vx_Zq.moved hW.alike (h2.kept hq), vx_Zq.moved hW.alike (h3.kept hq), fun E hE => va_Nw.warmC hW (h4 E hE), fun Y hY => va_Nw.warmD hW (h5 Y hY), fun q hq => vk_R.warm hW (h6 q hq), va_Nw.warmM hW h7, va_Nw.warmM hW h8, va_AO.moved hW.alike h9, va_AO.moved hW.alike h10, va_AO.moved hW.alike h11, fun q hq => va_Nc.moved hW.alike (h12 q hq), va_Z.moved hW.alike (h13.kept hq), va_Zq.moved hW.alike (h14.kept hq), vk_S.moved hW.alike (h15.kept hq), vk_R.warm hW h16⟩
theorem EN.narrow {G : GG} {A B : Nat → Prop} {U : State} {H : Heap} (h : EN G A U H) (hAB : ∀ q, B q → A q) : EN G B U H := by
  obtain ⟨h1, h2, h3, h4, h5, h6, h7, h8, h9, h10, h11, h12, h13, h14, h15, h16⟩ := h
  exact ⟨h1, h2.narrow hAB, h3.narrow hAB, h4, h5, h6, h7, h8, h9, h10, h11, h12, h13.narrow hAB, h14.narrow hAB, h15.narrow hAB, h16⟩
theorem EN.same {G : GG} {A : Nat → Prop} {s U : State} {H : Heap} (h : EN G A s H) (hv : U.vm = s.vm) : EN G A U H := by
  refine h.to (fun _ _ _ => rfl) ?_
  rw [hv]
  exact State.WarmedH.refl s
/-- what a method is called with -/
def Pn (G : GG) (A : Nat → Prop) (μ : Mem) (av : List Value) : Array Value → State → Prop := va_Pc av (fun U => EN G A U U.heap ∧ MM G A μ U.heap ∧ ∀ q, U.heap.size ≤ q → A q)
def Qn (G : GG) (A : Nat → Prop) (P : Nat ⊕ Option Value → Mem → Prop) : Array Value → State → Outcome → State → Prop := fun _ st o t => ∃ (v : Option Value) (μ' : Mem), P (.inr v) μ' ∧ o = .returned v ∧ MM G A μ' t.heap ∧ va_F A st t
def Xn (G : GG) (A : Nat → Prop) (P : Nat ⊕ Option Value → Mem → Prop) : String → State → State → Prop := fun E st t => ∃ (e : Nat) (μ' : Mem), P (.inl e) μ' ∧ E = xn e ∧ MM G A μ' t.heap ∧ va_F A st t
/-- THE CONTRACT: with this memory the method returns or throws as P says, and leaves such a memory -/
def Ok (l : Launch) (y : MethodName) (ws : List Cond) (rm : Room) (av : List Value) (G : GG) (A : Nat → Prop) (μ : Mem) (P : Nat ⊕ Option Value → Mem → Prop) : Prop :=
  vx_Met l y ws rm (Pn G A μ av) (Qn G A P) (Xn G A P) rm.cells rm.slots A
abbrev QQ (below : List Frame) (G : GG) (A : Nat → Prop) (P : Nat ⊕ Option Value → Mem → Prop) (args : Array Value) (s : State) (mc ms : Nat) : State → Prop := vx_MQ below (Qn G A P) (Xn G A P) args s mc ms A
theorem Pn_blind {G : GG} {A : Nat → Prop} {μ : Mem} {av : List Value} : FrameBlind (Pn G A μ av) := by
  intro a U g mk h
  obtain ⟨h1, h2, h3, h4⟩ := h
  exact ⟨h1, h2.same rfl, h3, h4⟩
/-- what a body has at hand -/
def BX (p : Program) (l : Launch) (s : State) (m : MethodId) (args : Array Value) (meth : Method) (c : Code) (cc : ByteArray) (nL : Nat) (own : String) (Ts : List Cond) (G : GG) (A : Nat → Prop) : Prop :=
  p.tables.exec = Jvm.exec ∧ c.code = cc ∧ c.maxLocals = nL ∧ s.vm.findClass own = some m.cls ∧ (∀ w ∈ Ts, w.before args s = true) ∧ EN G A s s.heap ∧ meth.locks = false ∧ (∀ x ∈ c.exceptionTable.toList, False) ∧ l.stackTraces = false ∧ ∀ q, s.heap.size ≤ q → A q
theorem Ok.start {l : Launch} {y : MethodName} {cc : ByteArray} {maxL : Nat} {ret : Option FieldType} {ws ws' : List Cond} {rm : Room} {av : List Value} {G : GG} {A : Nat → Prop} {μ : Mem} {P : Nat ⊕ Option Value → Mem → Prop} (hw : ws = .code y cc maxL ret :: ws') (hy : plainName y.cls = true) (hsl : l.stackTraces = false) (hn : (lg_sl av).length ≤ maxL)
    (body : ∀ (p : Program) (e : Env) (s : State) (m : MethodId) (args : Array Value) (below : List Frame) (meth : Method) (c : Code) (ls : Array Slot), BX p l s m args meth c cc maxL y.cls ws G A → meth.sig.returnType = ret → meth.name = y.name → MW G A μ s.heap s.heap [] → lv_has ls maxL (lv_args 0 av) →
      W p l e rm s m args below meth c s.heap [] 0 0 (QQ below G A P args s rm.cells rm.slots) (F0 m 0 ls [])) : Ok l y ws rm av G A μ P := by
  refine vx_ofW (cc := cc) (maxL := maxL) (ret := ret) hy hw ?_
  intro p e s m args below meth c s₁ B hml ht hv
  obtain ⟨rfl, hE, hM, hA⟩ := hv
  have hts := atoms_spec (ws := ws) B.pre
  have hl := lv_entry av (n := maxL) hn
  rw [lg_entry_eq]
  exact body p e s m _ below meth c _ ⟨B.exec, B.bytes, hml, findClass_of_methodNamed B.named, hts, hE, B.notSynchronized, ht, hsl, hA⟩ B.returns (name_of_methodNamed B.named B.method).1 ⟨hM, va_S.rf⟩ hl
section R9
variable {p : Program} {l : Launch} {e : Env} {R : Room} {s : State} {m : MethodId} {args : Array Value} {below : List Frame} {meth : Method} {c : Code} {H : Heap} {locs : List Loc} {cells slots : Nat} {Q : State → Prop} {cc : ByteArray} {pc nL : Nat} {ls : Array Slot} {rest : List Value} {own : String} {Ts : List Cond} {G : GG} {A : Nat → Prop} {μ : Mem} {P : Nat ⊕ Option Value → Mem → Prop} {mc ms : Nat}
theorem MM.at {a : Nat} (h : MM G A μ H) (ha : a ∈ mL μ) : ∃ k : Nat, (va_pl (mL μ) (ent G.2.1 μ))[k]? = some (a, ent G.2.1 μ a) := by
  apply List.getElem?_of_mem
  exact List.mem_map.mpr ⟨a, ha, rfl⟩
theorem ent_obj {ac : Nat → ClassId} {a ci : Nat} (hc : ci < 10) (hk : mK μ a = ci) : ent ac μ a = .inr (ci, fl μ ci a) := by
  unfold ent
  rw [hk, if_pos hc]
theorem ent_arr {ac : Nat → ClassId} {a : Nat} (hk : 10 ≤ mK μ a) : ent ac μ a = .inl (ac (aT (mK μ a)), mN μ a, rw9 μ (mK μ a) a) := by
  unfold ent
  rw [if_neg (Nat.not_lt.mpr hk)]
theorem MM.set {μ' : Mem} {D : va_G} {a k : Nat} {x : va_E} {H1 : Heap} (hD0 : va_D A (va_pl (mL μ) (ent G.2.1 μ))) (ha : a ∈ mL μ) (hk : (va_pl (mL μ) (ent G.2.1 μ))[k]? = some (a, ent G.2.1 μ a)) (hL : mL μ' = mL μ) (he : ∀ b, va_up (ent G.2.1 μ) a x b = ent G.2.1 μ' b)
    (hP : va_P G.1 vwCl ((va_pl (mL μ) (ent G.2.1 μ)).set k (a, x)) H1) (hD : va_D A ((va_pl (mL μ) (ent G.2.1 μ)).set k (a, x))) : MM G A μ' H1 := by
  have e1 : (va_pl (mL μ) (ent G.2.1 μ)).set k (a, x) = va_pl (mL μ') (ent G.2.1 μ') := by
    have h1 := va_pl_set (A := A) (X := []) (e := x) hD0 ha hk
    rw [List.nil_append, List.nil_append] at h1
    rw [h1, hL]
    exact va_pl_congr he
  rw [e1] at hP hD
  exact ⟨hP, hD⟩
theorem r_getI {ci k a N index : Nat} {C : String} {T : u_T} {v : Int32} (X : BX p l s m args meth c cc nL own Ts G A) (hW : MW G A μ s.heap H locs) (hc : vwCl[ci]? = some (C, T, N)) (hc9 : ci < 10) (hin : ∀ w ∈ u_ws C T N, w ∈ Ts) (hk : k < N) (hft : (fT ci)[k]? = some true) (hlink : (Cond.fieldLink own index (T k).1 (T k).2.1 (T k).2.2.1).before args s = true) (h : getI μ ci k a = some v) (hdg : decode cc pc = .ok (.getfield index, 3))
    (kk : W p l e R s m args below meth c H locs cells slots Q (F0 m (pc + 3) ls (.int v :: rest))) : W p l e R s m args below meth c H locs cells slots Q (F0 m pc ls (.ref a :: rest)) := by
  obtain ⟨hx, hb, -, hown, hts, hE, -⟩ := X
  obtain ⟨⟨ha, hka⟩, rfl⟩ := ifs h
  obtain ⟨q0, hq0⟩ := hW.1.at ha
  refine va_get (D := G.1) (cl := vwCl) (ci := ci) (fs := fl μ ci a) hx hb hts hin hown hE.1 hW.1.1 q0 (by rw [hq0, ent_obj hc9 hka]) hc k hk hlink (fun _ h9 => h9) (fl_get hft) hdg ?_
  exact kk
theorem r_getQ {ci k a N index : Nat} {C : String} {T : u_T} {v : Option Nat} (X : BX p l s m args meth c cc nL own Ts G A) (hW : MW G A μ s.heap H locs) (hc : vwCl[ci]? = some (C, T, N)) (hc9 : ci < 10) (hin : ∀ w ∈ u_ws C T N, w ∈ Ts) (hk : k < N) (hft : (fT ci)[k]? = some false) (hlink : (Cond.fieldLink own index (T k).1 (T k).2.1 (T k).2.2.1).before args s = true) (h : getQ μ ci k a = some v) (hdg : decode cc pc = .ok (.getfield index, 3))
    (kk : W p l e R s m args below meth c H locs cells slots Q (F0 m (pc + 3) ls (va_rf v :: rest))) : W p l e R s m args below meth c H locs cells slots Q (F0 m pc ls (.ref a :: rest)) := by
  obtain ⟨hx, hb, -, hown, hts, hE, -⟩ := X
  obtain ⟨⟨ha, hka⟩, rfl⟩ := ifs h
  obtain ⟨q0, hq0⟩ := hW.1.at ha
  refine va_get (D := G.1) (cl := vwCl) (ci := ci) (fs := fl μ ci a) hx hb hts hin hown hE.1 hW.1.1 q0 (by rw [hq0, ent_obj hc9 hka]) hc k hk hlink (fun _ h9 => h9) (fl_get hft) hdg ?_
  exact kk
theorem r_putI {ci k a N index : Nat} {C : String} {T : u_T} {ty : FieldType} {v : Int32} {μ' : Mem} (X : BX p l s m args meth c cc nL own Ts G A) (hW : MW G A μ s.heap H locs) (hc : vwCl[ci]? = some (C, T, N)) (hc9 : ci < 10) (hin : ∀ w ∈ u_ws C T N, w ∈ Ts) (ty0 : Nat → FieldType) (hty : ∀ k, k < N → parseFieldDescriptor (T k).2.2.1 = some (ty0 k)) (hnm : ∀ a, a < N → ∀ b, b < N → a ≠ b → (T a).2.1 ≠ (T b).2.1) (hk : k < N) (hft : (fT ci)[k]? = some true) (hfin : (T k).2.2.2 = false) (hd : parseFieldDescriptor (T k).2.2.1 = some ty) (hn : narrow ty (.int v) = .int v) (hfit : fits ty (.int v) = true)
    (hlink : (Cond.fieldLink own index (T k).1 (T k).2.1 (T k).2.2.1).before args s = true) (h : putI μ ci k a v = some μ') (hdg : decode cc pc = .ok (.putfield index, 3))
    (kk : ∀ (H1 : Heap) (locs1 : List Loc), MW G A μ' s.heap H1 locs1 → W p l e R s m args below meth c H1 locs1 cells slots Q (F0 m (pc + 3) ls rest)) : W p l e R s m args below meth c H locs cells slots Q (F0 m pc ls (.int v :: .ref a :: rest)) := by
  obtain ⟨hx, hb, -, hown, hts, hE, -⟩ := X
  obtain ⟨⟨ha, hka⟩, rfl⟩ := ifs h
  obtain ⟨q0, hq0⟩ := hW.1.at ha
  refine va_put (D := G.1) (cl := vwCl) (ci := ci) (fs := fl μ ci a) (v := .int v) (ty := ty) hx hb hts hin ty0 hty hnm hown hE.1 hW.1.1 hW.1.2 hW.2 q0 (by rw [hq0, ent_obj hc9 hka]) hc k hk hlink (fun _ h9 => h9) hfin hd hn hfit (by rw [fl_len]; exact (List.getElem?_eq_some_iff.mp hft).1) hdg (fun H1 locs1 hP hD hS => ?_)
  exact kk H1 locs1 ⟨MM.set (D := G.1) hW.1.2 ha hq0 rfl (ent_sI hc9 hka hft) hP hD, hS⟩
theorem r_putIF {ci k a N index : Nat} {C : String} {T : u_T} {ty : FieldType} {v : Int32} {μ' : Mem} (X : BX p l s m args meth c cc nL own Ts G A) (hname : meth.name = "<init>") (hW : MW G A μ s.heap H locs) (hc : vwCl[ci]? = some (C, T, N)) (hc9 : ci < 10) (hin : ∀ w ∈ u_ws C T N, w ∈ Ts) (ty0 : Nat → FieldType) (hty : ∀ k, k < N → parseFieldDescriptor (T k).2.2.1 = some (ty0 k)) (hnm : ∀ a, a < N → ∀ b, b < N → a ≠ b → (T a).2.1 ≠ (T b).2.1) (hk : k < N) (hft : (fT ci)[k]? = some true) (hfin : (T k).2.2.2 = true) (hdecl : (T k).1 = own) (hd : parseFieldDescriptor (T k).2.2.1 = some ty) (hn : narrow ty (.int v) = .int v) (hfit : fits ty (.int v) = true)
    (hlink : (Cond.fieldLink own index (T k).1 (T k).2.1 (T k).2.2.1).before args s = true) (h : putI μ ci k a v = some μ') (hdg : decode cc pc = .ok (.putfield index, 3))
    (kk : ∀ (H1 : Heap) (locs1 : List Loc), MW G A μ' s.heap H1 locs1 → W p l e R s m args below meth c H1 locs1 cells slots Q (F0 m (pc + 3) ls rest)) : W p l e R s m args below meth c H locs cells slots Q (F0 m pc ls (.int v :: .ref a :: rest)) := by
  obtain ⟨hx, hb, -, hown, hts, hE, -⟩ := X
  obtain ⟨⟨ha, hka⟩, rfl⟩ := ifs h
  obtain ⟨q0, hq0⟩ := hW.1.at ha
  refine va_putF (D := G.1) (cl := vwCl) (ci := ci) (fs := fl μ ci a) (v := .int v) (ty := ty) hx hb hts hin ty0 hty hnm hown hE.1 hW.1.1 hW.1.2 hW.2 q0 (by rw [hq0, ent_obj hc9 hka]) hc k hk hlink (fun _ h9 => h9) hfin hname hdecl hd hn hfit (by rw [fl_len]; exact (List.getElem?_eq_some_iff.mp hft).1) hdg (fun H1 locs1 hP hD hS => ?_)
  exact kk H1 locs1 ⟨MM.set (D := G.1) hW.1.2 ha hq0 rfl (ent_sI hc9 hka hft) hP hD, hS⟩
theorem r_putQF {ci k a N index : Nat} {C : String} {T : u_T} {ty : FieldType} {v : Option Nat} {μ' : Mem} (X : BX p l s m args meth c cc nL own Ts G A) (hname : meth.name = "<init>") (hW : MW G A μ s.heap H locs) (hc : vwCl[ci]? = some (C, T, N)) (hc9 : ci < 10) (hin : ∀ w ∈ u_ws C T N, w ∈ Ts) (ty0 : Nat → FieldType) (hty : ∀ k, k < N → parseFieldDescriptor (T k).2.2.1 = some (ty0 k)) (hnm : ∀ a, a < N → ∀ b, b < N → a ≠ b → (T a).2.1 ≠ (T b).2.1) (hk : k < N) (hft : (fT ci)[k]? = some false) (hfin : (T k).2.2.2 = true) (hdecl : (T k).1 = own) (hd : parseFieldDescriptor (T k).2.2.1 = some ty) (hn : narrow ty (va_rf v) = va_rf v) (hfit : fits ty (va_rf v) = true)
    (hlink : (Cond.fieldLink own index (T k).1 (T k).2.1 (T k).2.2.1).before args s = true) (h : putQ μ ci k a v = some μ') (hdg : decode cc pc = .ok (.putfield index, 3))
    (kk : ∀ (H1 : Heap) (locs1 : List Loc), MW G A μ' s.heap H1 locs1 → W p l e R s m args below meth c H1 locs1 cells slots Q (F0 m (pc + 3) ls rest)) : W p l e R s m args below meth c H locs cells slots Q (F0 m pc ls (va_rf v :: .ref a :: rest)) := by
  obtain ⟨hx, hb, -, hown, hts, hE, -⟩ := X
  obtain ⟨⟨ha, hka⟩, rfl⟩ := ifs h
  obtain ⟨q0, hq0⟩ := hW.1.at ha
  refine va_putF (D := G.1) (cl := vwCl) (ci := ci) (fs := fl μ ci a) (v := va_rf v) (ty := ty) hx hb hts hin ty0 hty hnm hown hE.1 hW.1.1 hW.1.2 hW.2 q0 (by rw [hq0, ent_obj hc9 hka]) hc k hk hlink (fun _ h9 => h9) hfin hname hdecl hd hn hfit (by rw [fl_len]; exact (List.getElem?_eq_some_iff.mp hft).1) hdg (fun H1 locs1 hP hD hS => ?_)
  exact kk H1 locs1 ⟨MM.set (D := G.1) hW.1.2 ha hq0 rfl (ent_sQ hc9 hka hft) hP hD, hS⟩
theorem rw9_i {k a : Nat} (h : aT k = 0) : rw9 μ k a = .inl (mR μ k a) := by unfold rw9; rw [h]; rfl
theorem rw9_z {k a : Nat} (h : aT k = 1) : rw9 μ k a = .inl (mR μ k a) := by unfold rw9; rw [h]; rfl
theorem rw9_l {k a : Nat} (h : aT k = 5) : rw9 μ k a = .inr (.inl (mJ μ k a)) := by unfold rw9; rw [h]; rfl
theorem rw9_d {k a : Nat} (h : aT k = 6) : rw9 μ k a = .inr (.inr (.inr (.inl (mE μ k a)))) := by unfold rw9; rw [h]; rfl
theorem rw9_q {k a : Nat} (h : aT k = 2 ∨ aT k = 3 ∨ aT k = 4) : rw9 μ k a = .inr (.inr (.inr (.inr (mS μ k a)))) := by
  unfold rw9
  rcases h with h | h | h <;> (rw [h]; rfl)
theorem rw9_o {μ' : Mem} {b : Nat} (h1 : ∀ k, mR μ' k b = mR μ k b) (h2 : ∀ k, mS μ' k b = mS μ k b) (h3 : ∀ k, mJ μ' k b = mJ μ k b) (h4 : ∀ k, mE μ' k b = mE μ k b) (k : Nat) : rw9 μ' k b = rw9 μ k b := by
  unfold rw9
  rw [h1, h2, h3, h4]
theorem rw9_sR {c a i b : Nat} {v : Int32} (h : b ≠ a) (k : Nat) : rw9 (sR μ c a i v) k b = rw9 μ k b := rw9_o (μ := μ) (μ' := sR μ c a i v) (fun k => show up3 (mR μ) c a i v k b = mR μ k b from up3_row_ne _ _ h) (fun _ => rfl) (fun _ => rfl) (fun _ => rfl) k
theorem rw9_sS {c a i b : Nat} {v : Option Nat} (h : b ≠ a) (k : Nat) : rw9 (sS μ c a i v) k b = rw9 μ k b := rw9_o (μ := μ) (μ' := sS μ c a i v) (fun _ => rfl) (fun k => show up3 (mS μ) c a i v k b = mS μ k b from up3_row_ne _ _ h) (fun _ => rfl) (fun _ => rfl) k
theorem rw9_sJ {c a i b : Nat} {v : Int64} (h : b ≠ a) (k : Nat) : rw9 (sJ μ c a i v) k b = rw9 μ k b := rw9_o (μ := μ) (μ' := sJ μ c a i v) (fun _ => rfl) (fun _ => rfl) (fun k => show up3 (mJ μ) c a i v k b = mJ μ k b from up3_row_ne _ _ h) (fun _ => rfl) k
theorem rw9_sE {c a i b : Nat} {v : UInt64} (h : b ≠ a) (k : Nat) : rw9 (sE μ c a i v) k b = rw9 μ k b := rw9_o (μ := μ) (μ' := sE μ c a i v) (fun _ => rfl) (fun _ => rfl) (fun _ => rfl) (fun k => show up3 (mE μ) c a i v k b = mE μ k b from up3_row_ne _ _ h) k
theorem r_ald {a : Nat} {i v : Int32} (X : BX p l s m args meth c cc nL own Ts G A) (hW : MW G A μ s.heap H locs) (h : ald μ a i = some v) (hdg : decode cc pc = .ok (.iaload, 1))
    (kk : W p l e R s m args below meth c H locs cells slots Q (F0 m (pc + 1) ls (.int v :: rest))) : W p l e R s m args below meth c H locs cells slots Q (F0 m pc ls (.int i :: .ref a :: rest)) := by
  obtain ⟨hx, hb, -, hown, hts, hE, -⟩ := X
  obtain ⟨⟨ha, hk, ht, hi⟩, rfl⟩ := ifs h
  obtain ⟨q0, hq0⟩ := hW.1.at ha
  exact va_iald (D := G.1) (cl := vwCl) hx hb hE.1 hW.1.1 q0 0 (by rw [hq0, ent_arr hk, ht, rw9_i ht]) (show (tyL G.2.1)[0]? = some (G.2.1 0, .int) from rfl) (inb_vp hi) hdg kk
theorem r_zld {a : Nat} {i v : Int32} (X : BX p l s m args meth c cc nL own Ts G A) (hW : MW G A μ s.heap H locs) (h : zld μ a i = some v) (hdg : decode cc pc = .ok (.baload, 1))
    (kk : W p l e R s m args below meth c H locs cells slots Q (F0 m (pc + 1) ls (.int v :: rest))) : W p l e R s m args below meth c H locs cells slots Q (F0 m pc ls (.int i :: .ref a :: rest)) := by
  obtain ⟨hx, hb, -, hown, hts, hE, -⟩ := X
  obtain ⟨⟨ha, hk, ht, hi⟩, rfl⟩ := ifs h
  obtain ⟨q0, hq0⟩ := hW.1.at ha
  exact va_zald (D := G.1) (cl := vwCl) hx hb hE.1 hW.1.1 q0 1 (by rw [hq0, ent_arr hk, ht, rw9_z ht]) (show (tyL G.2.1)[1]? = some (G.2.1 1, .boolean) from rfl) (inb_vp hi) hdg kk
theorem r_lld {a : Nat} {i : Int32} {v : Int64} (X : BX p l s m args meth c cc nL own Ts G A) (hW : MW G A μ s.heap H locs) (h : lld μ a i = some v) (hdg : decode cc pc = .ok (.laload, 1))
    (kk : W p l e R s m args below meth c H locs cells slots Q (F0 m (pc + 1) ls (.long v :: rest))) : W p l e R s m args below meth c H locs cells slots Q (F0 m pc ls (.int i :: .ref a :: rest)) := by
  obtain ⟨hx, hb, -, hown, hts, hE, -⟩ := X
  obtain ⟨⟨ha, hk, ht, hi⟩, rfl⟩ := ifs h
  obtain ⟨q0, hq0⟩ := hW.1.at ha
  exact va_lald (D := G.1) (cl := vwCl) hx hb hE.1 hW.1.1 q0 5 (by rw [hq0, ent_arr hk, ht, rw9_l ht]) (show (tyL G.2.1)[5]? = some (G.2.1 5, .long) from rfl) (inb_vp hi) hdg kk
theorem r_dld {a : Nat} {i : Int32} {v : UInt64} (X : BX p l s m args meth c cc nL own Ts G A) (hW : MW G A μ s.heap H locs) (h : dld μ a i = some v) (hdg : decode cc pc = .ok (.daload, 1))
    (kk : W p l e R s m args below meth c H locs cells slots Q (F0 m (pc + 1) ls (.double v :: rest))) : W p l e R s m args below meth c H locs cells slots Q (F0 m pc ls (.int i :: .ref a :: rest)) := by
  obtain ⟨hx, hb, -, hown, hts, hE, -⟩ := X
  obtain ⟨⟨ha, hk, ht, hi⟩, rfl⟩ := ifs h
  obtain ⟨q0, hq0⟩ := hW.1.at ha
  exact va_dald (D := G.1) (cl := vwCl) hx hb hE.1 hW.1.1 q0 6 (by rw [hq0, ent_arr hk, ht, rw9_d ht]) (show (tyL G.2.1)[6]? = some (G.2.1 6, .double) from rfl) (inb_vp hi) hdg kk
theorem tyq {ac : Nat → ClassId} {t : Nat} (h : t = 2 ∨ t = 3 ∨ t = 4) : ∃ C : String, (tyL ac)[t]? = some (ac t, .object C) := by
  rcases h with rfl | rfl | rfl
  · exact ⟨_, rfl⟩
  · exact ⟨_, rfl⟩
  · exact ⟨_, rfl⟩
theorem r_qld {a : Nat} {i : Int32} {v : Option Nat} (X : BX p l s m args meth c cc nL own Ts G A) (hW : MW G A μ s.heap H locs) (h : qld μ a i = some v) (hdg : decode cc pc = .ok (.aaload, 1))
    (kk : W p l e R s m args below meth c H locs cells slots Q (F0 m (pc + 1) ls (va_rf v :: rest))) : W p l e R s m args below meth c H locs cells slots Q (F0 m pc ls (.int i :: .ref a :: rest)) := by
  obtain ⟨hx, hb, -, hown, hts, hE, -⟩ := X
  obtain ⟨⟨ha, hk, ht, hi⟩, rfl⟩ := ifs h
  obtain ⟨q0, hq0⟩ := hW.1.at ha
  obtain ⟨C, hC⟩ := tyq (ac := G.2.1) ht
  exact va_aldq (D := G.1) (cl := vwCl) hx hb hE.1 hW.1.1 q0 (aT (mK μ a)) (by rw [hq0, ent_arr hk, rw9_q ht]) hC (inb_vp hi) hdg kk
theorem r_alen {a : Nat} {v : Int32} (X : BX p l s m args meth c cc nL own Ts G A) (hW : MW G A μ s.heap H locs) (h : alen μ a = some v) (hdg : decode cc pc = .ok (.arraylength, 1))
    (kk : W p l e R s m args below meth c H locs cells slots Q (F0 m (pc + 1) ls (.int v :: rest))) : W p l e R s m args below meth c H locs cells slots Q (F0 m pc ls (.ref a :: rest)) := by
  obtain ⟨hx, hb, -, hown, hts, hE, -⟩ := X
  obtain ⟨⟨ha, hk⟩, rfl⟩ := ifs h
  obtain ⟨q0, hq0⟩ := hW.1.at ha
  have ht : ∃ ty : FieldType, (tyL G.2.1)[aT (mK μ a)]? = some (G.2.1 (aT (mK μ a)), ty) := by
    have h7 : aT (mK μ a) < 7 := by
      unfold aT
      split <;> decide
    have : ∀ t : Nat, t < 7 → ∃ ty : FieldType, (tyL G.2.1)[t]? = some (G.2.1 t, ty) := by
      intro t h8
      match t, h8 with
      | 0, _ => exact ⟨_, rfl⟩
      | 1, _ => exact ⟨_, rfl⟩
      | 2, _ => exact ⟨_, rfl⟩
      | 3, _ => exact ⟨_, rfl⟩
      | 4, _ => exact ⟨_, rfl⟩
      | 5, _ => exact ⟨_, rfl⟩
      | 6, _ => exact ⟨_, rfl⟩
      | n + 7, h => exact absurd h (by omega)
    exact this _ h7
  obtain ⟨ty, ht⟩ := ht
  exact va_alen (D := G.1) (cl := vwCl) (x := (mN μ a, rw9 μ (mK μ a) a)) hx hb hE.1 hW.1.1 q0 (aT (mK μ a)) (by rw [hq0, ent_arr hk]) ht rfl hdg kk
theorem r_ast {a : Nat} {i v : Int32} {μ' : Mem} (X : BX p l s m args meth c cc nL own Ts G A) (hW : MW G A μ s.heap H locs) (h : ast μ a i v = some μ') (hdg : decode cc pc = .ok (.iastore, 1))
    (kk : ∀ (H1 : Heap) (locs1 : List Loc), MW G A μ' s.heap H1 locs1 → W p l e R s m args below meth c H1 locs1 cells slots Q (F0 m (pc + 1) ls rest)) : W p l e R s m args below meth c H locs cells slots Q (F0 m pc ls (.int v :: .int i :: .ref a :: rest)) := by
  obtain ⟨hx, hb, -, hown, hts, hE, -⟩ := X
  obtain ⟨⟨ha, hk, ht, hi⟩, rfl⟩ := ifs h
  obtain ⟨q0, hq0⟩ := hW.1.at ha
  refine va_iast (D := G.1) (cl := vwCl) hx hb hE.1 hW.1.1 hW.1.2 hW.2 q0 0 (cA := G.2.1 0) (n := mN μ a) (f := mR μ (mK μ a) a) (by rw [hq0, ent_arr hk, ht, rw9_i ht]) (show (tyL G.2.1)[0]? = some (G.2.1 0, .int) from rfl) (inb_vp hi) hdg (fun H1 locs1 hP hD hS => ?_)
  refine kk H1 locs1 ⟨MM.set (D := G.1) hW.1.2 ha hq0 rfl (fun b => ?_) hP hD, hS⟩
  rw [show G.2.1 0 = G.2.1 (aT (mK μ a)) from by rw [ht]]
  refine ent_row (μ' := sR μ (mK μ a) a i.toNatClampNeg v) hk rfl rfl rfl rfl ?_ (fun k b hb9 => rw9_sR hb9 k) b
  rw [rw9_i ht]
  exact congrArg Sum.inl (up3_row _ _ _ _ _)
theorem r_zst {a : Nat} {i v : Int32} {μ' : Mem} (X : BX p l s m args meth c cc nL own Ts G A) (hW : MW G A μ s.heap H locs) (h : zst μ a i v = some μ') (hdg : decode cc pc = .ok (.bastore, 1))
    (kk : ∀ (H1 : Heap) (locs1 : List Loc), MW G A μ' s.heap H1 locs1 → W p l e R s m args below meth c H1 locs1 cells slots Q (F0 m (pc + 1) ls rest)) : W p l e R s m args below meth c H locs cells slots Q (F0 m pc ls (.int v :: .int i :: .ref a :: rest)) := by
  obtain ⟨hx, hb, -, hown, hts, hE, -⟩ := X
  obtain ⟨⟨ha, hk, ht, hi, hv⟩, rfl⟩ := ifs h
  obtain ⟨q0, hq0⟩ := hW.1.at ha
  have hv9 : vp_nar .boolean v = v := by
    rcases hv with rfl | rfl <;> rfl
  refine va_zast (D := G.1) (cl := vwCl) hx hb hE.1 hW.1.1 hW.1.2 hW.2 q0 1 (cA := G.2.1 1) (n := mN μ a) (f := mR μ (mK μ a) a) (by rw [hq0, ent_arr hk, ht, rw9_z ht]) (show (tyL G.2.1)[1]? = some (G.2.1 1, .boolean) from rfl) (inb_vp hi) hdg (fun H1 locs1 hP hD hS => ?_)
  rw [hv9] at hP hD
  refine kk H1 locs1 ⟨MM.set (D := G.1) hW.1.2 ha hq0 rfl (fun b => ?_) hP hD, hS⟩
  rw [show G.2.1 1 = G.2.1 (aT (mK μ a)) from by rw [ht]]
  refine ent_row (μ' := sR μ (mK μ a) a i.toNatClampNeg v) hk rfl rfl rfl rfl ?_ (fun k b hb9 => rw9_sR hb9 k) b
  rw [rw9_z ht]
  exact congrArg Sum.inl (up3_row _ _ _ _ _)
theorem r_lst {a : Nat} {i : Int32} {v : Int64} {μ' : Mem} (X : BX p l s m args meth c cc nL own Ts G A) (hW : MW G A μ s.heap H locs) (h : lst μ a i v = some μ') (hdg : decode cc pc = .ok (.lastore, 1))
    (kk : ∀ (H1 : Heap) (locs1 : List Loc), MW G A μ' s.heap H1 locs1 → W p l e R s m args below meth c H1 locs1 cells slots Q (F0 m (pc + 1) ls rest)) : W p l e R s m args below meth c H locs cells slots Q (F0 m pc ls (.long v :: .int i :: .ref a :: rest)) := by
  obtain ⟨hx, hb, -, hown, hts, hE, -⟩ := X
  obtain ⟨⟨ha, hk, ht, hi⟩, rfl⟩ := ifs h
  obtain ⟨q0, hq0⟩ := hW.1.at ha
  refine va_last (D := G.1) (cl := vwCl) hx hb hE.1 hW.1.1 hW.1.2 hW.2 q0 5 (cA := G.2.1 5) (n := mN μ a) (f := mJ μ (mK μ a) a) (by rw [hq0, ent_arr hk, ht, rw9_l ht]) (show (tyL G.2.1)[5]? = some (G.2.1 5, .long) from rfl) (inb_vp hi) hdg (fun H1 locs1 hP hD hS => ?_)
  refine kk H1 locs1 ⟨MM.set (D := G.1) hW.1.2 ha hq0 rfl (fun b => ?_) hP hD, hS⟩
  rw [show G.2.1 5 = G.2.1 (aT (mK μ a)) from by rw [ht]]
  refine ent_row (μ' := sJ μ (mK μ a) a i.toNatClampNeg v) hk rfl rfl rfl rfl ?_ (fun k b hb9 => rw9_sJ hb9 k) b
  rw [rw9_l ht]
  exact congrArg (fun z => Sum.inr (Sum.inl z)) (up3_row _ _ _ _ _)
theorem r_dst {a : Nat} {i : Int32} {v : UInt64} {μ' : Mem} (X : BX p l s m args meth c cc nL own Ts G A) (hW : MW G A μ s.heap H locs) (h : dst μ a i v = some μ') (hdg : decode cc pc = .ok (.dastore, 1))
    (kk : ∀ (H1 : Heap) (locs1 : List Loc), MW G A μ' s.heap H1 locs1 → W p l e R s m args below meth c H1 locs1 cells slots Q (F0 m (pc + 1) ls rest)) : W p l e R s m args below meth c H locs cells slots Q (F0 m pc ls (.double v :: .int i :: .ref a :: rest)) := by
  obtain ⟨hx, hb, -, hown, hts, hE, -⟩ := X
  obtain ⟨⟨ha, hk, ht, hi⟩, rfl⟩ := ifs h
  obtain ⟨q0, hq0⟩ := hW.1.at ha
  refine va_dast (D := G.1) (cl := vwCl) hx hb hE.1 hW.1.1 hW.1.2 hW.2 q0 6 (cA := G.2.1 6) (n := mN μ a) (f := mE μ (mK μ a) a) (by rw [hq0, ent_arr hk, ht, rw9_d ht]) (show (tyL G.2.1)[6]? = some (G.2.1 6, .double) from rfl) (inb_vp hi) hdg (fun H1 locs1 hP hD hS => ?_)
  refine kk H1 locs1 ⟨MM.set (D := G.1) hW.1.2 ha hq0 rfl (fun b => ?_) hP hD, hS⟩
  rw [show G.2.1 6 = G.2.1 (aT (mK μ a)) from by rw [ht]]
  refine ent_row (μ' := sE μ (mK μ a) a i.toNatClampNeg v) hk rfl rfl rfl rfl ?_ (fun k b hb9 => rw9_sE hb9 k) b
  rw [rw9_d ht]
  exact congrArg (fun z => Sum.inr (Sum.inr (Sum.inr (Sum.inl z)))) (up3_row _ _ _ _ _)
theorem r_qst {a v : Nat} {i : Int32} {μ' : Mem} (X : BX p l s m args meth c cc nL own Ts G A) (hW : MW G A μ s.heap H locs) (h : qst μ a i v = some μ') (hdg : decode cc pc = .ok (.aastore, 1))
    (kk : ∀ (H1 : Heap) (locs1 : List Loc), MW G A μ' s.heap H1 locs1 → W p l e R s m args below meth c H1 locs1 cells slots Q (F0 m (pc + 1) ls rest)) : W p l e R s m args below meth c H locs cells slots Q (F0 m pc ls (.ref v :: .int i :: .ref a :: rest)) := by
  obtain ⟨hx, hb, -, hown, hts, hE, -⟩ := X
  obtain ⟨⟨ha, hk, ht, hi, hv, hkv⟩, rfl⟩ := ifs h
  obtain ⟨q0, hq0⟩ := hW.1.at ha
  obtain ⟨q1, hq1⟩ := hW.1.at hv
  have hty : ∃ r : vw_C, vwCl[aC (aT (mK μ a))]? = some r ∧ (tyL G.2.1)[aT (mK μ a)]? = some (G.2.1 (aT (mK μ a)), .object r.1) := by
    rcases ht with h | h | h <;> rw [h]
    · exact ⟨_, rfl, rfl⟩
    · exact ⟨_, rfl, rfl⟩
    · exact ⟨_, rfl, rfl⟩
  have hc9 : aC (aT (mK μ a)) < 10 := by
    rcases ht with h | h | h <;> rw [h] <;> decide
  obtain ⟨r, hr1, hr2⟩ := hty
  refine va_astq (D := G.1) (cl := vwCl) hx hb hE.1 hW.1.1 hW.1.2 hW.2 q0 (aT (mK μ a)) q1 (aC (aT (mK μ a))) (cA := G.2.1 (aT (mK μ a))) (n := mN μ a) (f := mS μ (mK μ a) a) (by rw [hq0, ent_arr hk, rw9_q ht]) hr2 (by rw [hq1, ent_obj hc9 hkv]) hr1 (inb_vp hi) hdg (fun H1 locs1 hP hD hS => ?_)
  refine kk H1 locs1 ⟨MM.set (D := G.1) hW.1.2 ha hq0 rfl (fun b => ?_) hP hD, hS⟩
  refine ent_row (μ' := sS μ (mK μ a) a i.toNatClampNeg (some v)) hk rfl rfl rfl rfl ?_ (fun k b hb9 => rw9_sS hb9 k) b
  rw [rw9_q ht]
  exact congrArg (fun z => Sum.inr (Sum.inr (Sum.inr (Sum.inr z)))) (up3_row _ _ _ _ _)
/-! ends -/
theorem qn_of {v : Option Value} (hW : MW G A μ s.heap H locs) (hP : P (.inr v) μ) (args : Array Value) (t : State) (ht : t.heap = H) : Qn G A P args s (.returned v) t := ⟨v, μ, hP, rfl, by rw [ht]; exact hW.1, hW.2.F ht⟩
theorem r_iret {v : Int32} (X : BX p l s m args meth c cc nL own Ts G A) (hr : meth.sig.returnType = some .int) (hW : MW G A μ s.heap H locs) (hP : P (.inr (some (.int v))) μ) (hc : cells ≤ mc) (hs : slots ≤ ms) (hdg : decode cc pc = .ok (.ireturn, 1)) : W p l e R s m args below meth c H locs cells slots (QQ below G A P args s mc ms) (F0 m pc ls [.int v]) := by
  obtain ⟨hx, hb, -, -, -, -, hlk, -⟩ := X
  refine W.widen hc hs ?_
  refine vx_ret ?_
  exact W.iret hx hb hr (fun t ht _ => qn_of hW hP _ t ht) hW.2.2.2 hdg hlk
theorem r_zret {v : Int32} (X : BX p l s m args meth c cc nL own Ts G A) (hr : meth.sig.returnType = some .boolean) (hW : MW G A μ s.heap H locs) (hv : v = 0 ∨ v = 1) (hP : P (.inr (some (.int v))) μ) (hc : cells ≤ mc) (hs : slots ≤ ms) (hdg : decode cc pc = .ok (.ireturn, 1)) : W p l e R s m args below meth c H locs cells slots (QQ below G A P args s mc ms) (F0 m pc ls [.int v]) := by
  obtain ⟨hx, hb, -, -, -, -, hlk, -⟩ := X
  refine W.widen hc hs ?_
  refine vx_ret ?_
  exact W.zret hx hb hr (by rcases hv with rfl | rfl <;> rfl) (fun t ht _ => qn_of hW hP _ t ht) hW.2.2.2 hdg hlk
theorem r_cret {v : Int32} (X : BX p l s m args meth c cc nL own Ts G A) (hr : meth.sig.returnType = some .char) (hW : MW G A μ s.heap H locs) (hv : 0 ≤ v.toInt ∧ v.toInt < 65536) (hP : P (.inr (some (.int v))) μ) (hc : cells ≤ mc) (hs : slots ≤ ms) (hdg : decode cc pc = .ok (.ireturn, 1)) : W p l e R s m args below meth c H locs cells slots (QQ below G A P args s mc ms) (F0 m pc ls [.int v]) := by
  obtain ⟨hx, hb, -, -, -, -, hlk, -⟩ := X
  refine W.widen hc hs ?_
  refine vx_ret ?_
  have h1 : v = nI v.toInt.toNat := by
    apply Int32.toInt_inj.mp
    rw [nI_toInt (by omega)]
    omega
  have h2 : narrow .char (.int v) = .int v := by
    rw [h1]
    exact (pk_charN (by omega)).1
  exact W.zret hx hb hr h2 (fun t ht _ => qn_of hW hP _ t ht) hW.2.2.2 hdg hlk
theorem r_vret (X : BX p l s m args meth c cc nL own Ts G A) (hr : meth.sig.returnType = none) (hW : MW G A μ s.heap H locs) (hP : P (.inr none) μ) (hc : cells ≤ mc) (hs : slots ≤ ms) (hdg : decode cc pc = .ok (.return_, 1)) : W p l e R s m args below meth c H locs cells slots (QQ below G A P args s mc ms) (F0 m pc ls []) := by
  obtain ⟨hx, hb, -, -, -, -, hlk, -⟩ := X
  refine W.widen hc hs ?_
  refine vx_ret ?_
  exact W.vret hx hb hr (fun t ht _ => qn_of hW hP _ t ht) hW.2.2.2 hdg hlk
theorem r_lret {v : Int64} (X : BX p l s m args meth c cc nL own Ts G A) (hr : meth.sig.returnType = some .long) (hW : MW G A μ s.heap H locs) (hP : P (.inr (some (.long v))) μ) (hc : cells ≤ mc) (hs : slots ≤ ms) (hdg : decode cc pc = .ok (.lreturn, 1)) : W p l e R s m args below meth c H locs cells slots (QQ below G A P args s mc ms) (F0 m pc ls [.long v]) := by
  obtain ⟨hx, hb, -, -, -, -, hlk, -⟩ := X
  refine W.widen hc hs ?_
  refine vx_ret ?_
  exact W.lret hx hb hr (fun t ht _ => qn_of hW hP _ t ht) hW.2.2.2 hdg hlk
theorem r_dret {v : UInt64} (X : BX p l s m args meth c cc nL own Ts G A) (hr : meth.sig.returnType = some .double) (hW : MW G A μ s.heap H locs) (hP : P (.inr (some (.double v))) μ) (hc : cells ≤ mc) (hs : slots ≤ ms) (hdg : decode cc pc = .ok (.dreturn, 1)) : W p l e R s m args below meth c H locs cells slots (QQ below G A P args s mc ms) (F0 m pc ls [.double v]) := by
  obtain ⟨hx, hb, -, -, -, -, hlk, -⟩ := X
  refine W.widen hc hs ?_
  refine vx_ret ?_
  exact W.dret hx hb hr (fun t ht _ => qn_of hW hP _ t ht) hW.2.2.2 hdg hlk
theorem r_fret {v : UInt32} (X : BX p l s m args meth c cc nL own Ts G A) (hr : meth.sig.returnType = some .float) (hW : MW G A μ s.heap H locs) (hP : P (.inr (some (.float v))) μ) (hc : cells ≤ mc) (hs : slots ≤ ms) (hdg : decode cc pc = .ok (.freturn, 1)) : W p l e R s m args below meth c H locs cells slots (QQ below G A P args s mc ms) (F0 m pc ls [.float v]) := by
  obtain ⟨hx, hb, -, -, -, -, hlk, -⟩ := X
  refine W.widen hc hs ?_
  refine vx_ret ?_
  exact W.fret hx hb hr (fun t ht _ => qn_of hW hP _ t ht) hW.2.2.2 hdg hlk
theorem r_aret {v : Option Nat} {rt : FieldType} (X : BX p l s m args meth c cc nL own Ts G A) (hr : meth.sig.returnType = some rt) (hrt : (∃ n, rt = .object n) ∨ ∃ t, rt = .array t) (hW : MW G A μ s.heap H locs) (hP : P (.inr (some (va_rf v))) μ) (hc : cells ≤ mc) (hs : slots ≤ ms) (hdg : decode cc pc = .ok (.areturn, 1)) : W p l e R s m args below meth c H locs cells slots (QQ below G A P args s mc ms) (F0 m pc ls [va_rf v]) := by
  obtain ⟨hx, hb, -, -, -, -, hlk, -⟩ := X
  refine W.widen hc hs ?_
  refine vx_ret ?_
  exact W.aret hx hb hr hrt (va_rf_or v) (fun t ht _ => qn_of hW hP _ t ht) hW.2.2.2 hdg hlk
/-! calls -/
theorem r_run {rmY : Room} {P9 : Nat ⊕ Option Value → Mem → Prop} {a9 : Array Value} {st0 : List Value} (X : BX p l s m args meth c cc nL own Ts G A) (hW : MW G A μ s.heap H locs)
    (hrun : vx_Run p l e R s m args below meth c H locs cells slots rmY.cells rmY.slots (F0 m pc ls st0) rest (Qn G A P9 a9) (Xn G A P9) A)
    (hx9 : ∀ (e9 : Nat) (μ' : Mem), P9 (.inl e9) μ' → P (.inl e9) μ') (hc : cells + rmY.cells ≤ mc) (hs : slots + rmY.slots ≤ ms)
    (kk : ∀ (v : Option Value) (μ' : Mem) (H1 : Heap) (locs1 : List Loc), P9 (.inr v) μ' → MW G A μ' s.heap H1 locs1 → W p l e R s m args below meth c H1 locs1 (cells + rmY.cells) (slots + rmY.slots) (QQ below G A P args s mc ms) (F0 m (pc + 3) ls (v.toList ++ rest))) :
    W p l e R s m args below meth c H locs cells slots (QQ below G A P args s mc ms) (F0 m pc ls st0) := by
  obtain ⟨hx, hb, -, hown, hts, hE, hlk, hnt, -, hA9⟩ := X
  intro T hT XT
  rcases hrun T hT XT with ⟨v, st₀, t, T', L, h0, X', hL, e1, e2, ⟨v', μ', hP, hv, hM', hF⟩, st⟩ | ⟨q, st₀, t, T', L, E, ce, h0, X', hL, e1, e2, ⟨e', μ', hP, hE9, hM', hF⟩, hce, hcv, hcl, st⟩
  · cases hv
    obtain ⟨-, -, k3⟩ := vx_keep h0 e1 hW.2 (fun q _ h => h) (fun q h => h) hL hF
    obtain ⟨t2, a1, b1⟩ := kk v μ' T'.heap (locs ++ L) hP ⟨by rw [e1]; exact hM', k3⟩ T' rfl X'
    exact ⟨t2, st t2 a1, b1⟩
  · obtain ⟨-, -, k3⟩ := vx_keep h0 e1 hW.2 (fun q _ h => h) (fun q h => h) hL hF
    have ho : vx_W p l e R s m args below meth c T'.heap (locs ++ L) (cells + rmY.cells) (slots + rmY.slots) (QQ below G A P args s mc ms) (F0 m pc ls rest) q :=
      vx_out (fun x h => (hnt x h).elim) hlk (by rw [e1]; exact hce) hcv hcl (fun t9 ht9 _ => ⟨e', μ', hx9 _ _ hP, hE9, by rw [ht9, e1]; exact hM', k3.F ht9⟩) k3.2.2 hc hs
    obtain ⟨t2, a1, b1⟩ := ho T' rfl X'
    exact ⟨t2, st.trans a1, b1⟩
theorem pre_of {av : List Value} (X : BX p l s m args meth c cc nL own Ts G A) (hW : MW G A μ s.heap H locs) (U : State) (hU : U.heap = H) (hWm : s.WarmedH U.vm) : Pn G A μ av av.toArray U := by
  obtain ⟨-, -, -, -, -, hE, -, -, -, hA9⟩ := X
  refine ⟨rfl, ?_, by rw [hU]; exact hW.1, fun q hq => hA9 q ?_⟩
  · rw [hU]; exact hE.to hW.2.2.1 hWm
  · rw [hU] at hq; exact Nat.le_trans hW.2.1 hq
theorem r_callV {y : MethodName} {wsY wsY' : List Cond} {bytes : ByteArray} {maxL n index b ci : Nat} {ret : Option FieldType} {rmY : Room} {As : List Value} {P9 : Nat ⊕ Option Value → Mem → Prop} {q : vw_C} (X : BX p l s m args meth c cc nL own Ts G A) (hW : MW G A μ s.heap H locs) (hl : ls.size = nL)
    (hO : Ok l y wsY rmY (.ref b :: As) G A μ P9) (hg : GoodIn Ts (wsV own index q.1 y wsY)) (hw : wsY = .code y bytes maxL ret :: wsY') (hb9 : ok9 μ ci b) (hc9 : ci < 10) (hcl : vwCl[ci]? = some q)
    (hd : y.cls = q.1 ∧ y.cls ≠ "java/lang/invoke/MethodHandle" ∧ y.cls ≠ "java/lang/invoke/VarHandle" ∧ (parseMethodDescriptor y.desc).map (fun d => d.parameters.length) = some n) (hn : As.length = n) (hR : rmY.frames + 1 ≤ R.frames ∧ 8 + (maxL + 11) + rmY.locals ≤ R.locals) (hcat : (rest.map fun v => v.category).sum ≤ 8)
    (hdg : decode cc pc = .ok (.invokevirtual index, 3)) (hf : cells + rmY.cells ≤ R.cells ∧ slots + rmY.slots ≤ R.slots)
    (hx9 : ∀ (e9 : Nat) (μ' : Mem), P9 (.inl e9) μ' → P (.inl e9) μ') (hcm : cells + rmY.cells ≤ mc ∧ slots + rmY.slots ≤ ms) {st0 : List Value} (hst : st0 = As.reverse ++ .ref b :: rest)
    (kk : ∀ (v : Option Value) (μ' : Mem) (H1 : Heap) (locs1 : List Loc), P9 (.inr v) μ' → MW G A μ' s.heap H1 locs1 → W p l e R s m args below meth c H1 locs1 (cells + rmY.cells) (slots + rmY.slots) (QQ below G A P args s mc ms) (F0 m (pc + 3) ls (v.toList ++ rest))) :
    W p l e R s m args below meth c H locs cells slots (QQ below G A P args s mc ms) (F0 m pc ls st0) := by
  obtain ⟨q0, hq0⟩ := hW.1.at hb9.1
  rw [ent_obj hc9 hb9.2] at hq0
  refine r_run X hW (rmY := rmY) (P9 := P9) (a9 := (Value.ref b :: As).toArray) (rest := rest) ?_ hx9 hcm.1 hcm.2 kk
  exact vx_runV (As := As) (rest := rest) ⟨X.1, X.2.1, X.2.2.1, X.2.2.2.1, X.2.2.2.2.1⟩ hO (cwV n X.2.2.2.2.1 hg hw rfl rfl hd hR) ⟨Pn_blind, va_recv X.2.2.2.2.2.1.1 hW.1.1 hcl hq0, fun U hU hWm => pre_of X hW U hU hWm⟩ rfl hn hl hst (lv_room hcat) hdg hf
theorem r_callS {y : MethodName} {wsY wsY' : List Cond} {bytes : ByteArray} {maxL n index : Nat} {ret : Option FieldType} {rmY : Room} {As : List Value} {P9 : Nat ⊕ Option Value → Mem → Prop} (X : BX p l s m args meth c cc nL own Ts G A) (hW : MW G A μ s.heap H locs) (hl : ls.size = nL)
    (hO : Ok l y wsY rmY As G A μ P9) (hg : GoodIn Ts (va_wsS own index y wsY)) (hw : wsY = .code y bytes maxL ret :: wsY')
    (hd : y.cls ≠ "java/lang/invoke/MethodHandle" ∧ y.cls ≠ "java/lang/invoke/VarHandle" ∧ (parseMethodDescriptor y.desc).map (fun d => d.parameters.length) = some n) (hn : As.length = n) (hR : rmY.frames + 1 ≤ R.frames ∧ 8 + (maxL + 11) + rmY.locals ≤ R.locals) (hcat : (rest.map fun v => v.category).sum ≤ 8)
    (hdg : decode cc pc = .ok (.invokestatic index, 3)) (hf : cells + rmY.cells ≤ R.cells ∧ slots + rmY.slots ≤ R.slots)
    (hx9 : ∀ (e9 : Nat) (μ' : Mem), P9 (.inl e9) μ' → P (.inl e9) μ') (hcm : cells + rmY.cells ≤ mc ∧ slots + rmY.slots ≤ ms) {st0 : List Value} (hst : st0 = As.reverse ++ rest)
    (kk : ∀ (v : Option Value) (μ' : Mem) (H1 : Heap) (locs1 : List Loc), P9 (.inr v) μ' → MW G A μ' s.heap H1 locs1 → W p l e R s m args below meth c H1 locs1 (cells + rmY.cells) (slots + rmY.slots) (QQ below G A P args s mc ms) (F0 m (pc + 3) ls (v.toList ++ rest))) :
    W p l e R s m args below meth c H locs cells slots (QQ below G A P args s mc ms) (F0 m pc ls st0) := by
  refine r_run X hW (rmY := rmY) (P9 := P9) (a9 := As.toArray) (rest := rest) ?_ hx9 hcm.1 hcm.2 kk
  exact vx_runS (As := As) (rest := rest) ⟨X.1, X.2.1, X.2.2.1, X.2.2.2.1, X.2.2.2.2.1⟩ hO (va_cwS n X.2.2.2.2.1 hg hw rfl rfl hd hR) ⟨Pn_blind, fun U hU hWm => pre_of X hW U hU hWm⟩ rfl hn hl hst (lv_room hcat) hdg hf
end R9
/-! what the programs are written with, and how a program's step is read -/
def chk (μ : Mem) (ci a : Nat) : Option Unit := if ok9 μ ci a then some () else none
theorem chk_ok {μ : Mem} {ci a : Nat} {u : Unit} (h : chk μ ci a = some u) : ok9 μ ci a := (ifs h).1
def onl {α : Type} (q : Option Nat) (t : α) (f : Nat → α) : α := match q with
  | none => t
  | some a => f a
theorem onl_c {α : Type} {q : Option Nat} {t : Option α} {f : Nat → Option α} {r : α} (h : onl q t f = some r) : (q = none ∧ t = some r) ∨ ∃ a, q = some a ∧ f a = some r := by
  cases q with
  | none => exact Or.inl ⟨rfl, h⟩
  | some a => exact Or.inr ⟨a, rfl, h⟩
theorem itp {α : Type} {c : Prop} {x : Decidable c} {a b r : α} (hc : c) (h : (if c then a else b) = r) : a = r := by rw [if_pos hc] at h; exact h
theorem itn {α : Type} {c : Prop} {x : Decidable c} {a b r : α} (hc : ¬ c) (h : (if c then a else b) = r) : b = r := by rw [if_neg hc] at h; exact h
theorem itz {α : Type} {c : Prop} {x : Decidable c} {b : Option α} {r : α} (h : (if c then none else b) = some r) : ¬ c ∧ b = some r := by
  by_cases hc : c
  · rw [if_pos hc] at h; cases h
  · rw [if_neg hc] at h; exact ⟨hc, h⟩
def gn64 (x : UInt64) : Option Unit := if x &&& 0x7fffffffffffffff ≤ 0x7ff0000000000000 then some () else none
def gn32 (x : UInt32) : Option Unit := if x &&& 0x7fffffff ≤ 0x7f800000 then some () else none
theorem gn64_ok {x : UInt64} {u : Unit} (h : gn64 x = some u) : vf_n64 x := (ifs h).1
theorem gn32_ok {x : UInt32} {u : Unit} (h : gn32 x = some u) : vf_n32 x := (ifs h).1
def dP (r : Nat ⊕ Option Value) (μ : Mem) : Nat ⊕ Option Value → Mem → Prop := fun r' μ' => r' = r ∧ μ' = μ
abbrev rI (v : Int32) : Option Value := some (.int v)
abbrev rLg (v : Int64) : Option Value := some (.long v)
abbrev rD (v : UInt64) : Option Value := some (.double v)
abbrev rF (v : UInt32) : Option Value := some (.float v)
abbrev rA (v : Option Nat) : Option Value := some (va_rf v)
abbrev rV (_ : Unit) : Option Value := none
def mx {α : Type} (f : α → Option Value) (r : Nat ⊕ α) : Nat ⊕ Option Value := match r with
  | .inl e => .inl e
  | .inr v => .inr (f v)
def rIx (r : Nat ⊕ Int32) : Nat ⊕ Option Value := mx rI r
def rLgx (r : Nat ⊕ Int64) : Nat ⊕ Option Value := mx rLg r
def rDx (r : Nat ⊕ UInt64) : Nat ⊕ Option Value := mx rD r
def rFx (r : Nat ⊕ UInt32) : Nat ⊕ Option Value := mx rF r
def rAx (r : Nat ⊕ Option Nat) : Nat ⊕ Option Value := mx rA r
def rVx (r : Nat ⊕ Unit) : Nat ⊕ Option Value := mx rV r
theorem cat_rf (q : Option Nat) : (va_rf q).category = 1 := by cases q <;> rfl
theorem strOf {q : Nat × String} : True := trivial
section R10
variable {p : Program} {l : Launch} {e : Env} {R : Room} {s : State} {m : MethodId} {args : Array Value} {below : List Frame} {meth : Method} {c : Code} {H : Heap} {locs : List Loc} {cells slots : Nat} {Q : State → Prop} {cc : ByteArray} {pc nL : Nat} {ls : Array Slot} {rest : List Value} {own : String} {Ts : List Cond} {G : GG} {A : Nat → Prop} {μ : Mem} {P : Nat ⊕ Option Value → Mem → Prop} {mc ms : Nat}
theorem r_aloadq (hx : p.tables.exec = Jvm.exec) (hb : c.code = cc) {i : Nat} {q : Option Nat} (hdg : decode cc pc = .ok (.aload i, 2)) (hl : ls[i]? = some (.val (va_rf q)))
    (k : W p l e R s m args below meth c H locs cells slots Q (F0 m (pc + 2) ls (va_rf q :: rest))) : W p l e R s m args below meth c H locs cells slots Q (F0 m pc ls (rest)) := by
  cases q with
  | none => exact lv_aloadN hx hb hdg hl k
  | some a => exact lv_aload hx hb hdg hl k
theorem r_aload_nq (hx : p.tables.exec = Jvm.exec) (hb : c.code = cc) {k : Fin 4} {i : Nat} {q : Option Nat} (hdg : decode cc pc = .ok (.aload_n k, 1)) (hi : (k : Nat) = i) (hl : ls[i]? = some (.val (va_rf q)))
    (k : W p l e R s m args below meth c H locs cells slots Q (F0 m (pc + 1) ls (va_rf q :: rest))) : W p l e R s m args below meth c H locs cells slots Q (F0 m pc ls (rest)) := by
  cases q with
  | none => exact lv_aload_nN hx hb hdg hi hl k
  | some a => exact lv_aload_n hx hb hdg hi hl k
theorem r_astoreq (hx : p.tables.exec = Jvm.exec) (hb : c.code = cc) {i nL : Nat} {q : Option Nat} {lv lv' : List (Nat × Value)} (hdg : decode cc pc = .ok (.astore i, 2)) (h : lv_has ls nL lv) (hn : i < nL) (hl : (i, va_rf q) :: lv.filter (fun q => !(q.1 == i) && !(q.1 + 1 == i && q.2.category == 2)) = lv')
    (kk : ∀ ls' : Array Slot, lv_has ls' nL lv' → W p l e R s m args below meth c H locs cells slots Q (F0 m (pc + 2) ls' rest)) : W p l e R s m args below meth c H locs cells slots Q (F0 m pc ls (va_rf q :: rest)) := by
  cases q with
  | none => exact lv_astoreN hx hb hdg h hn hl kk
  | some a => exact lv_astore hx hb hdg h hn hl kk
theorem r_astore_nq (hx : p.tables.exec = Jvm.exec) (hb : c.code = cc) {k : Fin 4} {i nL : Nat} {q : Option Nat} {lv lv' : List (Nat × Value)} (hdg : decode cc pc = .ok (.astore_n k, 1)) (hi : (k : Nat) = i) (h : lv_has ls nL lv) (hn : i < nL) (hl : (i, va_rf q) :: lv.filter (fun q => !(q.1 == i) && !(q.1 + 1 == i && q.2.category == 2)) = lv')
    (kk : ∀ ls' : Array Slot, lv_has ls' nL lv' → W p l e R s m args below meth c H locs cells slots Q (F0 m (pc + 1) ls' rest)) : W p l e R s m args below meth c H locs cells slots Q (F0 m pc ls (va_rf q :: rest)) := by
  cases q with
  | none => exact lv_astore_nN hx hb hdg hi h hn hl kk
  | some a => exact lv_astore_n hx hb hdg hi h hn hl kk
theorem r_null (hx : p.tables.exec = Jvm.exec) (hb : c.code = cc) (hdg : decode cc pc = .ok (.aconst_null, 1)) (k : W p l e R s m args below meth c H locs cells slots Q (F0 m (pc + 1) ls (va_rf none :: rest))) : W p l e R s m args below meth c H locs cells slots Q (F0 m pc ls rest) := lv_null hx hb hdg k
theorem ne_toInt {x k : Int32} (h : ¬ x = k) : x.toInt ≠ k.toInt := fun z => h (Int32.toInt_inj.mp z)
/-- calls that return, calls that throw -/
theorem r_callV_ok {y : MethodName} {wsY wsY' : List Cond} {bytes : ByteArray} {maxL n index b ci : Nat} {ret : Option FieldType} {rmY : Room} {As : List Value} {res : Nat ⊕ Option Value} {μ9 : Mem} {v9 : Option Value} {q : vw_C} (X : BX p l s m args meth c cc nL own Ts G A) (hW : MW G A μ s.heap H locs) (hl : ls.size = nL)
    (hO : Ok l y wsY rmY (.ref b :: As) G A μ (dP res μ9)) (hg : GoodIn Ts (wsV own index q.1 y wsY)) (hw : wsY = .code y bytes maxL ret :: wsY') (hb9 : ok9 μ ci b) (hc9 : ci < 10) (hcl : vwCl[ci]? = some q)
    (hd : y.cls = q.1 ∧ y.cls ≠ "java/lang/invoke/MethodHandle" ∧ y.cls ≠ "java/lang/invoke/VarHandle" ∧ (parseMethodDescriptor y.desc).map (fun d => d.parameters.length) = some n) (hn : As.length = n) (hR : rmY.frames + 1 ≤ R.frames ∧ 8 + (maxL + 11) + rmY.locals ≤ R.locals ∧ cells + rmY.cells ≤ R.cells ∧ slots + rmY.slots ≤ R.slots ∧ cells + rmY.cells ≤ mc ∧ slots + rmY.slots ≤ ms) (hcat : (rest.map fun v => v.category).sum ≤ 8)
    (hdg : decode cc pc = .ok (.invokevirtual index, 3)) (hres : res = .inr v9) {st0 : List Value} (hst : st0 = As.reverse ++ .ref b :: rest) {stk : List Value} (hstk : v9.toList ++ rest = stk)
    (kk : ∀ (H1 : Heap) (locs1 : List Loc), MW G A μ9 s.heap H1 locs1 → W p l e R s m args below meth c H1 locs1 (cells + rmY.cells) (slots + rmY.slots) (QQ below G A P args s mc ms) (F0 m (pc + 3) ls stk)) :
    W p l e R s m args below meth c H locs cells slots (QQ below G A P args s mc ms) (F0 m pc ls st0) := by
  refine r_callV X hW hl hO hg hw hb9 hc9 hcl hd hn ⟨hR.1, hR.2.1⟩ hcat hdg ⟨hR.2.2.1, hR.2.2.2.1⟩ (fun e9 μ' h => ?_) ⟨hR.2.2.2.2.1, hR.2.2.2.2.2⟩ hst (fun v μ' H1 locs1 h hW1 => ?_)
  · have h1 := h.1; rw [hres] at h1; cases h1
  · obtain ⟨h1, rfl⟩ := h
    rw [hres] at h1
    cases h1
    rw [hstk]
    exact kk H1 locs1 hW1
theorem r_callV_thr {y : MethodName} {wsY wsY' : List Cond} {bytes : ByteArray} {maxL n index b ci e9 : Nat} {ret : Option FieldType} {rmY : Room} {As : List Value} {res : Nat ⊕ Option Value} {μ9 : Mem} {q : vw_C} (X : BX p l s m args meth c cc nL own Ts G A) (hW : MW G A μ s.heap H locs) (hl : ls.size = nL)
    (hO : Ok l y wsY rmY (.ref b :: As) G A μ (dP res μ9)) (hg : GoodIn Ts (wsV own index q.1 y wsY)) (hw : wsY = .code y bytes maxL ret :: wsY') (hb9 : ok9 μ ci b) (hc9 : ci < 10) (hcl : vwCl[ci]? = some q)
    (hd : y.cls = q.1 ∧ y.cls ≠ "java/lang/invoke/MethodHandle" ∧ y.cls ≠ "java/lang/invoke/VarHandle" ∧ (parseMethodDescriptor y.desc).map (fun d => d.parameters.length) = some n) (hn : As.length = n) (hR : rmY.frames + 1 ≤ R.frames ∧ 8 + (maxL + 11) + rmY.locals ≤ R.locals ∧ cells + rmY.cells ≤ R.cells ∧ slots + rmY.slots ≤ R.slots ∧ cells + rmY.cells ≤ mc ∧ slots + rmY.slots ≤ ms) (hcat : (rest.map fun v => v.category).sum ≤ 8)
    (hdg : decode cc pc = .ok (.invokevirtual index, 3)) (hres : res = .inl e9) {st0 : List Value} (hst : st0 = As.reverse ++ .ref b :: rest) (hP : P (.inl e9) μ9) :
    W p l e R s m args below meth c H locs cells slots (QQ below G A P args s mc ms) (F0 m pc ls st0) := by
  refine r_callV X hW hl hO hg hw hb9 hc9 hcl hd hn ⟨hR.1, hR.2.1⟩ hcat hdg ⟨hR.2.2.1, hR.2.2.2.1⟩ (fun e8 μ' h => ?_) ⟨hR.2.2.2.2.1, hR.2.2.2.2.2⟩ hst (fun v μ' H1 locs1 h hW1 => ?_)
  · obtain ⟨h1, rfl⟩ := h
    rw [hres] at h1
    cases h1
    exact hP
  · have h1 := h.1; rw [hres] at h1; cases h1
theorem r_callS_ok {y : MethodName} {wsY wsY' : List Cond} {bytes : ByteArray} {maxL n index : Nat} {ret : Option FieldType} {rmY : Room} {As : List Value} {res : Nat ⊕ Option Value} {μ9 : Mem} {v9 : Option Value} (X : BX p l s m args meth c cc nL own Ts G A) (hW : MW G A μ s.heap H locs) (hl : ls.size = nL)
    (hO : Ok l y wsY rmY As G A μ (dP res μ9)) (hg : GoodIn Ts (va_wsS own index y wsY)) (hw : wsY = .code y bytes maxL ret :: wsY')
    (hd : y.cls ≠ "java/lang/invoke/MethodHandle" ∧ y.cls ≠ "java/lang/invoke/VarHandle" ∧ (parseMethodDescriptor y.desc).map (fun d => d.parameters.length) = some n) (hn : As.length = n) (hR : rmY.frames + 1 ≤ R.frames ∧ 8 + (maxL + 11) + rmY.locals ≤ R.locals ∧ cells + rmY.cells ≤ R.cells ∧ slots + rmY.slots ≤ R.slots ∧ cells + rmY.cells ≤ mc ∧ slots + rmY.slots ≤ ms) (hcat : (rest.map fun v => v.category).sum ≤ 8)
    (hdg : decode cc pc = .ok (.invokestatic index, 3)) (hres : res = .inr v9) {st0 : List Value} (hst : st0 = As.reverse ++ rest) {stk : List Value} (hstk : v9.toList ++ rest = stk)
    (kk : ∀ (H1 : Heap) (locs1 : List Loc), MW G A μ9 s.heap H1 locs1 → W p l e R s m args below meth c H1 locs1 (cells + rmY.cells) (slots + rmY.slots) (QQ below G A P args s mc ms) (F0 m (pc + 3) ls stk)) :
    W p l e R s m args below meth c H locs cells slots (QQ below G A P args s mc ms) (F0 m pc ls st0) := by
  refine r_callS X hW hl hO hg hw hd hn ⟨hR.1, hR.2.1⟩ hcat hdg ⟨hR.2.2.1, hR.2.2.2.1⟩ (fun e9 μ' h => ?_) ⟨hR.2.2.2.2.1, hR.2.2.2.2.2⟩ hst (fun v μ' H1 locs1 h hW1 => ?_)
  · have h1 := h.1; rw [hres] at h1; cases h1
  · obtain ⟨h1, rfl⟩ := h
    rw [hres] at h1
    cases h1
    rw [hstk]
    exact kk H1 locs1 hW1
/-- throw new E("text") -/
theorem r_thr {cls text : String} {ik is ic e9 : Nat} (X : BX p l s m args meth c cc nL "PartcopyistBench" Ts G A) (hsl : l.stackTraces = false) (hl : ls.size = nL) (hW : MW G A μ s.heap H locs) (he : cls = xn e9) (hcls : Bundle.fit cls = true) (hE : cls ∈ exL)
    (hk : (Cond.classLink "PartcopyistBench" ik cls).before args s = true) (hini : (Cond.initialized cls).before args s = true)
    (hg : ∀ w ∈ (vx_atS "PartcopyistBench" ic cls ["java/lang/RuntimeException", "java/lang/Exception"]).filter goodWord, w ∈ Ts)
    (hbad : ∀ w ∈ (vx_atS "PartcopyistBench" ic cls ["java/lang/RuntimeException", "java/lang/Exception"]).filter (fun w => !goodWord w), w ∈ Cond.castable cls cls :: dcL.map (fun Y => Cond.declares ⟨Y, "<init>", "(Ljava/lang/String;)V"⟩))
    (hgood : ∀ w ∈ Cond.classLink "PartcopyistBench" ik cls :: Cond.initialized cls :: vx_atS "PartcopyistBench" ic cls ["java/lang/RuntimeException", "java/lang/Exception"], vx_ot w = true)
    (hstr : (is, text) ∈ strL)
    (d0 : decode cc pc = .ok (.new ik, 3)) (d3 : decode cc (pc + 3) = .ok (.dup, 1)) (d4 : decode cc (pc + 4) = .ok (.ldc is, 2)) (d6 : decode cc (pc + 6) = .ok (.invokespecial ic, 3)) (d9 : decode cc (pc + 9) = .ok (.athrow, 1))
    (hR : 5 < R.frames ∧ (rest.map fun v => v.category).sum + 82 ≤ R.locals ∧ cells + 1 ≤ R.cells ∧ slots + 6 ≤ R.slots) (hP : P (.inl e9) μ) (hc : cells + 1 ≤ mc) (hs : slots + 6 ≤ ms) :
    W p l e R s m args below meth c H locs cells slots (QQ below G A P args s mc ms) (F0 m pc ls rest) := by
  obtain ⟨hx, hb, hml, hown, hts, hEN, hlk, hnt, -, hA9⟩ := X
  obtain ⟨-, hU, hN, hca, hde, hst, -⟩ := hEN
  refine vx_throwS (A := A) hx hb hsl hown hcls (by decide) hk hini (hst _ hstr) (vx_hat (fun w hw => hts w (hg w hw)) hbad ?_) hgood hU hN hW.2 (hl.trans hml.symm) d0 d3 d4 d6 d9 (fun x h => (hnt x h).elim) hR.1 hR.2.1 hR.2.2.1 hR.2.2.2 hlk (fun t hal hz hk9 => ?_) hW.2.2.2 hc hs
  · intro w hw
    rcases List.mem_cons.mp hw with rfl | hw
    · exact va_Nw.use rfl (hca _ hE)
    · obtain ⟨Y, hY, rfl⟩ := List.mem_map.mp hw
      exact va_Nw.use rfl (hde _ hY)
  · refine ⟨e9, μ, hP, he, ⟨hW.1.1.kept (fun k q hq => hk9 q.1 (hW.1.1 k q hq).lt), hW.1.2⟩, Nat.le_trans hW.2.1 hz, fun q h1 h2 => ?_⟩
    rw [hk9 q (Nat.lt_of_lt_of_le h1 hW.2.1)]
    exact hW.2.2.1 q h1 h2
theorem r_thrw {cls text : String} {ik is ic e9 : Nat} (X : BX p l s m args meth c cc nL "PartcopyistBench" Ts G A) (hsl : l.stackTraces = false) (hl : ls.size = nL) (hW : MW G A μ s.heap H locs) (he : cls = xn e9) (hcls : Bundle.fit cls = true) (hE : cls ∈ exL)
    (hk : (Cond.classLink "PartcopyistBench" ik cls).before args s = true) (hini : (Cond.initialized cls).before args s = true)
    (hg : ∀ w ∈ (vx_atS "PartcopyistBench" ic cls ["java/lang/RuntimeException", "java/lang/Exception"]).filter goodWord, w ∈ Ts)
    (hbad : ∀ w ∈ (vx_atS "PartcopyistBench" ic cls ["java/lang/RuntimeException", "java/lang/Exception"]).filter (fun w => !goodWord w), w ∈ Cond.castable cls cls :: dcL.map (fun Y => Cond.declares ⟨Y, "<init>", "(Ljava/lang/String;)V"⟩))
    (hgood : ∀ w ∈ Cond.classLink "PartcopyistBench" ik cls :: Cond.initialized cls :: vx_atS "PartcopyistBench" ic cls ["java/lang/RuntimeException", "java/lang/Exception"], vx_ot w = true)
    (hstr : (is, text) ∈ strL)
    (d0 : decode cc pc = .ok (.new ik, 3)) (d3 : decode cc (pc + 3) = .ok (.dup, 1)) (d4 : decode cc (pc + 4) = .ok (.ldc_w is, 3)) (d6 : decode cc (pc + 7) = .ok (.invokespecial ic, 3)) (d9 : decode cc (pc + 10) = .ok (.athrow, 1))
    (hR : 5 < R.frames ∧ (rest.map fun v => v.category).sum + 82 ≤ R.locals ∧ cells + 1 ≤ R.cells ∧ slots + 6 ≤ R.slots) (hP : P (.inl e9) μ) (hc : cells + 1 ≤ mc) (hs : slots + 6 ≤ ms) :
    W p l e R s m args below meth c H locs cells slots (QQ below G A P args s mc ms) (F0 m pc ls rest) := by
  obtain ⟨hx, hb, hml, hown, hts, hEN, hlk, hnt, -, hA9⟩ := X
  obtain ⟨-, hU, hN, hca, hde, hst, -⟩ := hEN
  refine vx_throwSW (A := A) hx hb hsl hown hcls (by decide) hk hini (hst _ hstr) (vx_hat (fun w hw => hts w (hg w hw)) hbad ?_) hgood hU hN hW.2 (hl.trans hml.symm) d0 d3 d4 d6 d9 (fun x h => (hnt x h).elim) hR.1 hR.2.1 hR.2.2.1 hR.2.2.2 hlk (fun t hal hz hk9 => ?_) hW.2.2.2 hc hs
  · intro w hw
    rcases List.mem_cons.mp hw with rfl | hw
    · exact va_Nw.use rfl (hca _ hE)
    · obtain ⟨Y, hY, rfl⟩ := List.mem_map.mp hw
      exact va_Nw.use rfl (hde _ hY)
  · refine ⟨e9, μ, hP, he, ⟨hW.1.1.kept (fun k q hq => hk9 q.1 (hW.1.1 k q hq).lt), hW.1.2⟩, Nat.le_trans hW.2.1 hz, fun q h1 h2 => ?_⟩
    rw [hk9 q (Nat.lt_of_lt_of_le h1 hW.2.1)]
    exact hW.2.2.1 q h1 h2
theorem r_thrN {text : String} {is : Nat} (X : BX p l s m args meth c cc nL "PartcopyistBench" Ts G A) (hsl : l.stackTraces = false) (hl : ls.size = nL) (hW : MW G A μ s.heap H locs) (he : nsN = xn 4) (hcls : Bundle.fit nsN = true) (hE : nsN ∈ exL)
    (hk : (Cond.classLink "PartcopyistBench" 224 nsN).before args s = true) (hini : (Cond.initialized nsN).before args s = true)
    (hg : ∀ w ∈ vz_at9.filter goodWord, w ∈ Ts)
    (hbad : ∀ w ∈ vz_at9.filter (fun w => !goodWord w), w ∈ Cond.castable nsN nsN :: dcL.map (fun Y => Cond.declares ⟨Y, "<init>", "(Ljava/lang/String;)V"⟩))
    (hgood : ∀ w ∈ Cond.classLink "PartcopyistBench" 224 nsN :: Cond.initialized nsN :: vz_at9, vx_ot w = true)
    (hstr : (is, text) ∈ strL)
    (d0 : decode cc pc = .ok (.new 224, 3)) (d3 : decode cc (pc + 3) = .ok (.dup, 1)) (d4 : decode cc (pc + 4) = .ok (.ldc is, 2)) (d6 : decode cc (pc + 6) = .ok (.invokespecial 228, 3)) (d9 : decode cc (pc + 9) = .ok (.athrow, 1))
    (hR : 5 < R.frames ∧ (rest.map fun v => v.category).sum + 82 ≤ R.locals ∧ cells + 1 ≤ R.cells ∧ slots + 6 ≤ R.slots) (hP : P (.inl 4) μ) (hc : cells + 1 ≤ mc) (hs : slots + 6 ≤ ms) :
    W p l e R s m args below meth c H locs cells slots (QQ below G A P args s mc ms) (F0 m pc ls rest) := by
  obtain ⟨hx, hb, hml, hown, hts, hEN, hlk, hnt, -, hA9⟩ := X
  obtain ⟨-, hU, hN, hca, hde, hst, -⟩ := hEN
  refine vz_throw (A := A) (k9 := 6) hx hb hsl hown hk hini (hst _ hstr) (vx_hat (fun w hw => hts w (hg w hw)) hbad ?_) hgood hU hN hW.2 (hl.trans hml.symm) d0 d3 (Or.inl ⟨d4, rfl⟩) d6 d9 (fun x h => (hnt x h).elim) hR.1 hR.2.1 hR.2.2.1 hR.2.2.2 hlk (fun t hal hz hk9 => ?_) hW.2.2.2 hc hs
  · intro w hw
    rcases List.mem_cons.mp hw with rfl | hw
    · exact va_Nw.use rfl (hca _ hE)
    · obtain ⟨Y, hY, rfl⟩ := List.mem_map.mp hw
      exact va_Nw.use rfl (hde _ hY)
  · refine ⟨4, μ, hP, he, ⟨hW.1.1.kept (fun k q hq => hk9 q.1 (hW.1.1 k q hq).lt), hW.1.2⟩, Nat.le_trans hW.2.1 hz, fun q h1 h2 => ?_⟩
    rw [hk9 q (Nat.lt_of_lt_of_le h1 hW.2.1)]
    exact hW.2.2.1 q h1 h2
theorem r_thrwN {text : String} {is : Nat} (X : BX p l s m args meth c cc nL "PartcopyistBench" Ts G A) (hsl : l.stackTraces = false) (hl : ls.size = nL) (hW : MW G A μ s.heap H locs) (he : nsN = xn 4) (hcls : Bundle.fit nsN = true) (hE : nsN ∈ exL)
    (hk : (Cond.classLink "PartcopyistBench" 224 nsN).before args s = true) (hini : (Cond.initialized nsN).before args s = true)
    (hg : ∀ w ∈ vz_at9.filter goodWord, w ∈ Ts)
    (hbad : ∀ w ∈ vz_at9.filter (fun w => !goodWord w), w ∈ Cond.castable nsN nsN :: dcL.map (fun Y => Cond.declares ⟨Y, "<init>", "(Ljava/lang/String;)V"⟩))
    (hgood : ∀ w ∈ Cond.classLink "PartcopyistBench" 224 nsN :: Cond.initialized nsN :: vz_at9, vx_ot w = true)
    (hstr : (is, text) ∈ strL)
    (d0 : decode cc pc = .ok (.new 224, 3)) (d3 : decode cc (pc + 3) = .ok (.dup, 1)) (d4 : decode cc (pc + 4) = .ok (.ldc_w is, 3)) (d6 : decode cc (pc + 7) = .ok (.invokespecial 228, 3)) (d9 : decode cc (pc + 10) = .ok (.athrow, 1))
    (hR : 5 < R.frames ∧ (rest.map fun v => v.category).sum + 82 ≤ R.locals ∧ cells + 1 ≤ R.cells ∧ slots + 6 ≤ R.slots) (hP : P (.inl 4) μ) (hc : cells + 1 ≤ mc) (hs : slots + 6 ≤ ms) :
    W p l e R s m args below meth c H locs cells slots (QQ below G A P args s mc ms) (F0 m pc ls rest) := by
  obtain ⟨hx, hb, hml, hown, hts, hEN, hlk, hnt, -, hA9⟩ := X
  obtain ⟨-, hU, hN, hca, hde, hst, -⟩ := hEN
  refine vz_throw (A := A) (k9 := 7) hx hb hsl hown hk hini (hst _ hstr) (vx_hat (fun w hw => hts w (hg w hw)) hbad ?_) hgood hU hN hW.2 (hl.trans hml.symm) d0 d3 (Or.inr ⟨d4, rfl⟩) d6 d9 (fun x h => (hnt x h).elim) hR.1 hR.2.1 hR.2.2.1 hR.2.2.2 hlk (fun t hal hz hk9 => ?_) hW.2.2.2 hc hs
  · intro w hw
    rcases List.mem_cons.mp hw with rfl | hw
    · exact va_Nw.use rfl (hca _ hE)
    · obtain ⟨Y, hY, rfl⟩ := List.mem_map.mp hw
      exact va_Nw.use rfl (hde _ hY)
  · refine ⟨4, μ, hP, he, ⟨hW.1.1.kept (fun k q hq => hk9 q.1 (hW.1.1 k q hq).lt), hW.1.2⟩, Nat.le_trans hW.2.1 hz, fun q h1 h2 => ?_⟩
    rw [hk9 q (Nat.lt_of_lt_of_le h1 hW.2.1)]
    exact hW.2.2.1 q h1 h2
end R10
def bi2 {α β γ : Type} (x : Option (α × β)) (f : α → β → Option γ) : Option γ := match x with
  | none => none
  | some r => f r.1 r.2
theorem bnd2 {α β γ : Type} {x : Option (α × β)} {f : α → β → Option γ} {r : γ} (h : bi2 x f = some r) : ∃ a b, x = some (a, b) ∧ f a b = some r := by
  cases x with
  | none => cases h
  | some q => exact ⟨q.1, q.2, rfl, h⟩
def sml {α β : Type} (s : Nat ⊕ α) (f : Nat → β) (g : α → β) : β := match s with
  | .inl e => f e
  | .inr v => g v
theorem smc {α β : Type} {s : Nat ⊕ α} {f : Nat → Option β} {g : α → Option β} {r : β} (h : sml s f g = some r) : (∃ e, s = .inl e ∧ f e = some r) ∨ ∃ v, s = .inr v ∧ g v = some r := by
  cases s with
  | inl e => exact Or.inl ⟨e, rfl, h⟩
  | inr v => exact Or.inr ⟨v, rfl, h⟩
/-! new objects -/
def dl (ci : Nat) : List Value := (fT ci).map (fun b => if b = true then Value.int 0 else Value.null)
theorem fl_new (μ : Mem) (q k n c : Nat) : fl (sNew μ q k n) c q = dl c := by
  have h1 : ∀ b : Bool × Nat, fv (sNew μ q k n) c q b = if b.1 = true then Value.int 0 else Value.null := by
    intro b
    show (if b.1 = true then Value.int (if q = q then 0 else _) else va_rf (if q = q then none else _)) = _
    rw [if_pos rfl, if_pos rfl]
    rfl
  unfold fl dl
  rw [List.map_congr_left (fun b _ => h1 b)]
  apply List.ext_getElem?
  intro j
  rw [List.getElem?_map, List.getElem?_map, List.getElem?_zipIdx]
  cases (fT c)[j]? <;> rfl
theorem fl_old {μ : Mem} {q k n b : Nat} (h : b ≠ q) (c : Nat) : fl (sNew μ q k n) c b = fl μ c b := by
  refine fl_same (fun j b' => ?_)
  show (if b' = true then Value.int (if b = q then 0 else mI μ c j b) else va_rf (if b = q then none else mQ μ c j b)) = (if b' = true then Value.int (mI μ c j b) else va_rf (mQ μ c j b))
  rw [if_neg h, if_neg h]
theorem rw_old {μ : Mem} {q k n b : Nat} (h : b ≠ q) (c : Nat) : rw9 (sNew μ q k n) c b = rw9 μ c b := by
  refine rw9_o (fun d => ?_) (fun d => ?_) (fun d => ?_) (fun d => ?_) c
  · funext i; exact if_neg h
  · funext i; exact if_neg h
  · funext i; exact if_neg h
  · funext i; exact if_neg h
theorem ent_old {ac : Nat → ClassId} {μ : Mem} {q k n b : Nat} (h : b ≠ q) : ent ac (sNew μ q k n) b = ent ac μ b := by
  have h1 : mK (sNew μ q k n) b = mK μ b := va_up_ne _ _ h
  have h2 : mN (sNew μ q k n) b = mN μ b := va_up_ne _ _ h
  unfold ent
  rw [h1, h2, fl_old h, rw_old h]
theorem ent_new {ac : Nat → ClassId} {μ : Mem} {q k n : Nat} {x : va_E} (hx : ent ac (sNew μ q k n) q = x) (b : Nat) : va_up (ent ac μ) q x b = ent ac (sNew μ q k n) b := by
  by_cases hb : b = q
  · subst hb; rw [va_up_self, hx]
  · rw [va_up_ne _ _ hb, ent_old hb]
section R11
variable {p : Program} {l : Launch} {e : Env} {R : Room} {s : State} {m : MethodId} {args : Array Value} {below : List Frame} {meth : Method} {c : Code} {H : Heap} {locs : List Loc} {cells slots : Nat} {Q : State → Prop} {cc : ByteArray} {pc nL : Nat} {ls : Array Slot} {rest : List Value} {own : String} {Ts : List Cond} {G : GG} {A : Nat → Prop} {μ : Mem} {P : Nat ⊕ Option Value → Mem → Prop} {mc ms : Nat}
theorem MW.push {q k n : Nat} {x : va_E} {H1 : Heap} {locs1 : List Loc} (hP : va_P G.1 vwCl (va_pl (mL μ) (ent G.2.1 μ) ++ [(q, x)]) H1) (hD : va_D A (va_pl (mL μ) (ent G.2.1 μ) ++ [(q, x)])) (hS : va_S A s.heap H1 locs1) (hx : ent G.2.1 (sNew μ q k n) q = x) : q ∉ mL μ ∧ MW G A (sNew μ q k n) s.heap H1 locs1 := by
  have hq : q ∉ mL μ := va_pl_fresh2 (X := []) hD
  have e1 : va_pl (mL μ) (ent G.2.1 μ) ++ [(q, x)] = va_pl (mL (sNew μ q k n)) (ent G.2.1 (sNew μ q k n)) := by
    rw [va_pl_push hq]
    exact va_pl_congr (ent_new hx)
  rw [e1] at hP hD
  exact ⟨hq, ⟨hP, hD⟩, hS⟩
theorem r_new {ci N index : Nat} {C : String} {T : u_T} (X : BX p l s m args meth c cc nL own Ts G A) (hW : MW G A μ s.heap H locs) (hc : vwCl[ci]? = some (C, T, N)) (hc9 : ci < 10) (hin : ∀ w ∈ u_ws C T N, w ∈ Ts) (ty0 : Nat → FieldType) (hty : ∀ k, k < N → parseFieldDescriptor (T k).2.2.1 = some (ty0 k))
    (hcl : (Cond.classLink own index C).before args s = true) (hinst : (Cond.instantiable C N).before args s = true) (hini : (Cond.initialized C).before args s = true) (hfs : ∀ j, j < N → defaultValue (ty0 j) = vp_V (dl ci) j) (hR : cells + 1 ≤ R.cells ∧ slots + N ≤ R.slots) (hdg : decode cc pc = .ok (.new index, 3))
    (kk : ∀ (q : Nat) (H1 : Heap), q ∉ mL μ → MW G A (sNew μ q ci 0) s.heap H1 locs → W p l e R s m args below meth c H1 locs (cells + 1) (slots + N) Q (F0 m (pc + 3) ls (.ref q :: rest))) : W p l e R s m args below meth c H locs cells slots Q (F0 m pc ls rest) := by
  obtain ⟨hx, hb, -, hown, hts, hE, -, -, -, hA9⟩ := X
  refine va_new (D := G.1) (cl := vwCl) (ci := ci) (fs := dl ci) hx hb hts hin ty0 hty hown hcl hinst hini hE.1 hW.1.1 hW.1.2 hW.2 hA9 hc hfs hR.1 hR.2 hdg (fun q H1 hP hD hS => ?_)
  have h1 : ent G.2.1 (sNew μ q ci 0) q = .inr (ci, dl ci) := by
    rw [ent_obj hc9 (show mK (sNew μ q ci 0) q = ci from va_up_self _ _ _), fl_new]
  obtain ⟨hq, hW1⟩ := MW.push hP hD hS h1
  exact kk q H1 hq hW1
/-- a constructor's call -/
theorem r_callI_ok {y : MethodName} {wsY wsY' : List Cond} {bytes : ByteArray} {maxL n index b : Nat} {rmY : Room} {As : List Value} {res : Nat ⊕ Option Value} {μ9 : Mem} {v9 : Option Value} (X : BX p l s m args meth c cc nL own Ts G A) (hW : MW G A μ s.heap H locs) (hl : ls.size = nL)
    (hO : Ok l y wsY rmY (.ref b :: As) G A μ (dP res μ9)) (hg : GoodIn Ts wsY) (hw : wsY = .code y bytes maxL none :: wsY') (hini : (Cond.initialized y.cls).before args s = true) (hlk : (Cond.methodLink own index y).before args s = true) (him : (Cond.instanceMethod y).before args s = true) (hy1 : y.name = "<init>")
    (hd : y.cls ≠ "java/lang/invoke/MethodHandle" ∧ y.cls ≠ "java/lang/invoke/VarHandle" ∧ (parseMethodDescriptor y.desc).map (fun d => d.parameters.length) = some n) (hn : As.length = n) (hR : rmY.frames + 1 ≤ R.frames ∧ 8 + (maxL + 11) + rmY.locals ≤ R.locals ∧ cells + rmY.cells ≤ R.cells ∧ slots + rmY.slots ≤ R.slots ∧ cells + rmY.cells ≤ mc ∧ slots + rmY.slots ≤ ms) (hcat : (rest.map fun v => v.category).sum ≤ 8)
    (hdg : decode cc pc = .ok (.invokespecial index, 3)) (hres : res = .inr v9) {st0 : List Value} (hst : st0 = As.reverse ++ .ref b :: rest) {stk : List Value} (hstk : v9.toList ++ rest = stk)
    (kk : ∀ (H1 : Heap) (locs1 : List Loc), MW G A μ9 s.heap H1 locs1 → W p l e R s m args below meth c H1 locs1 (cells + rmY.cells) (slots + rmY.slots) (QQ below G A P args s mc ms) (F0 m (pc + 3) ls stk)) :
    W p l e R s m args below meth c H locs cells slots (QQ below G A P args s mc ms) (F0 m pc ls st0) := by
  refine r_run X hW (rmY := rmY) (P9 := dP res μ9) (a9 := (Value.ref b :: As).toArray) (rest := rest) ?_ (fun e9 μ' h => ?_) hR.2.2.2.2.1 hR.2.2.2.2.2 (fun v μ' H1 locs1 h hW1 => ?_)
  · exact vx_runI (As := As) (rest := rest) ⟨X.1, X.2.1, X.2.2.1, X.2.2.2.1, X.2.2.2.2.1⟩ hO (cwI n X.2.2.2.2.1 hg hw rfl rfl hini hlk him hy1 hd ⟨hR.1, hR.2.1⟩) ⟨Pn_blind, fun U hU hWm => pre_of X hW U hU hWm⟩ rfl hn hl hst (lv_room hcat) hdg ⟨hR.2.2.1, hR.2.2.2.1⟩
  · have h1 := h.1; rw [hres] at h1; cases h1
  · obtain ⟨h1, rfl⟩ := h
    rw [hres] at h1
    cases h1
    rw [hstk]
    exact kk H1 locs1 hW1
end R11
