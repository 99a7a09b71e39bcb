/-! THE MEMORY: all objects and arrays of the system, by address, field by field; a kind below 10 is an object of that class of vwCl, a kind from 10 on is an array (each array field of the system has a kind of its own). -/
abbrev Mem : Type := List Nat × (Nat → Nat) × (Nat → Nat) × (Nat → Nat → Nat → Int32) × (Nat → Nat → Nat → Option Nat) × (Nat → Nat → Nat → Int32) × (Nat → Nat → Nat → Option Nat) × (Nat → Nat → Nat → Int64) × (Nat → Nat → Nat → UInt64)
def mL (μ : Mem) : List Nat := μ.1
def mK (μ : Mem) : Nat → Nat := μ.2.1
def mN (μ : Mem) : Nat → Nat := μ.2.2.1
def mI (μ : Mem) : Nat → Nat → Nat → Int32 := μ.2.2.2.1
def mQ (μ : Mem) : Nat → Nat → Nat → Option Nat := μ.2.2.2.2.1
def mR (μ : Mem) : Nat → Nat → Nat → Int32 := μ.2.2.2.2.2.1
def mS (μ : Mem) : Nat → Nat → Nat → Option Nat := μ.2.2.2.2.2.2.1
def mJ (μ : Mem) : Nat → Nat → Nat → Int64 := μ.2.2.2.2.2.2.2.1
def mE (μ : Mem) : Nat → Nat → Nat → UInt64 := μ.2.2.2.2.2.2.2.2
def up3 {α : Type} (f : Nat → Nat → Nat → α) (c k a : Nat) (v : α) : Nat → Nat → Nat → α := fun c' k' a' => if c' = c ∧ k' = k ∧ a' = a then v else f c' k' a'
def sI (μ : Mem) (c k a : Nat) (v : Int32) : Mem := (μ.1, μ.2.1, μ.2.2.1, up3 μ.2.2.2.1 c k a v, μ.2.2.2.2)
def sQ (μ : Mem) (c k a : Nat) (v : Option Nat) : Mem := (μ.1, μ.2.1, μ.2.2.1, μ.2.2.2.1, up3 μ.2.2.2.2.1 c k a v, μ.2.2.2.2.2)
def sR (μ : Mem) (k a i : Nat) (v : Int32) : Mem := (μ.1, μ.2.1, μ.2.2.1, μ.2.2.2.1, μ.2.2.2.2.1, up3 μ.2.2.2.2.2.1 k a i v, μ.2.2.2.2.2.2)
def sS (μ : Mem) (k a i : Nat) (v : Option Nat) : Mem := (μ.1, μ.2.1, μ.2.2.1, μ.2.2.2.1, μ.2.2.2.2.1, μ.2.2.2.2.2.1, up3 μ.2.2.2.2.2.2.1 k a i v, μ.2.2.2.2.2.2.2)
def sJ (μ : Mem) (k a i : Nat) (v : Int64) : Mem := (μ.1, μ.2.1, μ.2.2.1, μ.2.2.2.1, μ.2.2.2.2.1, μ.2.2.2.2.2.1, μ.2.2.2.2.2.2.1, up3 μ.2.2.2.2.2.2.2.1 k a i v, μ.2.2.2.2.2.2.2.2)
def sE (μ : Mem) (k a i : Nat) (v : UInt64) : Mem := (μ.1, μ.2.1, μ.2.2.1, μ.2.2.2.1, μ.2.2.2.2.1, μ.2.2.2.2.2.1, μ.2.2.2.2.2.2.1, μ.2.2.2.2.2.2.2.1, up3 μ.2.2.2.2.2.2.2.2 k a i v)
/-- a new object or array at q: of the kind, of the length, its fields and rows as the machine makes them -/
def sNew (μ : Mem) (q kind n : Nat) : Mem := (μ.1 ++ [q], va_up μ.2.1 q kind, va_up μ.2.2.1 q n, (fun c k a => if a = q then 0 else μ.2.2.2.1 c k a), (fun c k a => if a = q then none else μ.2.2.2.2.1 c k a), (fun c a i => if a = q then 0 else μ.2.2.2.2.2.1 c a i), (fun c a i => if a = q then none else μ.2.2.2.2.2.2.1 c a i), (fun c a i => if a = q then 0 else μ.2.2.2.2.2.2.2.1 c a i), (fun c a i => if a = q then 0 else μ.2.2.2.2.2.2.2.2 c a i))
/-- which fields are numbers, by class -/
def fT (c : Nat) : List Bool := match c with
  | 2 => [true, true, true]
  | 3 => [false, false, false, false, false, false, false, false, false, true, true, true]
  | 4 => [true, true, true, true, true, true, true, true, true, true, true]
  | 5 => [true, true]
  | 6 => [false, false, false, false, true, true, true, true, true, true]
  | 7 => [true, false, false, false, false, false, false, false, false, false, false, false, false, false, false, true, true, true, true, true, true, false, false, true, false, false, false]
  | _ => []
def fv (μ : Mem) (c a : Nat) (q : Bool × Nat) : Value := if q.1 = true then .int (mI μ c q.2 a) else va_rf (mQ μ c q.2 a)
def fl (μ : Mem) (c a : Nat) : List Value := (fT c).zipIdx.map (fv μ c a)
/-- what an array of a kind holds: 0 int, 1 boolean, 2 parts, 3 bars, 4 notes, 5 long, 6 double -/
def aT (k : Nat) : Nat := match k with
  | 15 => 1
  | 41 => 1
  | 42 => 1
  | 43 => 1
  | 20 => 2
  | 21 => 3
  | 22 => 4
  | 60 => 5
  | 61 => 6
  | _ => 0
def rw9 (μ : Mem) (k a : Nat) : (Nat → Int32) ⊕ (Nat → Int64) ⊕ (Nat → UInt32) ⊕ (Nat → UInt64) ⊕ (Nat → Option Nat) := match aT k with
  | 0 => .inl (mR μ k a)
  | 1 => .inl (mR μ k a)
  | 5 => .inr (.inl (mJ μ k a))
  | 6 => .inr (.inr (.inr (.inl (mE μ k a))))
  | _ => .inr (.inr (.inr (.inr (mS μ k a))))
def ent (ac : Nat → ClassId) (μ : Mem) (a : Nat) : va_E := if mK μ a < 10 then .inr (mK μ a, fl μ (mK μ a) a) else .inl (ac (aT (mK μ a)), mN μ a, rw9 μ (mK μ a) a)
abbrev GG : Type := va_G × (Nat → ClassId) × (Nat → Nat)
def tyL (ac : Nat → ClassId) : List (ClassId × FieldType) := [(ac 0, .int), (ac 1, .boolean), (ac 2, .object "PartcopyistBench$Part"), (ac 3, .object "PartcopyistBench$Bar"), (ac 4, .object "PartcopyistBench$Note"), (ac 5, .long), (ac 6, .double)]
def MM (G : GG) (A : Nat → Prop) (μ : Mem) (H : Heap) : Prop := va_P G.1 vwCl (va_pl (mL μ) (ent G.2.1 μ)) H ∧ va_D A (va_pl (mL μ) (ent G.2.1 μ))
def MW (G : GG) (A : Nat → Prop) (μ : Mem) (H0 H : Heap) (locs : List Loc) : Prop := MM G A μ H ∧ va_S A H0 H locs
/-! reads and writes, as programs -/
abbrev ok9 (μ : Mem) (k a : Nat) : Prop := a ∈ mL μ ∧ mK μ a = k
def inb (i : Int32) (n : Nat) : Bool := decide (0 ≤ i.toInt) && decide (i.toInt < n)
def getI (μ : Mem) (c k a : Nat) : Option Int32 := if ok9 μ c a then some (mI μ c k a) else none
def getQ (μ : Mem) (c k a : Nat) : Option (Option Nat) := if ok9 μ c a then some (mQ μ c k a) else none
def putI (μ : Mem) (c k a : Nat) (v : Int32) : Option Mem := if ok9 μ c a then some (sI μ c k a v) else none
def putZ (μ : Mem) (c k a : Nat) (v : Int32) : Option Mem := if ok9 μ c a ∧ (v = 0 ∨ v = 1) then some (sI μ c k a v) else none
def putQ (μ : Mem) (c k a : Nat) (v : Option Nat) : Option Mem := if ok9 μ c a then some (sQ μ c k a v) else none
def ald (μ : Mem) (a : Nat) (i : Int32) : Option Int32 := if a ∈ mL μ ∧ 10 ≤ mK μ a ∧ aT (mK μ a) = 0 ∧ inb i (mN μ a) = true then some (mR μ (mK μ a) a i.toNatClampNeg) else none
def zld (μ : Mem) (a : Nat) (i : Int32) : Option Int32 := if a ∈ mL μ ∧ 10 ≤ mK μ a ∧ aT (mK μ a) = 1 ∧ inb i (mN μ a) = true then some (mR μ (mK μ a) a i.toNatClampNeg) else none
def qld (μ : Mem) (a : Nat) (i : Int32) : Option (Option Nat) := if a ∈ mL μ ∧ 10 ≤ mK μ a ∧ (aT (mK μ a) = 2 ∨ aT (mK μ a) = 3 ∨ aT (mK μ a) = 4) ∧ inb i (mN μ a) = true then some (mS μ (mK μ a) a i.toNatClampNeg) else none
def lld (μ : Mem) (a : Nat) (i : Int32) : Option Int64 := if a ∈ mL μ ∧ 10 ≤ mK μ a ∧ aT (mK μ a) = 5 ∧ inb i (mN μ a) = true then some (mJ μ (mK μ a) a i.toNatClampNeg) else none
def dld (μ : Mem) (a : Nat) (i : Int32) : Option UInt64 := if a ∈ mL μ ∧ 10 ≤ mK μ a ∧ aT (mK μ a) = 6 ∧ inb i (mN μ a) = true then some (mE μ (mK μ a) a i.toNatClampNeg) else none
def ast (μ : Mem) (a : Nat) (i : Int32) (v : Int32) : Option Mem := if a ∈ mL μ ∧ 10 ≤ mK μ a ∧ aT (mK μ a) = 0 ∧ inb i (mN μ a) = true then some (sR μ (mK μ a) a i.toNatClampNeg v) else none
def zst (μ : Mem) (a : Nat) (i : Int32) (v : Int32) : Option Mem := if a ∈ mL μ ∧ 10 ≤ mK μ a ∧ aT (mK μ a) = 1 ∧ inb i (mN μ a) = true ∧ (v = 0 ∨ v = 1) then some (sR μ (mK μ a) a i.toNatClampNeg v) else none
def lst (μ : Mem) (a : Nat) (i : Int32) (v : Int64) : Option Mem := if a ∈ mL μ ∧ 10 ≤ mK μ a ∧ aT (mK μ a) = 5 ∧ inb i (mN μ a) = true then some (sJ μ (mK μ a) a i.toNatClampNeg v) else none
def dst (μ : Mem) (a : Nat) (i : Int32) (v : UInt64) : Option Mem := if a ∈ mL μ ∧ 10 ≤ mK μ a ∧ aT (mK μ a) = 6 ∧ inb i (mN μ a) = true then some (sE μ (mK μ a) a i.toNatClampNeg v) else none
/-- the class of an array's things: parts 5, bars 2, notes 4 -/
def aC (t : Nat) : Nat := match t with
  | 2 => 5
  | 3 => 2
  | _ => 4
def qst (μ : Mem) (a : Nat) (i : Int32) (v : Nat) : Option Mem := if a ∈ mL μ ∧ 10 ≤ mK μ a ∧ (aT (mK μ a) = 2 ∨ aT (mK μ a) = 3 ∨ aT (mK μ a) = 4) ∧ inb i (mN μ a) = true ∧ ok9 μ (aC (aT (mK μ a))) v then some (sS μ (mK μ a) a i.toNatClampNeg (some v)) else none
def alen (μ : Mem) (a : Nat) : Option Int32 := if a ∈ mL μ ∧ 10 ≤ mK μ a then some (nI (mN μ a)) else none
/-- an answer of a boolean method -/
def nz (v : Int32) : Option Int32 := if v = 0 ∨ v = 1 then some v else none
/-- an answer of a char method -/
def nc (v : Int32) : Option Int32 := if 0 ≤ v.toInt ∧ v.toInt < 65536 then some v else none
theorem ifs {α : Type} {c : Prop} {x : Decidable c} {v r : α} (h : (if c then some v else none) = some r) : c ∧ v = r := by
  by_cases hc : c
  · rw [if_pos hc] at h; exact ⟨hc, Option.some.inj h⟩
  · rw [if_neg hc] at h; cases h
theorem bnd {α β : Type} {x : Option α} {f : α → Option β} {r : β} (h : x.bind f = some r) : ∃ a, x = some a ∧ f a = some r := by
  cases x with
  | none => cases h
  | some a => exact ⟨a, rfl, h⟩
theorem inb_vp {i : Int32} {n : Nat} (h : inb i n = true) : vp_in i n := by
  simp only [inb, Bool.and_eq_true, decide_eq_true_eq] at h
  exact vp_in_iff.mpr h
theorem inb_nI {i n : Nat} (h : i < n) (hn : n < 2 ^ 31) : inb (nI i) n = true := by
  have h1 := vp_in_iff.mp (vp_in_nI h hn)
  simp only [inb, Bool.and_eq_true, decide_eq_true_eq]
  exact h1
theorem getI_ok {μ : Mem} {c k a : Nat} (h : ok9 μ c a) : getI μ c k a = some (mI μ c k a) := if_pos h
theorem getQ_ok {μ : Mem} {c k a : Nat} (h : ok9 μ c a) : getQ μ c k a = some (mQ μ c k a) := if_pos h
theorem putI_ok {μ : Mem} {c k a : Nat} {v : Int32} (h : ok9 μ c a) : putI μ c k a v = some (sI μ c k a v) := if_pos h
theorem putQ_ok {μ : Mem} {c k a : Nat} {v : Option Nat} (h : ok9 μ c a) : putQ μ c k a v = some (sQ μ c k a v) := if_pos h
theorem putZ_ok {μ : Mem} {c k a : Nat} {v : Int32} (h : ok9 μ c a) (hv : v = 0 ∨ v = 1) : putZ μ c k a v = some (sI μ c k a v) := if_pos ⟨h, hv⟩
theorem up3_hit {α : Type} (f : Nat → Nat → Nat → α) (c k a : Nat) (v : α) : up3 f c k a v c k a = v := if_pos ⟨rfl, rfl, rfl⟩
theorem up3_ne {α : Type} (f : Nat → Nat → Nat → α) {c k a c' k' a' : Nat} (v : α) (h : ¬ (c' = c ∧ k' = k ∧ a' = a)) : up3 f c k a v c' k' a' = f c' k' a' := if_neg h
/-! what a write does to the entries -/
theorem fl_get {μ : Mem} {c k a : Nat} {b : Bool} (h : (fT c)[k]? = some b) : (fl μ c a)[k]? = some (fv μ c a (b, k)) := by
  unfold fl
  rw [List.getElem?_map, List.getElem?_zipIdx, h]
  simp
theorem fl_len (μ : Mem) (c a : Nat) : (fl μ c a).length = (fT c).length := by simp [fl]
theorem fl_set {μ μ' : Mem} {c k a : Nat} {v : Value} {b : Bool} (h : (fT c)[k]? = some b) (hv : fv μ' c a (b, k) = v) (ho : ∀ (j : Nat) (b' : Bool), j ≠ k → fv μ' c a (b', j) = fv μ c a (b', j)) : (fl μ c a).set k v = fl μ' c a := by
  apply List.ext_getElem?
  intro j
  by_cases hj : j = k
  · subst hj
    rw [List.getElem?_set_self (by rw [fl_len]; exact (List.getElem?_eq_some_iff.mp h).1), fl_get h, hv]
  · rw [List.getElem?_set_ne (Ne.symm hj)]
    cases hb : (fT c)[j]? with
    | none =>
      rw [List.getElem?_eq_none_iff.mpr (by rw [fl_len]; exact List.getElem?_eq_none_iff.mp hb), List.getElem?_eq_none_iff.mpr (by rw [fl_len]; exact List.getElem?_eq_none_iff.mp hb)]
    | some b' => rw [fl_get hb, fl_get hb, ho j b' hj]
theorem fl_same {μ μ' : Mem} {c a : Nat} (ho : ∀ (j : Nat) (b' : Bool), fv μ' c a (b', j) = fv μ c a (b', j)) : fl μ' c a = fl μ c a := by
  unfold fl
  apply List.map_congr_left
  intro q _
  exact ho q.2 q.1
theorem ent_sI {ac : Nat → ClassId} {μ : Mem} {c k a : Nat} {v : Int32} (hc : c < 10) (hk : mK μ a = c) (h : (fT c)[k]? = some true) (b : Nat) : va_up (ent ac μ) a (.inr (c, (fl μ c a).set k (.int v))) b = ent ac (sI μ c k a v) b := by
  by_cases hb : b = a
  · subst hb
    rw [va_up_self]
    have h1 : (fl μ c b).set k (.int v) = fl (sI μ c k b v) c b := by
      refine fl_set h ?_ (fun j b' hj => ?_)
      · show (if true = true then Value.int (up3 (mI μ) c k b v c k b) else _) = _
        rw [if_pos rfl, up3_hit]
      · show (if b' = true then Value.int (up3 (mI μ) c k b v c j b) else va_rf (mQ μ c j b)) = (if b' = true then Value.int (mI μ c j b) else va_rf (mQ μ c j b))
        rw [up3_ne _ _ (fun z => hj z.2.1)]
    have h2 : mK (sI μ c k b v) b = c := hk
    unfold ent
    rw [h2, if_pos hc, h1]
  · rw [va_up_ne _ _ hb]
    have h3 : ∀ d, fl (sI μ c k a v) d b = fl μ d b := fun d => by
      refine fl_same (fun j b' => ?_)
      show (if b' = true then Value.int (up3 (mI μ) c k a v d j b) else va_rf (mQ μ d j b)) = (if b' = true then Value.int (mI μ d j b) else va_rf (mQ μ d j b))
      rw [up3_ne _ _ (fun z => hb z.2.2)]
    show ent ac μ b = (if mK μ b < 10 then Sum.inr (mK μ b, fl (sI μ c k a v) (mK μ b) b) else Sum.inl (ac (aT (mK μ b)), mN μ b, rw9 μ (mK μ b) b))
    rw [h3]
    rfl
theorem ent_sQ {ac : Nat → ClassId} {μ : Mem} {c k a : Nat} {v : Option Nat} (hc : c < 10) (hk : mK μ a = c) (h : (fT c)[k]? = some false) (b : Nat) : va_up (ent ac μ) a (.inr (c, (fl μ c a).set k (va_rf v))) b = ent ac (sQ μ c k a v) b := by
  by_cases hb : b = a
  · subst hb
    rw [va_up_self]
    have h1 : (fl μ c b).set k (va_rf v) = fl (sQ μ c k b v) c b := by
      refine fl_set h ?_ (fun j b' hj => ?_)
      · show (if false = true then _ else va_rf (up3 (mQ μ) c k b v c k b)) = _
        rw [if_neg (by decide), up3_hit]
      · show (if b' = true then Value.int (mI μ c j b) else va_rf (up3 (mQ μ) c k b v c j b)) = (if b' = true then Value.int (mI μ c j b) else va_rf (mQ μ c j b))
        rw [up3_ne _ _ (fun z => hj z.2.1)]
    have h2 : mK (sQ μ c k b v) b = c := hk
    unfold ent
    rw [h2, if_pos hc, h1]
  · rw [va_up_ne _ _ hb]
    have h3 : ∀ d, fl (sQ μ c k a v) d b = fl μ d b := fun d => by
      refine fl_same (fun j b' => ?_)
      show (if b' = true then Value.int (mI μ d j b) else va_rf (up3 (mQ μ) c k a v d j b)) = (if b' = true then Value.int (mI μ d j b) else va_rf (mQ μ d j b))
      rw [up3_ne _ _ (fun z => hb z.2.2)]
    show ent ac μ b = (if mK μ b < 10 then Sum.inr (mK μ b, fl (sQ μ c k a v) (mK μ b) b) else Sum.inl (ac (aT (mK μ b)), mN μ b, rw9 μ (mK μ b) b))
    rw [h3]
    rfl
theorem up3_row {α : Type} (f : Nat → Nat → Nat → α) (k a i : Nat) (v : α) : up3 f k a i v k a = fun j => if j = i then v else f k a j := by
  funext j
  by_cases h : j = i
  · subst h; rw [up3_hit, if_pos rfl]
  · rw [up3_ne _ _ (fun z => h z.2.2), if_neg h]
theorem up3_row_ne {α : Type} (f : Nat → Nat → Nat → α) {k a i k' a' : Nat} (v : α) (h : a' ≠ a) : up3 f k a i v k' a' = f k' a' := by
  funext j
  exact up3_ne _ _ (fun z => h z.2.1)
/-- a store into a row: the entry at a is the new one, the others stay -/
theorem ent_row {ac : Nat → ClassId} {μ μ' : Mem} {a : Nat} {x : (Nat → Int32) ⊕ (Nat → Int64) ⊕ (Nat → UInt32) ⊕ (Nat → UInt64) ⊕ (Nat → Option Nat)} (hk : 10 ≤ mK μ a) (h1 : mK μ' = mK μ) (h2 : mN μ' = mN μ) (h3 : mI μ' = mI μ) (h4 : mQ μ' = mQ μ) (h5 : rw9 μ' (mK μ a) a = x) (h6 : ∀ (k b : Nat), b ≠ a → rw9 μ' k b = rw9 μ k b) (b : Nat) :
    va_up (ent ac μ) a (.inl (ac (aT (mK μ a)), mN μ a, x)) b = ent ac μ' b := by
  by_cases hb : b = a
  · subst hb
    rw [va_up_self]
    unfold ent
    rw [h1, if_neg (Nat.not_lt.mpr hk), h2, h5]
  · rw [va_up_ne _ _ hb]
    have h7 : ∀ d, fl μ' d b = fl μ d b := fun d => fl_same (fun j b' => by unfold fv; rw [h3, h4])
    unfold ent
    rw [h1, h2, h6 _ b hb, h7]
