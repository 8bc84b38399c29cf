/-! THE STORE. All that the two objects hold, by positions: ints (field or place), longs (one field an object); which position is what: gLay, gFk -/
abbrev gSt : Type := (Nat → Nat → Int32) × (Nat → Int64)
def gR (S : gSt) (p k : Nat) : Int32 := S.1 p k
def gW (S : gSt) (p k : Nat) (v : Int32) : gSt := (fun q j => if q = p ∧ j = k then v else S.1 q j, S.2)
def gRL (S : gSt) (p : Nat) : Int64 := S.2 p
def gWL (S : gSt) (p : Nat) (v : Int64) : gSt := (S.1, fun q => if q = p then v else S.2 q)
abbrev gN (i : Int32) : Nat := i.toNatClampNeg
def gIn (i : Int32) (n : Nat) : Bool := decide (¬ (i < 0 ∨ n ≤ i.toNatClampNeg))
def gL {α τ : Type} (e : α) (k : α → Option τ) : Option τ := k e
def gBp {α τ : Type} (f : Option α) (k : α → Option τ) : Option τ := f.bind k
def gBd {α τ : Type} (f : Option (α × gSt)) (k : α → gSt → Option τ) : Option τ := f.bind (fun q => k q.1 q.2)
def gFU : Nat := 5000
def gC {τ : Type} (b : Bool) (o : Option τ) : Option τ := if b then o else none
theorem gC_t {τ : Type} (o : Option τ) : gC true o = o := rfl
theorem gIn_in {i : Int32} {n : Nat} (h : gIn i n = true) : vp_in i n := (of_decide_eq_true h : ¬ (i < 0 ∨ n ≤ i.toNatClampNeg))
/-- what stands at a position: 0 an int array, 1 a boolean array, 2 eight int arrays behind it, ci + 3 an object of class ci; and a length -/
def gLayL : List (Nat × Nat) := [(13, 0), (8, 0), (0, 8), (0, 5), (0, 8), (0, 8), (2, 8), (0, 8), (0, 8), (0, 8), (0, 8), (0, 8), (0, 8), (0, 8), (0, 8), (8, 0), (0, 8), (0, 5), (0, 8), (0, 8), (2, 8), (0, 8), (0, 8), (0, 8), (0, 8), (0, 8), (0, 8), (0, 8), (0, 8), (11, 0), (0, 300), (7, 0), (12, 0), (0, 4140), (0, 9), (0, 8), (10, 0), (0, 8), (0, 8), (0, 8), (9, 0), (0, 10), (0, 10), (1, 10), (5, 0), (4, 0), (10, 0), (0, 8), (0, 8), (0, 8), (9, 0), (0, 10), (0, 10), (1, 10), (4, 0), (10, 0), (0, 8), (0, 8), (0, 8), (9, 0), (0, 10), (0, 10), (1, 10), (6, 0), (10, 0), (0, 8), (0, 8), (0, 8), (10, 0), (0, 8), (0, 8), (0, 8), (3, 0), (10, 0), (0, 8), (0, 8), (0, 8), (14, 0), (0, 300), (0, 188), (0, 40), (0, 80), (1, 2), (0, 8), (0, 8), (0, 8), (0, 256)]
def gLay (p : Nat) : Nat × Nat := gLayL.getD p (99, 0)
/-- the fields of a class: 0 an int, 1 a long, 2 a cell so far behind, 3 the cell there, 4 a cell whose position is written as an int -/
def gFk : Nat → List (Nat × Nat)
  | 0 => [(2, 1), (0, 0)]
  | 1 => [(2, 1), (2, 5), (0, 0), (0, 0)]
  | 2 => [(0, 0)]
  | 3 => [(2, 1), (2, 5)]
  | 4 => [(3, 29), (4, 0), (0, 0), (0, 0), (0, 0), (0, 0), (0, 0), (0, 0)]
  | 5 => [(2, 1), (2, 2), (2, 3), (2, 4), (2, 5), (0, 0)]
  | 6 => [(2, 1), (2, 2), (2, 3), (0, 0)]
  | 7 => [(2, 1), (2, 2), (2, 3), (0, 0), (0, 0)]
  | 8 => [(2, 1), (0, 0)]
  | 9 => [(2, 1), (2, 2), (2, 3), (4, 0), (0, 0), (0, 0), (0, 0), (0, 0)]
  | 10 => [(4, 0), (4, 0), (3, 29), (3, 31), (3, 32), (3, 36), (3, 40), (3, 44), (3, 45), (3, 54), (3, 63), (3, 72), (1, 0)]
  | 11 => [(0, 0), (1, 0), (3, 78), (0, 0), (0, 0), (0, 0), (0, 0), (0, 0), (0, 0), (3, 79), (3, 80), (3, 81), (3, 82), (3, 83), (3, 84), (3, 85), (3, 86)]
  | _ => []
def gV (ad : Nat → Nat) (S : gSt) (p k : Nat) (t : Nat × Nat) : Value := if t.1 = 0 then .int (S.1 p k) else if t.1 = 1 then .long (S.2 p) else if t.1 = 2 then .ref (ad (p + t.2)) else if t.1 = 3 then .ref (ad t.2) else .ref (ad (S.1 p k).toNatClampNeg)
def gFl (ad : Nat → Nat) (S : gSt) (ci p : Nat) : List Value := (gFk ci).mapIdx (fun k t => gV ad S p k t)
/-- the numbers of the machine: classes and slots, addresses by positions, the positions that are there, the array classes, the array types known -/
abbrev gGG : Type := va_G × (Nat → Nat) × List Nat × (ClassId × ClassId × ClassId) × List (ClassId × FieldType) × (Nat → Prop)
abbrev gD (G : gGG) : va_G := G.1
abbrev gad (G : gGG) : Nat → Nat := G.2.1
abbrev gps (G : gGG) : List Nat := G.2.2.1
abbrev gcI (G : gGG) : ClassId := G.2.2.2.1.1
abbrev gcZ (G : gGG) : ClassId := G.2.2.2.1.2.1
abbrev gcQ (G : gGG) : ClassId := G.2.2.2.1.2.2
abbrev gty (G : gGG) : List (ClassId × FieldType) := G.2.2.2.2.1
/-- the cells that may be written -/
abbrev gA (G : gGG) : Nat → Prop := G.2.2.2.2.2
def gOK (G : gGG) : Prop := va_nd (gps G) = true ∧ (∀ p q : Nat, p ∈ gps G → q ∈ gps G → gad G p = gad G q → p = q) ∧ (gty G)[0]? = some (gcI G, .int) ∧ (gty G)[1]? = some (gcZ G, .boolean) ∧ ∀ p : Nat, p ∈ gps G → gA G (gad G p)
def gOQ (G : gGG) : Prop := (gty G)[2]? = some (gcQ G, .array .int)
def gEnt (G : gGG) (S : gSt) (p : Nat) : va_E := if (gLay p).1 = 0 then .inl (gcI G, (gLay p).2, .inl (S.1 p)) else if (gLay p).1 = 1 then .inl (gcZ G, (gLay p).2, .inl (S.1 p)) else if (gLay p).1 = 2 then .inl (gcQ G, (gLay p).2, .inr (.inr (.inr (.inr (fun i => if i < (gLay p).2 then some (gad G (p + 1 + i)) else none))))) else .inr ((gLay p).1 - 3, gFl (gad G) S ((gLay p).1 - 3) p)
def gCells (G : gGG) (S : gSt) : va_W := (gps G).map (fun p => (gad G p, gEnt G S p))
theorem gEnt_congr {G : gGG} {S S' : gSt} {q : Nat} (h1 : S'.1 q = S.1 q) (h2 : S'.2 q = S.2 q) : gEnt G S' q = gEnt G S q := by
  have e : ∀ ci, gFl (gad G) S' ci q = gFl (gad G) S ci q := fun ci => by
    unfold gFl
    congr 1
    funext k t
    unfold gV
    rw [h1, h2]
  unfold gEnt
  rw [h1, e]
theorem gEnt_I {G : gGG} {S : gSt} {p n : Nat} (h : gLay p = (0, n)) : gEnt G S p = .inl (gcI G, n, .inl (S.1 p)) := by
  unfold gEnt
  rw [h, if_pos rfl]
theorem gEnt_Z {G : gGG} {S : gSt} {p n : Nat} (h : gLay p = (1, n)) : gEnt G S p = .inl (gcZ G, n, .inl (S.1 p)) := by
  unfold gEnt
  rw [h, if_neg (fun z => by cases z), if_pos rfl]
theorem gEnt_Q {G : gGG} {S : gSt} {p n : Nat} (h : gLay p = (2, n)) : gEnt G S p = .inl (gcQ G, n, .inr (.inr (.inr (.inr (fun i => if i < n then some (gad G (p + 1 + i)) else none))))) := by
  unfold gEnt
  rw [h, if_neg (fun z => by cases z), if_neg (fun z => by cases z), if_pos rfl]
theorem gEnt_O {G : gGG} {S : gSt} {p ci : Nat} (h : (gLay p).1 = ci + 3) : gEnt G S p = .inr (ci, gFl (gad G) S ci p) := by
  unfold gEnt
  rw [h, if_neg (by omega), if_neg (by omega), if_neg (by omega)]
  rfl
theorem gCells_at {G : gGG} (S : gSt) {p : Nat} (h : p ∈ gps G) : ∃ i : Nat, (gps G)[i]? = some p ∧ (gCells G S)[i]? = some (gad G p, gEnt G S p) := by
  obtain ⟨i, hi⟩ := List.getElem?_of_mem h
  exact ⟨i, hi, by unfold gCells; rw [List.getElem?_map, hi]; rfl⟩
theorem gCells_in {G : gGG} {S : gSt} {i : Nat} {q : Nat × va_E} (h : (gCells G S)[i]? = some q) : ∃ p : Nat, (gps G)[i]? = some p ∧ q = (gad G p, gEnt G S p) := by
  unfold gCells at h
  rw [List.getElem?_map] at h
  cases hp : (gps G)[i]? with
  | none => rw [hp] at h; cases h
  | some p => rw [hp] at h; exact ⟨p, rfl, (Option.some.inj h).symm⟩
theorem gCells_D {G : gGG} (hG : gOK G) (S : gSt) : va_D (gA G) (gCells G S) := by
  refine ⟨fun i j x y hi hj hxy => ?_, fun k q hk => ?_⟩
  · obtain ⟨p, hp, rfl⟩ := gCells_in hi
    obtain ⟨q, hq, rfl⟩ := gCells_in hj
    have e := hG.2.1 p q (List.mem_of_getElem? hp) (List.mem_of_getElem? hq) hxy
    subst e
    exact va_nd_inj _ hG.1 i j p hp hq
  · obtain ⟨p, hp, rfl⟩ := gCells_in hk
    exact hG.2.2.2.2 p (List.mem_of_getElem? hp)
theorem gMapSet {α β : Type} (l : List α) (f f1 : α → β) (i : Nat) (p : α) (hi : l[i]? = some p) (ho : ∀ (j : Nat) (q : α), j ≠ i → l[j]? = some q → f1 q = f q) : (l.map f).set i (f1 p) = l.map f1 := by
  apply List.ext_getElem?
  intro j
  have hl : i < (l.map f).length := by
    rw [List.length_map]
    exact (List.getElem?_eq_some_iff.mp hi).1
  by_cases hj : i = j
  · subst hj
    rw [List.getElem?_set_self hl, List.getElem?_map, hi]
    rfl
  · rw [List.getElem?_set_ne hj, List.getElem?_map, List.getElem?_map]
    cases hp : l[j]? with
    | none => rfl
    | some q =>
      show some (f q) = some (f1 q)
      rw [ho j q (fun z => hj z.symm) hp]
theorem gCells_set {G : gGG} (hG : gOK G) {S S' : gSt} {i p : Nat} {e : va_E} (hi : (gps G)[i]? = some p) (he : gEnt G S' p = e) (ho : ∀ q, q ≠ p → gEnt G S' q = gEnt G S q) : (gCells G S).set i (gad G p, e) = gCells G S' := by
  rw [← he]
  exact gMapSet (gps G) (fun p => (gad G p, gEnt G S p)) (fun p => (gad G p, gEnt G S' p)) i p hi (fun j q hj hq => by
    show (gad G q, gEnt G S' q) = (gad G q, gEnt G S q)
    rw [ho q (fun z => hj (by subst z; exact va_nd_inj _ hG.1 j i q hq hi))])
theorem gW_ne {S : gSt} {p k : Nat} {v : Int32} {q : Nat} (h : q ≠ p) : (gW S p k v).1 q = S.1 q := by
  funext j
  show (if q = p ∧ j = k then v else S.1 q j) = _
  rw [if_neg (fun z => h z.1)]
theorem gW_up {S : gSt} {p k : Nat} {v : Int32} : (gW S p k v).1 p = upd (S.1 p) k v := by
  funext j
  show (if p = p ∧ j = k then v else S.1 p j) = _
  by_cases h : j = k
  · subst h; rw [if_pos ⟨rfl, rfl⟩]; simp [upd]
  · rw [if_neg (fun z => h z.2)]; simp [upd, h]
theorem gW_other {G : gGG} {S : gSt} {p k : Nat} {v : Int32} : ∀ q, q ≠ p → gEnt G (gW S p k v) q = gEnt G S q := fun _ h => gEnt_congr (gW_ne h) rfl
theorem gWL_other {G : gGG} {S : gSt} {p : Nat} {v : Int64} : ∀ q, q ≠ p → gEnt G (gWL S p v) q = gEnt G S q := fun q h => gEnt_congr rfl (by show (if q = p then v else S.2 q) = _; rw [if_neg h])
theorem gFl_at {ad : Nat → Nat} {S : gSt} {ci p k : Nat} {t : Nat × Nat} (h : (gFk ci)[k]? = some t) : (gFl ad S ci p)[k]? = some (gV ad S p k t) := by
  unfold gFl
  rw [List.getElem?_mapIdx, h]
  rfl
theorem gFl_len {ad : Nat → Nat} {S : gSt} {ci p k : Nat} {t : Nat × Nat} (h : (gFk ci)[k]? = some t) : k < (gFl ad S ci p).length := by
  unfold gFl
  rw [List.length_mapIdx]
  exact (List.getElem?_eq_some_iff.mp h).1
theorem gMapIdxSet {α β : Type} (l : List α) (f f1 : Nat → α → β) (k : Nat) (t : α) (v : β) (h : l[k]? = some t) (hv : f1 k t = v) (ho : ∀ (j : Nat) (u : α), j ≠ k → l[j]? = some u → f1 j u = f j u) : (l.mapIdx f).set k v = l.mapIdx f1 := by
  apply List.ext_getElem?
  intro j
  have hl : k < (l.mapIdx f).length := by
    rw [List.length_mapIdx]
    exact (List.getElem?_eq_some_iff.mp h).1
  by_cases hj : k = j
  · subst hj
    rw [List.getElem?_set_self hl, List.getElem?_mapIdx, h, ← hv]
    rfl
  · rw [List.getElem?_set_ne hj, List.getElem?_mapIdx, List.getElem?_mapIdx]
    cases hu : l[j]? with
    | none => rfl
    | some u =>
      show some (f j u) = some (f1 j u)
      rw [ho j u (fun z => hj z.symm) hu]
theorem gFl_set {ad : Nat → Nat} {S S' : gSt} {ci p k : Nat} {t : Nat × Nat} {v : Value} (h : (gFk ci)[k]? = some t) (hv : gV ad S' p k t = v) (ho : ∀ (j : Nat) (u : Nat × Nat), j ≠ k → (gFk ci)[j]? = some u → gV ad S' p j u = gV ad S p j u) : (gFl ad S ci p).set k v = gFl ad S' ci p := gMapIdxSet (gFk ci) (fun k t => gV ad S p k t) (fun k t => gV ad S' p k t) k t v h hv ho
theorem gV_W {ad : Nat → Nat} {S : gSt} {p k : Nat} {x : Int32} {j : Nat} {u : Nat × Nat} (h : j ≠ k) : gV ad (gW S p k x) p j u = gV ad S p j u := by
  have e : (gW S p k x).1 p j = S.1 p j := by
    show (if p = p ∧ j = k then x else S.1 p j) = _
    rw [if_neg (fun z => h z.2)]
  unfold gV
  rw [e]
  rfl
theorem gW_at {S : gSt} {p k : Nat} {x : Int32} : (gW S p k x).1 p k = x := if_pos ⟨rfl, rfl⟩
/-- what may go on beside the store: stable -/
def gSb (G : gGG) (F : State → Heap → Prop) : Prop := (∀ (u U : State) (H : Heap), u.WarmedH U.vm → F u H → F U H) ∧ (∀ (u U : State) (H : Heap), U.vm = u.vm → F u H → F U H) ∧ ∀ (U : State) (H H1 : Heap), F U H → (∀ a : Nat, a < H.size → ¬ gA G a → H1[a]? = H[a]?) → F U H1
def gB (G : gGG) (F : State → Heap → Prop) (S : gSt) (U : State) : Prop := va_P (gD G) vwCl (gCells G S) U.heap ∧ va_K (gD G) vwCl (gty G) U ∧ F U U.heap
def gPost (G : gGG) (x : Option Value × gSt) : Array Value → State → Outcome → State → Prop := fun _ st oc t => oc = .returned x.1 ∧ va_P (gD G) vwCl (gCells G x.2) t.heap ∧ va_F (gA G) st t
def gRm (d : Nat) : Room := { frames := d, cells := 0, slots := 0, locals := 40 * d }
/-- A METHOD'S CONTRACT: from the store S, with these arguments, it returns what o says (if o says anything) -/
def gCt (G : gGG) (F : State → Heap → Prop) (y : MethodName) (ws : List Cond) (d : Nat) (av : List Value) (S : gSt) (o : Option (Option Value × gSt)) : Prop := ∀ (l : Launch) (x : Option Value × gSt), o = some x → Met l y ws (gRm d) (va_Pc av (gB G F S)) (gPost G x) 0 0 (gA G)
/-- THE JUDGEMENT: at pc, with these locals and this stack, over the store S, the machine comes to an end as o says -/
def Gof {τ : Type} (G : gGG) (F : State → Heap → Prop) (own : String) (cc : ByteArray) (nL : Nat) (Ts : List Cond) (ret : Option FieldType) (R : Room) (cl sl : Nat) (Qf : Array Value → List Frame → State → τ → State → Prop) (pc : Nat) (env : List (Nat × Value)) (st : List Value) (S : gSt) (o : Option τ) : Prop :=
  ∀ (p : Program) (l : Launch) (e : Env) (s : State) (m : MethodId) (args : Array Value) (below : List Frame) (meth : Method) (c : Code) (H : Heap) (locs : List Loc) (ls : Array Slot) (x : τ), o = some x → CallFix p m c cc nL s args Ts own → meth.sig.returnType = ret → meth.locks = false → va_K (gD G) vwCl (gty G) s → F s s.heap → va_P (gD G) vwCl (gCells G S) H → va_S (gA G) s.heap H locs → lv_has ls nL env → W p l e R s m args below meth c H locs cl sl (Qf args below s x) (F0 m pc ls st)
def gQ {τ : Type} (G : gGG) (out : τ → Option Value × gSt) : Array Value → List Frame → State → τ → State → Prop := fun args below s x => MQ below (gPost G (out x)) args s 0 0 (gA G)
theorem gB_blind {G : gGG} {F : State → Heap → Prop} (hF : gSb G F) {S : gSt} {av : List Value} : FrameBlind (va_Pc av (gB G F S)) := fun a U g mk q => ⟨q.1, q.2.1, va_K.moved (u := U) (U := U.calling g mk a) (Vm.Alike.refl U.vm) q.2.2.1, hF.2.1 U (U.calling g mk a) U.heap rfl q.2.2.2⟩

