/-! THE STORE. All that the two objects hold, by positions: ints (field or place), longs (one field an object); which position is what: gLay, gFk -/
theorem gW_up {S : gSt} {p k : Nat} {v : Int32} : (gW S p k v).1 p = upd (S.1 p) k v := by
  funext j
  show (if p = p ∧ j = k then v else S.1 p j) = _
  by_cases h : j = k
  · subst h; rw [if_pos ⟨rfl, rfl⟩]; simp [upd]
  · rw [if_neg (fun z => h z.2)]; simp [upd, h]
theorem gW_other {G : gGG} {S : gSt} {p k : Nat} {v : Int32} : ∀ q, q ≠ p → gEnt G (gW S p k v) q = gEnt G S q := fun _ h => gEnt_congr (gW_ne h) rfl
theorem gWL_other {G : gGG} {S : gSt} {p : Nat} {v : Int64} : ∀ q, q ≠ p → gEnt G (gWL S p v) q = gEnt G S q := fun q h => gEnt_congr rfl (by show (if q = p then v else S.2 q) = _; rw [if_neg h])
theorem gFl_at {ad : Nat → Nat} {S : gSt} {ci p k : Nat} {t : Nat × Nat} (h : (gFk ci)[k]? = some t) : (gFl ad S ci p)[k]? = some (gV ad S p k t) := by
  unfold gFl
  rw [List.getElem?_mapIdx, h]
  rfl
theorem gFl_len {ad : Nat → Nat} {S : gSt} {ci p k : Nat} {t : Nat × Nat} (h : (gFk ci)[k]? = some t) : k < (gFl ad S ci p).length := by
  unfold gFl
  rw [List.length_mapIdx]
  exact (List.getElem?_eq_some_iff.mp h).1
theorem gMapIdxSet {α β : Type} (l : List α) (f f1 : Nat → α → β) (k : Nat) (t : α) (v : β) (h : l[k]? = some t) (hv : f1 k t = v) (ho : ∀ (j : Nat) (u : α), j ≠ k → l[j]? = some u → f1 j u = f j u) : (l.mapIdx f).set k v = l.mapIdx f1 := by
  apply List.ext_getElem?
  intro j
  have hl : k < (l.mapIdx f).length := by
    rw [List.length_mapIdx]
    exact (List.getElem?_eq_some_iff.mp h).1
  by_cases hj : k = j
  · subst hj
    rw [List.getElem?_set_self hl, List.getElem?_mapIdx, h, ← hv]
    rfl
  · rw [List.getElem?_set_ne hj, List.getElem?_mapIdx, List.getElem?_mapIdx]
    cases hu : l[j]? with
    | none => rfl
    | some u =>
      show some (f j u) = some (f1 j u)
      rw [ho j u (fun z => hj z.symm) hu]
theorem gFl_set {ad : Nat → Nat} {S S' : gSt} {ci p k : Nat} {t : Nat × Nat} {v : Value} (h : (gFk ci)[k]? = some t) (hv : gV ad S' p k t = v) (ho : ∀ (j : Nat) (u : Nat × Nat), j ≠ k → (gFk ci)[j]? = some u → gV ad S' p j u = gV ad S p j u) : (gFl ad S ci p).set k v = gFl ad S' ci p := gMapIdxSet (gFk ci) (fun k t => gV ad S p k t) (fun k t => gV ad S' p k t) k t v h hv ho
theorem gV_W {ad : Nat → Nat} {S : gSt} {p k : Nat} {x : Int32} {j : Nat} {u : Nat × Nat} (h : j ≠ k) : gV ad (gW S p k x) p j u = gV ad S p j u := by
  have e : (gW S p k x).1 p j = S.1 p j := by
    show (if p = p ∧ j = k then x else S.1 p j) = _
    rw [if_neg (fun z => h z.2)]
  unfold gV
  rw [e]
  rfl
theorem gW_at {S : gSt} {p k : Nat} {x : Int32} : (gW S p k x).1 p k = x := if_pos ⟨rfl, rfl⟩
/-- what may go on beside the store: stable -/
def gSb (G : gGG) (F : State → Heap → Prop) : Prop := (∀ (u U : State) (H : Heap), u.WarmedH U.vm → F u H → F U H) ∧ (∀ (u U : State) (H : Heap), U.vm = u.vm → F u H → F U H) ∧ ∀ (U : State) (H H1 : Heap), F U H → (∀ a : Nat, a < H.size → ¬ gA G a → H1[a]? = H[a]?) → F U H1
def gB (G : gGG) (F : State → Heap → Prop) (S : gSt) (U : State) : Prop := va_P (gD G) vwCl (gCells G S) U.heap ∧ va_K (gD G) vwCl (gty G) U ∧ F U U.heap
def gPost (G : gGG) (x : Option Value × gSt) : Array Value → State → Outcome → State → Prop := fun _ st oc t => oc = .returned x.1 ∧ va_P (gD G) vwCl (gCells G x.2) t.heap ∧ va_F (gA G) st t
def gRm (d : Nat) : Room := { frames := d, cells := 0, slots := 0, locals := 40 * d }
/-- A METHOD'S CONTRACT: from the store S, with these arguments, it returns what o says (if o says anything) -/
def gCt (G : gGG) (F : State → Heap → Prop) (y : MethodName) (ws : List Cond) (d : Nat) (av : List Value) (S : gSt) (o : Option (Option Value × gSt)) : Prop := ∀ (l : Launch) (x : Option Value × gSt), o = some x → Met l y ws (gRm d) (va_Pc av (gB G F S)) (gPost G x) 0 0 (gA G)
/-- THE JUDGEMENT: at pc, with these locals and this stack, over the store S, the machine comes to an end as o says -/
def Gof {τ : Type} (G : gGG) (F : State → Heap → Prop) (own : String) (cc : ByteArray) (nL : Nat) (Ts : List Cond) (ret : Option FieldType) (R : Room) (cl sl : Nat) (Qf : Array Value → List Frame → State → τ → State → Prop) (pc : Nat) (env : List (Nat × Value)) (st : List Value) (S : gSt) (o : Option τ) : Prop :=
  ∀ (p : Program) (l : Launch) (e : Env) (s : State) (m : MethodId) (args : Array Value) (below : List Frame) (meth : Method) (c : Code) (H : Heap) (locs : List Loc) (ls : Array Slot) (x : τ), o = some x → CallFix p m c cc nL s args Ts own → meth.sig.returnType = ret → meth.locks = false → va_K (gD G) vwCl (gty G) s → F s s.heap → va_P (gD G) vwCl (gCells G S) H → va_S (gA G) s.heap H locs → lv_has ls nL env → W p l e R s m args below meth c H locs cl sl (Qf args below s x) (F0 m pc ls st)
def gQ {τ : Type} (G : gGG) (out : τ → Option Value × gSt) : Array Value → List Frame → State → τ → State → Prop := fun args below s x => MQ below (gPost G (out x)) args s 0 0 (gA G)
theorem gB_blind {G : gGG} {F : State → Heap → Prop} (hF : gSb G F) {S : gSt} {av : List Value} : FrameBlind (va_Pc av (gB G F S)) := fun a U g mk q => ⟨q.1, q.2.1, va_K.moved (u := U) (U := U.calling g mk a) (Vm.Alike.refl U.vm) q.2.2.1, hF.2.1 U (U.calling g mk a) U.heap rfl q.2.2.2⟩

