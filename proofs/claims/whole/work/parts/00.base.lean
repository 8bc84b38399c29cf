/-! the pure definitions, out of the machine parts (arrange.py) -/
/-! THE STORE. All that the two objects hold, by positions: ints (field or place), longs (one field an object); which position is what: gLay, gFk -/
abbrev gSt : Type := (Nat → Nat → Int32) × (Nat → Int64)
def gR (S : gSt) (p k : Nat) : Int32 := S.1 p k
def gW (S : gSt) (p k : Nat) (v : Int32) : gSt := (fun q j => if q = p ∧ j = k then v else S.1 q j, S.2)
def gRL (S : gSt) (p : Nat) : Int64 := S.2 p
def gWL (S : gSt) (p : Nat) (v : Int64) : gSt := (S.1, fun q => if q = p then v else S.2 q)
abbrev gN (i : Int32) : Nat := i.toNatClampNeg
def gIn (i : Int32) (n : Nat) : Bool := decide (¬ (i < 0 ∨ n ≤ i.toNatClampNeg))
def gL {α τ : Type} (e : α) (k : α → Option τ) : Option τ := k e
def gBp {α τ : Type} (f : Option α) (k : α → Option τ) : Option τ := f.bind k
def gBd {α τ : Type} (f : Option (α × gSt)) (k : α → gSt → Option τ) : Option τ := f.bind (fun q => k q.1 q.2)
def gFU : Nat := 5000
def gC {τ : Type} (b : Bool) (o : Option τ) : Option τ := if b then o else none
theorem gC_t {τ : Type} (o : Option τ) : gC true o = o := rfl
theorem gIn_in {i : Int32} {n : Nat} (h : gIn i n = true) : vp_in i n := (of_decide_eq_true h : ¬ (i < 0 ∨ n ≤ i.toNatClampNeg))
/-- what stands at a position: 0 an int array, 1 a boolean array, 2 eight int arrays behind it, ci + 3 an object of class ci; and a length -/
def gLayL : List (Nat × Nat) := [(13, 0), (8, 0), (0, 8), (0, 5), (0, 8), (0, 8), (2, 8), (0, 8), (0, 8), (0, 8), (0, 8), (0, 8), (0, 8), (0, 8), (0, 8), (8, 0), (0, 8), (0, 5), (0, 8), (0, 8), (2, 8), (0, 8), (0, 8), (0, 8), (0, 8), (0, 8), (0, 8), (0, 8), (0, 8), (11, 0), (0, 300), (7, 0), (12, 0), (0, 4140), (0, 9), (0, 8), (10, 0), (0, 8), (0, 8), (0, 8), (9, 0), (0, 10), (0, 10), (1, 10), (5, 0), (4, 0), (10, 0), (0, 8), (0, 8), (0, 8), (9, 0), (0, 10), (0, 10), (1, 10), (4, 0), (10, 0), (0, 8), (0, 8), (0, 8), (9, 0), (0, 10), (0, 10), (1, 10), (6, 0), (10, 0), (0, 8), (0, 8), (0, 8), (10, 0), (0, 8), (0, 8), (0, 8), (3, 0), (10, 0), (0, 8), (0, 8), (0, 8), (14, 0), (0, 300), (0, 188), (0, 40), (0, 80), (1, 2), (0, 8), (0, 8), (0, 8), (0, 256), (0, 3)]
def gLay (p : Nat) : Nat × Nat := gLayL.getD p (99, 0)
/-- the fields of a class: 0 an int, 1 a long, 2 a cell so far behind, 3 the cell there, 4 a cell whose position is written as an int -/
def gFk : Nat → List (Nat × Nat)
  | 0 => [(2, 1), (0, 0)]
  | 1 => [(2, 1), (2, 5), (0, 0), (0, 0)]
  | 2 => [(0, 0)]
  | 3 => [(2, 1), (2, 5)]
  | 4 => [(3, 29), (3, 87), (4, 0), (0, 0), (0, 0), (0, 0), (0, 0)]
  | 5 => [(2, 1), (2, 2), (2, 3), (2, 4), (2, 5), (0, 0)]
  | 6 => [(2, 1), (2, 2), (2, 3), (0, 0)]
  | 7 => [(2, 1), (2, 2), (2, 3), (0, 0), (0, 0)]
  | 8 => [(2, 1), (0, 0)]
  | 9 => [(2, 1), (2, 2), (2, 3), (4, 0), (0, 0), (0, 0), (0, 0), (0, 0)]
  | 10 => [(4, 0), (4, 0), (3, 29), (3, 31), (3, 32), (3, 36), (3, 40), (3, 44), (3, 45), (3, 54), (3, 63), (3, 72), (1, 0)]
  | 11 => [(0, 0), (1, 0), (3, 78), (0, 0), (0, 0), (0, 0), (0, 0), (0, 0), (0, 0), (3, 79), (3, 80), (3, 81), (3, 82), (3, 83), (3, 84), (3, 85), (3, 86)]
  | _ => []
def gV (ad : Nat → Nat) (S : gSt) (p k : Nat) (t : Nat × Nat) : Value := if t.1 = 0 then .int (S.1 p k) else if t.1 = 1 then .long (S.2 p) else if t.1 = 2 then .ref (ad (p + t.2)) else if t.1 = 3 then .ref (ad t.2) else .ref (ad (S.1 p k).toNatClampNeg)
def gFl (ad : Nat → Nat) (S : gSt) (ci p : Nat) : List Value := (gFk ci).mapIdx (fun k t => gV ad S p k t)
/-- the numbers of the machine: classes and slots, addresses by positions, the positions that are there, the array classes, the array types known -/
abbrev gGG : Type := va_G × (Nat → Nat) × List Nat × (ClassId × ClassId × ClassId) × List (ClassId × FieldType) × (Nat → Prop)
abbrev gD (G : gGG) : va_G := G.1
abbrev gad (G : gGG) : Nat → Nat := G.2.1
abbrev gps (G : gGG) : List Nat := G.2.2.1
abbrev gcI (G : gGG) : ClassId := G.2.2.2.1.1
abbrev gcZ (G : gGG) : ClassId := G.2.2.2.1.2.1
abbrev gcQ (G : gGG) : ClassId := G.2.2.2.1.2.2
abbrev gty (G : gGG) : List (ClassId × FieldType) := G.2.2.2.2.1
/-- the cells that may be written -/
abbrev gA (G : gGG) : Nat → Prop := G.2.2.2.2.2
def gOK (G : gGG) : Prop := va_nd (gps G) = true ∧ (∀ p q : Nat, p ∈ gps G → q ∈ gps G → gad G p = gad G q → p = q) ∧ (gty G)[0]? = some (gcI G, .int) ∧ (gty G)[1]? = some (gcZ G, .boolean) ∧ ∀ p : Nat, p ∈ gps G → gA G (gad G p)
def gOQ (G : gGG) : Prop := (gty G)[2]? = some (gcQ G, .array .int)
def gEnt (G : gGG) (S : gSt) (p : Nat) : va_E := if (gLay p).1 = 0 then .inl (gcI G, (gLay p).2, .inl (S.1 p)) else if (gLay p).1 = 1 then .inl (gcZ G, (gLay p).2, .inl (S.1 p)) else if (gLay p).1 = 2 then .inl (gcQ G, (gLay p).2, .inr (.inr (.inr (.inr (fun i => if i < (gLay p).2 then some (gad G (p + 1 + i)) else none))))) else .inr ((gLay p).1 - 3, gFl (gad G) S ((gLay p).1 - 3) p)
def gCells (G : gGG) (S : gSt) : va_W := (gps G).map (fun p => (gad G p, gEnt G S p))
theorem gEnt_congr {G : gGG} {S S' : gSt} {q : Nat} (h1 : S'.1 q = S.1 q) (h2 : S'.2 q = S.2 q) : gEnt G S' q = gEnt G S q := by
  have e : ∀ ci, gFl (gad G) S' ci q = gFl (gad G) S ci q := fun ci => by
    unfold gFl
    congr 1
    funext k t
    unfold gV
    rw [h1, h2]
  unfold gEnt
  rw [h1, e]
theorem gEnt_I {G : gGG} {S : gSt} {p n : Nat} (h : gLay p = (0, n)) : gEnt G S p = .inl (gcI G, n, .inl (S.1 p)) := by
  unfold gEnt
  rw [h, if_pos rfl]
theorem gEnt_Z {G : gGG} {S : gSt} {p n : Nat} (h : gLay p = (1, n)) : gEnt G S p = .inl (gcZ G, n, .inl (S.1 p)) := by
  unfold gEnt
  rw [h, if_neg (fun z => by cases z), if_pos rfl]
theorem gEnt_Q {G : gGG} {S : gSt} {p n : Nat} (h : gLay p = (2, n)) : gEnt G S p = .inl (gcQ G, n, .inr (.inr (.inr (.inr (fun i => if i < n then some (gad G (p + 1 + i)) else none))))) := by
  unfold gEnt
  rw [h, if_neg (fun z => by cases z), if_neg (fun z => by cases z), if_pos rfl]
theorem gEnt_O {G : gGG} {S : gSt} {p ci : Nat} (h : (gLay p).1 = ci + 3) : gEnt G S p = .inr (ci, gFl (gad G) S ci p) := by
  unfold gEnt
  rw [h, if_neg (by omega), if_neg (by omega), if_neg (by omega)]
  rfl
theorem gCells_at {G : gGG} (S : gSt) {p : Nat} (h : p ∈ gps G) : ∃ i : Nat, (gps G)[i]? = some p ∧ (gCells G S)[i]? = some (gad G p, gEnt G S p) := by
  obtain ⟨i, hi⟩ := List.getElem?_of_mem h
  exact ⟨i, hi, by unfold gCells; rw [List.getElem?_map, hi]; rfl⟩
theorem gCells_in {G : gGG} {S : gSt} {i : Nat} {q : Nat × va_E} (h : (gCells G S)[i]? = some q) : ∃ p : Nat, (gps G)[i]? = some p ∧ q = (gad G p, gEnt G S p) := by
  unfold gCells at h
  rw [List.getElem?_map] at h
  cases hp : (gps G)[i]? with
  | none => rw [hp] at h; cases h
  | some p => rw [hp] at h; exact ⟨p, rfl, (Option.some.inj h).symm⟩
theorem gCells_D {G : gGG} (hG : gOK G) (S : gSt) : va_D (gA G) (gCells G S) := by
  refine ⟨fun i j x y hi hj hxy => ?_, fun k q hk => ?_⟩
  · obtain ⟨p, hp, rfl⟩ := gCells_in hi
    obtain ⟨q, hq, rfl⟩ := gCells_in hj
    have e := hG.2.1 p q (List.mem_of_getElem? hp) (List.mem_of_getElem? hq) hxy
    subst e
    exact va_nd_inj _ hG.1 i j p hp hq
  · obtain ⟨p, hp, rfl⟩ := gCells_in hk
    exact hG.2.2.2.2 p (List.mem_of_getElem? hp)
theorem gMapSet {α β : Type} (l : List α) (f f1 : α → β) (i : Nat) (p : α) (hi : l[i]? = some p) (ho : ∀ (j : Nat) (q : α), j ≠ i → l[j]? = some q → f1 q = f q) : (l.map f).set i (f1 p) = l.map f1 := by
  apply List.ext_getElem?
  intro j
  have hl : i < (l.map f).length := by
    rw [List.length_map]
    exact (List.getElem?_eq_some_iff.mp hi).1
  by_cases hj : i = j
  · subst hj
    rw [List.getElem?_set_self hl, List.getElem?_map, hi]
    rfl
  · rw [List.getElem?_set_ne hj, List.getElem?_map, List.getElem?_map]
    cases hp : l[j]? with
    | none => rfl
    | some q =>
      show some (f q) = some (f1 q)
      rw [ho j q (fun z => hj z.symm) hp]
theorem gCells_set {G : gGG} (hG : gOK G) {S S' : gSt} {i p : Nat} {e : va_E} (hi : (gps G)[i]? = some p) (he : gEnt G S' p = e) (ho : ∀ q, q ≠ p → gEnt G S' q = gEnt G S q) : (gCells G S).set i (gad G p, e) = gCells G S' := by
  rw [← he]
  exact gMapSet (gps G) (fun p => (gad G p, gEnt G S p)) (fun p => (gad G p, gEnt G S' p)) i p hi (fun j q hj hq => by
    show (gad G q, gEnt G S' q) = (gad G q, gEnt G S q)
    rw [ho q (fun z => hj (by subst z; exact va_nd_inj _ hG.1 j i q hq hi))])
theorem gW_ne {S : gSt} {p k : Nat} {v : Int32} {q : Nat} (h : q ≠ p) : (gW S p k v).1 q = S.1 q := by
  funext j
  show (if q = p ∧ j = k then v else S.1 q j) = _
  rw [if_neg (fun z => h z.1)]
def gBo (x : Int32) : Bool := decide (x = 0 ∨ x = 1)
def gIsSt (o : Nat) : Bool := o == 36 || o == 46 || o == 55 || o == 64 || o == 68 || o == 73
def gIsRu (o : Nat) : Bool := o == 1 || o == 15
def gIsSi (o : Nat) : Bool := o == 40 || o == 50 || o == 59
def gIsIm (o : Nat) : Bool := o == 45 || o == 54
def gIsStr (o : Nat) : Bool := decide (100 ≤ o) && decide (o < 111)
def gFalls (j : Nat) : Int32 := ([1, 1, 2, 5, 15, 52, 203, 877, 4140] : List Int32).getD j 0
def gSlen : List Nat := [6, 3, 7, 5, 4, 6, 4, 8, 5, 5, 4]
def gSbyt : List (List Int32) := [[103, 117, 101, 115, 116, 115], [104, 97, 116], [112, 97, 114, 116, 105, 101, 115], [108, 101, 97, 115, 116], [109, 111, 115, 116], [117, 110, 108, 105, 107, 101], [114, 105, 110, 103], [116, 111, 103, 101, 116, 104, 101, 114], [97, 112, 97, 114, 116], [119, 111, 114, 116, 104], [99, 111, 115, 116]]
def fJ0_length_8abf5 (q : Nat) (_ : gSt) : Option Int32 := some (nI (gSlen.getD (q - 100) 0))
def fJ0_charAt_5068e (q : Nat) (a1 : Int32) (_ : gSt) : Option Int32 := gC (gIn a1 (gSlen.getD (q - 100) 0)) (some ((gSbyt.getD (q - 100) []).getD (gN a1) 0))

/-! J6_bitCount_0f7a4 -/
def fJ6_bitCount_0f7a4 (a0 : Int32) (S : gSt) : Option (Int32) := gL (a0 - (((a0.toUInt32 >>> ((1 : Int32).toUInt32 &&& Int32.toUInt32 31)).toInt32) &&& 1431655765)) (fun v_1 => gL ((v_1 &&& 858993459) + (((v_1.toUInt32 >>> ((2 : Int32).toUInt32 &&& Int32.toUInt32 31)).toInt32) &&& 858993459)) (fun v_2 => gL ((v_2 + ((v_2.toUInt32 >>> ((4 : Int32).toUInt32 &&& Int32.toUInt32 31)).toInt32)) &&& 252645135) (fun v_3 => gL (v_3 + ((v_3.toUInt32 >>> ((8 : Int32).toUInt32 &&& Int32.toUInt32 31)).toInt32)) (fun v_4 => gL (v_4 + ((v_4.toUInt32 >>> ((16 : Int32).toUInt32 &&& Int32.toUInt32 31)).toInt32)) (fun v_5 => some (v_5 &&& 63))))))
/-! J6_numberOfTrailingZeros_0f7a4 -/
def fJ6_numberOfTrailingZeros_0f7a4_L62 (S : gSt) (x0 : Int32) (x1 : Int32) : Option (Int32) := if x0 ≤ 4 then (some (x1 + ((x0.toUInt32 >>> ((1 : Int32).toUInt32 &&& Int32.toUInt32 31)).toInt32))) else (gL ((x0.toUInt32 >>> ((2 : Int32).toUInt32 &&& Int32.toUInt32 31)).toInt32) (fun v_1 => some ((x1 + 2) + ((v_1.toUInt32 >>> ((1 : Int32).toUInt32 &&& Int32.toUInt32 31)).toInt32))))
def fJ6_numberOfTrailingZeros_0f7a4_L49 (S : gSt) (x0 : Int32) (x1 : Int32) : Option (Int32) := if x0 ≤ 16 then (fJ6_numberOfTrailingZeros_0f7a4_L62 S x0 x1) else (gL ((x0.toUInt32 >>> ((4 : Int32).toUInt32 &&& Int32.toUInt32 31)).toInt32) (fun v_1 => fJ6_numberOfTrailingZeros_0f7a4_L62 S v_1 (x1 + 4)))
def fJ6_numberOfTrailingZeros_0f7a4_L34 (S : gSt) (x0 : Int32) (x1 : Int32) : Option (Int32) := if x0 ≤ 256 then (fJ6_numberOfTrailingZeros_0f7a4_L49 S x0 x1) else (gL ((x0.toUInt32 >>> ((8 : Int32).toUInt32 &&& Int32.toUInt32 31)).toInt32) (fun v_1 => fJ6_numberOfTrailingZeros_0f7a4_L49 S v_1 (x1 + 8)))
def fJ6_numberOfTrailingZeros_0f7a4 (a0 : Int32) (S : gSt) : Option (Int32) := gL ((a0 ^^^ (-1)) &&& (a0 - 1)) (fun v_1 => if 0 < v_1 then (if v_1 ≤ 65536 then (fJ6_numberOfTrailingZeros_0f7a4_L34 S v_1 1) else (gL ((v_1.toUInt32 >>> ((16 : Int32).toUInt32 &&& Int32.toUInt32 31)).toInt32) (fun v_2 => fJ6_numberOfTrailingZeros_0f7a4_L34 S v_2 (1 + 16)))) else (some (v_1 &&& 32)))
/-! X2_value -/
def fX2_value (S : gSt) : Option (Int32) := some (gR S 44 0)
/-! X2_become -/
def fX2_become (a1 : Int32) (S : gSt) : Option (gSt) := gL (gW S 44 0 a1) (fun S_1 => some S_1)
/-! X2_nextBelow -/
def fX2_nextBelow (a1 : Int32) (S : gSt) : Option (Int32 × gSt) := gL (gW S 44 0 (((gR S 44 0) * 1103515245) + 12345)) (fun S_1 => if a1 ≤ 0 then (some (0, S_1)) else (gC (decide (¬ a1 = 0)) (some (((((gR S_1 44 0).toUInt32 >>> ((16 : Int32).toUInt32 &&& Int32.toUInt32 31)).toInt32) - (((gR S_1 44 0).toUInt32 >>> ((16 : Int32).toUInt32 &&& Int32.toUInt32 31)).toInt32) / a1 * a1), S_1))))
/-! X8_length -/
def fX8_length (S : gSt) : Option (Int32) := some (gR S 29 1)
/-! X8_hasSpaceFor -/
def fX8_hasSpaceFor (a1 : Int32) (S : gSt) : Option (Int32) := if (300 - (gR S 29 1)) < a1 then (some 0) else (some 1)
/-! X8_append -/
def fX8_append (a1 : Int32) (S : gSt) : Option (gSt) := if 300 ≤ (gR S 29 1) then (some S) else (gC (gIn (gR S 29 1) 300) (gL (gW S 30 (gN (gR S 29 1)) a1) (fun S_1 => gL (gW S_1 29 1 ((gR S_1 29 1) + 1)) (fun S_2 => some S_2))))
/-! X8_byteAt -/
def fX8_byteAt (a1 : Int32) (S : gSt) : Option (Int32) := if a1 < 0 then (some (-1)) else (if (gR S 29 1) ≤ a1 then (some (-1)) else (gC (gIn a1 300) (some (gR S 30 (gN a1)))))
/-! X8_empty -/
def fX8_empty (S : gSt) : Option (gSt) := gL (gW S 29 1 0) (fun S_1 => some S_1)
/-! X7_shiftOf -/
def fX7_shiftOf (a0 : Int32) (S : gSt) : Option (Int32) := some (3 * (7 - a0))
/-! X7_partyIn -/
def fX7_partyIn (a0 : Int32) (a1 : Int32) (S : gSt) : Option (Int32) := gBp (fX7_shiftOf a1 S) (fun v_1 => some ((a0 >>> (v_1 &&& 31)) &&& 7))
/-! X7_guests -/
def fX7_guests (o : Nat) (S : gSt) : Option (Int32) := some (gR S o 3)
/-! X7_parties -/
def fX7_parties (o : Nat) (S : gSt) : Option (Int32) := some (gR S o 4)
/-! X7_partyOf -/
def fX7_partyOf (o : Nat) (a1 : Int32) (S : gSt) : Option (Int32) := if a1 < 0 then (some 0) else (if (gR S o 3) ≤ a1 then (some 0) else (gC (gIn a1 8) (some (gR S (o + 1) (gN a1)))))
/-! X7_setOf -/
def fX7_setOf (o : Nat) (a1 : Int32) (S : gSt) : Option (Int32) := if a1 < 0 then (some 0) else (if (gR S o 4) ≤ a1 then (some 0) else (gC (gIn a1 8) (some (gR S (o + 2) (gN a1)))))
/-! X7_isAlone -/
def fX7_isAlone (o : Nat) (a1 : Int32) (S : gSt) : Option (Int32) := gBp (fX7_partyOf o a1 S) (fun v_1 => gBp (fX7_setOf o v_1 S) (fun v_2 => gBp (fJ6_bitCount_0f7a4 v_2 S) (fun v_3 => if v_3 = 1 then (some 1) else (some 0))))
/-! X7_loners -/
def fX7_loners_L4 (o : Nat) (S : gSt) : Nat → Int32 → Int32 → Option (Int32)
  | 0, _, _ => none
  | n + 1, x1, x2 => if (gR S o 4) ≤ x2 then (some x1) else (gBp (fX7_setOf o x2 S) (fun v_1 => gBp (fJ6_bitCount_0f7a4 v_1 S) (fun v_2 => if v_2 = 1 then (fX7_loners_L4 o S n (x1 + 1) (x2 + 1)) else (fX7_loners_L4 o S n x1 (x2 + 1)))))
def fX7_loners (o : Nat) (S : gSt) : Option (Int32) := fX7_loners_L4 o S gFU 0 0
/-! X7_code -/
def fX7_code_L4 (o : Nat) (S : gSt) : Nat → Int32 → Int32 → Option (Int32)
  | 0, _, _ => none
  | n + 1, x1, x2 => if (gR S o 3) ≤ x2 then (some x1) else (gBp (fX7_partyOf o x2 S) (fun v_1 => gBp (fX7_shiftOf x2 S) (fun v_2 => gL (x1 ||| (v_1 <<< (v_2 &&& 31))) (fun v_3 => fX7_code_L4 o S n v_3 (x2 + 1)))))
def fX7_code (o : Nat) (S : gSt) : Option (Int32) := fX7_code_L4 o S gFU 0 0
/-! X7_firstLabelledLike -/
def fX7_firstLabelledLike_L2 (o : Nat) (S : gSt) : Nat → Int32 → Int32 → Option (Int32)
  | 0, _, _ => none
  | n + 1, x1, x2 => if x1 ≤ x2 then (some x1) else (gC (gIn x2 8) (gC (gIn x1 8) (if (gR S (o + 3) (gN x2)) = (gR S (o + 3) (gN x1)) then (some x2) else (fX7_firstLabelledLike_L2 o S n x1 (x2 + 1)))))
def fX7_firstLabelledLike (o : Nat) (a1 : Int32) (S : gSt) : Option (Int32) := fX7_firstLabelledLike_L2 o S gFU a1 0
/-! X7_settle -/
def fX7_settle_L71 (k7 : Int32 → gSt → Option (gSt)) (o : Nat) (x1 : Int32) (S : gSt) : Option (gSt) := gC (gIn x1 8) (gC (gIn (gR S (o + 1) (gN x1)) 8) (gC (gIn (gR S (o + 1) (gN x1)) 8) (gL (gW S (o + 2) (gN (gR S (o + 1) (gN x1))) ((gR S (o + 2) (gN (gR S (o + 1) (gN x1)))) ||| ((1 : Int32) <<< (x1 &&& 31)))) (fun S_1 => k7 (x1 + 1) S_1))))
def fX7_settle_L7 (o : Nat) : Nat → Int32 → gSt → Option (gSt)
  | 0, _, _ => none
  | n + 1, x1, S => if (gR S o 3) ≤ x1 then (some S) else (gBp (fX7_firstLabelledLike o x1 S) (fun v_1 => if v_1 = x1 then (gC (gIn (gR S o 4) 8) (gL (gW S (o + 2) (gN (gR S o 4)) 0) (fun S_3 => gC (gIn x1 8) (gL (gW S_3 (o + 1) (gN x1) (gR S_3 o 4)) (fun S_4 => gL (gW S_4 o 4 ((gR S_4 o 4) + 1)) (fun S_5 => fX7_settle_L71 (fX7_settle_L7 o n) o x1 S_5)))))) else (gC (gIn v_1 8) (gC (gIn x1 8) (gL (gW S (o + 1) (gN x1) (gR S (o + 1) (gN v_1))) (fun S_2 => fX7_settle_L71 (fX7_settle_L7 o n) o x1 S_2))))))
def fX7_settle (o : Nat) (S : gSt) : Option (gSt) := gL (gW S o 4 0) (fun S_1 => fX7_settle_L7 o gFU 0 S_1)
/-! X7_scatter -/
def fX7_scatter_L16 (o : Nat) : Nat → Int32 → gSt → Option (gSt)
  | 0, _, _ => none
  | n + 1, x2, S => if (gR S o 3) ≤ x2 then (gBp (fX7_settle o S) (fun S_1 => some S_1)) else (gC (gIn x2 8) (gL (gW S (o + 3) (gN x2) x2) (fun S_2 => fX7_scatter_L16 o n (x2 + 1) S_2)))
def fX7_scatter (o : Nat) (a1 : Int32) (S : gSt) : Option (gSt) := gL (gW S o 3 (if 1 < (if a1 < 8 then a1 else 8) then (if a1 < 8 then a1 else 8) else 1)) (fun S_1 => fX7_scatter_L16 o gFU 0 S_1)
/-! X7_standAs -/
def fX7_standAs_L2 (o : Nat) : Nat → Int32 → Int32 → gSt → Option (gSt)
  | 0, _, _, _ => none
  | n + 1, x1, x2, S => if (gR S o 3) ≤ x2 then (gBp (fX7_settle o S) (fun S_1 => some S_1)) else (gBp (fX7_partyIn x1 x2 S) (fun v_2 => gC (gIn x2 8) (gL (gW S (o + 3) (gN x2) v_2) (fun S_3 => fX7_standAs_L2 o n x1 (x2 + 1) S_3))))
def fX7_standAs (o : Nat) (a1 : Int32) (S : gSt) : Option (gSt) := fX7_standAs_L2 o gFU a1 0 S
/-! X7_standLike -/
def fX7_standLike (o : Nat) (a1 : Nat) (S : gSt) : Option (gSt) := gBp (fX7_guests a1 S) (fun v_1 => gL (gW S o 3 v_1) (fun S_2 => gBp (fX7_code a1 S_2) (fun v_3 => gBp (fX7_standAs o v_3 S_2) (fun S_4 => some S_4))))
/-! X7_relabel -/
def fX7_relabel_L2 (o : Nat) : Nat → Int32 → gSt → Option (gSt)
  | 0, _, _ => none
  | n + 1, x1, S => if (gR S o 3) ≤ x1 then (some S) else (gC (gIn x1 8) (gC (gIn x1 8) (gL (gW S (o + 3) (gN x1) (gR S (o + 1) (gN x1))) (fun S_1 => fX7_relabel_L2 o n (x1 + 1) S_1))))
def fX7_relabel (o : Nat) (S : gSt) : Option (gSt) := fX7_relabel_L2 o gFU 0 S
/-! X7_sendToParty -/
def fX7_sendToParty_L23 (o : Nat)  (S : gSt) : Option (gSt) := gBp (fX7_settle o S) (fun S_1 => some S_1)
def fX7_sendToParty (o : Nat) (a1 : Int32) (a2 : Int32) (S : gSt) : Option (gSt) := gBp (fX7_relabel o S) (fun S_1 => if a1 < 0 then (fX7_sendToParty_L23 o S_1) else (if (gR S_1 o 3) ≤ a1 then (fX7_sendToParty_L23 o S_1) else (gC (gIn a1 8) (gL (gW S_1 (o + 3) (gN a1) a2) (fun S_2 => fX7_sendToParty_L23 o S_2)))))
/-! X7_sendTo -/
def fX7_sendTo_L17 (o : Nat) (s1 : Int32) (s2 : Int32) (S : gSt) : Option (gSt) := gBp (fX7_sendToParty o s1 s2 S) (fun S_1 => some S_1)
def fX7_sendTo (o : Nat) (a1 : Int32) (a2 : Int32) (S : gSt) : Option (gSt) := if a1 = a2 then (fX7_sendTo_L17 o a1 8 S) else (gBp (fX7_partyOf o a2 S) (fun v_1 => fX7_sendTo_L17 o a1 v_1 S))
/-! X7_sendAlone -/
def fX7_sendAlone (o : Nat) (a1 : Int32) (S : gSt) : Option (gSt) := gBp (fX7_sendToParty o a1 8 S) (fun S_1 => some S_1)
/-! X7_merge -/
def fX7_merge_L2 (o : Nat) : Nat → Int32 → Int32 → Int32 → gSt → Option (gSt)
  | 0, _, _, _, _ => none
  | n + 1, x1, x2, x3, S => if (gR S o 3) ≤ x3 then (gBp (fX7_settle o S) (fun S_1 => some S_1)) else (gC (gIn x3 8) (if (gR S (o + 1) (gN x3)) = x2 then (gC (gIn x3 8) (gL (gW S (o + 3) (gN x3) x1) (fun S_3 => fX7_merge_L2 o n x1 x2 (x3 + 1) S_3))) else (gC (gIn x3 8) (gC (gIn x3 8) (gL (gW S (o + 3) (gN x3) (gR S (o + 1) (gN x3))) (fun S_2 => fX7_merge_L2 o n x1 x2 (x3 + 1) S_2))))))
def fX7_merge (o : Nat) (a1 : Int32) (a2 : Int32) (S : gSt) : Option (gSt) := fX7_merge_L2 o gFU a1 a2 0 S
/-! X7_splitOff -/
def fX7_splitOff_L2 (o : Nat) : Nat → Int32 → Int32 → gSt → Option (gSt)
  | 0, _, _, _ => none
  | n + 1, x1, x2, S => if (gR S o 3) ≤ x2 then (gBp (fX7_settle o S) (fun S_1 => some S_1)) else (if (x1 &&& ((1 : Int32) <<< (x2 &&& 31))) = 0 then (gC (gIn x2 8) (gC (gIn x2 8) (gL (gW S (o + 3) (gN x2) (gR S (o + 1) (gN x2))) (fun S_2 => fX7_splitOff_L2 o n x1 (x2 + 1) S_2)))) else (gC (gIn x2 8) (gL (gW S (o + 3) (gN x2) 8) (fun S_3 => fX7_splitOff_L2 o n x1 (x2 + 1) S_3))))
def fX7_splitOff (o : Nat) (a1 : Int32) (S : gSt) : Option (gSt) := fX7_splitOff_L2 o gFU a1 0 S
/-! X7_meet -/
def fX7_meet_L10 (o : Nat) (a1 : Nat) (a2 : Nat) : Nat → Int32 → gSt → Option (gSt)
  | 0, _, _ => none
  | n + 1, x3, S => if (gR S o 3) ≤ x3 then (gBp (fX7_settle o S) (fun S_1 => some S_1)) else (gBp (fX7_partyOf a1 x3 S) (fun v_2 => gBp (fX7_partyOf a2 x3 S) (fun v_3 => gC (gIn x3 8) (gL (gW S (o + 3) (gN x3) ((v_2 * 8) + v_3)) (fun S_4 => fX7_meet_L10 o a1 a2 n (x3 + 1) S_4)))))
def fX7_meet (o : Nat) (a1 : Nat) (a2 : Nat) (S : gSt) : Option (gSt) := gBp (fX7_guests a1 S) (fun v_1 => gL (gW S o 3 v_1) (fun S_2 => fX7_meet_L10 o a1 a2 gFU 0 S_2))
/-! X7_mergeAlong -/
def fX7_mergeAlong_L2 (o : Nat) (a1 : Nat) : Nat → Int32 → gSt → Option (gSt)
  | 0, _, _ => none
  | n + 1, x2, S => if (gR S o 3) ≤ x2 then (some S) else (gBp (fX7_partyOf a1 x2 S) (fun v_1 => gBp (fX7_setOf a1 v_1 S) (fun v_2 => gBp (fJ6_numberOfTrailingZeros_0f7a4 v_2 S) (fun v_3 => gBp (fX7_partyOf o v_3 S) (fun v_4 => gBp (fX7_partyOf o x2 S) (fun v_5 => if v_4 = v_5 then (fX7_mergeAlong_L2 o a1 n (x2 + 1) S) else (gBp (fX7_partyOf o v_3 S) (fun v_6 => gBp (fX7_partyOf o x2 S) (fun v_7 => gBp (fX7_merge o v_6 v_7 S) (fun S_8 => fX7_mergeAlong_L2 o a1 n (x2 + 1) S_8))))))))))
def fX7_mergeAlong (o : Nat) (a1 : Nat) (S : gSt) : Option (gSt) := fX7_mergeAlong_L2 o a1 gFU 1 S
/-! X6_size -/
def fX6_size (o : Nat) (S : gSt) : Option (Int32) := some (gR S o 3)
/-! X6_areFull -/
def fX6_areFull (o : Nat) (S : gSt) : Option (Int32) := if (gR S o 3) < 10 then (some 0) else (some 1)
/-! X6_empty -/
def fX6_empty (o : Nat) (S : gSt) : Option (gSt) := gL (gW S o 3 0) (fun S_1 => some S_1)
/-! X6_add -/
def fX6_add (o : Nat) (a1 : Int32) (a2 : Int32) (a3 : Int32) (S : gSt) : Option (gSt) := if 10 ≤ (gR S o 3) then (some S) else (gC (gIn (gR S o 3) 10) (gL (gW S (o + 1) (gN (gR S o 3)) a1) (fun S_1 => gC (gIn (gR S_1 o 3) 10) (gL (gW S_1 (o + 2) (gN (gR S_1 o 3)) a2) (fun S_2 => gC (gIn (gR S_2 o 3) 10) (gL (gW S_2 (o + 3) (gN (gR S_2 o 3)) (vp_nar .boolean a3)) (fun S_3 => gL (gW S_3 o 3 ((gR S_3 o 3) + 1)) (fun S_4 => some S_4))))))))
/-! X6_copy -/
def fX6_copy_L6 (o : Nat) (a1 : Nat) : Nat → Int32 → gSt → Option (gSt)
  | 0, _, _ => none
  | n + 1, x2, S => if (gR S a1 3) ≤ x2 then (some S) else (gC (gIn x2 10) (gC (gIn x2 10) (gC (gIn x2 10) (gBp (fX6_add o (gR S (a1 + 1) (gN x2)) (gR S (a1 + 2) (gN x2)) (gR S (a1 + 3) (gN x2)) S) (fun S_1 => fX6_copy_L6 o a1 n (x2 + 1) S_1)))))
def fX6_copy (o : Nat) (a1 : Nat) (S : gSt) : Option (gSt) := gBp (fX6_empty o S) (fun S_1 => fX6_copy_L6 o a1 gFU 0 S_1)
/-! X6_fit -/
def fX6_fit_L38 (k2 : Int32 → Int32 → Option (Int32)) (o : Nat) (S : gSt) (x1 : Int32) (x2 : Int32) (s0 : Int32) : Option (Int32) := gC (gIn x2 10) (if s0 = (gR S (o + 3) (gN x2)) then (k2 x1 (x2 + 1)) else (some 0))
def fX6_fit_L2 (o : Nat) (S : gSt) : Nat → Int32 → Int32 → Option (Int32)
  | 0, _, _ => none
  | n + 1, x1, x2 => if (gR S o 3) ≤ x2 then (some 1) else (gC (gIn x2 10) (gBp (fX7_partyIn x1 (gR S (o + 1) (gN x2)) S) (fun v_1 => gC (gIn x2 10) (gBp (fX7_partyIn x1 (gR S (o + 2) (gN x2)) S) (fun v_2 => if v_1 = v_2 then (fX6_fit_L38 (fX6_fit_L2 o S n) o S x1 x2 1) else (fX6_fit_L38 (fX6_fit_L2 o S n) o S x1 x2 0))))))
def fX6_fit (o : Nat) (a1 : Int32) (S : gSt) : Option (Int32) := fX6_fit_L2 o S gFU a1 0
/-! X1_isKept -/
def fX1_isKept (o : Nat) (S : gSt) : Option (Int32) := gC (gBo (gR S o 3)) (some (gR S o 3))
/-! X1_standing -/
def fX1_standing (o : Nat) (S : gSt) : Option (Nat) := some (o + 1)
/-! X1_drop -/
def fX1_drop (o : Nat) (S : gSt) : Option (gSt) := gL (gW S o 3 0) (fun S_1 => some S_1)
/-! X1_take -/
def fX1_take (o : Nat) (a1 : Nat) (a2 : Nat) (S : gSt) : Option (gSt) := gBp (fX7_standLike (o + 1) a1 S) (fun S_1 => gBp (fX6_copy (o + 5) a2 S_1) (fun S_2 => gBp (fX2_value S_2) (fun v_3 => gL (gW S_2 o 2 v_3) (fun S_4 => gL (gW S_4 o 3 1) (fun S_5 => some S_5)))))
/-! X1_giveBack -/
def fX1_giveBack (o : Nat) (a1 : Nat) (a2 : Nat) (S : gSt) : Option (gSt) := gBp (fX7_standLike a1 (o + 1) S) (fun S_1 => gBp (fX6_copy a2 (o + 5) S_1) (fun S_2 => gBp (fX2_become (gR S_2 o 2) S_2) (fun S_3 => some S_3)))
/-! X5_reset -/
def fX5_reset_L56 (k27 : Int32 → gSt → Option (gSt)) (o : Nat) : Nat → Int32 → Int32 → gSt → Option (gSt)
  | 0, _, _, _ => none
  | n + 1, x1, x2, S => if 8 ≤ x2 then (k27 (x1 + 1) S) else (gC (gIn x1 8) (gC (gIn x2 8) (gL (gW S ((o + 5) + 1 + gN x1) (gN x2) 0) (fun S_1 => fX5_reset_L56 k27 o n x1 (x2 + 1) S_1))))
def fX5_reset_L27 (o : Nat) : Nat → Int32 → gSt → Option (gSt)
  | 0, _, _ => none
  | n + 1, x1, S => if 8 ≤ x1 then (some S) else (gC (gIn x1 8) (gL (gW S (o + 1) (gN x1) 0) (fun S_1 => gC (gIn x1 8) (gL (gW S_1 (o + 3) (gN x1) 0) (fun S_2 => gC (gIn x1 8) (gL (gW S_2 (o + 4) (gN x1) 0) (fun S_3 => fX5_reset_L56 (fX5_reset_L27 o n) o gFU x1 0 S_3)))))))
def fX5_reset_L7 (o : Nat) : Nat → Int32 → gSt → Option (gSt)
  | 0, _, _ => none
  | n + 1, x1, S => if 5 ≤ x1 then (fX5_reset_L27 o gFU 0 S) else (gC (gIn x1 5) (gL (gW S (o + 2) (gN x1) 0) (fun S_1 => fX5_reset_L7 o n (x1 + 1) S_1)))
def fX5_reset (o : Nat) (S : gSt) : Option (gSt) := gL (gW S o 5 4) (fun S_1 => fX5_reset_L7 o gFU 0 S_1)
/-! X5_guests -/
def fX5_guests (o : Nat) (S : gSt) : Option (Int32) := some (gR S o 5)
/-! X5_setGuests -/
def fX5_setGuests (o : Nat) (a1 : Int32) (S : gSt) : Option (gSt) := if a1 < 1 then (some S) else (if 8 < a1 then (some S) else (gL (gW S o 5 a1) (fun S_1 => some S_1)))
/-! X5_isOne -/
def fX5_isOne (a0 : Int32) (S : gSt) : Option (Int32) := if a0 < 0 then (some 0) else (if 8 ≤ a0 then (some 0) else (some 1))
/-! X5_hatOf -/
def fX5_hatOf (o : Nat) (a1 : Int32) (S : gSt) : Option (Int32) := gBp (fX5_isOne a1 S) (fun v_1 => if v_1 = 0 then (some 0) else (gC (gIn a1 8) (some (gR S (o + 1) (gN a1)))))
/-! X5_setHat -/
def fX5_setHat (o : Nat) (a1 : Int32) (a2 : Int32) (S : gSt) : Option (gSt) := gBp (fX5_isOne a1 S) (fun v_1 => if v_1 = 0 then (some S) else (gC (gIn a1 8) (gL (gW S (o + 1) (gN a1) a2) (fun S_2 => some S_2))))
/-! X5_lawOf -/
def fX5_lawOf (o : Nat) (a1 : Int32) (S : gSt) : Option (Int32) := if a1 < 0 then (some 0) else (if 5 ≤ a1 then (some 0) else (gC (gIn a1 5) (some (gR S (o + 2) (gN a1)))))
/-! X5_setLaw -/
def fX5_setLaw (o : Nat) (a1 : Int32) (a2 : Int32) (S : gSt) : Option (gSt) := if a1 < 0 then (some S) else (if 5 ≤ a1 then (some S) else (gC (gIn a1 5) (gL (gW S (o + 2) (gN a1) a2) (fun S_1 => some S_1))))
/-! X5_areTogether -/
def fX5_areTogether (o : Nat) (a1 : Int32) (a2 : Int32) (S : gSt) : Option (Int32) := gBp (fX5_isOne a1 S) (fun v_1 => if v_1 = 0 then (some 0) else (gC (gIn a1 8) (if ((gR S (o + 3) (gN a1)) &&& ((1 : Int32) <<< (a2 &&& 31))) = 0 then (some 0) else (some 1))))
/-! X5_putTogether -/
def fX5_putTogether (o : Nat) (a1 : Int32) (a2 : Int32) (S : gSt) : Option (gSt) := gBp (fX5_isOne a1 S) (fun v_1 => if v_1 = 0 then (some S) else (gBp (fX5_isOne a2 S) (fun v_2 => if v_2 = 0 then (some S) else (gC (gIn a1 8) (gC (gIn a1 8) (gL (gW S (o + 3) (gN a1) ((gR S (o + 3) (gN a1)) ||| ((1 : Int32) <<< (a2 &&& 31)))) (fun S_3 => gC (gIn a2 8) (gC (gIn a2 8) (gL (gW S_3 (o + 3) (gN a2) ((gR S_3 (o + 3) (gN a2)) ||| ((1 : Int32) <<< (a1 &&& 31)))) (fun S_4 => some S_4))))))))))
/-! X5_areApart -/
def fX5_areApart (o : Nat) (a1 : Int32) (a2 : Int32) (S : gSt) : Option (Int32) := gBp (fX5_isOne a1 S) (fun v_1 => if v_1 = 0 then (some 0) else (gC (gIn a1 8) (if ((gR S (o + 4) (gN a1)) &&& ((1 : Int32) <<< (a2 &&& 31))) = 0 then (some 0) else (some 1))))
/-! X5_putApart -/
def fX5_putApart (o : Nat) (a1 : Int32) (a2 : Int32) (S : gSt) : Option (gSt) := gBp (fX5_isOne a1 S) (fun v_1 => if v_1 = 0 then (some S) else (gBp (fX5_isOne a2 S) (fun v_2 => if v_2 = 0 then (some S) else (gC (gIn a1 8) (gC (gIn a1 8) (gL (gW S (o + 4) (gN a1) ((gR S (o + 4) (gN a1)) ||| ((1 : Int32) <<< (a2 &&& 31)))) (fun S_3 => gC (gIn a2 8) (gC (gIn a2 8) (gL (gW S_3 (o + 4) (gN a2) ((gR S_3 (o + 4) (gN a2)) ||| ((1 : Int32) <<< (a1 &&& 31)))) (fun S_4 => some S_4))))))))))
/-! X5_worthOf -/
def fX5_worthOf (o : Nat) (a1 : Int32) (a2 : Int32) (S : gSt) : Option (Int32) := gBp (fX5_isOne a1 S) (fun v_1 => if v_1 = 0 then (some 0) else (gBp (fX5_isOne a2 S) (fun v_2 => if v_2 = 0 then (some 0) else (gC (gIn a1 8) (gC (gIn a2 8) (some (gR S ((o + 5) + 1 + gN a1) (gN a2))))))))
/-! X5_setWorth -/
def fX5_setWorth (o : Nat) (a1 : Int32) (a2 : Int32) (a3 : Int32) (S : gSt) : Option (gSt) := gBp (fX5_isOne a1 S) (fun v_1 => if v_1 = 0 then (some S) else (gBp (fX5_isOne a2 S) (fun v_2 => if v_2 = 0 then (some S) else (gC (gIn a1 8) (gC (gIn a2 8) (gL (gW S ((o + 5) + 1 + gN a1) (gN a2) a3) (fun S_3 => gC (gIn a2 8) (gC (gIn a1 8) (gL (gW S_3 ((o + 5) + 1 + gN a2) (gN a1) a3) (fun S_4 => some S_4))))))))))
/-! X5_worthWith -/
def fX5_worthWith_L14 (o : Nat) (S : gSt) : Nat → Int32 → Int32 → Int32 → Int32 → Option (Int32)
  | 0, _, _, _, _ => none
  | n + 1, x1, x2, x3, x4 => if (gR S o 5) ≤ x4 then (some x3) else (if 8 ≤ x4 then (some x3) else (if x4 = x1 then (fX5_worthWith_L14 o S n x1 x2 x3 (x4 + 1)) else (if (x2 &&& ((1 : Int32) <<< (x4 &&& 31))) = 0 then (fX5_worthWith_L14 o S n x1 x2 x3 (x4 + 1)) else (gC (gIn x1 8) (gC (gIn x4 8) (gL (x3 + (gR S ((o + 5) + 1 + gN x1) (gN x4))) (fun v_1 => fX5_worthWith_L14 o S n x1 x2 v_1 (x4 + 1))))))))
def fX5_worthWith (o : Nat) (a1 : Int32) (a2 : Int32) (S : gSt) : Option (Int32) := gBp (fX5_isOne a1 S) (fun v_1 => if v_1 = 0 then (some 0) else (fX5_worthWith_L14 o S gFU a1 a2 0 0))
/-! X5_worthOfAll -/
def fX5_worthOfAll_L4 (o : Nat) (a1 : Nat) (S : gSt) : Nat → Int32 → Int32 → Option (Int32)
  | 0, _, _ => none
  | n + 1, x2, x3 => if (gR S o 5) ≤ x3 then (gC (decide (¬ 2 = 0)) (some (x2 / 2))) else (gBp (fX7_partyOf a1 x3 S) (fun v_1 => gBp (fX7_setOf a1 v_1 S) (fun v_2 => gBp (fX5_worthWith o x3 v_2 S) (fun v_3 => gL (x2 + v_3) (fun v_4 => fX5_worthOfAll_L4 o a1 S n v_4 (x3 + 1))))))
def fX5_worthOfAll (o : Nat) (a1 : Nat) (S : gSt) : Option (Int32) := fX5_worthOfAll_L4 o a1 S gFU 0 0
/-! X5_pairsIn -/
def fX5_pairsIn_L10 (a0 : Nat) (S : gSt) : Nat → Int32 → Int32 → Int32 → Option (Int32)
  | 0, _, _, _ => none
  | n + 1, x1, x3, x4 => if x3 ≤ x4 then (gC (decide (¬ 2 = 0)) (some (x1 / 2))) else (gC (gIn x4 ((gLay a0).2)) (gL (gR S a0 (gN x4)) (fun v_1 => gBp (fJ6_bitCount_0f7a4 v_1 S) (fun v_2 => gL (x1 + v_2) (fun v_3 => fX5_pairsIn_L10 a0 S n v_3 x3 (x4 + 1))))))
def fX5_pairsIn (a0 : Nat) (S : gSt) : Option (Int32) := gL (Int32.ofNat ((gLay a0).2)) (fun v_1 => fX5_pairsIn_L10 a0 S gFU 0 v_1 0)
/-! X5_pairsTogether -/
def fX5_pairsTogether (o : Nat) (S : gSt) : Option (Int32) := gBp (fX5_pairsIn (o + 3) S) (fun v_1 => some v_1)
/-! X5_pairsApart -/
def fX5_pairsApart (o : Nat) (S : gSt) : Option (Int32) := gBp (fX5_pairsIn (o + 4) S) (fun v_1 => some v_1)
/-! X5_meetsItsHat -/
def fX5_meetsItsHat_L13 (o : Nat) (S : gSt) : Nat → Int32 → Int32 → Int32 → Option (Int32)
  | 0, _, _, _ => none
  | n + 1, x1, x2, x3 => if x1 ≤ x3 then (some 0) else (if 8 ≤ x1 then (some 0) else (if (x2 &&& ((1 : Int32) <<< (x3 &&& 31))) = 0 then (fX5_meetsItsHat_L13 o S n x1 x2 (x3 + 1)) else (gC (gIn x3 8) (gC (gIn x1 8) (if (gR S (o + 1) (gN x3)) = (gR S (o + 1) (gN x1)) then (some 1) else (fX5_meetsItsHat_L13 o S n x1 x2 (x3 + 1)))))))
def fX5_meetsItsHat (o : Nat) (a1 : Int32) (a2 : Int32) (S : gSt) : Option (Int32) := gC (gIn 3 5) (if (gR S (o + 2) (gN 3)) = 0 then (some 0) else (fX5_meetsItsHat_L13 o S gFU a1 a2 0))
/-! X5_mayCome -/
def fX5_mayCome_L35 (o : Nat) (S : gSt) (x1 : Int32) (x2 : Int32) (s0 : Int32) : Option (Int32) := if s0 = 0 then (gC (gIn x1 8) (if ((gR S (o + 4) (gN x1)) &&& x2) = 0 then (gBp (fX5_meetsItsHat o x1 x2 S) (fun v_1 => if v_1 = 0 then (some 1) else (some 0))) else (some 0))) else (some 0)
def fX5_mayCome (o : Nat) (a1 : Int32) (a2 : Int32) (S : gSt) : Option (Int32) := gBp (fX5_isOne a1 S) (fun v_1 => if v_1 = 0 then (some 0) else (gL (((1 : Int32) <<< (a1 &&& 31)) - 1) (fun v_2 => gC (gIn a1 8) (if (((gR S (o + 3) (gN a1)) &&& v_2) &&& (a2 ^^^ (-1))) = 0 then (fX5_mayCome_L35 o S a1 a2 0) else (fX5_mayCome_L35 o S a1 a2 1)))))
/-! X3_finer -/
def fX3_finer (S : gSt) : Option (Nat) := some 64
/-! X3_coarser -/
def fX3_coarser (S : gSt) : Option (Nat) := some 68
/-! X3_compare -/
def fX3_compare (a1 : Nat) (a2 : Nat) (S : gSt) : Option (gSt) := gBp (fX7_meet 64 a1 a2 S) (fun S_1 => gBp (fX7_standLike 68 a1 S_1) (fun S_2 => gBp (fX7_mergeAlong 68 a2 S_2) (fun S_3 => some S_3)))
/-! X3_piecesOf -/
def fX3_piecesOf_L4 (S : gSt) : Nat → Int32 → Int32 → Int32 → Option (Int32)
  | 0, _, _, _ => none
  | n + 1, x1, x2, x3 => gBp (fX7_parties 64 S) (fun v_1 => if v_1 ≤ x3 then (some x2) else (gBp (fX7_setOf 64 x3 S) (fun v_2 => if (v_2 &&& (x1 ^^^ (-1))) = 0 then (fX3_piecesOf_L4 S n x1 (x2 + 1) (x3 + 1)) else (fX3_piecesOf_L4 S n x1 x2 (x3 + 1)))))
def fX3_piecesOf (a1 : Int32) (S : gSt) : Option (Int32) := fX3_piecesOf_L4 S gFU a1 0 0
/-! X3_standingsWithin -/
def fX3_standingsWithin_L4 (S : gSt) : Nat → Int32 → Int32 → Option (Int32)
  | 0, _, _ => none
  | n + 1, x1, x2 => gBp (fX7_parties 68 S) (fun v_1 => if v_1 ≤ x2 then (some x1) else (gBp (fX7_setOf 68 x2 S) (fun v_2 => gBp (fX3_piecesOf v_2 S) (fun v_3 => if 9 ≤ v_3 then (gL (x1 * 1) (fun v_4 => fX3_standingsWithin_L4 S n v_4 (x2 + 1))) else (gC (gIn v_3 9) (gL (x1 * (gFalls (gN v_3))) (fun v_5 => fX3_standingsWithin_L4 S n v_5 (x2 + 1))))))))
def fX3_standingsWithin (S : gSt) : Option (Int32) := fX3_standingsWithin_L4 S gFU 1 0
/-! X3_stayers -/
def fX3_stayers_L30 (rc : Nat → Nat → Int32 → Int32 → gSt → Option Int32) (a0 : Nat) (a1 : Nat) (S : gSt) : Nat → Int32 → Int32 → Int32 → Int32 → Option (Int32)
  | 0, _, _, _, _ => none
  | n + 1, x2, x3, x4, x5 => gBp (fX7_parties a1 S) (fun v_1 => if v_1 ≤ x5 then (some x4) else (gBp (fX7_setOf a0 x2 S) (fun v_2 => gBp (fX7_setOf a1 x5 S) (fun v_3 => gBp (fJ6_bitCount_0f7a4 (v_2 &&& v_3) S) (fun v_4 => if v_4 ≤ 0 then (fX3_stayers_L30 rc a0 a1 S n x2 x3 x4 (x5 + 1)) else (if (x3 &&& ((1 : Int32) <<< (x5 &&& 31))) = 0 then (gBp (rc a0 a1 (x2 + 1) (x3 ||| ((1 : Int32) <<< (x5 &&& 31))) S) (fun v_5 => gL (if x4 < (v_4 + v_5) then (v_4 + v_5) else x4) (fun v_6 => fX3_stayers_L30 rc a0 a1 S n x2 x3 v_6 (x5 + 1)))) else (fX3_stayers_L30 rc a0 a1 S n x2 x3 x4 (x5 + 1))))))))
def fX3_stayers (rc : Nat → Nat → Int32 → Int32 → gSt → Option Int32) (a0 : Nat) (a1 : Nat) (a2 : Int32) (a3 : Int32) (S : gSt) : Option (Int32) := gBp (fX7_parties a0 S) (fun v_1 => if v_1 ≤ a2 then (some 0) else (if a2 < 8 then (gBp (rc a0 a1 (a2 + 1) a3 S) (fun v_2 => fX3_stayers_L30 rc a0 a1 S gFU a2 a3 v_2 0)) else (some 0)))
def fSY : Nat → Nat → Nat → Int32 → Int32 → gSt → Option Int32
  | 0, _, _, _, _, _ => none
  | k + 1, a0, a1, a2, a3, S => fX3_stayers (fSY k) a0 a1 a2 a3 S
def fX3_stayers_c (a0 a1 : Nat) (a2 a3 : Int32) (S : gSt) : Option Int32 := fSY 20 a0 a1 a2 a3 S
/-! X3_fewestGoings -/
def fX3_fewestGoings (a0 : Nat) (a1 : Nat) (S : gSt) : Option (Int32) := gBp (fX7_guests a0 S) (fun v_1 => gBp (fX3_stayers_c a0 a1 0 0 S) (fun v_2 => some (v_1 - v_2)))
/-! X0_standing -/
def fX0_standing (S : gSt) : Option (Nat) := some 73
/-! X0_goings -/
def fX0_goings (S : gSt) : Option (Int32) := some (gR S 72 1)
/-! X0_hasStopped -/
def fX0_hasStopped (S : gSt) : Option (Int32) := if 60 ≤ (gR S 72 1) then (some 0) else (some 1)
/-! X0_takesTurn -/
def fX0_takesTurn_L18 (a1 : Nat) : Nat → Int32 → Int32 → Int32 → Int32 → Int32 → gSt → Option (Int32 × gSt)
  | 0, _, _, _, _, _, _ => none
  | n + 1, x2, x3, x4, x5, x6, S => gBp (fX7_parties 73 S) (fun v_1 => if v_1 ≤ x6 then (gBp (fX7_setOf 73 x3 S) (fun v_2 => gBp (fX5_worthWith a1 x2 v_2 S) (fun v_3 => if v_3 < x5 then (if x4 = x3 then (gBp (fX7_sendAlone 73 x2 S) (fun S_5 => some (1, S_5))) else (gBp (fX7_sendToParty 73 x2 x4 S) (fun S_4 => some (1, S_4)))) else (some (0, S))))) else (gBp (fX7_setOf 73 x6 S) (fun v_6 => gBp (fX5_worthWith a1 x2 v_6 S) (fun v_7 => if x6 = x3 then (fX0_takesTurn_L18 a1 n x2 x3 x4 x5 (x6 + 1) S) else (if v_7 ≤ x5 then (fX0_takesTurn_L18 a1 n x2 x3 x4 x5 (x6 + 1) S) else (fX0_takesTurn_L18 a1 n x2 x3 x6 v_7 (x6 + 1) S))))))
def fX0_takesTurn (a1 : Nat) (a2 : Int32) (S : gSt) : Option (Int32 × gSt) := gBp (fX7_partyOf 73 a2 S) (fun v_1 => fX0_takesTurn_L18 a1 gFU a2 v_1 v_1 0 0 S)
/-! X0_run -/
def fX0_run_L75 (k21 : Int32 → Int32 → Int32 → gSt → Option (gSt)) (a1 : Nat) (a2 : Nat) (x3 : Int32) (x4 : Int32) (x5 : Int32) (S : gSt) : Option (gSt) := gBp (fX5_guests a1 S) (fun v_1 => if v_1 ≤ (x3 + 1) then (k21 0 x4 (x5 + 1) S) else (gL (x3 + 1) (fun v_2 => k21 v_2 x4 (x5 + 1) S)))
def fX0_run_L21 (a1 : Nat) (a2 : Nat) : Nat → Int32 → Int32 → Int32 → gSt → Option (gSt)
  | 0, _, _, _, _ => none
  | n + 1, x3, x4, x5, S => if 488 ≤ x5 then (some S) else (if 60 ≤ (gR S 72 1) then (some S) else (gBp (fX5_guests a1 S) (fun v_1 => if v_1 ≤ x4 then (some S) else (gBd (fX0_takesTurn a1 x3 S) (fun v_2 S_3 => if v_2 = 0 then (fX0_run_L75 (fX0_run_L21 a1 a2 n) a1 a2 x3 (x4 + 1) x5 S_3) else (gL (gW S_3 72 1 ((gR S_3 72 1) + 1)) (fun S_4 => fX0_run_L75 (fX0_run_L21 a1 a2 n) a1 a2 x3 0 x5 S_4)))))))
def fX0_run (a1 : Nat) (a2 : Nat) (S : gSt) : Option (gSt) := gBp (fX7_standLike 73 a2 S) (fun S_1 => gL (gW S_1 72 1 0) (fun S_2 => fX0_run_L21 a1 a2 gFU 0 0 0 S_2))
/-! X9_obey -/
def fX9_obey (a1 : Nat) (S : gSt) : Option (gSt) := gL (gW S 32 3 (nI a1)) (fun S_1 => gL (gW S_1 32 4 0) (fun S_2 => some S_2))
/-! X9_areLawful -/
def fX9_areLawful_L22 (S : gSt) : Nat → Int32 → Int32 → Option (Int32)
  | 0, _, _ => none
  | n + 1, x1, x3 => if x1 ≤ x3 then (some 1) else (if 8 ≤ x3 then (some 1) else (gC (gIn x3 8) (gBp (fJ6_bitCount_0f7a4 (gR S 35 (gN x3)) S) (fun v_1 => gC (gIsRu (gN (gR S 32 3))) (gBp (fX5_lawOf (gN (gR S 32 3)) 1 S) (fun v_2 => if v_2 ≤ v_1 then (fX9_areLawful_L22 S n x1 (x3 + 1)) else (some 0)))))))
def fX9_areLawful (a1 : Int32) (S : gSt) : Option (Int32) := gC (gIsRu (gN (gR S 32 3))) (gBp (fX5_lawOf (gN (gR S 32 3)) 0 S) (fun v_1 => if v_1 = 0 then (fX9_areLawful_L22 S gFU a1 0) else (if v_1 = a1 then (fX9_areLawful_L22 S gFU a1 0) else (some 0))))
/-! X9_accept -/
def fX9_accept_L44 (x1 : Int32) (x2 : Int32) (S : gSt) : Option (gSt) := gC (gIn (gR S 32 5) 4140) (gL (gW S 33 (gN (gR S 32 5)) x2) (fun S_1 => gL (gW S_1 32 5 ((gR S_1 32 5) + 1)) (fun S_2 => if 9 ≤ x1 then (some S_2) else (gC (gIn x1 9) (gC (gIn x1 9) (gL (gW S_2 34 (gN x1) ((gR S_2 34 (gN x1)) + 1)) (fun S_3 => some S_3)))))))
def fX9_accept (a1 : Int32) (a2 : Int32) (a3 : Int32) (S : gSt) : Option (gSt) := gBp (fX9_areLawful a1 S) (fun v_1 => if v_1 = 0 then (some S) else (if (gR S 32 5) < 4140 then (if (gR S 32 5) = 0 then (gL (gW S 32 6 a3) (fun S_2 => gL (gW S_2 32 7 a2) (fun S_3 => fX9_accept_L44 a1 a2 S_3))) else (if a3 ≤ (gR S 32 6) then (fX9_accept_L44 a1 a2 S) else (gL (gW S 32 6 a3) (fun S_4 => gL (gW S_4 32 7 a2) (fun S_5 => fX9_accept_L44 a1 a2 S_5))))) else (some S)))
/-! X9_isSurrounded -/
def fX9_isSurrounded_L10 (S : gSt) : Nat → Int32 → Int32 → Int32 → Int32 → Option (Int32)
  | 0, _, _, _, _ => none
  | n + 1, x2, x3, x4, x5 => if x3 ≤ x5 then (some 0) else (if 8 ≤ x5 then (some 0) else (if x5 = x2 then (fX9_isSurrounded_L10 S n x2 x3 x4 (x5 + 1)) else (gC (gIn x5 8) (if ((gR S 35 (gN x5)) &&& x4) = 0 then (fX9_isSurrounded_L10 S n x2 x3 x4 (x5 + 1)) else (gC (gIn x5 8) (if ((gR S 35 (gN x5)) &&& (x4 ^^^ (-1))) = 0 then (fX9_isSurrounded_L10 S n x2 x3 x4 (x5 + 1)) else (some 1)))))))
def fX9_isSurrounded (a1 : Int32) (a2 : Int32) (a3 : Int32) (S : gSt) : Option (Int32) := gL (((1 : Int32) <<< (a1 &&& 31)) - 1) (fun v_1 => fX9_isSurrounded_L10 S gFU a2 a3 v_1 0)
/-! X9_comesAcross -/
def fX9_comesAcross_L2 (S : gSt) : Nat → Int32 → Int32 → Int32 → Option (Int32)
  | 0, _, _, _ => none
  | n + 1, x1, x2, x3 => if 8 ≤ x3 then (some 0) else (gC (gIn x1 8) (if ((gR S 35 (gN x1)) &&& ((1 : Int32) <<< (x3 &&& 31))) = 0 then (fX9_comesAcross_L2 S n x1 x2 (x3 + 1)) else (gBp (fX9_isSurrounded x3 x1 x2 S) (fun v_1 => if v_1 = 0 then (fX9_comesAcross_L2 S n x1 x2 (x3 + 1)) else (some 1)))))
def fX9_comesAcross (a1 : Int32) (a2 : Int32) (S : gSt) : Option (Int32) := fX9_comesAcross_L2 S gFU a1 a2 0
/-! X9_mayStand -/
def fX9_mayStand_L31 (S : gSt) (x1 : Int32) (x2 : Int32) (x3 : Int32) : Option (Int32) := gC (gIsRu (gN (gR S 32 3))) (gC (gIn x2 8) (gBp (fX5_mayCome (gN (gR S 32 3)) x1 (gR S 35 (gN x2)) S) (fun v_1 => if v_1 = 0 then (some 0) else (gC (gIsRu (gN (gR S 32 3))) (gBp (fX5_lawOf (gN (gR S 32 3)) 4 S) (fun v_2 => if v_2 = 0 then (some 1) else (gBp (fX9_comesAcross x2 x3 S) (fun v_3 => if v_3 = 0 then (some 1) else (some 0)))))))))
def fX9_mayStand (a1 : Int32) (a2 : Int32) (a3 : Int32) (S : gSt) : Option (Int32) := gC (gIsRu (gN (gR S 32 3))) (gBp (fX5_lawOf (gN (gR S 32 3)) 2 S) (fun v_1 => if v_1 = 0 then (fX9_mayStand_L31 S a1 a2 a3) else (gC (gIn a2 8) (gBp (fJ6_bitCount_0f7a4 (gR S 35 (gN a2)) S) (fun v_2 => if v_2 < v_1 then (fX9_mayStand_L31 S a1 a2 a3) else (some 0))))))
/-! X9_place -/
def fX9_place (rc : Int32 → Int32 → Int32 → Int32 → gSt → Option gSt) (a1 : Int32) (a2 : Int32) (a3 : Int32) (a4 : Int32) (a5 : Int32) (S : gSt) : Option (gSt) := gC (gIn a2 8) (gL (gR S 35 (gN a2)) (fun v_1 => gC (gIsRu (gN (gR S 32 3))) (gBp (fX5_worthWith (gN (gR S 32 3)) a1 v_1 S) (fun v_2 => gL (a5 + v_2) (fun v_3 => gBp (fX7_shiftOf a1 S) (fun v_4 => gL (a4 ||| (a2 <<< (v_4 &&& 31))) (fun v_5 => gC (gIn a2 8) (gL (gW S 35 (gN a2) (v_1 ||| ((1 : Int32) <<< (a1 &&& 31)))) (fun S_6 => gBp (rc (a1 + 1) (if a3 < (a2 + 1) then (a2 + 1) else a3) v_5 v_3 S_6) (fun S_7 => gC (gIn a2 8) (gL (gW S_7 35 (gN a2) v_1) (fun S_8 => some S_8))))))))))))
/-! X9_placeFrom -/
def fX9_placeFrom_L17 (rc : Int32 → Int32 → Int32 → Int32 → Int32 → gSt → Option gSt) (x2 : Int32) (x3 : Int32) (x4 : Int32) (S : gSt) : Option (gSt) := gBp (fX9_accept x2 x3 x4 S) (fun S_1 => some S_1)
def fX9_placeFrom_L29 (rc : Int32 → Int32 → Int32 → Int32 → Int32 → gSt → Option gSt) : Nat → Int32 → Int32 → Int32 → Int32 → Int32 → gSt → Option (gSt)
  | 0, _, _, _, _, _, _ => none
  | n + 1, x1, x2, x3, x4, x5, S => if x2 < x5 then (some S) else (if 8 ≤ x5 then (some S) else (gBp (fX9_mayStand x1 x5 x2 S) (fun v_1 => if v_1 = 0 then (fX9_placeFrom_L29 rc n x1 x2 x3 x4 (x5 + 1) S) else (gBp (rc x1 x5 x2 x3 x4 S) (fun S_2 => fX9_placeFrom_L29 rc n x1 x2 x3 x4 (x5 + 1) S_2)))))
def fX9_placeFrom (rc : Int32 → Int32 → Int32 → Int32 → Int32 → gSt → Option gSt) (a1 : Int32) (a2 : Int32) (a3 : Int32) (a4 : Int32) (S : gSt) : Option (gSt) := gC (gIsRu (gN (gR S 32 3))) (gBp (fX5_guests (gN (gR S 32 3)) S) (fun v_1 => if v_1 ≤ a1 then (fX9_placeFrom_L17 rc a2 a3 a4 S) else (if a1 < 8 then (fX9_placeFrom_L29 rc gFU a1 a2 a3 a4 0 S) else (fX9_placeFrom_L17 rc a2 a3 a4 S))))
def fPF : Nat → Int32 → Int32 → Int32 → Int32 → gSt → Option gSt
  | 0, _, _, _, _, _ => none
  | k + 1, a1, a2, a3, a4, S => fX9_placeFrom (fun b1 b2 b3 b4 b5 T => fX9_place (fPF k) b1 b2 b3 b4 b5 T) a1 a2 a3 a4 S
def fX9_placeFrom_c (a1 a2 a3 a4 : Int32) (S : gSt) : Option gSt := fPF 10 a1 a2 a3 a4 S
/-! X9_gather -/
def fX9_gather_L44 : Nat → Int32 → gSt → Option (gSt)
  | 0, _, _ => none
  | n + 1, x1, S => if 8 ≤ x1 then (gBp (fX9_placeFrom_c 0 0 0 0 S) (fun S_1 => some S_1)) else (gC (gIn x1 8) (gL (gW S 35 (gN x1) 0) (fun S_2 => fX9_gather_L44 n (x1 + 1) S_2)))
def fX9_gather_L20 : Nat → Int32 → gSt → Option (gSt)
  | 0, _, _ => none
  | n + 1, x1, S => if 9 ≤ x1 then (fX9_gather_L44 gFU 0 S) else (gC (gIn x1 9) (gL (gW S 34 (gN x1) 0) (fun S_1 => fX9_gather_L20 n (x1 + 1) S_1)))
def fX9_gather (S : gSt) : Option (gSt) := if (gR S 32 4) = 0 then (gL (gW S 32 4 1) (fun S_1 => gL (gW S_1 32 5 0) (fun S_2 => fX9_gather_L20 gFU 0 S_2))) else (some S)
/-! X9_total -/
def fX9_total (S : gSt) : Option (Int32 × gSt) := gBp (fX9_gather S) (fun S_1 => some (gR S_1 32 5, S_1))
/-! X9_totalWith -/
def fX9_totalWith (a1 : Int32) (S : gSt) : Option (Int32 × gSt) := gBp (fX9_gather S) (fun S_1 => if a1 < 0 then (some (0, S_1)) else (if 9 ≤ a1 then (some (0, S_1)) else (gC (gIn a1 9) (some (gR S_1 34 (gN a1), S_1)))))
/-! X9_codeAt -/
def fX9_codeAt (a1 : Int32) (S : gSt) : Option (Int32 × gSt) := gBp (fX9_gather S) (fun S_1 => if a1 < 0 then (some (0, S_1)) else (if (gR S_1 32 5) ≤ a1 then (some (0, S_1)) else (gC (gIn a1 4140) (some (gR S_1 33 (gN a1), S_1)))))
/-! X9_greatestWorth -/
def fX9_greatestWorth (S : gSt) : Option (Int32 × gSt) := gBp (fX9_gather S) (fun S_1 => some (gR S_1 32 6, S_1))
/-! X9_worthiestCode -/
def fX9_worthiestCode (S : gSt) : Option (Int32 × gSt) := gBp (fX9_gather S) (fun S_1 => some (gR S_1 32 7, S_1))
/-! X9_placeOf -/
def fX9_placeOf_L30 (x1 : Int32) (x2 : Int32) (S : gSt) : Option (Int32 × gSt) := if (gR S 32 5) ≤ x2 then (some ((-9), S)) else (gC (gIn x2 4140) (if (gR S 33 (gN x2)) = x1 then (some (x2, S)) else (some ((-9), S))))
def fX9_placeOf_L6 : Nat → Int32 → Int32 → gSt → Option (Int32 × gSt)
  | 0, _, _, _ => none
  | n + 1, x1, x2, S => if (gR S 32 5) ≤ x2 then (fX9_placeOf_L30 x1 x2 S) else (gC (gIn x2 4140) (if x1 ≤ (gR S 33 (gN x2)) then (fX9_placeOf_L30 x1 x2 S) else (fX9_placeOf_L6 n x1 (x2 + 1) S)))
def fX9_placeOf (a1 : Int32) (S : gSt) : Option (Int32 × gSt) := gBp (fX9_gather S) (fun S_1 => fX9_placeOf_L6 gFU a1 0 S_1)
/-! X9_fitting -/
def fX9_fitting_L8 (a1 : Nat) : Nat → Int32 → Int32 → gSt → Option (Int32 × gSt)
  | 0, _, _, _ => none
  | n + 1, x2, x3, S => if (gR S 32 5) ≤ x3 then (some (x2, S)) else (gC (gIn x3 4140) (gBp (fX6_fit a1 (gR S 33 (gN x3)) S) (fun v_1 => if v_1 = 0 then (fX9_fitting_L8 a1 n x2 (x3 + 1) S) else (fX9_fitting_L8 a1 n (x2 + 1) (x3 + 1) S))))
def fX9_fitting (a1 : Nat) (S : gSt) : Option (Int32 × gSt) := gBp (fX9_gather S) (fun S_1 => fX9_fitting_L8 a1 gFU 0 0 S_1)
/-! X9_certain -/
def fX9_certain_L64 (k11 : Int32 → Int32 → Int32 → Int32 → gSt → Option (Int32 × gSt)) (a1 : Nat) (x2 : Int32) (x3 : Int32) (x4 : Int32) (x5 : Int32) (s0 : Int32) (S : gSt) : Option (Int32 × gSt) := if x4 = (-9) then (k11 x2 x3 s0 (x5 + 1) S) else (if x4 = s0 then (k11 x2 x3 s0 (x5 + 1) S) else (some ((-9), S)))
def fX9_certain_L11 (a1 : Nat) : Nat → Int32 → Int32 → Int32 → Int32 → gSt → Option (Int32 × gSt)
  | 0, _, _, _, _, _ => none
  | n + 1, x2, x3, x4, x5, S => if (gR S 32 5) ≤ x5 then (some (x4, S)) else (gC (gIn x5 4140) (gBp (fX6_fit a1 (gR S 33 (gN x5)) S) (fun v_1 => if v_1 = 0 then (fX9_certain_L11 a1 n x2 x3 x4 (x5 + 1) S) else (gC (gIn x5 4140) (gBp (fX7_partyIn (gR S 33 (gN x5)) x2 S) (fun v_2 => gC (gIn x5 4140) (gBp (fX7_partyIn (gR S 33 (gN x5)) x3 S) (fun v_3 => if v_2 = v_3 then (fX9_certain_L64 (fX9_certain_L11 a1 n) a1 x2 x3 x4 x5 1 S) else (fX9_certain_L64 (fX9_certain_L11 a1 n) a1 x2 x3 x4 x5 0 S)))))))))
def fX9_certain (a1 : Nat) (a2 : Int32) (a3 : Int32) (S : gSt) : Option (Int32 × gSt) := gBp (fX9_gather S) (fun S_1 => fX9_certain_L11 a1 gFU a2 a3 (-9) 0 S_1)
/-! X4_isLetter -/
def fX4_isLetter (a0 : Int32) (S : gSt) : Option (Int32) := if a0 < 97 then (some 0) else (if 122 < a0 then (some 0) else (some 1))
/-! X4_spelling -/
def fX4_spelling (a0 : Int32) (S : gSt) : Option (Nat) := if a0 = 0 then (some 100) else (if a0 = 1 then (some 101) else (if a0 = 2 then (some 102) else (if a0 = 3 then (some 103) else (if a0 = 4 then (some 104) else (if a0 = 5 then (some 105) else (if a0 = 6 then (some 106) else (if a0 = 7 then (some 107) else (if a0 = 8 then (some 108) else (if a0 = 9 then (some 109) else (if a0 = 10 then (some 110) else (none)))))))))))
/-! X4_isSpelled -/
def fX4_isSpelled_L20 (a1 : Nat) (S : gSt) : Nat → Int32 → Option (Int32)
  | 0, _ => none
  | n + 1, x2 => gBp (fJ0_length_8abf5 a1 S) (fun v_1 => if v_1 ≤ x2 then (some 1) else (gBp (fJ0_charAt_5068e a1 x2 S) (fun v_2 => gBp (fX8_byteAt ((gR S 31 5) + x2) S) (fun v_3 => if v_2 = v_3 then (fX4_isSpelled_L20 a1 S n (x2 + 1)) else (some 0)))))
def fX4_isSpelled (a1 : Nat) (S : gSt) : Option (Int32) := gBp (fJ0_length_8abf5 a1 S) (fun v_1 => if v_1 = ((gR S 31 3) - (gR S 31 5)) then (fX4_isSpelled_L20 a1 S gFU 0) else (some 0))
/-! X4_scanWord -/
def fX4_scanWord_L42 : Nat → Int32 → gSt → Option (Int32 × gSt)
  | 0, _, _ => none
  | n + 1, x1, S => if 11 ≤ x1 then (some (14, S)) else (gBp (fX4_spelling x1 S) (fun q_1 => gC (gIsStr q_1) (gBp (fX4_isSpelled q_1 S) (fun v_2 => if v_2 = 0 then (fX4_scanWord_L42 n (x1 + 1) S) else (some (x1, S))))))
def fX4_scanWord_L0 : Nat → gSt → Option (Int32 × gSt)
  | 0, _ => none
  | n + 1, S => if 300 ≤ (gR S 31 3) then (fX4_scanWord_L42 gFU 0 S) else (gBp (fX8_byteAt (gR S 31 3) S) (fun v_1 => gBp (fX4_isLetter v_1 S) (fun v_2 => if v_2 = 0 then (fX4_scanWord_L42 gFU 0 S) else (gL (gW S 31 3 ((gR S 31 3) + 1)) (fun S_3 => fX4_scanWord_L0 n S_3)))))
def fX4_scanWord (S : gSt) : Option (Int32 × gSt) := fX4_scanWord_L0 gFU S
/-! X4_isDigit -/
def fX4_isDigit (a0 : Int32) (S : gSt) : Option (Int32) := if a0 < 48 then (some 0) else (if 57 < a0 then (some 0) else (some 1))
/-! X4_scanNumber -/
def fX4_scanNumber_L114 (s0 : Int32) (S : gSt) : Option (Int32 × gSt) := if 99 < (gR S 31 6) then (some (14, S)) else (if s0 = 0 then (some (11, S)) else (some (14, S)))
def fX4_scanNumber_L80  (S : gSt) : Option (Int32 × gSt) := gBp (fX8_byteAt (gR S 31 5) S) (fun v_1 => if v_1 = 48 then (if ((gR S 31 3) - (gR S 31 5)) ≤ 1 then (fX4_scanNumber_L114 0 S) else (fX4_scanNumber_L114 1 S)) else (fX4_scanNumber_L114 0 S))
def fX4_scanNumber_L5 : Nat → gSt → Option (Int32 × gSt)
  | 0, _ => none
  | n + 1, S => if 300 ≤ (gR S 31 3) then (fX4_scanNumber_L80 S) else (gBp (fX8_byteAt (gR S 31 3) S) (fun v_1 => gBp (fX4_isDigit v_1 S) (fun v_2 => if v_2 = 0 then (fX4_scanNumber_L80 S) else (if 99 < (gR S 31 6) then (gL (gW S 31 3 ((gR S 31 3) + 1)) (fun S_3 => fX4_scanNumber_L5 n S_3)) else (gBp (fX8_byteAt (gR S 31 3) S) (fun v_4 => gL (gW S 31 6 ((((gR S 31 6) * 10) + v_4) - 48)) (fun S_5 => gL (gW S_5 31 3 ((gR S_5 31 3) + 1)) (fun S_6 => fX4_scanNumber_L5 n S_6))))))))
def fX4_scanNumber (S : gSt) : Option (Int32 × gSt) := gL (gW S 31 6 0) (fun S_1 => fX4_scanNumber_L5 gFU S_1)
/-! X4_advance -/
def fX4_advance_L140  (S : gSt) : Option (gSt) := some S
def fX4_advance_L39  (S : gSt) : Option (gSt) := gL (gW S 31 5 (gR S 31 3)) (fun S_1 => gBp (fX8_byteAt (gR S_1 31 3) S_1) (fun v_2 => if v_2 = (-1) then (gL (gW S_1 31 4 13) (fun S_14 => fX4_advance_L140 S_14)) else (if v_2 = 59 then (gL (gW S_1 31 3 ((gR S_1 31 3) + 1)) (fun S_12 => gL (gW S_12 31 4 12) (fun S_13 => fX4_advance_L140 S_13))) else (gBp (fX4_isLetter v_2 S_1) (fun v_3 => if v_3 = 0 then (gBp (fX4_isDigit v_2 S_1) (fun v_4 => if v_4 = 0 then (gL (gW S_1 31 4 14) (fun S_5 => fX4_advance_L140 S_5)) else (gBd (fX4_scanNumber S_1) (fun v_6 S_7 => gL (gW S_7 31 4 v_6) (fun S_8 => fX4_advance_L140 S_8))))) else (gBd (fX4_scanWord S_1) (fun v_9 S_10 => gL (gW S_10 31 4 v_9) (fun S_11 => fX4_advance_L140 S_11))))))))
def fX4_advance_L0 : Nat → gSt → Option (gSt)
  | 0, _ => none
  | n + 1, S => if 300 ≤ (gR S 31 3) then (fX4_advance_L39 S) else (gBp (fX8_byteAt (gR S 31 3) S) (fun v_1 => if v_1 = 32 then (gL (gW S 31 3 ((gR S 31 3) + 1)) (fun S_2 => fX4_advance_L0 n S_2)) else (fX4_advance_L39 S)))
def fX4_advance (S : gSt) : Option (gSt) := fX4_advance_L0 gFU S
/-! X4_mayBegin -/
def fX4_mayBegin (a1 : Int32) (a2 : Int32) (S : gSt) : Option (Int32) := if a1 = 0 then (if a2 = 0 then (some 1) else (some 0)) else (if a1 = 2 then (gC (gIsRu (gN (gR S 31 2))) (gBp (fX5_lawOf (gN (gR S 31 2)) 0 S) (fun v_1 => if v_1 = 0 then (some 1) else (some 0)))) else (if a1 = 3 then (gC (gIsRu (gN (gR S 31 2))) (gBp (fX5_lawOf (gN (gR S 31 2)) 1 S) (fun v_2 => if v_2 = 0 then (some 1) else (some 0)))) else (if a1 = 4 then (gC (gIsRu (gN (gR S 31 2))) (gBp (fX5_lawOf (gN (gR S 31 2)) 2 S) (fun v_3 => if v_3 = 0 then (some 1) else (some 0)))) else (if a1 = 5 then (gC (gIsRu (gN (gR S 31 2))) (gBp (fX5_lawOf (gN (gR S 31 2)) 3 S) (fun v_4 => if v_4 = 0 then (some 1) else (some 0)))) else (if a1 = 6 then (gC (gIsRu (gN (gR S 31 2))) (gBp (fX5_lawOf (gN (gR S 31 2)) 4 S) (fun v_5 => if v_5 = 0 then (some 1) else (some 0)))) else (if 11 ≤ a1 then (some 0) else (some 1)))))))
/-! X4_numbersOf -/
def fX4_numbersOf (a0 : Int32) (S : gSt) : Option (Int32) := if a0 = 0 then (some 1) else (if a0 = 1 then (some 2) else (if a0 = 2 then (some 1) else (if a0 = 3 then (some 1) else (if a0 = 4 then (some 1) else (if a0 = 5 then (some 0) else (if a0 = 6 then (some 0) else (if a0 = 7 then (some 2) else (if a0 = 8 then (some 2) else (some 3)))))))))
/-! X4_lowest -/
def fX4_lowest (a0 : Int32) (S : gSt) : Option (Int32) := if a0 = 0 then (some 1) else (if a0 = 2 then (some 1) else (if a0 = 3 then (some 1) else (if a0 = 4 then (some 1) else (some 0))))
/-! X4_highest -/
def fX4_highest (a1 : Int32) (a2 : Int32) (S : gSt) : Option (Int32) := gC (gIsRu (gN (gR S 31 2))) (gBp (fX5_guests (gN (gR S 31 2)) S) (fun v_1 => gL (v_1 - 1) (fun v_2 => if a1 = 0 then (some 8) else (if a1 = 1 then (if a2 = 0 then (some v_2) else (some 5)) else (if a1 = 2 then (some 8) else (if a1 = 3 then (some 8) else (if a1 = 4 then (some 8) else (if 2 ≤ a2 then (some 9) else (some v_2)))))))))
/-! X4_readNumbers -/
def fX4_readNumbers_L71 (k7 : Int32 → Int32 → Int32 → gSt → Option (Int32 × gSt)) (x1 : Int32) (x2 : Int32) (x3 : Int32) (s0 : Int32) (S : gSt) : Option (Int32 × gSt) := if s0 = 0 then (gC (gIn x3 3) (gL (gW S 87 (gN x3) (gR S 31 6)) (fun S_1 => k7 x1 x2 (x3 + 1) S_1))) else (gC (gIn 0 3) (if (gR S 31 6) = (gR S 87 (gN 0)) then (some (0, S)) else (gC (gIn x3 3) (gL (gW S 87 (gN x3) (gR S 31 6)) (fun S_2 => k7 x1 x2 (x3 + 1) S_2)))))
def fX4_readNumbers_L7 : Nat → Int32 → Int32 → Int32 → gSt → Option (Int32 × gSt)
  | 0, _, _, _, _ => none
  | n + 1, x1, x2, x3, S => if x2 ≤ x3 then (some (1, S)) else (if 3 ≤ x3 then (some (1, S)) else (gBp (fX4_advance S) (fun S_1 => if (gR S_1 31 4) = 11 then (gBp (fX4_lowest x1 S_1) (fun v_2 => if (gR S_1 31 6) < v_2 then (some (0, S_1)) else (gBp (fX4_highest x1 x3 S_1) (fun v_3 => if (gR S_1 31 6) ≤ v_3 then (if x3 = 1 then (if x1 = 1 then (fX4_readNumbers_L71 (fX4_readNumbers_L7 n) x1 x2 x3 0 S_1) else (fX4_readNumbers_L71 (fX4_readNumbers_L7 n) x1 x2 x3 1 S_1)) else (fX4_readNumbers_L71 (fX4_readNumbers_L7 n) x1 x2 x3 0 S_1)) else (some (0, S_1)))))) else (some (0, S_1)))))
def fX4_readNumbers (a1 : Int32) (S : gSt) : Option (Int32 × gSt) := gBp (fX4_numbersOf a1 S) (fun v_1 => fX4_readNumbers_L7 gFU a1 v_1 0 S)
/-! X4_readSemicolon -/
def fX4_readSemicolon (S : gSt) : Option (Int32 × gSt) := gBp (fX4_advance S) (fun S_1 => if (gR S_1 31 4) = 12 then (some (1, S_1)) else (some (0, S_1)))
/-! X4_tell -/
def fX4_tell_L274  (S : gSt) : Option (gSt) := some S
def fX4_tell (a1 : Int32) (S : gSt) : Option (gSt) := if a1 = 0 then (gC (gIsRu (gN (gR S 31 2))) (gC (gIn 0 3) (gBp (fX5_setGuests (gN (gR S 31 2)) (gR S 87 (gN 0)) S) (fun S_1 => fX4_tell_L274 S_1)))) else (if a1 = 1 then (gC (gIsRu (gN (gR S 31 2))) (gC (gIn 0 3) (gC (gIn 1 3) (gBp (fX5_setHat (gN (gR S 31 2)) (gR S 87 (gN 0)) (gR S 87 (gN 1)) S) (fun S_2 => fX4_tell_L274 S_2))))) else (if a1 = 2 then (gC (gIsRu (gN (gR S 31 2))) (gC (gIn 0 3) (gBp (fX5_setLaw (gN (gR S 31 2)) 0 (gR S 87 (gN 0)) S) (fun S_3 => fX4_tell_L274 S_3)))) else (if a1 = 3 then (gC (gIsRu (gN (gR S 31 2))) (gC (gIn 0 3) (gBp (fX5_setLaw (gN (gR S 31 2)) 1 (gR S 87 (gN 0)) S) (fun S_4 => fX4_tell_L274 S_4)))) else (if a1 = 4 then (gC (gIsRu (gN (gR S 31 2))) (gC (gIn 0 3) (gBp (fX5_setLaw (gN (gR S 31 2)) 2 (gR S 87 (gN 0)) S) (fun S_5 => fX4_tell_L274 S_5)))) else (if a1 = 5 then (gC (gIsRu (gN (gR S 31 2))) (gBp (fX5_setLaw (gN (gR S 31 2)) 3 1 S) (fun S_6 => fX4_tell_L274 S_6))) else (if a1 = 6 then (gC (gIsRu (gN (gR S 31 2))) (gBp (fX5_setLaw (gN (gR S 31 2)) 4 1 S) (fun S_7 => fX4_tell_L274 S_7))) else (if a1 = 7 then (gC (gIsRu (gN (gR S 31 2))) (gC (gIn 0 3) (gC (gIn 1 3) (gBp (fX5_putTogether (gN (gR S 31 2)) (gR S 87 (gN 0)) (gR S 87 (gN 1)) S) (fun S_8 => fX4_tell_L274 S_8))))) else (if a1 = 8 then (gC (gIsRu (gN (gR S 31 2))) (gC (gIn 0 3) (gC (gIn 1 3) (gBp (fX5_putApart (gN (gR S 31 2)) (gR S 87 (gN 0)) (gR S 87 (gN 1)) S) (fun S_9 => fX4_tell_L274 S_9))))) else (if a1 = 9 then (gC (gIsRu (gN (gR S 31 2))) (gC (gIn 0 3) (gC (gIn 1 3) (gC (gIn 2 3) (gBp (fX5_setWorth (gN (gR S 31 2)) (gR S 87 (gN 0)) (gR S 87 (gN 1)) (gR S 87 (gN 2)) S) (fun S_10 => fX4_tell_L274 S_10)))))) else (if a1 = 10 then (gC (gIsRu (gN (gR S 31 2))) (gC (gIn 0 3) (gC (gIn 1 3) (gC (gIn 2 3) (gBp (fX5_setWorth (gN (gR S 31 2)) (gR S 87 (gN 0)) (gR S 87 (gN 1)) (-(gR S 87 (gN 2))) S) (fun S_11 => fX4_tell_L274 S_11)))))) else (fX4_tell_L274 S)))))))))))
/-! X4_readInto -/
def fX4_readInto_L23 (a1 : Nat) : Nat → Int32 → gSt → Option (Int32 × gSt)
  | 0, _, _ => none
  | n + 1, x2, S => if (gR S 31 4) = 13 then (some (x2, S)) else (if 300 ≤ x2 then (some (x2, S)) else (gL (gR S 31 4) (fun v_1 => gBp (fX4_mayBegin v_1 x2 S) (fun v_2 => if v_2 = 0 then (some (((-10) - (gR S 31 5)), S)) else (gBd (fX4_readNumbers v_1 S) (fun v_3 S_4 => if v_3 = 0 then (some (((-10) - (gR S_4 31 5)), S_4)) else (gBd (fX4_readSemicolon S_4) (fun v_5 S_6 => if v_5 = 0 then (some (((-10) - (gR S_6 31 5)), S_6)) else (gBp (fX4_tell v_1 S_6) (fun S_7 => gBp (fX4_advance S_7) (fun S_8 => fX4_readInto_L23 a1 n (x2 + 1) S_8)))))))))))
def fX4_readInto (a1 : Nat) (S : gSt) : Option (Int32 × gSt) := gL (gW S 31 2 (nI a1)) (fun S_1 => gC (gIsRu (gN (gR S_1 31 2))) (gBp (fX5_reset (gN (gR S_1 31 2)) S_1) (fun S_2 => gL (gW S_2 31 3 0) (fun S_3 => gBp (fX4_advance S_3) (fun S_4 => fX4_readInto_L23 a1 gFU 0 S_4)))))
/-! X10_type -/
def fX10_type_L32 : Nat → Int64 → Int32 → gSt → Option (Int32 × gSt)
  | 0, _, _, _ => none
  | n + 1, x1, x4, S => if x4 < 0 then (gBp (fX8_length S) (fun v_1 => some (v_1, S))) else (gBp (fX8_append ((((x1.toUInt64 >>> ((8 * x4).toInt64.toUInt64 &&& Int64.toUInt64 63)).toInt64).toInt32) &&& 255) S) (fun S_2 => fX10_type_L32 n x1 (x4 + (-1)) S_2))
def fX10_type (a1 : Int64) (a3 : Int32) (S : gSt) : Option (Int32 × gSt) := if a3 < 1 then (some ((-1), S)) else (if a3 ≤ 8 then (gBp (fX8_hasSpaceFor a3 S) (fun v_1 => if v_1 = 0 then (some ((-3), S)) else (gL (a3 - 1) (fun v_2 => fX10_type_L32 gFU a1 v_2 S)))) else (some ((-1), S)))
/-! X10_clear -/
def fX10_clear (S : gSt) : Option (Int32 × gSt) := gBp (fX8_length S) (fun v_1 => gBp (fX8_empty S) (fun S_2 => some (v_1, S_2)))
/-! X10_room -/
def fX10_room (S : gSt) : Option (Int32 × gSt) := gC (gIsRu (gN (gR S 0 1))) (gBd (fX4_readInto (gN (gR S 0 1)) S) (fun v_1 S_2 => if 0 ≤ v_1 then (gC (gIsRu (gN (gR S_2 0 0))) (gC (gIsRu (gN (gR S_2 0 1))) (gL (gW S_2 0 0 (nI (gN (gR S_2 0 1)))) (fun S_3 => gL (gW S_3 0 1 (nI (gN (gR S_2 0 0)))) (fun S_4 => gBp (fX8_empty S_4) (fun S_5 => gC (gIsRu (gN (gR S_5 0 0))) (gBp (fX5_guests (gN (gR S_5 0 0)) S_5) (fun v_6 => gBp (fX7_scatter 36 v_6 S_5) (fun S_7 => gBp (fX6_empty 40 S_7) (fun S_8 => gBp (fX1_drop 45 S_8) (fun S_9 => gBp (fX1_drop 54 S_9) (fun S_10 => gC (gIsRu (gN (gR S_10 0 0))) (gBp (fX9_obey (gN (gR S_10 0 0)) S_10) (fun S_11 => some (v_1, S_11))))))))))))))) else (some (v_1, S_2))))
/-! X10_law -/
def fX10_law (a1 : Int32) (S : gSt) : Option (Int32) := if a1 < 0 then (some (-1)) else (if 5 ≤ a1 then (some (-1)) else (gC (gIsRu (gN (gR S 0 0))) (gBp (fX5_lawOf (gN (gR S 0 0)) a1 S) (fun v_1 => some v_1))))
/-! X10_isGuest -/
def fX10_isGuest (a1 : Int32) (S : gSt) : Option (Int32) := if a1 < 0 then (some 0) else (gC (gIsRu (gN (gR S 0 0))) (gBp (fX5_guests (gN (gR S 0 0)) S) (fun v_1 => if v_1 ≤ a1 then (some 0) else (some 1))))
/-! X10_areTwoGuests -/
def fX10_areTwoGuests (a1 : Int32) (a2 : Int32) (S : gSt) : Option (Int32) := gBp (fX10_isGuest a1 S) (fun v_1 => if v_1 = 0 then (some 0) else (gBp (fX10_isGuest a2 S) (fun v_2 => if v_2 = 0 then (some 0) else (if a1 = a2 then (some 0) else (some 1)))))
/-! X10_pair -/
def fX10_pair (a1 : Int32) (a2 : Int32) (a3 : Int32) (S : gSt) : Option (Int32) := gBp (fX10_areTwoGuests a1 a2 S) (fun v_1 => if v_1 = 0 then (some (-1000000)) else (if a3 = 0 then (gC (gIsRu (gN (gR S 0 0))) (gBp (fX5_areTogether (gN (gR S 0 0)) a1 a2 S) (fun v_2 => if v_2 = 0 then (some 0) else (some 1)))) else (if a3 = 1 then (gC (gIsRu (gN (gR S 0 0))) (gBp (fX5_areApart (gN (gR S 0 0)) a1 a2 S) (fun v_3 => if v_3 = 0 then (some 0) else (some 1)))) else (if a3 = 2 then (gC (gIsRu (gN (gR S 0 0))) (gBp (fX5_worthOf (gN (gR S 0 0)) a1 a2 S) (fun v_4 => some v_4))) else (some (-1000000))))))
/-! X10_party -/
def fX10_party (a1 : Int32) (S : gSt) : Option (Int32) := gBp (fX10_isGuest a1 S) (fun v_1 => if v_1 = 0 then (some (-1)) else (gBp (fX7_partyOf 36 a1 S) (fun v_2 => some v_2)))
/-! X10_goes -/
def fX10_goes_L58 (x1 : Int32) (x2 : Int32) (s0 : Int32) (S : gSt) : Option (Int32 × gSt) := if s0 = 0 then (gBp (fX7_sendTo 36 x1 x2 S) (fun S_1 => gBp (fX7_partyOf 36 x1 S_1) (fun v_2 => some (v_2, S_1)))) else (some ((-2), S))
def fX10_goes (a1 : Int32) (a2 : Int32) (S : gSt) : Option (Int32 × gSt) := gBp (fX10_isGuest a1 S) (fun v_1 => if v_1 = 0 then (some ((-1), S)) else (gBp (fX10_isGuest a2 S) (fun v_2 => if v_2 = 0 then (some ((-1), S)) else (if a1 = a2 then (gBp (fX7_isAlone 36 a1 S) (fun v_5 => fX10_goes_L58 a1 a2 v_5 S)) else (gBp (fX7_partyOf 36 a1 S) (fun v_3 => gBp (fX7_partyOf 36 a2 S) (fun v_4 => if v_3 = v_4 then (fX10_goes_L58 a1 a2 1 S) else (fX10_goes_L58 a1 a2 0 S))))))))
/-! X10_isParty -/
def fX10_isParty (a1 : Int32) (S : gSt) : Option (Int32) := if a1 < 0 then (some 0) else (gBp (fX7_parties 36 S) (fun v_1 => if v_1 ≤ a1 then (some 0) else (some 1)))
/-! X10_join -/
def fX10_join (a1 : Int32) (a2 : Int32) (S : gSt) : Option (Int32 × gSt) := gBp (fX10_isParty a1 S) (fun v_1 => if v_1 = 0 then (some ((-1), S)) else (gBp (fX10_isParty a2 S) (fun v_2 => if v_2 = 0 then (some ((-1), S)) else (if a1 = a2 then (some ((-1), S)) else (gBp (fX7_merge 36 a1 a2 S) (fun S_3 => gBp (fX7_parties 36 S_3) (fun v_4 => some (v_4, S_3))))))))
/-! X10_part -/
def fX10_part (a1 : Int32) (a2 : Int32) (S : gSt) : Option (Int32 × gSt) := gBp (fX10_isParty a1 S) (fun v_1 => if v_1 = 0 then (some ((-1), S)) else (gBp (fX7_setOf 36 a1 S) (fun v_2 => if a2 = 0 then (some ((-2), S)) else (if a2 = v_2 then (some ((-2), S)) else (if (a2 &&& (v_2 ^^^ (-1))) = 0 then (gBp (fX7_splitOff 36 a2 S) (fun S_3 => gBp (fX7_parties 36 S_3) (fun v_4 => some (v_4, S_3)))) else (some ((-2), S)))))))
/-! X10_now -/
def fX10_now (a1 : Int32) (S : gSt) : Option (Int32 × gSt) := if a1 = 0 then (gBp (fX7_parties 36 S) (fun v_1 => some (v_1, S))) else (if a1 = 1 then (gBp (fX7_code 36 S) (fun v_2 => gBd (fX9_placeOf v_2 S) (fun v_3 S_4 => if v_3 = (-9) then (some (0, S_4)) else (some (1, S_4))))) else (if a1 = 2 then (gC (gIsRu (gN (gR S 0 0))) (gBp (fX5_worthOfAll (gN (gR S 0 0)) 36 S) (fun v_5 => some (v_5, S)))) else (if a1 = 3 then (gBp (fX7_loners 36 S) (fun v_6 => some (v_6, S))) else (some ((-1000000), S)))))
/-! X10_many -/
def fX10_many (a1 : Int32) (S : gSt) : Option (Int32 × gSt) := if a1 < 0 then (some ((-1), S)) else (if a1 ≤ 8 then (if a1 = 0 then (gBd (fX9_total S) (fun v_3 S_4 => some (v_3, S_4))) else (gBd (fX9_totalWith a1 S) (fun v_1 S_2 => some (v_1, S_2)))) else (some ((-1), S)))
/-! X10_rank -/
def fX10_rank (S : gSt) : Option (Int32 × gSt) := gBp (fX7_code 36 S) (fun v_1 => gBd (fX9_placeOf v_1 S) (fun v_2 S_3 => some (v_2, S_3)))
/-! X10_nth -/
def fX10_nth (a1 : Int32) (a2 : Int32) (S : gSt) : Option (Int32 × gSt) := if a1 < 0 then (some ((-1), S)) else (gBp (fX10_isGuest a2 S) (fun v_1 => if v_1 = 0 then (some ((-1), S)) else (gBd (fX9_total S) (fun v_2 S_3 => if v_2 ≤ a1 then (some ((-5), S_3)) else (gBd (fX9_codeAt a1 S_3) (fun v_4 S_5 => gBp (fX7_partyIn v_4 a2 S_5) (fun v_6 => some (v_6, S_5))))))))
/-! X10_draw -/
def fX10_draw (S : gSt) : Option (Int32 × gSt) := gBd (fX9_total S) (fun v_1 S_2 => if v_1 = 0 then (some ((-2), S_2)) else (gBd (fX9_total S_2) (fun v_3 S_4 => gBd (fX2_nextBelow v_3 S_4) (fun v_5 S_6 => gBd (fX9_codeAt v_5 S_6) (fun v_7 S_8 => gBp (fX7_standAs 36 v_7 S_8) (fun S_9 => some (v_5, S_9)))))))
/-! X10_lot -/
def fX10_lot (a1 : Int32) (S : gSt) : Option (Int32 × gSt) := gBp (fX2_value S) (fun v_1 => gBp (fX2_become a1 S) (fun S_2 => some (v_1, S_2)))
/-! X10_saw -/
def fX10_saw_L49 (s1 : Int32) (s2 : Int32) (s3 : Int32) (S : gSt) : Option (Int32 × gSt) := gBp (fX6_add 40 s1 s2 s3 S) (fun S_1 => gBp (fX6_size 40 S_1) (fun v_2 => some (v_2, S_1)))
def fX10_saw (a1 : Int32) (a2 : Int32) (a3 : Int32) (S : gSt) : Option (Int32 × gSt) := gBp (fX10_areTwoGuests a1 a2 S) (fun v_1 => if v_1 = 0 then (some ((-1), S)) else (if a3 < 0 then (some ((-1), S)) else (if a3 ≤ 1 then (gBp (fX6_areFull 40 S) (fun v_2 => if v_2 = 0 then (if a3 = 1 then (fX10_saw_L49 a1 a2 1 S) else (fX10_saw_L49 a1 a2 0 S)) else (some ((-3), S)))) else (some ((-1), S)))))
/-! X10_forget -/
def fX10_forget (S : gSt) : Option (Int32 × gSt) := gBp (fX6_size 40 S) (fun v_1 => gBp (fX6_empty 40 S) (fun S_2 => some (v_1, S_2)))
/-! X10_left -/
def fX10_left (S : gSt) : Option (Int32 × gSt) := gBd (fX9_fitting 40 S) (fun v_1 S_2 => some (v_1, S_2))
/-! X10_sure -/
def fX10_sure (a1 : Int32) (a2 : Int32) (S : gSt) : Option (Int32 × gSt) := gBp (fX10_areTwoGuests a1 a2 S) (fun v_1 => if v_1 = 0 then (some ((-1), S)) else (gBd (fX9_certain 40 a1 a2 S) (fun v_2 S_3 => some (v_2, S_3))))
/-! X10_isImage -/
def fX10_isImage (a0 : Int32) (S : gSt) : Option (Int32) := if a0 = 0 then (some 1) else (if a0 = 1 then (some 1) else (some 0))
/-! X10_imageOf -/
def fX10_imageOf (a1 : Int32) (S : gSt) : Option (Nat) := if a1 = 0 then (some 45) else (some 54)
/-! X10_two -/
def fX10_two (a1 : Int32) (a2 : Int32) (a3 : Int32) (S : gSt) : Option (Int32 × gSt) := gBp (fX10_isImage a1 S) (fun v_1 => if v_1 = 0 then (some ((-1), S)) else (if a2 < 0 then (some ((-1), S)) else (if 1 < a2 then (some ((-1), S)) else (gBp (fX10_isGuest a3 S) (fun v_2 => if v_2 = 0 then (some ((-1), S)) else (gBp (fX10_imageOf a1 S) (fun q_3 => gC (gIsIm q_3) (gBp (fX1_isKept q_3 S) (fun v_4 => if v_4 = 0 then (some ((-2), S)) else (gBp (fX1_standing q_3 S) (fun q_5 => gC (gIsSt q_5) (gBp (fX3_compare 36 q_5 S) (fun S_6 => if a2 = 0 then (gBp (fX3_finer S_6) (fun q_9 => gC (gIsSt q_9) (gBp (fX7_partyOf q_9 a3 S_6) (fun v_10 => some (v_10, S_6))))) else (gBp (fX3_coarser S_6) (fun q_7 => gC (gIsSt q_7) (gBp (fX7_partyOf q_7 a3 S_6) (fun v_8 => some (v_8, S_6))))))))))))))))))
/-! X10_between -/
def fX10_between (a1 : Int32) (S : gSt) : Option (Int32 × gSt) := gBp (fX10_isImage a1 S) (fun v_1 => if v_1 = 0 then (some ((-1), S)) else (gBp (fX10_imageOf a1 S) (fun q_2 => gC (gIsIm q_2) (gBp (fX1_isKept q_2 S) (fun v_3 => if v_3 = 0 then (some ((-2), S)) else (gBp (fX1_standing q_2 S) (fun q_4 => gC (gIsSt q_4) (gBp (fX3_compare 36 q_4 S) (fun S_5 => gBp (fX3_standingsWithin S_5) (fun v_6 => some (v_6, S_5)))))))))))
/-! X10_fewest -/
def fX10_fewest (a1 : Int32) (S : gSt) : Option (Int32) := gBp (fX10_isImage a1 S) (fun v_1 => if v_1 = 0 then (some (-1)) else (gBp (fX10_imageOf a1 S) (fun q_2 => gC (gIsIm q_2) (gBp (fX1_isKept q_2 S) (fun v_3 => if v_3 = 0 then (some (-2)) else (gBp (fX1_standing q_2 S) (fun q_4 => gC (gIsSt q_4) (gBp (fX3_fewestGoings 36 q_4 S) (fun v_5 => some v_5)))))))))
/-! X10_best -/
def fX10_best (a1 : Int32) (S : gSt) : Option (Int32 × gSt) := if a1 < (-1) then (some ((-1000000), S)) else (gC (gIsRu (gN (gR S 0 0))) (gBp (fX5_guests (gN (gR S 0 0)) S) (fun v_1 => if v_1 ≤ a1 then (some ((-1000000), S)) else (gBd (fX9_total S) (fun v_2 S_3 => if v_2 = 0 then (some ((-1000000), S_3)) else (if a1 = (-1) then (gBd (fX9_greatestWorth S_3) (fun v_7 S_8 => some (v_7, S_8))) else (gBd (fX9_worthiestCode S_3) (fun v_4 S_5 => gBp (fX7_partyIn v_4 a1 S_5) (fun v_6 => some (v_6, S_5))))))))))
/-! X10_leaving -/
def fX10_leaving (a1 : Int32) (S : gSt) : Option (Int32 × gSt) := if a1 < (-1) then (some ((-1), S)) else (gC (gIsRu (gN (gR S 0 0))) (gBp (fX5_guests (gN (gR S 0 0)) S) (fun v_1 => if a1 < v_1 then (gC (gIsRu (gN (gR S 0 0))) (gBp (fX0_run (gN (gR S 0 0)) 36 S) (fun S_2 => if a1 < 0 then (gBp (fX0_hasStopped S_2) (fun v_3 => if v_3 = 0 then (some ((-9), S_2)) else (gBp (fX0_goings S_2) (fun v_4 => some (v_4, S_2))))) else (gBp (fX0_standing S_2) (fun q_5 => gC (gIsSt q_5) (gBp (fX7_partyOf q_5 a1 S_2) (fun v_6 => some (v_6, S_2)))))))) else (some ((-1), S)))))
/-! X10_evening -/
def fX10_evening_L26 : Nat → Int32 → Int32 → Int32 → Int32 → gSt → Option (Int32 × gSt)
  | 0, _, _, _, _, _ => none
  | n + 1, x1, x2, x3, x4, S => if x1 ≤ x4 then (some (x3, S)) else (gBd (fX2_nextBelow x2 S) (fun v_1 S_2 => gBd (fX2_nextBelow x2 S_2) (fun v_3 S_4 => gBp (fX7_sendTo 36 v_1 v_3 S_4) (fun S_5 => gBp (fX7_loners 36 S_5) (fun v_6 => if v_6 ≤ 0 then (fX10_evening_L26 n x1 x2 x3 (x4 + 1) S_5) else (fX10_evening_L26 n x1 x2 (x3 + 1) (x4 + 1) S_5))))))
def fX10_evening (a1 : Int32) (S : gSt) : Option (Int32 × gSt) := if a1 < 1 then (some ((-1), S)) else (if a1 ≤ 99 then (gC (gIsRu (gN (gR S 0 0))) (gBp (fX5_guests (gN (gR S 0 0)) S) (fun v_1 => fX10_evening_L26 gFU a1 v_1 0 0 S))) else (some ((-1), S)))
/-! X10_rateAsGuest -/
def fX10_rateAsGuest (a1 : Int32) (S : gSt) : Option (Int32 × gSt) := gL (gWL S 0 ((gRL S 0) + 1)) (fun S_1 => gBp (fX7_partyOf 36 a1 S_1) (fun v_2 => gBp (fX7_setOf 36 v_2 S_1) (fun v_3 => gBp (fJ6_bitCount_0f7a4 v_3 S_1) (fun v_4 => some (v_4, S_1)))))
/-! X10_rateAsTalker -/
def fX10_rateAsTalker (a1 : Int32) (S : gSt) : Option (Int32 × gSt) := gL (gWL S 0 ((gRL S 0) + 10)) (fun S_1 => gBd (fX10_rateAsGuest a1 S_1) (fun v_2 S_3 => gC (gIsRu (gN (gR S_3 0 0))) (gBp (fX7_partyOf 36 a1 S_3) (fun v_4 => gBp (fX7_setOf 36 v_4 S_3) (fun v_5 => gBp (fX5_worthWith (gN (gR S_3 0 0)) a1 v_5 S_3) (fun v_6 => some ((v_2 + v_6), S_3)))))))
/-! X10_rateAsListener -/
def fX10_rateAsListener (a1 : Int32) (S : gSt) : Option (Int32 × gSt) := gL (gWL S 0 ((gRL S 0) + 100)) (fun S_1 => gBd (fX10_rateAsGuest a1 S_1) (fun v_2 S_3 => gC (gIsRu (gN (gR S_3 0 0))) (gBp (fX5_hatOf (gN (gR S_3 0 0)) a1 S_3) (fun v_4 => some ((v_2 - v_4), S_3)))))
/-! X10_rateAsSinger -/
def fX10_rateAsSinger (a1 : Int32) (S : gSt) : Option (Int32 × gSt) := gL (gWL S 0 ((gRL S 0) + 1000)) (fun S_1 => gBd (fX10_rateAsTalker a1 S_1) (fun v_2 S_3 => some ((2 * v_2), S_3)))
/-! X10_rateAsDog -/
def fX10_rateAsDog (a1 : Int32) (S : gSt) : Option (Int32 × gSt) := gL (gWL S 0 ((gRL S 0) + 10000)) (fun S_1 => gBd (fX10_rateAsListener a1 S_1) (fun v_2 S_3 => gBp (fX7_partyOf 36 a1 S_3) (fun v_4 => some ((v_2 + v_4), S_3))))
/-! X10_rateAsHostess -/
def fX10_rateAsHostess (a1 : Int32) (S : gSt) : Option (Int32 × gSt) := gL (gWL S 0 ((gRL S 0) + 100000)) (fun S_1 => gBd (fX10_rateAsGuest a1 S_1) (fun v_2 S_3 => gBp (fX7_parties 36 S_3) (fun v_4 => some ((v_2 + v_4), S_3))))
/-! X10_rate -/
def fX10_rate (a1 : Int32) (a2 : Int32) (S : gSt) : Option (Int32 × gSt) := gBp (fX10_isGuest a2 S) (fun v_1 => if v_1 = 0 then (some ((-1000000), S)) else (if a1 = 0 then (gBd (fX10_rateAsGuest a2 S) (fun v_2 S_3 => some (v_2, S_3))) else (if a1 = 1 then (gBd (fX10_rateAsTalker a2 S) (fun v_4 S_5 => some (v_4, S_5))) else (if a1 = 2 then (gBd (fX10_rateAsListener a2 S) (fun v_6 S_7 => some (v_6, S_7))) else (if a1 = 3 then (gBd (fX10_rateAsSinger a2 S) (fun v_8 S_9 => some (v_8, S_9))) else (if a1 = 4 then (gBd (fX10_rateAsDog a2 S) (fun v_10 S_11 => some (v_10, S_11))) else (if a1 = 5 then (gBd (fX10_rateAsHostess a2 S) (fun v_12 S_13 => some (v_12, S_13))) else (some ((-1000000), S)))))))))
/-! X10_keep -/
def fX10_keep (a1 : Int32) (S : gSt) : Option (Int32 × gSt) := gBp (fX10_isImage a1 S) (fun v_1 => if v_1 = 0 then (some ((-1), S)) else (gBp (fX10_imageOf a1 S) (fun q_2 => gC (gIsIm q_2) (gBp (fX1_take q_2 36 40 S) (fun S_3 => gBp (fX7_parties 36 S_3) (fun v_4 => some (v_4, S_3)))))))
/-! X10_back -/
def fX10_back (a1 : Int32) (S : gSt) : Option (Int32 × gSt) := gBp (fX10_isImage a1 S) (fun v_1 => if v_1 = 0 then (some ((-1), S)) else (gBp (fX10_imageOf a1 S) (fun q_2 => gC (gIsIm q_2) (gBp (fX1_isKept q_2 S) (fun v_3 => if v_3 = 0 then (some ((-2), S)) else (gBp (fX1_giveBack q_2 36 40 S) (fun S_4 => gBp (fX7_parties 36 S_4) (fun v_5 => some (v_5, S_4)))))))))
/-! X10_count -/
def fX10_count (a1 : Int32) (S : gSt) : Option (Int32) := if a1 = 0 then (gC (gIsRu (gN (gR S 0 0))) (gBp (fX5_guests (gN (gR S 0 0)) S) (fun v_1 => some v_1))) else (if a1 = 1 then (gBp (fX6_size 40 S) (fun v_2 => some v_2)) else (if a1 = 2 then (gC (gIsRu (gN (gR S 0 0))) (gBp (fX5_pairsTogether (gN (gR S 0 0)) S) (fun v_3 => some v_3))) else (if a1 = 3 then (gC (gIsRu (gN (gR S 0 0))) (gBp (fX5_pairsApart (gN (gR S 0 0)) S) (fun v_4 => some v_4))) else (if a1 = 4 then (gBp (fX8_length S) (fun v_5 => some v_5)) else (some (-1))))))
/-! X10_trace -/
def fX10_trace (S : gSt) : Option (Int64) := some (gRL S 0)
/-! X11_in -/
def fX11_in (a0 : Int32) (a1 : Int32) (a2 : Int32) (S : gSt) : Option (Int32) := if a0 < a1 then (some 0) else (if a2 < a0 then (some 0) else (some 1))
/-! X11_type -/
def fX11_type_L37 : Nat → Int64 → Int32 → gSt → Option (Int32 × gSt)
  | 0, _, _, _ => none
  | n + 1, x1, x4, S => if x4 < 0 then (some (gR S 77 3, S)) else (gC (gIn (gR S 77 3) 300) (gL (gW S 78 (gN (gR S 77 3)) (((x1 >>> ((8 * x4).toInt64 &&& 63)) &&& 255).toInt32)) (fun S_1 => gL (gW S_1 77 3 ((gR S_1 77 3) + 1)) (fun S_2 => fX11_type_L37 n x1 (x4 + (-1)) S_2))))
def fX11_type (a1 : Int64) (a3 : Int32) (S : gSt) : Option (Int32 × gSt) := gL (gW S 77 0 0) (fun S_1 => gBp (fX11_in a3 1 8 S_1) (fun v_2 => if v_2 = 0 then (some ((-1), S_1)) else (if ((gR S_1 77 3) + a3) ≤ 300 then (gL (a3 - 1) (fun v_3 => fX11_type_L37 gFU a1 v_3 S_1)) else (some ((-3), S_1)))))
/-! X11_clear -/
def fX11_clear (S : gSt) : Option (Int32 × gSt) := gL (gW S 77 0 0) (fun S_1 => gL (gR S_1 77 3) (fun v_2 => gL (gW S_1 77 3 0) (fun S_3 => some (v_2, S_3))))
/-! X11_byteAt -/
def fX11_byteAt (a1 : Int32) (S : gSt) : Option (Int32) := if (gR S 77 3) ≤ a1 then (some (-1)) else (gC (gIn a1 300) (some (gR S 78 (gN a1))))
/-! X11_add -/
def fX11_add (a0 : Int64) (a2 : Int32) (S : gSt) : Option (Int64) := if a2 = 0 then (some a0) else (some ((256 * a0) + a2.toInt64))
/-! X11_named -/
def fX11_named (a0 : Int32) (a1 : Int32) (a2 : Int32) (a3 : Int32) (a4 : Int32) (a5 : Int32) (S : gSt) : Option (Int64) := gBp (fX11_add 0 a0 S) (fun v_1 => gBp (fX11_add v_1 a1 S) (fun v_2 => gBp (fX11_add v_2 a2 S) (fun v_3 => gBp (fX11_add v_3 a3 S) (fun v_4 => gBp (fX11_add v_4 a4 S) (fun v_5 => gBp (fX11_add v_5 a5 S) (fun v_6 => some v_6))))))
/-! X11_wordOf -/
def fX11_wordOf_L238 (S : gSt) (x0 : Int64) (s0 : Int32) : Option (Int32) := if s0 = (-9) then (gBp (fX11_named 119 111 114 116 104 0 S) (fun v_1 => if (lg_cmp x0 v_1) = 0 then (some 9) else (gBp (fX11_named 99 111 115 116 0 0 S) (fun v_2 => if (lg_cmp x0 v_2) = 0 then (some 10) else (some (-9)))))) else (some s0)
def fX11_wordOf_L156 (S : gSt) (x0 : Int64) (s0 : Int32) : Option (Int32) := if s0 = (-9) then (gBp (fX11_named 117 110 108 105 107 101 S) (fun v_1 => if (lg_cmp x0 v_1) = 0 then (fX11_wordOf_L238 S x0 5) else (gBp (fX11_named 114 105 110 103 0 0 S) (fun v_2 => if (lg_cmp x0 v_2) = 0 then (fX11_wordOf_L238 S x0 6) else (gBp (fX11_named 97 112 97 114 116 0 S) (fun v_3 => if (lg_cmp x0 v_3) = 0 then (fX11_wordOf_L238 S x0 8) else (fX11_wordOf_L238 S x0 (-9)))))))) else (some s0)
def fX11_wordOf (a0 : Int64) (S : gSt) : Option (Int32) := gBp (fX11_named 112 97 114 116 105 101 S) (fun v_1 => gBp (fX11_add v_1 115 S) (fun v_2 => gBp (fX11_add v_2 0 S) (fun v_3 => if (lg_cmp a0 v_3) = 0 then (some 2) else (gBp (fX11_named 116 111 103 101 116 104 S) (fun v_4 => gBp (fX11_add v_4 101 S) (fun v_5 => gBp (fX11_add v_5 114 S) (fun v_6 => if (lg_cmp a0 v_6) = 0 then (some 7) else (gBp (fX11_named 103 117 101 115 116 115 S) (fun v_7 => if (lg_cmp a0 v_7) = 0 then (fX11_wordOf_L156 S a0 0) else (gBp (fX11_named 104 97 116 0 0 0 S) (fun v_8 => if (lg_cmp a0 v_8) = 0 then (fX11_wordOf_L156 S a0 1) else (gBp (fX11_named 108 101 97 115 116 0 S) (fun v_9 => if (lg_cmp a0 v_9) = 0 then (fX11_wordOf_L156 S a0 3) else (gBp (fX11_named 109 111 115 116 0 0 S) (fun v_10 => if (lg_cmp a0 v_10) = 0 then (fX11_wordOf_L156 S a0 4) else (fX11_wordOf_L156 S a0 (-9)))))))))))))))))
/-! X11_advances -/
def fX11_advances_L194 : Nat → Int32 → gSt → Option (gSt)
  | 0, _, _ => none
  | n + 1, x1, S => gBp (fX11_byteAt (gR S 77 4) S) (fun v_1 => gBp (fX11_in v_1 48 57 S) (fun v_2 => if v_2 = 0 then (if 99 < (gR S 77 7) then (gL (gW S 77 5 4) (fun S_3 => some S_3)) else (if x1 = 48 then (if ((gR S 77 4) - (gR S 77 6)) ≤ 1 then (gL (gW S 77 5 2) (fun S_5 => some S_5)) else (gL (gW S 77 5 4) (fun S_6 => some S_6))) else (gL (gW S 77 5 2) (fun S_4 => some S_4)))) else (if (gR S 77 7) ≤ 99 then (gBp (fX11_byteAt (gR S 77 4) S) (fun v_7 => gL (gW S 77 7 (((10 * (gR S 77 7)) + v_7) - 48)) (fun S_8 => gL (gW S_8 77 4 ((gR S_8 77 4) + 1)) (fun S_9 => fX11_advances_L194 n x1 S_9)))) else (gL (gW S 77 7 (gR S 77 7)) (fun S_10 => gL (gW S_10 77 4 ((gR S_10 77 4) + 1)) (fun S_11 => fX11_advances_L194 n x1 S_11))))))
def fX11_advances_L154 (s1 : Int32) (S : gSt) : Option (gSt) := gL (gW S 77 7 s1) (fun S_1 => if (gR S_1 77 7) = (-9) then (gL (gW S_1 77 5 4) (fun S_3 => some S_3)) else (gL (gW S_1 77 5 1) (fun S_2 => some S_2)))
def fX11_advances_L68 : Nat → Int64 → gSt → Option (gSt)
  | 0, _, _ => none
  | n + 1, x2, S => gBp (fX11_byteAt (gR S 77 4) S) (fun v_1 => gBp (fX11_in v_1 97 122 S) (fun v_2 => if v_2 = 0 then (if ((gR S 77 4) - (gR S 77 6)) ≤ 8 then (gBp (fX11_wordOf x2 S) (fun v_3 => fX11_advances_L154 v_3 S)) else (fX11_advances_L154 (-9) S)) else (if 8 ≤ ((gR S 77 4) - (gR S 77 6)) then (gL (gW S 77 4 ((gR S 77 4) + 1)) (fun S_4 => fX11_advances_L68 n x2 S_4)) else (gBp (fX11_byteAt (gR S 77 4) S) (fun v_5 => gBp (fX11_add x2 v_5 S) (fun v_6 => gL (gW S 77 4 ((gR S 77 4) + 1)) (fun S_7 => fX11_advances_L68 n v_6 S_7)))))))
def fX11_advances_L0 : Nat → gSt → Option (gSt)
  | 0, _ => none
  | n + 1, S => gBp (fX11_byteAt (gR S 77 4) S) (fun v_1 => if v_1 = 32 then (gL (gW S 77 4 ((gR S 77 4) + 1)) (fun S_11 => fX11_advances_L0 n S_11)) else (gL (gW S 77 6 (gR S 77 4)) (fun S_2 => gBp (fX11_byteAt (gR S_2 77 4) S_2) (fun v_3 => if 0 ≤ v_3 then (gBp (fX11_in v_3 97 122 S_2) (fun v_4 => if v_4 = 0 then (gBp (fX11_in v_3 48 57 S_2) (fun v_5 => if v_5 = 0 then (gL (gW S_2 77 4 ((gR S_2 77 4) + 1)) (fun S_6 => if v_3 = 59 then (gL (gW S_6 77 5 3) (fun S_8 => some S_8)) else (gL (gW S_6 77 5 4) (fun S_7 => some S_7)))) else (gL (gW S_2 77 7 0) (fun S_9 => fX11_advances_L194 gFU v_3 S_9)))) else (fX11_advances_L68 gFU 0 S_2))) else (gL (gW S_2 77 5 0) (fun S_10 => some S_10))))))
def fX11_advances (S : gSt) : Option (gSt) := fX11_advances_L0 gFU S
/-! X11_isWell -/
def fX11_isWell (S : gSt) : Option (Int32) := if 0 ≤ (gR S 77 8) then (some 0) else (some 1)
/-! X11_takes -/
def fX11_takes (a1 : Int32) (S : gSt) : Option (Int32 × gSt) := gBp (fX11_isWell S) (fun v_1 => if v_1 = 0 then (some (0, S)) else (if a1 = 0 then (gL (gW S 77 8 (gR S 77 6)) (fun S_4 => some (0, S_4))) else (gL (gR S 77 7) (fun v_2 => gBp (fX11_advances S) (fun S_3 => some (v_2, S_3))))))
/-! X11_number -/
def fX11_number_L26 (s1 : Int32) (S : gSt) : Option (Int32 × gSt) := gBd (fX11_takes s1 S) (fun v_1 S_2 => some (v_1, S_2))
def fX11_number (a1 : Int32) (a2 : Int32) (S : gSt) : Option (Int32 × gSt) := if (gR S 77 5) = 2 then (gBp (fX11_in (gR S 77 7) a1 a2 S) (fun v_1 => if v_1 = 0 then (fX11_number_L26 0 S) else (fX11_number_L26 1 S))) else (fX11_number_L26 0 S)
/-! X11_drafts -/
def fX11_drafts_L2 : Nat → Int32 → Int32 → gSt → Option (gSt)
  | 0, _, _, _ => none
  | n + 1, x1, x2, S => if 94 ≤ x2 then (gC (gIn 94 188) (gL (gW S 79 (gN 94) x1) (fun S_1 => some S_1))) else (gC (gIn (94 + x2) 188) (gL (gW S 79 (gN (94 + x2)) 0) (fun S_2 => fX11_drafts_L2 n x1 (x2 + 1) S_2)))
def fX11_drafts (a1 : Int32) (S : gSt) : Option (gSt) := fX11_drafts_L2 gFU a1 0 S
/-! X11_readsTwo -/
def fX11_readsTwo_L121 (x2 : Int32) (x3 : Int32) (s0 : Int32) (s1 : Int32) (S : gSt) : Option (gSt) := gL (s0 + s1) (fun v_1 => gC (gIn (v_1 + x2) 188) (gC (gIn (v_1 + x2) 188) (gL (gW S 79 (gN (v_1 + x2)) ((gR S 79 (gN (v_1 + x2))) ||| ((1 : Int32) <<< (x3 &&& 31)))) (fun S_2 => gC (gIn (v_1 + x3) 188) (gC (gIn (v_1 + x3) 188) (gL (gW S_2 79 (gN (v_1 + x3)) ((gR S_2 79 (gN (v_1 + x3))) ||| ((1 : Int32) <<< (x2 &&& 31)))) (fun S_3 => some S_3)))))))
def fX11_readsTwo_L106 (x1 : Int32) (x2 : Int32) (x3 : Int32) (S : gSt) : Option (gSt) := if x1 = 7 then (fX11_readsTwo_L121 x2 x3 94 14 S) else (fX11_readsTwo_L121 x2 x3 94 22 S)
def fX11_readsTwo_L184 (x1 : Int32) (x2 : Int32) (x3 : Int32) (x4 : Int32) (s1 : Int32) (s2 : Int32) (S : gSt) : Option (gSt) := gC (gIn s1 188) (gL (gW S 79 (gN s1) s2) (fun S_1 => if x1 = 9 then (gC (gIn ((124 + (8 * x3)) + x2) 188) (gL (gW S_1 79 (gN ((124 + (8 * x3)) + x2)) x4) (fun S_3 => some S_3))) else (gC (gIn ((124 + (8 * x3)) + x2) 188) (gL (gW S_1 79 (gN ((124 + (8 * x3)) + x2)) (-x4)) (fun S_2 => some S_2)))))
def fX11_readsTwo_L84 (x1 : Int32) (x2 : Int32) (x3 : Int32) (s0 : Int32) (S : gSt) : Option (gSt) := gBp (fX11_isWell S) (fun v_1 => if v_1 = 0 then (some S) else (if x1 = 7 then (fX11_readsTwo_L106 x1 x2 x3 S) else (if x1 = 8 then (fX11_readsTwo_L106 x1 x2 x3 S) else (if x1 = 9 then (fX11_readsTwo_L184 x1 x2 x3 s0 ((124 + (8 * x2)) + x3) s0 S) else (fX11_readsTwo_L184 x1 x2 x3 s0 ((124 + (8 * x2)) + x3) (-s0) S)))))
def fX11_readsTwo_L73 (x1 : Int32) (x2 : Int32) (x3 : Int32) (S : gSt) : Option (gSt) := gBd (fX11_number 0 9 S) (fun v_1 S_2 => fX11_readsTwo_L84 x1 x2 x3 v_1 S_2)
def fX11_readsTwo_L57 (x1 : Int32) (x2 : Int32) (s1 : Int32) (S : gSt) : Option (gSt) := gBd (fX11_takes s1 S) (fun v_1 S_2 => if x1 = 9 then (fX11_readsTwo_L73 x1 x2 v_1 S_2) else (if x1 = 10 then (fX11_readsTwo_L73 x1 x2 v_1 S_2) else (fX11_readsTwo_L84 x1 x2 v_1 0 S_2)))
def fX11_readsTwo (a1 : Int32) (S : gSt) : Option (gSt) := gC (gIn 94 188) (gBd (fX11_number 0 ((gR S 79 (gN 94)) - 1) S) (fun v_1 S_2 => if (gR S_2 77 5) = 2 then (gC (gIn 94 188) (gBp (fX11_in (gR S_2 77 7) 0 ((gR S_2 79 (gN 94)) - 1) S_2) (fun v_3 => if v_3 = 0 then (fX11_readsTwo_L57 a1 v_1 0 S_2) else (if (gR S_2 77 7) = v_1 then (fX11_readsTwo_L57 a1 v_1 0 S_2) else (fX11_readsTwo_L57 a1 v_1 1 S_2))))) else (fX11_readsTwo_L57 a1 v_1 0 S_2)))
/-! X11_readsItem -/
def fX11_readsItem_L129  (S : gSt) : Option (gSt) := some S
def fX11_readsItem (a1 : Int32) (S : gSt) : Option (gSt) := if a1 = 0 then (gBd (fX11_number 1 8 S) (fun v_12 S_13 => gBp (fX11_isWell S_13) (fun v_14 => if v_14 = 0 then (fX11_readsItem_L129 S_13) else (gC (gIn 94 188) (gL (gW S_13 79 (gN 94) v_12) (fun S_15 => fX11_readsItem_L129 S_15)))))) else (if a1 = 1 then (gC (gIn 94 188) (gBd (fX11_number 0 ((gR S 79 (gN 94)) - 1) S) (fun v_6 S_7 => gBd (fX11_number 0 5 S_7) (fun v_8 S_9 => gBp (fX11_isWell S_9) (fun v_10 => if v_10 = 0 then (fX11_readsItem_L129 S_9) else (gC (gIn (95 + v_6) 188) (gL (gW S_9 79 (gN (95 + v_6)) v_8) (fun S_11 => fX11_readsItem_L129 S_11)))))))) else (if 5 ≤ a1 then (if 7 ≤ a1 then (gBp (fX11_readsTwo a1 S) (fun S_1 => fX11_readsItem_L129 S_1)) else (gC (gIn ((103 + a1) - 2) 188) (gL (gW S 79 (gN ((103 + a1) - 2)) 1) (fun S_2 => fX11_readsItem_L129 S_2)))) else (gBd (fX11_number 1 8 S) (fun v_3 S_4 => gC (gIn ((103 + a1) - 2) 188) (gL (gW S_4 79 (gN ((103 + a1) - 2)) v_3) (fun S_5 => fX11_readsItem_L129 S_5))))))
/-! X11_adopts -/
def fX11_adopts_L31 : Nat → Int32 → gSt → Option (gSt)
  | 0, _, _ => none
  | n + 1, x1, S => if 8 ≤ x1 then (gC (gIn 8 40) (gL (gW S 80 (gN 8) 0) (fun S_1 => gC (gIn 0 2) (gL (gW S_1 82 (gN 0) (vp_nar .boolean 0)) (fun S_2 => gC (gIn 1 2) (gL (gW S_2 82 (gN 1) (vp_nar .boolean 0)) (fun S_3 => some S_3))))))) else (gC (gIn x1 40) (gL (gW S 80 (gN x1) x1) (fun S_4 => fX11_adopts_L31 n (x1 + 1) S_4)))
def fX11_adopts_L2 : Nat → Int32 → gSt → Option (gSt)
  | 0, _, _ => none
  | n + 1, x1, S => if 94 ≤ x1 then (fX11_adopts_L31 gFU 0 S) else (gC (gIn (94 + x1) 188) (gC (gIn x1 188) (gL (gW S 79 (gN x1) (gR S 79 (gN (94 + x1)))) (fun S_1 => fX11_adopts_L2 n (x1 + 1) S_1))))
def fX11_adopts (S : gSt) : Option (gSt) := fX11_adopts_L2 gFU 0 S
/-! X11_room -/
def fX11_room_L165 (x1 : Int32) (S : gSt) : Option (Int32 × gSt) := gBp (fX11_isWell S) (fun v_1 => if v_1 = 0 then (some (((-10) - (gR S 77 8)), S)) else (gBp (fX11_adopts S) (fun S_2 => gL (gW S_2 77 3 0) (fun S_3 => some (x1, S_3)))))
def fX11_room_L155 (k26 : Int32 → gSt → Option (Int32 × gSt)) (x1 : Int32) (s1 : Int32) (S : gSt) : Option (Int32 × gSt) := gBd (fX11_takes s1 S) (fun v_1 S_2 => k26 (x1 + 1) S_2)
def fX11_room_L141 (k26 : Int32 → gSt → Option (Int32 × gSt)) (x1 : Int32) (S : gSt) : Option (Int32 × gSt) := if (gR S 77 5) = 3 then (fX11_room_L155 k26 x1 1 S) else (fX11_room_L155 k26 x1 0 S)
def fX11_room_L120 (k26 : Int32 → gSt → Option (Int32 × gSt)) (x1 : Int32) (s0 : Int32) (S : gSt) : Option (Int32 × gSt) := gBd (fX11_takes s0 S) (fun v_1 S_2 => gBp (fX11_isWell S_2) (fun v_3 => if v_3 = 0 then (fX11_room_L141 k26 x1 S_2) else (gBp (fX11_readsItem v_1 S_2) (fun S_4 => fX11_room_L141 k26 x1 S_4))))
def fX11_room_L110 (k26 : Int32 → gSt → Option (Int32 × gSt)) (x1 : Int32) (s1 : Int32) (s2 : Int32) (S : gSt) : Option (Int32 × gSt) := gC (gIn (s1 + s2) 188) (if (gR S 79 (gN (s1 + s2))) = 0 then (fX11_room_L120 k26 x1 1 S) else (fX11_room_L120 k26 x1 0 S))
def fX11_room_L86 (k26 : Int32 → gSt → Option (Int32 × gSt)) (x1 : Int32) (x2 : Int32) (S : gSt) : Option (Int32 × gSt) := if x2 = 0 then (fX11_room_L120 k26 x1 1 S) else (if x2 = 0 then (fX11_room_L110 k26 x1 103 0 S) else (fX11_room_L110 k26 x1 103 ((gR S 77 7) - 2) S))
def fX11_room_L66 (k26 : Int32 → gSt → Option (Int32 × gSt)) (x1 : Int32) (s0 : Int32) (S : gSt) : Option (Int32 × gSt) := if (gR S 77 5) = 1 then (if (gR S 77 7) = 0 then (if x1 = 0 then (fX11_room_L86 k26 x1 s0 S) else (fX11_room_L120 k26 x1 0 S)) else (fX11_room_L86 k26 x1 s0 S)) else (fX11_room_L120 k26 x1 0 S)
def fX11_room_L26 : Nat → Int32 → gSt → Option (Int32 × gSt)
  | 0, _, _ => none
  | n + 1, x1, S => gBp (fX11_isWell S) (fun v_1 => if v_1 = 0 then (fX11_room_L165 x1 S) else (if (gR S 77 5) = 0 then (fX11_room_L165 x1 S) else (if (gR S 77 5) = 1 then (gBp (fX11_in (gR S 77 7) 2 6 S) (fun v_2 => if v_2 = 0 then (fX11_room_L66 (fX11_room_L26 n) x1 0 S) else (fX11_room_L66 (fX11_room_L26 n) x1 1 S))) else (fX11_room_L66 (fX11_room_L26 n) x1 0 S))))
def fX11_room (S : gSt) : Option (Int32 × gSt) := gL (gW S 77 0 0) (fun S_1 => gL (gW S_1 77 8 (-1)) (fun S_2 => gL (gW S_2 77 4 0) (fun S_3 => gBp (fX11_drafts 4 S_3) (fun S_4 => gBp (fX11_advances S_4) (fun S_5 => fX11_room_L26 gFU 0 S_5)))))
/-! X11_guests -/
def fX11_guests (S : gSt) : Option (Int32) := gC (gIn 0 188) (some (gR S 79 (gN 0)))
/-! X11_isGuest -/
def fX11_isGuest (a1 : Int32) (S : gSt) : Option (Int32) := gBp (fX11_guests S) (fun v_1 => gBp (fX11_in a1 0 (v_1 - 1) S) (fun v_2 => gC (gBo v_2) (some v_2)))
/-! X11_areTwo -/
def fX11_areTwo (a1 : Int32) (a2 : Int32) (S : gSt) : Option (Int32) := gBp (fX11_isGuest a1 S) (fun v_1 => if v_1 = 0 then (some 0) else (gBp (fX11_isGuest a2 S) (fun v_2 => if v_2 = 0 then (some 0) else (if a1 = a2 then (some 0) else (some 1)))))
/-! X11_law -/
def fX11_law (a1 : Int32) (S : gSt) : Option (Int32 × gSt) := gL (gW S 77 0 0) (fun S_1 => gBp (fX11_in a1 0 4 S_1) (fun v_2 => if v_2 = 0 then (some ((-1), S_1)) else (gC (gIn (9 + a1) 188) (some (gR S_1 79 (gN (9 + a1)), S_1)))))
/-! X11_pair -/
def fX11_pair (a1 : Int32) (a2 : Int32) (a3 : Int32) (S : gSt) : Option (Int32 × gSt) := gL (gW S 77 0 0) (fun S_1 => gBp (fX11_areTwo a1 a2 S_1) (fun v_2 => if v_2 = 0 then (some ((-1000000), S_1)) else (gBp (fX11_in a3 0 2 S_1) (fun v_3 => if v_3 = 0 then (some ((-1000000), S_1)) else (if a3 = 0 then (gC (gIn (14 + a1) 188) (some ((((gR S_1 79 (gN (14 + a1))) >>> (a2 &&& 31)) &&& 1), S_1))) else (if a3 = 1 then (gC (gIn (22 + a1) 188) (some ((((gR S_1 79 (gN (22 + a1))) >>> (a2 &&& 31)) &&& 1), S_1))) else (gC (gIn ((30 + (8 * a1)) + a2) 188) (some (gR S_1 79 (gN ((30 + (8 * a1)) + a2)), S_1)))))))))
/-! X11_numbers -/
def fX11_numbers_L98 (a1 : Nat) : Nat → Int32 → gSt → Option (gSt)
  | 0, _, _ => none
  | n + 1, x3, S => gBp (fX11_guests S) (fun v_1 => if v_1 ≤ x3 then (some S) else (gC (gIn x3 ((gLay a1).2)) (gC (decide (¬ 1000 = 0)) (gC (gIn x3 ((gLay a1).2)) (gL (gW S a1 (gN x3) ((gR S a1 (gN x3)) - (gR S a1 (gN x3)) / 1000 * 1000)) (fun S_2 => fX11_numbers_L98 a1 n (x3 + 1) S_2))))))
def fX11_numbers_L75 (k4 : Int32 → Int32 → gSt → Option (gSt)) (a1 : Nat) (x2 : Int32) (x3 : Int32) (x4 : Int32) (S : gSt) : Option (gSt) := gC (gIn x3 ((gLay a1).2)) (gC (gIn x3 ((gLay a1).2)) (gL (gW S a1 (gN x3) ((1000 * ((gR S a1 (gN x3)) + 1)) + x4)) (fun S_1 => k4 x2 (x3 + 1) S_1)))
def fX11_numbers_L19 (k4 : Int32 → Int32 → gSt → Option (gSt)) (a1 : Nat) : Nat → Int32 → Int32 → Int32 → Int32 → gSt → Option (gSt)
  | 0, _, _, _, _, _ => none
  | n + 1, x2, x3, x4, x5, S => if x3 ≤ x5 then (if x4 = 100 then (fX11_numbers_L75 k4 a1 (x2 + 1) x3 x2 S) else (fX11_numbers_L75 k4 a1 x2 x3 x4 S)) else (gC (gIn x5 ((gLay a1).2)) (gC (decide (¬ 1000 = 0)) (gC (gIn x3 ((gLay a1).2)) (if ((gR S a1 (gN x5)) / 1000) = ((gR S a1 (gN x3)) + 1) then (gC (gIn x5 ((gLay a1).2)) (gC (decide (¬ 1000 = 0)) (gL ((gR S a1 (gN x5)) - (gR S a1 (gN x5)) / 1000 * 1000) (fun v_1 => fX11_numbers_L19 k4 a1 n x2 x3 v_1 (x5 + 1) S)))) else (fX11_numbers_L19 k4 a1 n x2 x3 x4 (x5 + 1) S)))))
def fX11_numbers_L4 (a1 : Nat) : Nat → Int32 → Int32 → gSt → Option (gSt)
  | 0, _, _, _ => none
  | n + 1, x2, x3, S => gBp (fX11_guests S) (fun v_1 => if v_1 ≤ x3 then (fX11_numbers_L98 a1 gFU 0 S) else (fX11_numbers_L19 (fX11_numbers_L4 a1 n) a1 gFU x2 x3 100 0 S))
def fX11_numbers (a1 : Nat) (S : gSt) : Option (gSt) := fX11_numbers_L4 a1 gFU 0 0 S
/-! X11_partiesOf -/
def fX11_partiesOf_L4 (a1 : Nat) (S : gSt) : Nat → Int32 → Int32 → Option (Int32)
  | 0, _, _ => none
  | n + 1, x2, x3 => gBp (fX11_guests S) (fun v_1 => if v_1 ≤ x3 then (some x2) else (gC (gIn x3 ((gLay a1).2)) (if (gR S a1 (gN x3)) < x2 then (fX11_partiesOf_L4 a1 S n x2 (x3 + 1)) else (gC (gIn x3 ((gLay a1).2)) (gL ((gR S a1 (gN x3)) + 1) (fun v_2 => fX11_partiesOf_L4 a1 S n v_2 (x3 + 1)))))))
def fX11_partiesOf (a1 : Nat) (S : gSt) : Option (Int32) := fX11_partiesOf_L4 a1 S gFU 0 0
/-! X11_sizeOf -/
def fX11_sizeOf_L5 (a1 : Nat) (S : gSt) : Nat → Int32 → Int32 → Int32 → Option (Int32)
  | 0, _, _, _ => none
  | n + 1, x2, x3, x4 => gBp (fX11_guests S) (fun v_1 => if v_1 ≤ x4 then (some x3) else (gC (gIn x4 ((gLay a1).2)) (if (gR S a1 (gN x4)) = x2 then (gL (x3 + 1) (fun v_3 => fX11_sizeOf_L5 a1 S n x2 v_3 (x4 + 1))) else (gL (x3 + 0) (fun v_2 => fX11_sizeOf_L5 a1 S n x2 v_2 (x4 + 1))))))
def fX11_sizeOf (a1 : Nat) (a2 : Int32) (S : gSt) : Option (Int32) := fX11_sizeOf_L5 a1 S gFU a2 0 0
/-! X11_worthOf -/
def fX11_worthOf_L15 (k4 : Int32 → Int32 → Option (Int32)) (a1 : Nat) (S : gSt) : Nat → Int32 → Int32 → Int32 → Option (Int32)
  | 0, _, _, _ => none
  | n + 1, x2, x3, x4 => if x3 ≤ x4 then (k4 x2 (x3 + 1)) else (gC (gIn x3 ((gLay a1).2)) (gC (gIn x4 ((gLay a1).2)) (if (gR S a1 (gN x3)) = (gR S a1 (gN x4)) then (gC (gIn ((30 + (8 * x3)) + x4) 188) (gL (x2 + (gR S 79 (gN ((30 + (8 * x3)) + x4)))) (fun v_2 => fX11_worthOf_L15 k4 a1 S n v_2 x3 (x4 + 1)))) else (gL (x2 + 0) (fun v_1 => fX11_worthOf_L15 k4 a1 S n v_1 x3 (x4 + 1))))))
def fX11_worthOf_L4 (a1 : Nat) (S : gSt) : Nat → Int32 → Int32 → Option (Int32)
  | 0, _, _ => none
  | n + 1, x2, x3 => gBp (fX11_guests S) (fun v_1 => if v_1 ≤ x3 then (some x2) else (fX11_worthOf_L15 (fX11_worthOf_L4 a1 S n) a1 S gFU x2 x3 0))
def fX11_worthOf (a1 : Nat) (S : gSt) : Option (Int32) := fX11_worthOf_L4 a1 S gFU 0 0
/-! X11_isCrossed -/
def fX11_isCrossed_L47 (k4 : Int32 → Int32 → Option (Int32)) (k17 : Int32 → Int32 → Int32 → Option (Int32)) (k32 : Int32 → Int32 → Int32 → Int32 → Option (Int32)) (a1 : Nat) (S : gSt) : Nat → Int32 → Int32 → Int32 → Int32 → Int32 → Option (Int32)
  | 0, _, _, _, _, _ => none
  | n + 1, x2, x3, x4, x5, x6 => gBp (fX11_guests S) (fun v_1 => if v_1 ≤ x6 then (k32 x2 x3 x4 (x5 + 1)) else (if x2 = 0 then (gC (gIn x3 ((gLay a1).2)) (gC (gIn x5 ((gLay a1).2)) (if (gR S a1 (gN x3)) = (gR S a1 (gN x5)) then (gC (gIn x4 ((gLay a1).2)) (gC (gIn x6 ((gLay a1).2)) (if (gR S a1 (gN x4)) = (gR S a1 (gN x6)) then (gC (gIn x3 ((gLay a1).2)) (gC (gIn x4 ((gLay a1).2)) (if (gR S a1 (gN x3)) = (gR S a1 (gN x4)) then (fX11_isCrossed_L47 k4 k17 k32 a1 S n 0 x3 x4 x5 (x6 + 1)) else (fX11_isCrossed_L47 k4 k17 k32 a1 S n 1 x3 x4 x5 (x6 + 1))))) else (fX11_isCrossed_L47 k4 k17 k32 a1 S n 0 x3 x4 x5 (x6 + 1))))) else (fX11_isCrossed_L47 k4 k17 k32 a1 S n 0 x3 x4 x5 (x6 + 1))))) else (fX11_isCrossed_L47 k4 k17 k32 a1 S n 1 x3 x4 x5 (x6 + 1))))
def fX11_isCrossed_L32 (k4 : Int32 → Int32 → Option (Int32)) (k17 : Int32 → Int32 → Int32 → Option (Int32)) (a1 : Nat) (S : gSt) : Nat → Int32 → Int32 → Int32 → Int32 → Option (Int32)
  | 0, _, _, _, _ => none
  | n + 1, x2, x3, x4, x5 => gBp (fX11_guests S) (fun v_1 => if v_1 ≤ x5 then (k17 x2 x3 (x4 + 1)) else (gL (x5 + 1) (fun v_2 => fX11_isCrossed_L47 k4 k17 (fX11_isCrossed_L32 k4 k17 a1 S n) a1 S gFU x2 x3 x4 x5 v_2)))
def fX11_isCrossed_L17 (k4 : Int32 → Int32 → Option (Int32)) (a1 : Nat) (S : gSt) : Nat → Int32 → Int32 → Int32 → Option (Int32)
  | 0, _, _, _ => none
  | n + 1, x2, x3, x4 => gBp (fX11_guests S) (fun v_1 => if v_1 ≤ x4 then (k4 x2 (x3 + 1)) else (gL (x4 + 1) (fun v_2 => fX11_isCrossed_L32 k4 (fX11_isCrossed_L17 k4 a1 S n) a1 S gFU x2 x3 x4 v_2)))
def fX11_isCrossed_L4 (a1 : Nat) (S : gSt) : Nat → Int32 → Int32 → Option (Int32)
  | 0, _, _ => none
  | n + 1, x2, x3 => gBp (fX11_guests S) (fun v_1 => if v_1 ≤ x3 then (gC (gBo x2) (some x2)) else (gL (x3 + 1) (fun v_2 => fX11_isCrossed_L17 (fX11_isCrossed_L4 a1 S n) a1 S gFU x2 x3 v_2)))
def fX11_isCrossed (a1 : Nat) (S : gSt) : Option (Int32) := fX11_isCrossed_L4 a1 S gFU 0 0
/-! X11_arePairsWell -/
def fX11_arePairsWell_L123 (k4 : Int32 → Int32 → Option (Int32)) (k15 : Int32 → Int32 → Int32 → Option (Int32)) (a1 : Nat) (S : gSt) (x2 : Int32) (x3 : Int32) (x4 : Int32) (s0 : Int32) : Option (Int32) := if x2 = 0 then (k15 0 x3 (x4 + 1)) else (if s0 = 0 then (k15 1 x3 (x4 + 1)) else (k15 0 x3 (x4 + 1)))
def fX11_arePairsWell_L36 (k4 : Int32 → Int32 → Option (Int32)) (k15 : Int32 → Int32 → Int32 → Option (Int32)) (a1 : Nat) (S : gSt) (x2 : Int32) (x3 : Int32) (x4 : Int32) (s0 : Int32) : Option (Int32) := if s0 = 0 then (gC (gIn (14 + x3) 188) (if (((gR S 79 (gN (14 + x3))) >>> (x4 &&& 31)) &&& 1) = 1 then (fX11_arePairsWell_L123 k4 k15 a1 S x2 x3 x4 1) else (fX11_arePairsWell_L123 k4 k15 a1 S x2 x3 x4 0))) else (gC (gIn (22 + x3) 188) (if (((gR S 79 (gN (22 + x3))) >>> (x4 &&& 31)) &&& 1) = 1 then (fX11_arePairsWell_L123 k4 k15 a1 S x2 x3 x4 1) else (gC (gIn 12 188) (if (gR S 79 (gN 12)) = 1 then (gC (gIn (1 + x3) 188) (gC (gIn (1 + x4) 188) (if (gR S 79 (gN (1 + x3))) = (gR S 79 (gN (1 + x4))) then (fX11_arePairsWell_L123 k4 k15 a1 S x2 x3 x4 1) else (fX11_arePairsWell_L123 k4 k15 a1 S x2 x3 x4 0)))) else (fX11_arePairsWell_L123 k4 k15 a1 S x2 x3 x4 0)))))
def fX11_arePairsWell_L15 (k4 : Int32 → Int32 → Option (Int32)) (a1 : Nat) (S : gSt) : Nat → Int32 → Int32 → Int32 → Option (Int32)
  | 0, _, _, _ => none
  | n + 1, x2, x3, x4 => if x3 ≤ x4 then (k4 x2 (x3 + 1)) else (gC (gIn x3 ((gLay a1).2)) (gC (gIn x4 ((gLay a1).2)) (if (gR S a1 (gN x3)) = (gR S a1 (gN x4)) then (fX11_arePairsWell_L36 k4 (fX11_arePairsWell_L15 k4 a1 S n) a1 S x2 x3 x4 1) else (fX11_arePairsWell_L36 k4 (fX11_arePairsWell_L15 k4 a1 S n) a1 S x2 x3 x4 0))))
def fX11_arePairsWell_L4 (a1 : Nat) (S : gSt) : Nat → Int32 → Int32 → Option (Int32)
  | 0, _, _ => none
  | n + 1, x2, x3 => gBp (fX11_guests S) (fun v_1 => if v_1 ≤ x3 then (gC (gBo x2) (some x2)) else (fX11_arePairsWell_L15 (fX11_arePairsWell_L4 a1 S n) a1 S gFU x2 x3 0))
def fX11_arePairsWell (a1 : Nat) (S : gSt) : Option (Int32) := fX11_arePairsWell_L4 a1 S gFU 1 0
/-! X11_isLawful -/
def fX11_isLawful_L101 (a1 : Nat) (S : gSt) (x3 : Int32) : Option (Int32) := if x3 = 0 then (some 0) else (gBp (fX11_arePairsWell a1 S) (fun v_1 => if v_1 = 0 then (some 0) else (gC (gIn 13 188) (if (gR S 79 (gN 13)) = 1 then (gBp (fX11_isCrossed a1 S) (fun v_2 => if v_2 = 0 then (some 1) else (some 0))) else (some 1)))))
def fX11_isLawful_L36 (a1 : Nat) (S : gSt) : Nat → Int32 → Int32 → Int32 → Option (Int32)
  | 0, _, _, _ => none
  | n + 1, x2, x3, x4 => if x2 ≤ x4 then (fX11_isLawful_L101 a1 S x3) else (if x3 = 0 then (fX11_isLawful_L101 a1 S x3) else (gBp (fX11_sizeOf a1 x4 S) (fun v_1 => gC (gIn 10 188) (if v_1 < (gR S 79 (gN 10)) then (fX11_isLawful_L36 a1 S n x2 0 (x4 + 1)) else (gC (gIn 11 188) (if (gR S 79 (gN 11)) = 0 then (fX11_isLawful_L36 a1 S n x2 1 (x4 + 1)) else (gC (gIn 11 188) (if (gR S 79 (gN 11)) < v_1 then (fX11_isLawful_L36 a1 S n x2 0 (x4 + 1)) else (fX11_isLawful_L36 a1 S n x2 1 (x4 + 1))))))))))
def fX11_isLawful (a1 : Nat) (S : gSt) : Option (Int32) := gBp (fX11_partiesOf a1 S) (fun v_1 => gC (gIn 9 188) (if (gR S 79 (gN 9)) = 0 then (fX11_isLawful_L36 a1 S gFU v_1 1 0) else (gC (gIn 9 188) (if v_1 = (gR S 79 (gN 9)) then (fX11_isLawful_L36 a1 S gFU v_1 1 0) else (fX11_isLawful_L36 a1 S gFU v_1 0 0)))))
/-! X11_party -/
def fX11_party (a1 : Int32) (S : gSt) : Option (Int32 × gSt) := gL (gW S 77 0 0) (fun S_1 => gBp (fX11_isGuest a1 S_1) (fun v_2 => if v_2 = 0 then (some ((-1), S_1)) else (gC (gIn a1 40) (some (gR S_1 80 (gN a1), S_1)))))
/-! X11_moves -/
def fX11_moves_L46 (a1 : Nat) (s1 : Int32) (s2 : Int32) (S : gSt) : Option (Int32 × gSt) := gC (gIn s1 ((gLay a1).2)) (gL (gW S a1 (gN s1) s2) (fun S_1 => gBp (fX11_numbers a1 S_1) (fun S_2 => some (1, S_2))))
def fX11_moves_L31 (a1 : Nat) (x2 : Int32) (x3 : Int32) (S : gSt) : Option (Int32 × gSt) := if x2 = x3 then (fX11_moves_L46 a1 x2 50 S) else (gC (gIn x3 ((gLay a1).2)) (fX11_moves_L46 a1 x2 (gR S a1 (gN x3)) S))
def fX11_moves (a1 : Nat) (a2 : Int32) (a3 : Int32) (S : gSt) : Option (Int32 × gSt) := if a2 = a3 then (gC (gIn a2 ((gLay a1).2)) (gBp (fX11_sizeOf a1 (gR S a1 (gN a2)) S) (fun v_1 => if v_1 = 1 then (some (0, S)) else (fX11_moves_L31 a1 a2 a3 S)))) else (gC (gIn a2 ((gLay a1).2)) (gC (gIn a3 ((gLay a1).2)) (if (gR S a1 (gN a2)) = (gR S a1 (gN a3)) then (some (0, S)) else (fX11_moves_L31 a1 a2 a3 S))))
/-! X11_goes -/
def fX11_goes (a1 : Int32) (a2 : Int32) (S : gSt) : Option (Int32 × gSt) := gL (gW S 77 0 0) (fun S_1 => gBp (fX11_isGuest a1 S_1) (fun v_2 => if v_2 = 0 then (some ((-1), S_1)) else (gBp (fX11_isGuest a2 S_1) (fun v_3 => if v_3 = 0 then (some ((-1), S_1)) else (gBd (fX11_moves 80 a1 a2 S_1) (fun v_4 S_5 => if v_4 = 0 then (some ((-2), S_5)) else (gC (gIn a1 40) (some (gR S_5 80 (gN a1), S_5)))))))))
/-! X11_join -/
def fX11_join_L46 : Nat → Int32 → Int32 → Int32 → gSt → Option (Int32 × gSt)
  | 0, _, _, _, _ => none
  | n + 1, x1, x2, x4, S => gBp (fX11_guests S) (fun v_1 => if v_1 ≤ x4 then (gBp (fX11_numbers 80 S) (fun S_2 => gBp (fX11_partiesOf 80 S_2) (fun v_3 => some (v_3, S_2)))) else (gC (gIn x4 40) (if (gR S 80 (gN x4)) = x2 then (gC (gIn x4 40) (gL (gW S 80 (gN x4) x1) (fun S_5 => fX11_join_L46 n x1 x2 (x4 + 1) S_5))) else (gC (gIn x4 40) (gC (gIn x4 40) (gL (gW S 80 (gN x4) (gR S 80 (gN x4))) (fun S_4 => fX11_join_L46 n x1 x2 (x4 + 1) S_4)))))))
def fX11_join (a1 : Int32) (a2 : Int32) (S : gSt) : Option (Int32 × gSt) := gL (gW S 77 0 0) (fun S_1 => gBp (fX11_partiesOf 80 S_1) (fun v_2 => gBp (fX11_in a1 0 (v_2 - 1) S_1) (fun v_3 => if v_3 = 0 then (some ((-1), S_1)) else (gBp (fX11_in a2 0 (v_2 - 1) S_1) (fun v_4 => if v_4 = 0 then (some ((-1), S_1)) else (if a1 = a2 then (some ((-1), S_1)) else (fX11_join_L46 gFU a1 a2 0 S_1)))))))
/-! X11_part -/
def fX11_part_L90 : Nat → Int32 → Int32 → gSt → Option (Int32 × gSt)
  | 0, _, _, _ => none
  | n + 1, x2, x4, S => gBp (fX11_guests S) (fun v_1 => if v_1 ≤ x4 then (gBp (fX11_numbers 80 S) (fun S_2 => gBp (fX11_partiesOf 80 S_2) (fun v_3 => some (v_3, S_2)))) else (if ((x2 >>> (x4 &&& 31)) &&& 1) = 1 then (gC (gIn x4 40) (gL (gW S 80 (gN x4) 50) (fun S_5 => fX11_part_L90 n x2 (x4 + 1) S_5))) else (gC (gIn x4 40) (gC (gIn x4 40) (gL (gW S 80 (gN x4) (gR S 80 (gN x4))) (fun S_4 => fX11_part_L90 n x2 (x4 + 1) S_4))))))
def fX11_part_L30 : Nat → Int32 → Int32 → Int32 → Int32 → gSt → Option (Int32 × gSt)
  | 0, _, _, _, _, _ => none
  | n + 1, x1, x2, x3, x4, S => gBp (fX11_guests S) (fun v_1 => if v_1 ≤ x4 then (if x2 = 0 then (some ((-2), S)) else (if x2 = x3 then (some ((-2), S)) else (if (x2 &&& (x3 ^^^ (-1))) = 0 then (fX11_part_L90 gFU x2 0 S) else (some ((-2), S))))) else (gC (gIn x4 40) (if (gR S 80 (gN x4)) = x1 then (gL (x3 ||| ((1 : Int32) <<< (x4 &&& 31))) (fun v_3 => fX11_part_L30 n x1 x2 v_3 (x4 + 1) S)) else (gL (x3 ||| 0) (fun v_2 => fX11_part_L30 n x1 x2 v_2 (x4 + 1) S)))))
def fX11_part (a1 : Int32) (a2 : Int32) (S : gSt) : Option (Int32 × gSt) := gL (gW S 77 0 0) (fun S_1 => gBp (fX11_partiesOf 80 S_1) (fun v_2 => gBp (fX11_in a1 0 (v_2 - 1) S_1) (fun v_3 => if v_3 = 0 then (some ((-1), S_1)) else (fX11_part_L30 gFU a1 a2 0 0 S_1))))
/-! X11_alone -/
def fX11_alone_L4 (S : gSt) : Nat → Int32 → Int32 → Option (Int32)
  | 0, _, _ => none
  | n + 1, x1, x2 => gBp (fX11_guests S) (fun v_1 => if v_1 ≤ x2 then (some x1) else (gC (gIn x2 40) (gBp (fX11_sizeOf 80 (gR S 80 (gN x2)) S) (fun v_2 => if v_2 = 1 then (gL (x1 + 1) (fun v_4 => fX11_alone_L4 S n v_4 (x2 + 1))) else (gL (x1 + 0) (fun v_3 => fX11_alone_L4 S n v_3 (x2 + 1)))))))
def fX11_alone (S : gSt) : Option (Int32) := fX11_alone_L4 S gFU 0 0
/-! X11_now -/
def fX11_now_L74 (s0 : Int32) (S : gSt) : Option (Int32 × gSt) := some (s0, S)
def fX11_now (a1 : Int32) (S : gSt) : Option (Int32 × gSt) := gL (gW S 77 0 0) (fun S_1 => if a1 = 0 then (gBp (fX11_partiesOf 80 S_1) (fun v_5 => fX11_now_L74 v_5 S_1)) else (if a1 = 1 then (gBp (fX11_isLawful 80 S_1) (fun v_4 => if v_4 = 0 then (fX11_now_L74 0 S_1) else (fX11_now_L74 1 S_1))) else (if a1 = 2 then (gBp (fX11_worthOf 80 S_1) (fun v_3 => fX11_now_L74 v_3 S_1)) else (if a1 = 3 then (gBp (fX11_alone S_1) (fun v_2 => fX11_now_L74 v_2 S_1)) else (fX11_now_L74 (-1000000) S_1)))))
/-! X11_firstRow -/
def fX11_firstRow_L2 : Nat → Int32 → gSt → Option (gSt)
  | 0, _, _ => none
  | n + 1, x1, S => if 8 ≤ x1 then (some S) else (gC (gIn x1 8) (gL (gW S 83 (gN x1) 0) (fun S_1 => fX11_firstRow_L2 n (x1 + 1) S_1)))
def fX11_firstRow (S : gSt) : Option (gSt) := fX11_firstRow_L2 gFU 0 S
/-! X11_nextRow -/
def fX11_nextRow_L71 : Nat → Int32 → gSt → Option (Int32 × gSt)
  | 0, _, _ => none
  | n + 1, x3, S => gBp (fX11_guests S) (fun v_1 => if v_1 ≤ x3 then (some (1, S)) else (gC (gIn x3 8) (gL (gW S 83 (gN x3) 0) (fun S_2 => fX11_nextRow_L71 n (x3 + 1) S_2))))
def fX11_nextRow_L15 (k7 : Int32 → gSt → Option (Int32 × gSt)) : Nat → Int32 → Int32 → Int32 → gSt → Option (Int32 × gSt)
  | 0, _, _, _, _ => none
  | n + 1, x1, x2, x3, S => if x1 ≤ x3 then (gC (gIn x1 8) (if x2 < (gR S 83 (gN x1)) then (k7 (x1 + (-1)) S) else (gC (gIn x1 8) (gC (gIn x1 8) (gL (gW S 83 (gN x1) ((gR S 83 (gN x1)) + 1)) (fun S_1 => gL (x1 + 1) (fun v_2 => fX11_nextRow_L71 gFU v_2 S_1))))))) else (gC (gIn x3 8) (if (gR S 83 (gN x3)) ≤ x2 then (fX11_nextRow_L15 k7 n x1 x2 (x3 + 1) S) else (gC (gIn x3 8) (gL (gR S 83 (gN x3)) (fun v_3 => fX11_nextRow_L15 k7 n x1 v_3 (x3 + 1) S)))))
def fX11_nextRow_L7 : Nat → Int32 → gSt → Option (Int32 × gSt)
  | 0, _, _ => none
  | n + 1, x1, S => if x1 ≤ 0 then (some (0, S)) else (fX11_nextRow_L15 (fX11_nextRow_L7 n) gFU x1 (-1) 0 S)
def fX11_nextRow (S : gSt) : Option (Int32 × gSt) := gBp (fX11_guests S) (fun v_1 => gL (v_1 - 1) (fun v_2 => fX11_nextRow_L7 gFU v_2 S))
/-! X11_manyOf -/
def fX11_manyOf_L45 (k8 : Int32 → Int32 → Int32 → gSt → Option (Int32 × gSt)) (x1 : Int32) (s0 : Int32) (s1 : Int32) (S : gSt) : Option (Int32 × gSt) := gL (s0 + s1) (fun v_1 => gBd (fX11_nextRow S) (fun v_2 S_3 => k8 x1 v_1 v_2 S_3))
def fX11_manyOf_L29 (k8 : Int32 → Int32 → Int32 → gSt → Option (Int32 × gSt)) (x1 : Int32) (s0 : Int32) (S : gSt) : Option (Int32 × gSt) := gBp (fX11_isLawful 83 S) (fun v_1 => if v_1 = 0 then (fX11_manyOf_L45 k8 x1 s0 0 S) else (fX11_manyOf_L45 k8 x1 s0 1 S))
def fX11_manyOf_L8 : Nat → Int32 → Int32 → Int32 → gSt → Option (Int32 × gSt)
  | 0, _, _, _, _ => none
  | n + 1, x1, x2, x3, S => if x3 = 0 then (some (x2, S)) else (if x1 = 0 then (fX11_manyOf_L29 (fX11_manyOf_L8 n) x1 x2 S) else (gBp (fX11_partiesOf 83 S) (fun v_1 => if v_1 = x1 then (fX11_manyOf_L29 (fX11_manyOf_L8 n) x1 x2 S) else (fX11_manyOf_L45 (fX11_manyOf_L8 n) x1 x2 0 S))))
def fX11_manyOf (a1 : Int32) (S : gSt) : Option (Int32 × gSt) := gBp (fX11_firstRow S) (fun S_1 => fX11_manyOf_L8 gFU a1 0 1 S_1)
/-! X11_many -/
def fX11_many (a1 : Int32) (S : gSt) : Option (Int32 × gSt) := gL (gW S 77 0 0) (fun S_1 => gBp (fX11_in a1 0 8 S_1) (fun v_2 => if v_2 = 0 then (some ((-1), S_1)) else (gBd (fX11_manyOf a1 S_1) (fun v_3 S_4 => some (v_3, S_4)))))
/-! X11_rank -/
def fX11_rank_L101 (k27 : Int32 → Int32 → gSt → Option (Int32 × gSt)) (s0 : Int32) (s1 : Int32) (S : gSt) : Option (Int32 × gSt) := gL (s0 + s1) (fun v_1 => gBd (fX11_nextRow S) (fun v_2 S_3 => k27 v_1 v_2 S_3))
def fX11_rank_L36 (k27 : Int32 → Int32 → gSt → Option (Int32 × gSt)) : Nat → Int32 → Int32 → Int32 → gSt → Option (Int32 × gSt)
  | 0, _, _, _, _ => none
  | n + 1, x1, x3, x4, S => gBp (fX11_guests S) (fun v_1 => if v_1 ≤ x4 then (if x3 = 0 then (gBp (fX11_isLawful 83 S) (fun v_2 => if v_2 = 0 then (fX11_rank_L101 k27 x1 0 S) else (fX11_rank_L101 k27 x1 1 S))) else (some (x1, S))) else (if x3 = 0 then (fX11_rank_L36 k27 n x1 0 (x4 + 1) S) else (gC (gIn x4 8) (gC (gIn x4 40) (if (gR S 83 (gN x4)) = (gR S 80 (gN x4)) then (fX11_rank_L36 k27 n x1 1 (x4 + 1) S) else (fX11_rank_L36 k27 n x1 0 (x4 + 1) S))))))
def fX11_rank_L27 : Nat → Int32 → Int32 → gSt → Option (Int32 × gSt)
  | 0, _, _, _ => none
  | n + 1, x1, x2, S => if x2 = 0 then (some ((-9), S)) else (fX11_rank_L36 (fX11_rank_L27 n) gFU x1 1 0 S)
def fX11_rank (S : gSt) : Option (Int32 × gSt) := gL (gW S 77 0 0) (fun S_1 => gBp (fX11_isLawful 80 S_1) (fun v_2 => if v_2 = 0 then (some ((-9), S_1)) else (gBp (fX11_firstRow S_1) (fun S_3 => fX11_rank_L27 gFU 0 1 S_3))))
/-! X11_finds -/
def fX11_finds_L33 (k8 : Int32 → Int32 → Int32 → gSt → Option (Int32 × gSt)) (x1 : Int32) (x2 : Int32) (S : gSt) : Option (Int32 × gSt) := gBd (fX11_nextRow S) (fun v_1 S_2 => k8 x1 x2 v_1 S_2)
def fX11_finds_L8 : Nat → Int32 → Int32 → Int32 → gSt → Option (Int32 × gSt)
  | 0, _, _, _, _ => none
  | n + 1, x1, x2, x3, S => if x3 = 0 then (some (0, S)) else (gBp (fX11_isLawful 83 S) (fun v_1 => if v_1 = 0 then (fX11_finds_L33 (fX11_finds_L8 n) x1 x2 S) else (if x2 = x1 then (some (1, S)) else (fX11_finds_L33 (fX11_finds_L8 n) x1 (x2 + 1) S))))
def fX11_finds (a1 : Int32) (S : gSt) : Option (Int32 × gSt) := gBp (fX11_firstRow S) (fun S_1 => fX11_finds_L8 gFU a1 0 1 S_1)
/-! X11_nth -/
def fX11_nth (a1 : Int32) (a2 : Int32) (S : gSt) : Option (Int32 × gSt) := gL (gW S 77 0 0) (fun S_1 => if a1 < 0 then (some ((-1), S_1)) else (gBp (fX11_isGuest a2 S_1) (fun v_2 => if v_2 = 0 then (some ((-1), S_1)) else (gBd (fX11_finds a1 S_1) (fun v_3 S_4 => if v_3 = 0 then (some ((-5), S_4)) else (gC (gIn a2 8) (some (gR S_4 83 (gN a2), S_4))))))))
/-! X11_draws -/
def fX11_draws (a1 : Int32) (S : gSt) : Option (Int32 × gSt) := gC (gIn 39 40) (gC (gIn 39 40) (gL (gW S 80 (gN 39) (((gR S 80 (gN 39)) * 1103515245) + 12345)) (fun S_1 => gC (gIn 39 40) (gC (decide (¬ a1 = 0)) (some (((((gR S_1 80 (gN 39)) >>> ((16 : Int32) &&& 31)) &&& 65535) - (((gR S_1 80 (gN 39)) >>> ((16 : Int32) &&& 31)) &&& 65535) / a1 * a1), S_1))))))
/-! X11_draw -/
def fX11_draw_L32 : Nat → Int32 → Int32 → gSt → Option (Int32 × gSt)
  | 0, _, _, _ => none
  | n + 1, x2, x3, S => gBp (fX11_guests S) (fun v_1 => if v_1 ≤ x3 then (some (x2, S)) else (gC (gIn x3 8) (gC (gIn x3 40) (gL (gW S 80 (gN x3) (gR S 83 (gN x3))) (fun S_2 => fX11_draw_L32 n x2 (x3 + 1) S_2)))))
def fX11_draw (S : gSt) : Option (Int32 × gSt) := gL (gW S 77 0 0) (fun S_1 => gBd (fX11_manyOf 0 S_1) (fun v_2 S_3 => if v_2 = 0 then (some ((-2), S_3)) else (gBd (fX11_draws v_2 S_3) (fun v_4 S_5 => gBd (fX11_finds v_4 S_5) (fun v_6 S_7 => fX11_draw_L32 gFU v_4 0 S_7)))))
/-! X11_lot -/
def fX11_lot (a1 : Int32) (S : gSt) : Option (Int32 × gSt) := gL (gW S 77 0 0) (fun S_1 => gC (gIn 39 40) (gL (gR S_1 80 (gN 39)) (fun v_2 => gC (gIn 39 40) (gL (gW S_1 80 (gN 39) a1) (fun S_3 => some (v_2, S_3))))))
/-! X11_saw -/
def fX11_saw (a1 : Int32) (a2 : Int32) (a3 : Int32) (S : gSt) : Option (Int32 × gSt) := gL (gW S 77 0 0) (fun S_1 => gBp (fX11_areTwo a1 a2 S_1) (fun v_2 => if v_2 = 0 then (some ((-1), S_1)) else (gBp (fX11_in a3 0 1 S_1) (fun v_3 => if v_3 = 0 then (some ((-1), S_1)) else (gC (gIn 8 40) (if (gR S_1 80 (gN 8)) = 10 then (some ((-3), S_1)) else (gC (gIn 8 40) (gC (gIn (9 + (3 * (gR S_1 80 (gN 8)))) 40) (gL (gW S_1 80 (gN (9 + (3 * (gR S_1 80 (gN 8))))) a1) (fun S_4 => gC (gIn 8 40) (gC (gIn ((9 + (3 * (gR S_4 80 (gN 8)))) + 1) 40) (gL (gW S_4 80 (gN ((9 + (3 * (gR S_4 80 (gN 8)))) + 1)) a2) (fun S_5 => gC (gIn 8 40) (gC (gIn ((9 + (3 * (gR S_5 80 (gN 8)))) + 2) 40) (gL (gW S_5 80 (gN ((9 + (3 * (gR S_5 80 (gN 8)))) + 2)) a3) (fun S_6 => gC (gIn 8 40) (gC (gIn 8 40) (gL (gW S_6 80 (gN 8) ((gR S_6 80 (gN 8)) + 1)) (fun S_7 => gC (gIn 8 40) (some (gR S_7 80 (gN 8), S_7)))))))))))))))))))))
/-! X11_forget -/
def fX11_forget (S : gSt) : Option (Int32 × gSt) := gL (gW S 77 0 0) (fun S_1 => gC (gIn 8 40) (gL (gR S_1 80 (gN 8)) (fun v_2 => gC (gIn 8 40) (gL (gW S_1 80 (gN 8) 0) (fun S_3 => some (v_2, S_3))))))
/-! X11_fits -/
def fX11_fits_L92 (k11 : Int32 → Int32 → Option (Int32)) (S : gSt) (x2 : Int32) (s0 : Int32) (s1 : Int32) : Option (Int32) := if s0 = s1 then (k11 1 (x2 + 1)) else (k11 0 (x2 + 1))
def fX11_fits_L64 (k11 : Int32 → Int32 → Option (Int32)) (S : gSt) (x1 : Int32) (x2 : Int32) (s0 : Int32) : Option (Int32) := if x1 = 0 then (k11 0 (x2 + 1)) else (gC (gIn ((9 + (3 * x2)) + 2) 40) (if (gR S 80 (gN ((9 + (3 * x2)) + 2))) = 1 then (fX11_fits_L92 k11 S x2 s0 1) else (fX11_fits_L92 k11 S x2 s0 0)))
def fX11_fits_L11 (S : gSt) : Nat → Int32 → Int32 → Option (Int32)
  | 0, _, _ => none
  | n + 1, x1, x2 => gC (gIn 8 40) (if (gR S 80 (gN 8)) ≤ x2 then (gC (gBo x1) (some x1)) else (gC (gIn (9 + (3 * x2)) 40) (gC (gIn (gR S 80 (gN (9 + (3 * x2)))) 8) (gC (gIn ((9 + (3 * x2)) + 1) 40) (gC (gIn (gR S 80 (gN ((9 + (3 * x2)) + 1))) 8) (if (gR S 83 (gN (gR S 80 (gN (9 + (3 * x2)))))) = (gR S 83 (gN (gR S 80 (gN ((9 + (3 * x2)) + 1))))) then (fX11_fits_L64 (fX11_fits_L11 S n) S x1 x2 1) else (fX11_fits_L64 (fX11_fits_L11 S n) S x1 x2 0)))))))
def fX11_fits (S : gSt) : Option (Int32) := gBp (fX11_isLawful 83 S) (fun v_1 => fX11_fits_L11 S gFU v_1 0)
/-! X11_leftWith -/
def fX11_leftWith_L42 (k9 : Int32 → Int32 → Int32 → Int32 → gSt → Option (Int32 × gSt)) (x1 : Int32) (x2 : Int32) (s0 : Int32) (s1 : Int32) (S : gSt) : Option (Int32 × gSt) := gL (s0 + s1) (fun v_1 => gBd (fX11_nextRow S) (fun v_2 S_3 => k9 x1 x2 v_1 v_2 S_3))
def fX11_leftWith_L9 : Nat → Int32 → Int32 → Int32 → Int32 → gSt → Option (Int32 × gSt)
  | 0, _, _, _, _, _ => none
  | n + 1, x1, x2, x3, x4, S => if x4 = 0 then (some (x3, S)) else (gC (gIn x1 8) (gC (gIn x2 8) (if (gR S 83 (gN x1)) = (gR S 83 (gN x2)) then (gBp (fX11_fits S) (fun v_1 => if v_1 = 0 then (fX11_leftWith_L42 (fX11_leftWith_L9 n) x1 x2 x3 0 S) else (fX11_leftWith_L42 (fX11_leftWith_L9 n) x1 x2 x3 1 S))) else (fX11_leftWith_L42 (fX11_leftWith_L9 n) x1 x2 x3 0 S))))
def fX11_leftWith (a1 : Int32) (a2 : Int32) (S : gSt) : Option (Int32 × gSt) := gBp (fX11_firstRow S) (fun S_1 => fX11_leftWith_L9 gFU a1 a2 0 1 S_1)
/-! X11_left -/
def fX11_left (S : gSt) : Option (Int32 × gSt) := gL (gW S 77 0 0) (fun S_1 => gBd (fX11_leftWith 0 0 S_1) (fun v_2 S_3 => some (v_2, S_3)))
/-! X11_sure -/
def fX11_sure (a1 : Int32) (a2 : Int32) (S : gSt) : Option (Int32 × gSt) := gL (gW S 77 0 0) (fun S_1 => gBp (fX11_areTwo a1 a2 S_1) (fun v_2 => if v_2 = 0 then (some ((-1), S_1)) else (gBd (fX11_leftWith 0 0 S_1) (fun v_3 S_4 => gBd (fX11_leftWith a1 a2 S_4) (fun v_5 S_6 => if v_3 = 0 then (some ((-9), S_6)) else (if v_5 = v_3 then (some (1, S_6)) else (if v_5 = 0 then (some (0, S_6)) else (some ((-9), S_6)))))))))
/-! X11_isImage -/
def fX11_isImage (a0 : Int32) (S : gSt) : Option (Int32) := gBp (fX11_in a0 0 1 S) (fun v_1 => gC (gBo v_1) (some v_1))
/-! X11_finer -/
def fX11_finer_L2 : Nat → Int32 → Int32 → gSt → Option (gSt)
  | 0, _, _, _ => none
  | n + 1, x1, x2, S => gBp (fX11_guests S) (fun v_1 => if v_1 ≤ x2 then (gBp (fX11_numbers 83 S) (fun S_2 => some S_2)) else (gC (gIn x2 40) (gC (gIn ((40 * x1) + x2) 80) (gC (gIn x2 8) (gL (gW S 83 (gN x2) ((8 * (gR S 80 (gN x2))) + (gR S 81 (gN ((40 * x1) + x2))))) (fun S_3 => fX11_finer_L2 n x1 (x2 + 1) S_3))))))
def fX11_finer (a1 : Int32) (S : gSt) : Option (gSt) := fX11_finer_L2 gFU a1 0 S
/-! X11_coarser -/
def fX11_coarser_L102 (k25 : Int32 → Int32 → gSt → Option (gSt)) (k35 : Int32 → Int32 → Int32 → gSt → Option (gSt)) (k46 : Int32 → Int32 → Int32 → Int32 → gSt → Option (gSt)) (x1 : Int32) (x2 : Int32) (x3 : Int32) (x4 : Int32) (s0 : Int32) (S : gSt) : Option (gSt) := if s0 = 0 then (gC (gIn x3 8) (gC (gIn x3 8) (gL (gW S 83 (gN x3) (gR S 83 (gN x3))) (fun S_1 => k46 x1 x2 x3 (x4 + 1) S_1)))) else (gC (gIn x4 8) (gC (gIn x3 8) (if (gR S 83 (gN x3)) ≤ (gR S 83 (gN x4)) then (gC (gIn x3 8) (gC (gIn x3 8) (gL (gW S 83 (gN x3) (gR S 83 (gN x3))) (fun S_2 => k46 x1 x2 x3 (x4 + 1) S_2)))) else (gC (gIn x4 8) (gC (gIn x3 8) (gL (gW S 83 (gN x3) (gR S 83 (gN x4))) (fun S_3 => k46 x1 x2 x3 (x4 + 1) S_3)))))))
def fX11_coarser_L46 (k25 : Int32 → Int32 → gSt → Option (gSt)) (k35 : Int32 → Int32 → Int32 → gSt → Option (gSt)) : Nat → Int32 → Int32 → Int32 → Int32 → gSt → Option (gSt)
  | 0, _, _, _, _, _ => none
  | n + 1, x1, x2, x3, x4, S => gBp (fX11_guests S) (fun v_1 => if v_1 ≤ x4 then (k35 x1 x2 (x3 + 1) S) else (gC (gIn x3 40) (gC (gIn x4 40) (if (gR S 80 (gN x3)) = (gR S 80 (gN x4)) then (fX11_coarser_L102 k25 k35 (fX11_coarser_L46 k25 k35 n) x1 x2 x3 x4 1 S) else (gC (gIn ((40 * x1) + x3) 80) (gC (gIn ((40 * x1) + x4) 80) (if (gR S 81 (gN ((40 * x1) + x3))) = (gR S 81 (gN ((40 * x1) + x4))) then (fX11_coarser_L102 k25 k35 (fX11_coarser_L46 k25 k35 n) x1 x2 x3 x4 1 S) else (fX11_coarser_L102 k25 k35 (fX11_coarser_L46 k25 k35 n) x1 x2 x3 x4 0 S))))))))
def fX11_coarser_L35 (k25 : Int32 → Int32 → gSt → Option (gSt)) : Nat → Int32 → Int32 → Int32 → gSt → Option (gSt)
  | 0, _, _, _, _ => none
  | n + 1, x1, x2, x3, S => gBp (fX11_guests S) (fun v_1 => if v_1 ≤ x3 then (k25 x1 (x2 + 1) S) else (fX11_coarser_L46 k25 (fX11_coarser_L35 k25 n) gFU x1 x2 x3 0 S))
def fX11_coarser_L25 : Nat → Int32 → Int32 → gSt → Option (gSt)
  | 0, _, _, _ => none
  | n + 1, x1, x2, S => gBp (fX11_guests S) (fun v_1 => if v_1 ≤ x2 then (gBp (fX11_numbers 83 S) (fun S_2 => some S_2)) else (fX11_coarser_L35 (fX11_coarser_L25 n) gFU x1 x2 0 S))
def fX11_coarser_L2 : Nat → Int32 → Int32 → gSt → Option (gSt)
  | 0, _, _, _ => none
  | n + 1, x1, x2, S => gBp (fX11_guests S) (fun v_1 => if v_1 ≤ x2 then (fX11_coarser_L25 gFU x1 0 S) else (gC (gIn x2 8) (gL (gW S 83 (gN x2) x2) (fun S_2 => fX11_coarser_L2 n x1 (x2 + 1) S_2))))
def fX11_coarser (a1 : Int32) (S : gSt) : Option (gSt) := fX11_coarser_L2 gFU a1 0 S
/-! X11_two -/
def fX11_two (a1 : Int32) (a2 : Int32) (a3 : Int32) (S : gSt) : Option (Int32 × gSt) := gL (gW S 77 0 0) (fun S_1 => gBp (fX11_isImage a1 S_1) (fun v_2 => if v_2 = 0 then (some ((-1), S_1)) else (gBp (fX11_in a2 0 1 S_1) (fun v_3 => if v_3 = 0 then (some ((-1), S_1)) else (gBp (fX11_isGuest a3 S_1) (fun v_4 => if v_4 = 0 then (some ((-1), S_1)) else (gC (gIn a1 2) (if (gR S_1 82 (gN a1)) = 0 then (some ((-2), S_1)) else (if a2 = 0 then (gBp (fX11_finer a1 S_1) (fun S_6 => gC (gIn a3 8) (some (gR S_6 83 (gN a3), S_6)))) else (gBp (fX11_coarser a1 S_1) (fun S_5 => gC (gIn a3 8) (some (gR S_5 83 (gN a3), S_5)))))))))))))
/-! X11_bell -/
def fX11_bell_L74 (S : gSt) (s0 : Int32) : Option (Int32) := some s0
def fX11_bell (a0 : Int32) (S : gSt) : Option (Int32) := if 2 ≤ a0 then (if a0 = 2 then (fX11_bell_L74 S 2) else (if a0 = 3 then (fX11_bell_L74 S 5) else (if a0 = 4 then (fX11_bell_L74 S 15) else (if a0 = 5 then (fX11_bell_L74 S 52) else (if a0 = 6 then (fX11_bell_L74 S 203) else (if a0 = 7 then (fX11_bell_L74 S 877) else (fX11_bell_L74 S 4140))))))) else (fX11_bell_L74 S 1)
/-! X11_ones -/
def fX11_ones_L4 (S : gSt) : Nat → Int32 → Int32 → Int32 → Option (Int32)
  | 0, _, _, _ => none
  | n + 1, x0, x1, x2 => if 8 ≤ x2 then (some x1) else (gL (x1 + ((x0 >>> (x2 &&& 31)) &&& 1)) (fun v_1 => fX11_ones_L4 S n x0 v_1 (x2 + 1)))
def fX11_ones (a0 : Int32) (S : gSt) : Option (Int32) := fX11_ones_L4 S gFU a0 0 0
/-! X11_between -/
def fX11_between_L86 (k68 : Int32 → Int32 → gSt → Option (Int32 × gSt)) : Nat → Int32 → Int32 → Int32 → Int32 → gSt → Option (Int32 × gSt)
  | 0, _, _, _, _, _ => none
  | n + 1, x2, x3, x4, x5, S => gBp (fX11_guests S) (fun v_1 => if v_1 ≤ x5 then (gBp (fX11_ones x4 S) (fun v_2 => gBp (fX11_bell v_2 S) (fun v_3 => gL (x2 * v_3) (fun v_4 => k68 v_4 (x3 + 1) S)))) else (gC (gIn x5 8) (if (gR S 83 (gN x5)) = x3 then (gC (gIn x5 8) (gL (x4 ||| ((1 : Int32) <<< ((gR S 84 (gN x5)) &&& 31))) (fun v_6 => fX11_between_L86 k68 n x2 x3 v_6 (x5 + 1) S))) else (gL (x4 ||| 0) (fun v_5 => fX11_between_L86 k68 n x2 x3 v_5 (x5 + 1) S)))))
def fX11_between_L68 : Nat → Int32 → Int32 → gSt → Option (Int32 × gSt)
  | 0, _, _, _ => none
  | n + 1, x2, x3, S => gBp (fX11_partiesOf 83 S) (fun v_1 => if v_1 ≤ x3 then (some (x2, S)) else (fX11_between_L86 (fX11_between_L68 n) gFU x2 x3 0 0 S))
def fX11_between_L33 : Nat → Int32 → Int32 → gSt → Option (Int32 × gSt)
  | 0, _, _, _ => none
  | n + 1, x1, x2, S => gBp (fX11_guests S) (fun v_1 => if v_1 ≤ x2 then (gBp (fX11_coarser x1 S) (fun S_2 => fX11_between_L68 gFU 1 0 S_2)) else (gC (gIn x2 8) (gC (gIn x2 8) (gL (gW S 84 (gN x2) (gR S 83 (gN x2))) (fun S_3 => fX11_between_L33 n x1 (x2 + 1) S_3)))))
def fX11_between (a1 : Int32) (S : gSt) : Option (Int32 × gSt) := gL (gW S 77 0 0) (fun S_1 => gBp (fX11_isImage a1 S_1) (fun v_2 => if v_2 = 0 then (some ((-1), S_1)) else (gC (gIn a1 2) (if (gR S_1 82 (gN a1)) = 0 then (some ((-2), S_1)) else (gBp (fX11_finer a1 S_1) (fun S_3 => fX11_between_L33 gFU a1 0 S_3))))))
/-! X11_fewest -/
def fX11_fewest_L244 : Nat → Int32 → Int32 → gSt → Option (Int32 × gSt)
  | 0, _, _, _ => none
  | n + 1, x2, x3, S => if 256 ≤ x3 then (gBp (fX11_guests S) (fun v_1 => some ((v_1 - x2), S))) else (gC (gIn x3 256) (if (gR S 86 (gN x3)) ≤ x2 then (fX11_fewest_L244 n x2 (x3 + 1) S) else (gC (gIn x3 256) (gL (gR S 86 (gN x3)) (fun v_2 => fX11_fewest_L244 n v_2 (x3 + 1) S)))))
def fX11_fewest_L123 (k59 : Int32 → Int32 → gSt → Option (Int32 × gSt)) (k75 : Int32 → Int32 → Int32 → gSt → Option (Int32 × gSt)) (k82 : Int32 → Int32 → Int32 → Int32 → gSt → Option (Int32 × gSt)) : Nat → Int32 → Int32 → Int32 → Int32 → Int32 → Int32 → gSt → Option (Int32 × gSt)
  | 0, _, _, _, _, _, _, _ => none
  | n + 1, x1, x2, x3, x4, x5, x6, S => gBp (fX11_guests S) (fun v_1 => if v_1 ≤ x6 then (gC (gIn (x3 &&& (((1 : Int32) <<< (x4 &&& 31)) ^^^ (-1))) 256) (gL ((gR S 86 (gN (x3 &&& (((1 : Int32) <<< (x4 &&& 31)) ^^^ (-1))))) + x5) (fun v_2 => gC (gIn x3 256) (if v_2 ≤ (gR S 86 (gN x3)) then (gC (gIn x3 256) (gC (gIn x3 256) (gL (gW S 86 (gN x3) (gR S 86 (gN x3))) (fun S_3 => k82 x1 x2 x3 (x4 + 1) S_3)))) else (gC (gIn x3 256) (gL (gW S 86 (gN x3) v_2) (fun S_4 => k82 x1 x2 x3 (x4 + 1) S_4))))))) else (gC (gIn x6 40) (if (gR S 80 (gN x6)) = x2 then (gC (gIn ((40 * x1) + x6) 80) (if (gR S 81 (gN ((40 * x1) + x6))) = x4 then (gL (x5 + 1) (fun v_7 => fX11_fewest_L123 k59 k75 k82 n x1 x2 x3 x4 v_7 (x6 + 1) S)) else (gL (x5 + 0) (fun v_6 => fX11_fewest_L123 k59 k75 k82 n x1 x2 x3 x4 v_6 (x6 + 1) S)))) else (gL (x5 + 0) (fun v_5 => fX11_fewest_L123 k59 k75 k82 n x1 x2 x3 x4 v_5 (x6 + 1) S)))))
def fX11_fewest_L82 (k59 : Int32 → Int32 → gSt → Option (Int32 × gSt)) (k75 : Int32 → Int32 → Int32 → gSt → Option (Int32 × gSt)) : Nat → Int32 → Int32 → Int32 → Int32 → gSt → Option (Int32 × gSt)
  | 0, _, _, _, _, _ => none
  | n + 1, x1, x2, x3, x4, S => if 8 ≤ x4 then (k75 x1 x2 (x3 + (-1)) S) else (if ((x3 >>> (x4 &&& 31)) &&& 1) = 1 then (gC (gIn (x3 &&& (((1 : Int32) <<< (x4 &&& 31)) ^^^ (-1))) 256) (if (gR S 86 (gN (x3 &&& (((1 : Int32) <<< (x4 &&& 31)) ^^^ (-1))))) = (-9) then (fX11_fewest_L82 k59 k75 n x1 x2 x3 (x4 + 1) S) else (fX11_fewest_L123 k59 k75 (fX11_fewest_L82 k59 k75 n) gFU x1 x2 x3 x4 0 0 S))) else (fX11_fewest_L82 k59 k75 n x1 x2 x3 (x4 + 1) S))
def fX11_fewest_L75 (k59 : Int32 → Int32 → gSt → Option (Int32 × gSt)) : Nat → Int32 → Int32 → Int32 → gSt → Option (Int32 × gSt)
  | 0, _, _, _, _ => none
  | n + 1, x1, x2, x3, S => if x3 < 0 then (k59 x1 (x2 + 1) S) else (fX11_fewest_L82 k59 (fX11_fewest_L75 k59 n) gFU x1 x2 x3 0 S)
def fX11_fewest_L59 : Nat → Int32 → Int32 → gSt → Option (Int32 × gSt)
  | 0, _, _, _ => none
  | n + 1, x1, x2, S => gBp (fX11_partiesOf 80 S) (fun v_1 => if v_1 ≤ x2 then (fX11_fewest_L244 gFU 0 0 S) else (fX11_fewest_L75 (fX11_fewest_L59 n) gFU x1 x2 255 S))
def fX11_fewest_L28 : Nat → Int32 → Int32 → gSt → Option (Int32 × gSt)
  | 0, _, _, _ => none
  | n + 1, x1, x2, S => if 256 ≤ x2 then (fX11_fewest_L59 gFU x1 0 S) else (if x2 = 0 then (gC (gIn x2 256) (gL (gW S 86 (gN x2) 0) (fun S_2 => fX11_fewest_L28 n x1 (x2 + 1) S_2))) else (gC (gIn x2 256) (gL (gW S 86 (gN x2) (-9)) (fun S_1 => fX11_fewest_L28 n x1 (x2 + 1) S_1))))
def fX11_fewest (a1 : Int32) (S : gSt) : Option (Int32 × gSt) := gL (gW S 77 0 0) (fun S_1 => gBp (fX11_isImage a1 S_1) (fun v_2 => if v_2 = 0 then (some ((-1), S_1)) else (gC (gIn a1 2) (if (gR S_1 82 (gN a1)) = 0 then (some ((-2), S_1)) else (fX11_fewest_L28 gFU a1 0 S_1)))))
/-! X11_best -/
def fX11_best_L96 (k30 : Int32 → Int32 → Int32 → gSt → Option (Int32 × gSt)) (x1 : Int32) (x2 : Int32) (S : gSt) : Option (Int32 × gSt) := gBd (fX11_nextRow S) (fun v_1 S_2 => k30 x1 x2 v_1 S_2)
def fX11_best_L69 (k30 : Int32 → Int32 → Int32 → gSt → Option (Int32 × gSt)) : Nat → Int32 → Int32 → Int32 → gSt → Option (Int32 × gSt)
  | 0, _, _, _, _ => none
  | n + 1, x1, x2, x4, S => if 8 ≤ x4 then (fX11_best_L96 k30 x1 x2 S) else (gC (gIn x4 8) (gC (gIn x4 8) (gL (gW S 84 (gN x4) (gR S 83 (gN x4))) (fun S_1 => fX11_best_L69 k30 n x1 x2 (x4 + 1) S_1))))
def fX11_best_L30 : Nat → Int32 → Int32 → Int32 → gSt → Option (Int32 × gSt)
  | 0, _, _, _, _ => none
  | n + 1, x1, x2, x3, S => if x3 = 0 then (if x2 = (-1000000) then (some (x2, S)) else (if x1 = (-1) then (some (x2, S)) else (gC (gIn x1 8) (some (gR S 84 (gN x1), S))))) else (gBp (fX11_isLawful 83 S) (fun v_1 => if v_1 = 0 then (fX11_best_L96 (fX11_best_L30 n) x1 x2 S) else (gBp (fX11_worthOf 83 S) (fun v_2 => if v_2 ≤ x2 then (fX11_best_L96 (fX11_best_L30 n) x1 x2 S) else (gBp (fX11_worthOf 83 S) (fun v_3 => fX11_best_L69 (fX11_best_L30 n) gFU x1 v_3 0 S))))))
def fX11_best_L21 (x1 : Int32) (S : gSt) : Option (Int32 × gSt) := gBp (fX11_firstRow S) (fun S_1 => fX11_best_L30 gFU x1 (-1000000) 1 S_1)
def fX11_best (a1 : Int32) (S : gSt) : Option (Int32 × gSt) := gL (gW S 77 0 0) (fun S_1 => if a1 = (-1) then (fX11_best_L21 a1 S_1) else (gBp (fX11_isGuest a1 S_1) (fun v_2 => if v_2 = 0 then (some ((-1000000), S_1)) else (fX11_best_L21 a1 S_1))))
/-! X11_ratherAt -/
def fX11_ratherAt_L168 (k115 : Int32 → Int32 → Int32 → Int32 → gSt → Option (Int32 × gSt)) : Nat → Int32 → Int32 → Int32 → Int32 → Int32 → gSt → Option (Int32 × gSt)
  | 0, _, _, _, _, _, _ => none
  | n + 1, x1, x3, x4, x5, x6, S => if x6 < 0 then (k115 x1 x3 x4 (x5 + 1) S) else (gC (gIn x6 8) (if (gR S 83 (gN x6)) = x5 then (fX11_ratherAt_L168 k115 n x1 x6 x4 x5 (x6 + (-1)) S) else (fX11_ratherAt_L168 k115 n x1 x3 x4 x5 (x6 + (-1)) S)))
def fX11_ratherAt_L115 : Nat → Int32 → Int32 → Int32 → Int32 → gSt → Option (Int32 × gSt)
  | 0, _, _, _, _, _ => none
  | n + 1, x1, x3, x4, x5, S => gBp (fX11_partiesOf 83 S) (fun v_1 => if v_1 ≤ x5 then (some (x3, S)) else (gC (gIn x1 8) (if x5 = (gR S 83 (gN x1)) then (fX11_ratherAt_L115 n x1 x3 x4 (x5 + 1) S) else (gC (gIn x5 8) (if (gR S 85 (gN x5)) ≤ x4 then (fX11_ratherAt_L115 n x1 x3 x4 (x5 + 1) S) else (gC (gIn x5 8) (gL (gR S 85 (gN x5)) (fun v_2 => gBp (fX11_guests S) (fun v_3 => gL (v_3 - 1) (fun v_4 => fX11_ratherAt_L168 (fX11_ratherAt_L115 n) gFU x1 x3 v_2 x5 v_4 S))))))))))
def fX11_ratherAt_L99 (x1 : Int32) (x2 : Int32) (s0 : Int32) (S : gSt) : Option (Int32 × gSt) := if 0 ≤ x2 then (fX11_ratherAt_L115 gFU x1 s0 x2 0 S) else (fX11_ratherAt_L115 gFU x1 s0 0 0 S)
def fX11_ratherAt_L25 : Nat → Int32 → Int32 → gSt → Option (Int32 × gSt)
  | 0, _, _, _ => none
  | n + 1, x1, x3, S => gBp (fX11_guests S) (fun v_1 => if v_1 ≤ x3 then (gC (gIn x1 8) (gC (gIn (gR S 83 (gN x1)) 8) (gL (gR S 85 (gN (gR S 83 (gN x1)))) (fun v_2 => if 0 ≤ v_2 then (fX11_ratherAt_L99 x1 v_2 (-9) S) else (fX11_ratherAt_L99 x1 v_2 x1 S))))) else (gC (gIn x3 8) (gC (gIn (gR S 83 (gN x3)) 8) (if x3 = x1 then (gC (gIn (gR S 83 (gN x3)) 8) (gL (gW S 85 (gN (gR S 83 (gN x3))) ((gR S 85 (gN (gR S 83 (gN x3)))) + 0)) (fun S_4 => fX11_ratherAt_L25 n x1 (x3 + 1) S_4))) else (gC (gIn ((30 + (8 * x1)) + x3) 188) (gC (gIn (gR S 83 (gN x3)) 8) (gL (gW S 85 (gN (gR S 83 (gN x3))) ((gR S 85 (gN (gR S 83 (gN x3)))) + (gR S 79 (gN ((30 + (8 * x1)) + x3))))) (fun S_3 => fX11_ratherAt_L25 n x1 (x3 + 1) S_3))))))))
def fX11_ratherAt_L4 : Nat → Int32 → Int32 → gSt → Option (Int32 × gSt)
  | 0, _, _, _ => none
  | n + 1, x1, x3, S => if 8 ≤ x3 then (fX11_ratherAt_L25 gFU x1 0 S) else (gC (gIn x3 8) (gL (gW S 85 (gN x3) 0) (fun S_1 => fX11_ratherAt_L4 n x1 (x3 + 1) S_1)))
def fX11_ratherAt (a1 : Int32) (S : gSt) : Option (Int32 × gSt) := fX11_ratherAt_L4 gFU a1 0 S
/-! X11_leaving -/
def fX11_leaving_L122 (x1 : Int32) (x2 : Int32) (S : gSt) : Option (Int32 × gSt) := if x1 < 0 then (if x2 = 60 then (some ((-9), S)) else (some (x2, S))) else (gC (gIn x1 8) (some (gR S 83 (gN x1), S)))
def fX11_leaving_L108 (k53 : Int32 → Int32 → Int32 → Int32 → gSt → Option (Int32 × gSt)) (x1 : Int32) (x2 : Int32) (x3 : Int32) (x4 : Int32) (S : gSt) : Option (Int32 × gSt) := gBp (fX11_guests S) (fun v_1 => gC (decide (¬ v_1 = 0)) (gL ((x4 + 1) - (x4 + 1) / v_1 * v_1) (fun v_2 => k53 x1 x2 x3 v_2 S)))
def fX11_leaving_L53 : Nat → Int32 → Int32 → Int32 → Int32 → gSt → Option (Int32 × gSt)
  | 0, _, _, _, _, _ => none
  | n + 1, x1, x2, x3, x4, S => gBp (fX11_guests S) (fun v_1 => if v_1 ≤ x3 then (fX11_leaving_L122 x1 x2 S) else (if 60 ≤ x2 then (fX11_leaving_L122 x1 x2 S) else (gBd (fX11_ratherAt x4 S) (fun v_2 S_3 => if v_2 = (-9) then (fX11_leaving_L108 (fX11_leaving_L53 n) x1 x2 (x3 + 1) x4 S_3) else (gBd (fX11_moves 83 x4 v_2 S_3) (fun v_4 S_5 => if v_4 = 0 then (fX11_leaving_L108 (fX11_leaving_L53 n) x1 x2 (x3 + 1) x4 S_5) else (fX11_leaving_L108 (fX11_leaving_L53 n) x1 (x2 + 1) 0 x4 S_5)))))))
def fX11_leaving_L22 : Nat → Int32 → Int32 → gSt → Option (Int32 × gSt)
  | 0, _, _, _ => none
  | n + 1, x1, x2, S => if 8 ≤ x2 then (fX11_leaving_L53 gFU x1 0 0 0 S) else (gC (gIn x2 40) (gC (gIn x2 8) (gL (gW S 83 (gN x2) (gR S 80 (gN x2))) (fun S_1 => fX11_leaving_L22 n x1 (x2 + 1) S_1))))
def fX11_leaving (a1 : Int32) (S : gSt) : Option (Int32 × gSt) := gL (gW S 77 0 0) (fun S_1 => if a1 = (-1) then (fX11_leaving_L22 gFU a1 0 S_1) else (gBp (fX11_isGuest a1 S_1) (fun v_2 => if v_2 = 0 then (some ((-1), S_1)) else (fX11_leaving_L22 gFU a1 0 S_1))))
/-! X11_evening -/
def fX11_evening_L21 : Nat → Int32 → Int32 → Int32 → gSt → Option (Int32 × gSt)
  | 0, _, _, _, _ => none
  | n + 1, x1, x2, x3, S => if x1 ≤ x3 then (some (x2, S)) else (gBp (fX11_guests S) (fun v_1 => gBd (fX11_draws v_1 S) (fun v_2 S_3 => gBp (fX11_guests S_3) (fun v_4 => gBd (fX11_draws v_4 S_3) (fun v_5 S_6 => gBd (fX11_moves 80 v_2 v_5 S_6) (fun v_7 S_8 => gBp (fX11_alone S_8) (fun v_9 => if v_9 ≤ 0 then (gL (x2 + 0) (fun v_10 => fX11_evening_L21 n x1 v_10 (x3 + 1) S_8)) else (gL (x2 + 1) (fun v_11 => fX11_evening_L21 n x1 v_11 (x3 + 1) S_8)))))))))
def fX11_evening (a1 : Int32) (S : gSt) : Option (Int32 × gSt) := gL (gW S 77 0 0) (fun S_1 => gBp (fX11_in a1 1 99 S_1) (fun v_2 => if v_2 = 0 then (some ((-1), S_1)) else (fX11_evening_L21 gFU a1 0 0 S_1)))
/-! X11_rate -/
def fX11_rate_L250 (s0 : Int32) (S : gSt) : Option (Int32 × gSt) := some (s0, S)
def fX11_rate_L179 (x1 : Int32) (x2 : Int32) (x3 : Int32) (x4 : Int32) (x5 : Int32) (s1 : Int64) (s2 : Int64) (S : gSt) : Option (Int32 × gSt) := gL (gWL S 77 (s1 + s2)) (fun S_1 => if x1 = 0 then (fX11_rate_L250 x3 S_1) else (if x1 = 1 then (fX11_rate_L250 x4 S_1) else (if x1 = 2 then (fX11_rate_L250 x5 S_1) else (if x1 = 3 then (fX11_rate_L250 (2 * x4) S_1) else (if x1 = 4 then (gC (gIn x2 40) (fX11_rate_L250 (x5 + (gR S_1 80 (gN x2))) S_1)) else (gBp (fX11_partiesOf 80 S_1) (fun v_2 => fX11_rate_L250 (x3 + v_2) S_1)))))))
def fX11_rate_L46 : Nat → Int32 → Int32 → Int32 → Int32 → Int32 → gSt → Option (Int32 × gSt)
  | 0, _, _, _, _, _, _ => none
  | n + 1, x1, x2, x3, x4, x5, S => gBp (fX11_guests S) (fun v_1 => if v_1 ≤ x5 then (gC (gIn (1 + x2) 188) (gL (x3 - (gR S 79 (gN (1 + x2)))) (fun v_2 => if x1 = 0 then (fX11_rate_L179 x1 x2 x3 x4 v_2 (gRL S 77) 1 S) else (if x1 = 1 then (fX11_rate_L179 x1 x2 x3 x4 v_2 (gRL S 77) 11 S) else (if x1 = 2 then (fX11_rate_L179 x1 x2 x3 x4 v_2 (gRL S 77) 101 S) else (if x1 = 3 then (fX11_rate_L179 x1 x2 x3 x4 v_2 (gRL S 77) 1011 S) else (if x1 = 4 then (fX11_rate_L179 x1 x2 x3 x4 v_2 (gRL S 77) 10101 S) else (fX11_rate_L179 x1 x2 x3 x4 v_2 (gRL S 77) 100001 S)))))))) else (if x5 = x2 then (gL (x4 + 0) (fun v_3 => fX11_rate_L46 n x1 x2 x3 v_3 (x5 + 1) S)) else (gC (gIn x5 40) (gC (gIn x2 40) (if (gR S 80 (gN x5)) = (gR S 80 (gN x2)) then (gC (gIn ((30 + (8 * x2)) + x5) 188) (gL (x4 + (gR S 79 (gN ((30 + (8 * x2)) + x5)))) (fun v_5 => fX11_rate_L46 n x1 x2 x3 v_5 (x5 + 1) S))) else (gL (x4 + 0) (fun v_4 => fX11_rate_L46 n x1 x2 x3 v_4 (x5 + 1) S)))))))
def fX11_rate (a1 : Int32) (a2 : Int32) (S : gSt) : Option (Int32 × gSt) := gL (gW S 77 0 0) (fun S_1 => gBp (fX11_in a1 0 5 S_1) (fun v_2 => if v_2 = 0 then (some ((-1000000), S_1)) else (gBp (fX11_isGuest a2 S_1) (fun v_3 => if v_3 = 0 then (some ((-1000000), S_1)) else (gC (gIn a2 40) (gBp (fX11_sizeOf 80 (gR S_1 80 (gN a2)) S_1) (fun v_4 => fX11_rate_L46 gFU a1 a2 v_4 v_4 0 S_1)))))))
/-! X11_keep -/
def fX11_keep_L16 : Nat → Int32 → Int32 → gSt → Option (Int32 × gSt)
  | 0, _, _, _ => none
  | n + 1, x1, x2, S => if 40 ≤ x2 then (gC (gIn x1 2) (gL (gW S 82 (gN x1) (vp_nar .boolean 1)) (fun S_1 => gBp (fX11_partiesOf 80 S_1) (fun v_2 => some (v_2, S_1))))) else (gC (gIn x2 40) (gC (gIn ((40 * x1) + x2) 80) (gL (gW S 81 (gN ((40 * x1) + x2)) (gR S 80 (gN x2))) (fun S_3 => fX11_keep_L16 n x1 (x2 + 1) S_3))))
def fX11_keep (a1 : Int32) (S : gSt) : Option (Int32 × gSt) := gL (gW S 77 0 0) (fun S_1 => gBp (fX11_isImage a1 S_1) (fun v_2 => if v_2 = 0 then (some ((-1), S_1)) else (fX11_keep_L16 gFU a1 0 S_1)))
/-! X11_back -/
def fX11_back_L28 : Nat → Int32 → Int32 → gSt → Option (Int32 × gSt)
  | 0, _, _, _ => none
  | n + 1, x1, x2, S => if 40 ≤ x2 then (gBp (fX11_partiesOf 80 S) (fun v_1 => some (v_1, S))) else (gC (gIn ((40 * x1) + x2) 80) (gC (gIn x2 40) (gL (gW S 80 (gN x2) (gR S 81 (gN ((40 * x1) + x2)))) (fun S_2 => fX11_back_L28 n x1 (x2 + 1) S_2))))
def fX11_back (a1 : Int32) (S : gSt) : Option (Int32 × gSt) := gL (gW S 77 0 0) (fun S_1 => gBp (fX11_isImage a1 S_1) (fun v_2 => if v_2 = 0 then (some ((-1), S_1)) else (gC (gIn a1 2) (if (gR S_1 82 (gN a1)) = 0 then (some ((-2), S_1)) else (fX11_back_L28 gFU a1 0 S_1)))))
/-! X11_count -/
def fX11_count_L121 (s0 : Int32) (S : gSt) : Option (Int32 × gSt) := some (s0, S)
def fX11_count_L9 : Nat → Int32 → Int32 → Int32 → gSt → Option (Int32 × gSt)
  | 0, _, _, _, _ => none
  | n + 1, x1, x2, x3, S => gBp (fX11_guests S) (fun v_1 => if v_1 ≤ x3 then (if x1 = 0 then (gBp (fX11_guests S) (fun v_3 => fX11_count_L121 v_3 S)) else (if x1 = 1 then (gC (gIn 8 40) (fX11_count_L121 (gR S 80 (gN 8)) S)) else (gBp (fX11_in x1 2 3 S) (fun v_2 => if v_2 = 0 then (if x1 = 4 then (fX11_count_L121 (gR S 77 3) S) else (fX11_count_L121 (-1) S)) else (gC (decide (¬ 2 = 0)) (fX11_count_L121 (x2 / 2) S)))))) else (if x1 = 2 then (gC (gIn (14 + x3) 188) (gBp (fX11_ones (gR S 79 (gN (14 + x3))) S) (fun v_7 => gL (x2 + v_7) (fun v_8 => fX11_count_L9 n x1 v_8 (x3 + 1) S)))) else (if x1 = 3 then (gC (gIn (22 + x3) 188) (gBp (fX11_ones (gR S 79 (gN (22 + x3))) S) (fun v_5 => gL (x2 + v_5) (fun v_6 => fX11_count_L9 n x1 v_6 (x3 + 1) S)))) else (gL (x2 + 0) (fun v_4 => fX11_count_L9 n x1 v_4 (x3 + 1) S)))))
def fX11_count (a1 : Int32) (S : gSt) : Option (Int32 × gSt) := gL (gW S 77 0 0) (fun S_1 => fX11_count_L9 gFU a1 0 0 S_1)
/-! X11_trace -/
def fX11_trace (S : gSt) : Option (Int64 × gSt) := gL (gW S 77 0 0) (fun S_1 => some (gRL S_1 77, S_1))

def gPSX : List Nat := List.range 77 ++ [87]
def gPSM : List Nat := [77, 78, 79, 80, 81, 82, 83, 84, 85, 86]
def gIni (p k : Nat) : Int32 := match p, k with
  | 0, 0 => nI 1
  | 0, 1 => nI 15
  | 1, 5 => 4
  | 15, 5 => 4
  | 31, 2 => nI 15
  | 31, 4 => 13
  | 32, 3 => nI 1
  | 44, 0 => 1
  | 36, 3 => 1
  | 36, 4 => 1
  | 46, 3 => 1
  | 46, 4 => 1
  | 55, 3 => 1
  | 55, 4 => 1
  | 64, 3 => 1
  | 64, 4 => 1
  | 68, 3 => 1
  | 68, 4 => 1
  | 73, 3 => 1
  | 73, 4 => 1
  | _, _ => 0
def gS0 : gSt := (gIni, fun _ => 0)
def gS1 : gSt := (fX7_scatter 36 4 gS0).getD gS0
theorem gS1_ok : fX7_scatter 36 4 gS0 = some gS1 := by
  have h : (fX7_scatter 36 4 gS0).isSome = true := by decide +kernel
  unfold gS1
  cases hh : fX7_scatter 36 4 gS0 with
  | none => rw [hh] at h; cases h
  | some x => rfl
def gM0 : gSt := (fun _ _ => 0, fun _ => 0)
def gM1o : Option gSt := gBp (fX11_drafts 4 (gW gM0 80 39 1)) (fun S1 => gBp (fX11_adopts S1) (fun S2 => some S2))
def gM1 : gSt := gM1o.getD gM0
theorem gM1_ok : gM1o = some gM1 := by
  have h : gM1o.isSome = true := by decide +kernel
  unfold gM1
  cases hh : gM1o with
  | none => rw [hh] at h; cases h
  | some x => rfl
def gI : gSt := (fun p k => if p < 77 ∨ p = 87 then gS1.1 p k else gM1.1 p k, fun p => if p < 77 ∨ p = 87 then gS1.2 p else gM1.2 p)
def fL_law_L949 (k18 : Int32 → gSt → Option (Unit)) (L : Nat) (xs : Nat → Int32) (x3 : Int32) (S : gSt) : Option Unit := k18 (x3 + 4) S
def fL_law_L18 (L : Nat) (xs : Nat → Int32) : Nat → Int32 → gSt → Option Unit
  | 0, _, _ => none
  | n + 1, x3, S => if ((Int32.ofNat L) - 4) < x3 then (some ()) else (gC (gIn x3 L) (if ((xs (gN x3)) &&& 31) = 0 then (gC (gIn (x3 + 1) L) (gC (gIn (x3 + 2) L) (gC (gIn (x3 + 3) L) (gBd (fX10_type ((((xs (gN (x3 + 1))).toInt64) <<< ((32 : Int32).toInt64 &&& 63)) ||| (((xs (gN (x3 + 2))).toInt64) &&& 4294967295)) (xs (gN (x3 + 3))) S) (fun v_1 S_2 => gC (gIn (x3 + 1) L) (gC (gIn (x3 + 2) L) (gC (gIn (x3 + 3) L) (gBd (fX11_type ((((xs (gN (x3 + 1))).toInt64) <<< ((32 : Int32).toInt64 &&& 63)) ||| (((xs (gN (x3 + 2))).toInt64) &&& 4294967295)) (xs (gN (x3 + 3))) S_2) (fun v_3 S_4 => if v_1 = v_3 then (fL_law_L949 (fL_law_L18 L xs n) L xs x3 S_4) else (none)))))))))) else (if ((xs (gN x3)) &&& 31) = 1 then (gBd (fX10_clear S) (fun v_5 S_6 => gBd (fX11_clear S_6) (fun v_7 S_8 => if v_5 = v_7 then (fL_law_L949 (fL_law_L18 L xs n) L xs x3 S_8) else (none)))) else (if ((xs (gN x3)) &&& 31) = 2 then (gBd (fX10_room S) (fun v_9 S_10 => gBd (fX11_room S_10) (fun v_11 S_12 => if v_9 = v_11 then (fL_law_L949 (fL_law_L18 L xs n) L xs x3 S_12) else (none)))) else (if ((xs (gN x3)) &&& 31) = 3 then (gC (gIn (x3 + 1) L) (gBp (fX10_law (xs (gN (x3 + 1))) S) (fun v_13 => gC (gIn (x3 + 1) L) (gBd (fX11_law (xs (gN (x3 + 1))) S) (fun v_14 S_15 => if v_13 = v_14 then (fL_law_L949 (fL_law_L18 L xs n) L xs x3 S_15) else (none)))))) else (if ((xs (gN x3)) &&& 31) = 4 then (gC (gIn (x3 + 1) L) (gC (gIn (x3 + 2) L) (gC (gIn (x3 + 3) L) (gBp (fX10_pair (xs (gN (x3 + 1))) (xs (gN (x3 + 2))) (xs (gN (x3 + 3))) S) (fun v_16 => gC (gIn (x3 + 1) L) (gC (gIn (x3 + 2) L) (gC (gIn (x3 + 3) L) (gBd (fX11_pair (xs (gN (x3 + 1))) (xs (gN (x3 + 2))) (xs (gN (x3 + 3))) S) (fun v_17 S_18 => if v_16 = v_17 then (fL_law_L949 (fL_law_L18 L xs n) L xs x3 S_18) else (none)))))))))) else (if ((xs (gN x3)) &&& 31) = 5 then (gC (gIn (x3 + 1) L) (gBp (fX10_party (xs (gN (x3 + 1))) S) (fun v_19 => gC (gIn (x3 + 1) L) (gBd (fX11_party (xs (gN (x3 + 1))) S) (fun v_20 S_21 => if v_19 = v_20 then (fL_law_L949 (fL_law_L18 L xs n) L xs x3 S_21) else (none)))))) else (if ((xs (gN x3)) &&& 31) = 6 then (gC (gIn (x3 + 1) L) (gC (gIn (x3 + 2) L) (gBd (fX10_goes (xs (gN (x3 + 1))) (xs (gN (x3 + 2))) S) (fun v_22 S_23 => gC (gIn (x3 + 1) L) (gC (gIn (x3 + 2) L) (gBd (fX11_goes (xs (gN (x3 + 1))) (xs (gN (x3 + 2))) S_23) (fun v_24 S_25 => if v_22 = v_24 then (fL_law_L949 (fL_law_L18 L xs n) L xs x3 S_25) else (none)))))))) else (if ((xs (gN x3)) &&& 31) = 7 then (gC (gIn (x3 + 1) L) (gC (gIn (x3 + 2) L) (gBd (fX10_join (xs (gN (x3 + 1))) (xs (gN (x3 + 2))) S) (fun v_26 S_27 => gC (gIn (x3 + 1) L) (gC (gIn (x3 + 2) L) (gBd (fX11_join (xs (gN (x3 + 1))) (xs (gN (x3 + 2))) S_27) (fun v_28 S_29 => if v_26 = v_28 then (fL_law_L949 (fL_law_L18 L xs n) L xs x3 S_29) else (none)))))))) else (if ((xs (gN x3)) &&& 31) = 8 then (gC (gIn (x3 + 1) L) (gC (gIn (x3 + 2) L) (gBd (fX10_part (xs (gN (x3 + 1))) (xs (gN (x3 + 2))) S) (fun v_30 S_31 => gC (gIn (x3 + 1) L) (gC (gIn (x3 + 2) L) (gBd (fX11_part (xs (gN (x3 + 1))) (xs (gN (x3 + 2))) S_31) (fun v_32 S_33 => if v_30 = v_32 then (fL_law_L949 (fL_law_L18 L xs n) L xs x3 S_33) else (none)))))))) else (if ((xs (gN x3)) &&& 31) = 9 then (gC (gIn (x3 + 1) L) (gBd (fX10_now (xs (gN (x3 + 1))) S) (fun v_34 S_35 => gC (gIn (x3 + 1) L) (gBd (fX11_now (xs (gN (x3 + 1))) S_35) (fun v_36 S_37 => if v_34 = v_36 then (fL_law_L949 (fL_law_L18 L xs n) L xs x3 S_37) else (none)))))) else (if ((xs (gN x3)) &&& 31) = 10 then (gC (gIn (x3 + 1) L) (gBd (fX10_many (xs (gN (x3 + 1))) S) (fun v_38 S_39 => gC (gIn (x3 + 1) L) (gBd (fX11_many (xs (gN (x3 + 1))) S_39) (fun v_40 S_41 => if v_38 = v_40 then (fL_law_L949 (fL_law_L18 L xs n) L xs x3 S_41) else (none)))))) else (if ((xs (gN x3)) &&& 31) = 11 then (gBd (fX10_rank S) (fun v_42 S_43 => gBd (fX11_rank S_43) (fun v_44 S_45 => if v_42 = v_44 then (fL_law_L949 (fL_law_L18 L xs n) L xs x3 S_45) else (none)))) else (if ((xs (gN x3)) &&& 31) = 12 then (gC (gIn (x3 + 1) L) (gC (gIn (x3 + 2) L) (gBd (fX10_nth (xs (gN (x3 + 1))) (xs (gN (x3 + 2))) S) (fun v_46 S_47 => gC (gIn (x3 + 1) L) (gC (gIn (x3 + 2) L) (gBd (fX11_nth (xs (gN (x3 + 1))) (xs (gN (x3 + 2))) S_47) (fun v_48 S_49 => if v_46 = v_48 then (fL_law_L949 (fL_law_L18 L xs n) L xs x3 S_49) else (none)))))))) else (if ((xs (gN x3)) &&& 31) = 13 then (gBd (fX10_draw S) (fun v_50 S_51 => gBd (fX11_draw S_51) (fun v_52 S_53 => if v_50 = v_52 then (fL_law_L949 (fL_law_L18 L xs n) L xs x3 S_53) else (none)))) else (if ((xs (gN x3)) &&& 31) = 14 then (gC (gIn (x3 + 1) L) (gBd (fX10_lot (xs (gN (x3 + 1))) S) (fun v_54 S_55 => gC (gIn (x3 + 1) L) (gBd (fX11_lot (xs (gN (x3 + 1))) S_55) (fun v_56 S_57 => if v_54 = v_56 then (fL_law_L949 (fL_law_L18 L xs n) L xs x3 S_57) else (none)))))) else (if ((xs (gN x3)) &&& 31) = 15 then (gC (gIn (x3 + 1) L) (gC (gIn (x3 + 2) L) (gC (gIn (x3 + 3) L) (gBd (fX10_saw (xs (gN (x3 + 1))) (xs (gN (x3 + 2))) (xs (gN (x3 + 3))) S) (fun v_58 S_59 => gC (gIn (x3 + 1) L) (gC (gIn (x3 + 2) L) (gC (gIn (x3 + 3) L) (gBd (fX11_saw (xs (gN (x3 + 1))) (xs (gN (x3 + 2))) (xs (gN (x3 + 3))) S_59) (fun v_60 S_61 => if v_58 = v_60 then (fL_law_L949 (fL_law_L18 L xs n) L xs x3 S_61) else (none)))))))))) else (if ((xs (gN x3)) &&& 31) = 16 then (gBd (fX10_forget S) (fun v_62 S_63 => gBd (fX11_forget S_63) (fun v_64 S_65 => if v_62 = v_64 then (fL_law_L949 (fL_law_L18 L xs n) L xs x3 S_65) else (none)))) else (if ((xs (gN x3)) &&& 31) = 17 then (gBd (fX10_left S) (fun v_66 S_67 => gBd (fX11_left S_67) (fun v_68 S_69 => if v_66 = v_68 then (fL_law_L949 (fL_law_L18 L xs n) L xs x3 S_69) else (none)))) else (if ((xs (gN x3)) &&& 31) = 18 then (gC (gIn (x3 + 1) L) (gC (gIn (x3 + 2) L) (gBd (fX10_sure (xs (gN (x3 + 1))) (xs (gN (x3 + 2))) S) (fun v_70 S_71 => gC (gIn (x3 + 1) L) (gC (gIn (x3 + 2) L) (gBd (fX11_sure (xs (gN (x3 + 1))) (xs (gN (x3 + 2))) S_71) (fun v_72 S_73 => if v_70 = v_72 then (fL_law_L949 (fL_law_L18 L xs n) L xs x3 S_73) else (none)))))))) else (if ((xs (gN x3)) &&& 31) = 19 then (gC (gIn (x3 + 1) L) (gC (gIn (x3 + 2) L) (gC (gIn (x3 + 3) L) (gBd (fX10_two (xs (gN (x3 + 1))) (xs (gN (x3 + 2))) (xs (gN (x3 + 3))) S) (fun v_74 S_75 => gC (gIn (x3 + 1) L) (gC (gIn (x3 + 2) L) (gC (gIn (x3 + 3) L) (gBd (fX11_two (xs (gN (x3 + 1))) (xs (gN (x3 + 2))) (xs (gN (x3 + 3))) S_75) (fun v_76 S_77 => if v_74 = v_76 then (fL_law_L949 (fL_law_L18 L xs n) L xs x3 S_77) else (none)))))))))) else (if ((xs (gN x3)) &&& 31) = 20 then (gC (gIn (x3 + 1) L) (gBd (fX10_between (xs (gN (x3 + 1))) S) (fun v_78 S_79 => gC (gIn (x3 + 1) L) (gBd (fX11_between (xs (gN (x3 + 1))) S_79) (fun v_80 S_81 => if v_78 = v_80 then (fL_law_L949 (fL_law_L18 L xs n) L xs x3 S_81) else (none)))))) else (if ((xs (gN x3)) &&& 31) = 21 then (gC (gIn (x3 + 1) L) (gBp (fX10_fewest (xs (gN (x3 + 1))) S) (fun v_82 => gC (gIn (x3 + 1) L) (gBd (fX11_fewest (xs (gN (x3 + 1))) S) (fun v_83 S_84 => if v_82 = v_83 then (fL_law_L949 (fL_law_L18 L xs n) L xs x3 S_84) else (none)))))) else (if ((xs (gN x3)) &&& 31) = 22 then (gC (gIn (x3 + 1) L) (gBd (fX10_best (xs (gN (x3 + 1))) S) (fun v_85 S_86 => gC (gIn (x3 + 1) L) (gBd (fX11_best (xs (gN (x3 + 1))) S_86) (fun v_87 S_88 => if v_85 = v_87 then (fL_law_L949 (fL_law_L18 L xs n) L xs x3 S_88) else (none)))))) else (if ((xs (gN x3)) &&& 31) = 23 then (gC (gIn (x3 + 1) L) (gBd (fX10_leaving (xs (gN (x3 + 1))) S) (fun v_89 S_90 => gC (gIn (x3 + 1) L) (gBd (fX11_leaving (xs (gN (x3 + 1))) S_90) (fun v_91 S_92 => if v_89 = v_91 then (fL_law_L949 (fL_law_L18 L xs n) L xs x3 S_92) else (none)))))) else (if ((xs (gN x3)) &&& 31) = 24 then (gC (gIn (x3 + 1) L) (gBd (fX10_evening (xs (gN (x3 + 1))) S) (fun v_93 S_94 => gC (gIn (x3 + 1) L) (gBd (fX11_evening (xs (gN (x3 + 1))) S_94) (fun v_95 S_96 => if v_93 = v_95 then (fL_law_L949 (fL_law_L18 L xs n) L xs x3 S_96) else (none)))))) else (if ((xs (gN x3)) &&& 31) = 25 then (gC (gIn (x3 + 1) L) (gC (gIn (x3 + 2) L) (gBd (fX10_rate (xs (gN (x3 + 1))) (xs (gN (x3 + 2))) S) (fun v_97 S_98 => gC (gIn (x3 + 1) L) (gC (gIn (x3 + 2) L) (gBd (fX11_rate (xs (gN (x3 + 1))) (xs (gN (x3 + 2))) S_98) (fun v_99 S_100 => if v_97 = v_99 then (fL_law_L949 (fL_law_L18 L xs n) L xs x3 S_100) else (none)))))))) else (if ((xs (gN x3)) &&& 31) = 26 then (gC (gIn (x3 + 1) L) (gBd (fX10_keep (xs (gN (x3 + 1))) S) (fun v_101 S_102 => gC (gIn (x3 + 1) L) (gBd (fX11_keep (xs (gN (x3 + 1))) S_102) (fun v_103 S_104 => if v_101 = v_103 then (fL_law_L949 (fL_law_L18 L xs n) L xs x3 S_104) else (none)))))) else (if ((xs (gN x3)) &&& 31) = 27 then (gC (gIn (x3 + 1) L) (gBd (fX10_back (xs (gN (x3 + 1))) S) (fun v_105 S_106 => gC (gIn (x3 + 1) L) (gBd (fX11_back (xs (gN (x3 + 1))) S_106) (fun v_107 S_108 => if v_105 = v_107 then (fL_law_L949 (fL_law_L18 L xs n) L xs x3 S_108) else (none)))))) else (if ((xs (gN x3)) &&& 31) = 28 then (gC (gIn (x3 + 1) L) (gBp (fX10_count (xs (gN (x3 + 1))) S) (fun v_109 => gC (gIn (x3 + 1) L) (gBd (fX11_count (xs (gN (x3 + 1))) S) (fun v_110 S_111 => if v_109 = v_110 then (fL_law_L949 (fL_law_L18 L xs n) L xs x3 S_111) else (none)))))) else (if ((xs (gN x3)) &&& 31) = 29 then (gBp (fX10_trace S) (fun v_112 => gBd (fX11_trace S) (fun v_113 S_114 => if (lg_cmp v_112 v_113) = 0 then (fL_law_L949 (fL_law_L18 L xs n) L xs x3 S_114) else (none)))) else (fL_law_L949 (fL_law_L18 L xs n) L xs x3 S))))))))))))))))))))))))))))))))
