/-! kinds of positions: what the layout says of them -/
def gArM (o : Nat) : Bool := o == 80 || o == 83
def gArX (o : Nat) : Bool := o == 4 || o == 5 || o == 18 || o == 19
def gPX (G : gGG) : Prop := ∀ p : Nat, (p < 77 ∨ p = 87) → p ∈ gps G
def gPM (G : gGG) : Prop := ∀ p : Nat, (77 ≤ p ∧ p < 87) → p ∈ gps G
theorem gSt_b {o : Nat} (h : gIsSt o = true) : o + 3 < 77 := by
  simp only [gIsSt, Bool.or_eq_true, beq_iff_eq] at h
  rcases h with ((((rfl | rfl) | rfl) | rfl) | rfl) | rfl <;> first | rfl | decide
theorem gSt_m {G : gGG} {o : Nat} (hX : gPX G) (h : gIsSt o = true) : o ∈ gps G := hX o (by have := gSt_b h; omega)
theorem gSt_l {o : Nat} (h : gIsSt o = true) : (gLay o).1 = 7 + 3 := by
  simp only [gIsSt, Bool.or_eq_true, beq_iff_eq] at h
  rcases h with ((((rfl | rfl) | rfl) | rfl) | rfl) | rfl <;> first | rfl | decide
theorem gSt_m1 {G : gGG} {o : Nat} (hX : gPX G) (h : gIsSt o = true) : o + 1 ∈ gps G := hX _ (by have := gSt_b h; omega)
theorem gSt_l1 {o : Nat} (h : gIsSt o = true) : gLay (o + 1) = (0, 8) := by
  simp only [gIsSt, Bool.or_eq_true, beq_iff_eq] at h
  rcases h with ((((rfl | rfl) | rfl) | rfl) | rfl) | rfl <;> first | rfl | decide
theorem gSt_m2 {G : gGG} {o : Nat} (hX : gPX G) (h : gIsSt o = true) : o + 2 ∈ gps G := hX _ (by have := gSt_b h; omega)
theorem gSt_l2 {o : Nat} (h : gIsSt o = true) : gLay (o + 2) = (0, 8) := by
  simp only [gIsSt, Bool.or_eq_true, beq_iff_eq] at h
  rcases h with ((((rfl | rfl) | rfl) | rfl) | rfl) | rfl <;> first | rfl | decide
theorem gSt_m3 {G : gGG} {o : Nat} (hX : gPX G) (h : gIsSt o = true) : o + 3 ∈ gps G := hX _ (by have := gSt_b h; omega)
theorem gSt_l3 {o : Nat} (h : gIsSt o = true) : gLay (o + 3) = (0, 8) := by
  simp only [gIsSt, Bool.or_eq_true, beq_iff_eq] at h
  rcases h with ((((rfl | rfl) | rfl) | rfl) | rfl) | rfl <;> first | rfl | decide
theorem gRu_b {o : Nat} (h : gIsRu o = true) : o + 13 < 77 := by
  simp only [gIsRu, Bool.or_eq_true, beq_iff_eq] at h
  rcases h with rfl | rfl <;> first | rfl | decide
theorem gRu_m {G : gGG} {o : Nat} (hX : gPX G) (h : gIsRu o = true) : o ∈ gps G := hX o (by have := gRu_b h; omega)
theorem gRu_l {o : Nat} (h : gIsRu o = true) : (gLay o).1 = 5 + 3 := by
  simp only [gIsRu, Bool.or_eq_true, beq_iff_eq] at h
  rcases h with rfl | rfl <;> first | rfl | decide
theorem gRu_m1 {G : gGG} {o : Nat} (hX : gPX G) (h : gIsRu o = true) : o + 1 ∈ gps G := hX _ (by have := gRu_b h; omega)
theorem gRu_l1 {o : Nat} (h : gIsRu o = true) : gLay (o + 1) = (0, 8) := by
  simp only [gIsRu, Bool.or_eq_true, beq_iff_eq] at h
  rcases h with rfl | rfl <;> first | rfl | decide
theorem gRu_m2 {G : gGG} {o : Nat} (hX : gPX G) (h : gIsRu o = true) : o + 2 ∈ gps G := hX _ (by have := gRu_b h; omega)
theorem gRu_l2 {o : Nat} (h : gIsRu o = true) : gLay (o + 2) = (0, 5) := by
  simp only [gIsRu, Bool.or_eq_true, beq_iff_eq] at h
  rcases h with rfl | rfl <;> first | rfl | decide
theorem gRu_m3 {G : gGG} {o : Nat} (hX : gPX G) (h : gIsRu o = true) : o + 3 ∈ gps G := hX _ (by have := gRu_b h; omega)
theorem gRu_l3 {o : Nat} (h : gIsRu o = true) : gLay (o + 3) = (0, 8) := by
  simp only [gIsRu, Bool.or_eq_true, beq_iff_eq] at h
  rcases h with rfl | rfl <;> first | rfl | decide
theorem gRu_m4 {G : gGG} {o : Nat} (hX : gPX G) (h : gIsRu o = true) : o + 4 ∈ gps G := hX _ (by have := gRu_b h; omega)
theorem gRu_l4 {o : Nat} (h : gIsRu o = true) : gLay (o + 4) = (0, 8) := by
  simp only [gIsRu, Bool.or_eq_true, beq_iff_eq] at h
  rcases h with rfl | rfl <;> first | rfl | decide
theorem gRu_m5 {G : gGG} {o : Nat} (hX : gPX G) (h : gIsRu o = true) : o + 5 ∈ gps G := hX _ (by have := gRu_b h; omega)
theorem gRu_l5 {o : Nat} (h : gIsRu o = true) : gLay (o + 5) = (2, 8) := by
  simp only [gIsRu, Bool.or_eq_true, beq_iff_eq] at h
  rcases h with rfl | rfl <;> first | rfl | decide
theorem gSi_b {o : Nat} (h : gIsSi o = true) : o + 3 < 77 := by
  simp only [gIsSi, Bool.or_eq_true, beq_iff_eq] at h
  rcases h with (rfl | rfl) | rfl <;> first | rfl | decide
theorem gSi_m {G : gGG} {o : Nat} (hX : gPX G) (h : gIsSi o = true) : o ∈ gps G := hX o (by have := gSi_b h; omega)
theorem gSi_l {o : Nat} (h : gIsSi o = true) : (gLay o).1 = 6 + 3 := by
  simp only [gIsSi, Bool.or_eq_true, beq_iff_eq] at h
  rcases h with (rfl | rfl) | rfl <;> first | rfl | decide
theorem gSi_m1 {G : gGG} {o : Nat} (hX : gPX G) (h : gIsSi o = true) : o + 1 ∈ gps G := hX _ (by have := gSi_b h; omega)
theorem gSi_l1 {o : Nat} (h : gIsSi o = true) : gLay (o + 1) = (0, 10) := by
  simp only [gIsSi, Bool.or_eq_true, beq_iff_eq] at h
  rcases h with (rfl | rfl) | rfl <;> first | rfl | decide
theorem gSi_m2 {G : gGG} {o : Nat} (hX : gPX G) (h : gIsSi o = true) : o + 2 ∈ gps G := hX _ (by have := gSi_b h; omega)
theorem gSi_l2 {o : Nat} (h : gIsSi o = true) : gLay (o + 2) = (0, 10) := by
  simp only [gIsSi, Bool.or_eq_true, beq_iff_eq] at h
  rcases h with (rfl | rfl) | rfl <;> first | rfl | decide
theorem gSi_m3 {G : gGG} {o : Nat} (hX : gPX G) (h : gIsSi o = true) : o + 3 ∈ gps G := hX _ (by have := gSi_b h; omega)
theorem gSi_l3 {o : Nat} (h : gIsSi o = true) : gLay (o + 3) = (1, 10) := by
  simp only [gIsSi, Bool.or_eq_true, beq_iff_eq] at h
  rcases h with (rfl | rfl) | rfl <;> first | rfl | decide
theorem gIm_b {o : Nat} (h : gIsIm o = true) : o + 8 < 77 := by
  simp only [gIsIm, Bool.or_eq_true, beq_iff_eq] at h
  rcases h with rfl | rfl <;> first | rfl | decide
theorem gIm_m {G : gGG} {o : Nat} (hX : gPX G) (h : gIsIm o = true) : o ∈ gps G := hX o (by have := gIm_b h; omega)
theorem gIm_l {o : Nat} (h : gIsIm o = true) : (gLay o).1 = 1 + 3 := by
  simp only [gIsIm, Bool.or_eq_true, beq_iff_eq] at h
  rcases h with rfl | rfl <;> first | rfl | decide
theorem gRu_lt {o : Nat} (h : gIsRu o = true) : o < 2 ^ 31 := by
  simp only [gIsRu, Bool.or_eq_true, beq_iff_eq] at h
  rcases h with rfl | rfl <;> first | rfl | decide
theorem gIm_s {o : Nat} (h : gIsIm o = true) : gIsSt (o + 1) = true := by
  simp only [gIsIm, Bool.or_eq_true, beq_iff_eq] at h
  rcases h with rfl | rfl <;> first | rfl | decide
theorem gIm_q {o : Nat} (h : gIsIm o = true) : gIsSi (o + 5) = true := by
  simp only [gIsIm, Bool.or_eq_true, beq_iff_eq] at h
  rcases h with rfl | rfl <;> first | rfl | decide
theorem gIn_lt {a : Int32} {n : Nat} (h : gIn a n = true) : gN a < n := Nat.not_le.mp fun q => gIn_in h (Or.inr q)
theorem gRu_mr {G : gGG} {o : Nat} {a : Int32} (hX : gPX G) (h : gIsRu o = true) (ha : gIn a 8 = true) : o + 5 + 1 + gN a ∈ gps G := hX _ (by have := gRu_b h; have := gIn_lt ha; omega)
theorem gRu_lr {o : Nat} {a : Int32} (h : gIsRu o = true) (ha : gIn a 8 = true) : gLay (o + 5 + 1 + gN a) = (0, 8) := by
  have hl := gIn_lt ha
  generalize gN a = j at hl
  simp only [gIsRu, Bool.or_eq_true, beq_iff_eq] at h
  rcases h with rfl | rfl <;> (match j, hl with
    | 0, _ => rfl
    | 1, _ => rfl
    | 2, _ => rfl
    | 3, _ => rfl
    | 4, _ => rfl
    | 5, _ => rfl
    | 6, _ => rfl
    | 7, _ => rfl
    | j + 8, h => exact absurd h (by omega))
theorem gAr_mM {G : gGG} {o : Nat} (hM : gPM G) (h : gArM o = true) : o ∈ gps G := hM o (by
  simp only [gArM, Bool.or_eq_true, beq_iff_eq] at h
  omega)
theorem gAr_lM {o : Nat} (h : gArM o = true) : gLay o = (0, (gLay o).2) := by
  simp only [gArM, Bool.or_eq_true, beq_iff_eq] at h
  rcases h with rfl | rfl <;> first | rfl | decide
theorem gAr_mX {G : gGG} {o : Nat} (hX : gPX G) (h : gArX o = true) : o ∈ gps G := hX o (by
  simp only [gArX, Bool.or_eq_true, beq_iff_eq] at h
  omega)
theorem gAr_lX {o : Nat} (h : gArX o = true) : gLay o = (0, (gLay o).2) := by
  simp only [gArX, Bool.or_eq_true, beq_iff_eq] at h
  rcases h with ((rfl | rfl) | rfl) | rfl <;> first | rfl | decide
theorem gArX_3 {o : Nat} (h : gIsRu o = true) : gArX (o + 3) = true := by
  simp only [gIsRu, Bool.or_eq_true, beq_iff_eq] at h
  rcases h with rfl | rfl <;> first | rfl | decide
theorem gArX_4 {o : Nat} (h : gIsRu o = true) : gArX (o + 4) = true := by
  simp only [gIsRu, Bool.or_eq_true, beq_iff_eq] at h
  rcases h with rfl | rfl <;> first | rfl | decide
theorem gOne10 : ∀ (j : Nat) (u : Nat × Nat), j ≠ 12 → (gFk 10)[j]? = some u → u.1 ≠ 1 := by
  intro j u hj hu
  match j, hj, hu with
  | 0, _, hu => cases hu; decide
  | 1, _, hu => cases hu; decide
  | 2, _, hu => cases hu; decide
  | 3, _, hu => cases hu; decide
  | 4, _, hu => cases hu; decide
  | 5, _, hu => cases hu; decide
  | 6, _, hu => cases hu; decide
  | 7, _, hu => cases hu; decide
  | 8, _, hu => cases hu; decide
  | 9, _, hu => cases hu; decide
  | 10, _, hu => cases hu; decide
  | 11, _, hu => cases hu; decide
  | 12, hj, _ => exact absurd rfl hj
  | j + 13, _, hu => cases hu
theorem gOne11 : ∀ (j : Nat) (u : Nat × Nat), j ≠ 1 → (gFk 11)[j]? = some u → u.1 ≠ 1 := by
  intro j u hj hu
  match j, hj, hu with
  | 0, _, hu => cases hu; decide
  | 1, hj, _ => exact absurd rfl hj
  | 2, _, hu => cases hu; decide
  | 3, _, hu => cases hu; decide
  | 4, _, hu => cases hu; decide
  | 5, _, hu => cases hu; decide
  | 6, _, hu => cases hu; decide
  | 7, _, hu => cases hu; decide
  | 8, _, hu => cases hu; decide
  | 9, _, hu => cases hu; decide
  | 10, _, hu => cases hu; decide
  | 11, _, hu => cases hu; decide
  | 12, _, hu => cases hu; decide
  | 13, _, hu => cases hu; decide
  | 14, _, hu => cases hu; decide
  | 15, _, hu => cases hu; decide
  | 16, _, hu => cases hu; decide
  | j + 17, _, hu => cases hu
theorem gRm_ok {d d' maxL : Nat} (h : d' + 1 ≤ d) (h2 : maxL ≤ 21) : d' + 1 ≤ (gRm d).frames ∧ 8 + (maxL + 11) + 40 * d' ≤ (gRm d).locals ∧ 0 ≤ (gRm d).cells ∧ 0 ≤ (gRm d).slots := ⟨h, by show _ ≤ 40 * d; omega, Nat.le_refl _, Nat.le_refl _⟩
theorem gRm_mx {d : Nat} (h : 1 ≤ d) : 1 ≤ (gRm d).frames ∧ 30 ≤ (gRm d).locals ∧ 0 ≤ (gRm d).cells ∧ 0 ≤ (gRm d).slots := ⟨h, by show _ ≤ 40 * d; omega, Nat.le_refl _, Nat.le_refl _⟩
def gVF (G : gGG) (U : State) (H : Heap) : Prop := va_Z "GuestParties$Meeting" "FALLS" "[I" (.ref (gad G 90)) (gA G) U H ∧ va_T .int (gad G 90) 9 (fun j => .int (gFalls j)) (gA G) U H
def gSidx : List Nat := [132, 133, 135, 137, 139, 141, 143, 145, 147, 149, 151]
def gStxt : List String := ["guests", "hat", "parties", "least", "most", "unlike", "ring", "together", "apart", "worth", "cost"]
/-- what stands beside the store: the table of FALLS, the words' texts, what the texts' own methods ask for -/
def gVX (G : gGG) (F : State → Heap → Prop) : Prop := ∀ (U : State) (H : Heap), F U H → gVF G U H ∧ vk_S 11 gSlen gSbyt (fun i => gad G (100 + i)) (fun i => gad G (120 + i)) (gA G) U H ∧ (∀ i : Nat, i < 11 → vk_R RX4 (gSidx.getD i 0) (gStxt.getD i "") (gad G (100 + i)) U) ∧ va_Z "java/lang/String" "COMPACT_STRINGS" "Z" (.int 1) (gA G) U H ∧ va_Zq "jdk/internal/util/Preconditions" "SIOOBE_FORMATTER" "Ljava/util/function/BiFunction;" (gA G) U H
section GFL
variable {τ : Type} {G : gGG} {F : State → Heap → Prop} {own : String} {cc : ByteArray} {nL : Nat} {Ts : List Cond} {ret : Option FieldType} {R : Room} {cl sl : Nat} {Qf : Array Value → List Frame → State → τ → State → Prop} {pc : Nat} {env : List (Nat × Value)} {st : List Value} {S : gSt} {o : Option τ}
theorem g_falls (hV : gVX G F) {index : Nat} (hw : Cond.fieldLink own index "GuestParties$Meeting" "FALLS" "[I" ∈ Ts) (hd : decode cc pc = .ok (.getstatic index, 3)) (k : Gof G F own cc nL Ts ret R cl sl Qf (pc + 3) env (.ref (gad G 90) :: st) S o) : Gof G F own cc nL Ts ret R cl sl Qf pc env st S o := fun p l e s m args below meth c H locs ls x hx C hr hk hK hF hP hS hl => va_gets C.1 C.2.1 (hV s s.heap hF).1.1 hS C.2.2.2.1 (C.2.2.2.2 _ hw) (fun _ h => h) hd (k p l e s m args below meth c H locs ls x hx C hr hk hK hF hP hS hl)
theorem g_flen (hV : gVX G F) (hd : decode cc pc = .ok (.arraylength, 1)) (k : Gof G F own cc nL Ts ret R cl sl Qf (pc + 1) env (.int 9 :: st) S o) : Gof G F own cc nL Ts ret R cl sl Qf pc env (.ref (gad G 90) :: st) S o := fun p l e s m args below meth c H locs ls x hx C hr hk hK hF hP hS hl => va_tlen C.1 C.2.1 (hV s s.heap hF).1.2 hS rfl hd (k p l e s m args below meth c H locs ls x hx C hr hk hK hF hP hS hl)
theorem g_fald (hV : gVX G F) {a : Int32} (hd : decode cc pc = .ok (.iaload, 1)) (k : Gof G F own cc nL Ts ret R cl sl Qf (pc + 1) env (.int (gFalls (gN a)) :: st) S o) : Gof G F own cc nL Ts ret R cl sl Qf pc env (.int a :: .ref (gad G 90) :: st) S (gC (gIn a 9) o) := g_gC fun hb => fun p l e s m args below meth c H locs ls x hx C hr hk hK hF hP hS hl => va_ti C.1 C.2.1 (hV s s.heap hF).1.2 hS (gIn_in hb) rfl hd (k p l e s m args below meth c H locs ls x hx C hr hk hK hF hP hS hl)
theorem g_ldcS (hV : gVX G F) (i : Nat) (hi : i < 11) {index : Nat} (hx : gSidx.getD i 0 = index) (hown : own = RX4) (hd : decode cc pc = .ok (.ldc index, 2)) (k : Gof G F own cc nL Ts ret R cl sl Qf (pc + 2) env (.ref (gad G (100 + i)) :: st) S o) : Gof G F own cc nL Ts ret R cl sl Qf pc env st S o := fun p l e s m args below meth c H locs ls x hxx C hr hk hK hF hP hS hl => by
  have hR := (hV s s.heap hF).2.2.1 i hi
  rw [hx] at hR
  exact va_ldcS C.1 C.2.1 (by rw [← hown]; exact C.2.2.2.1) hR hd (k p l e s m args below meth c H locs ls x hxx C hr hk hK hF hP hS hl)
theorem gIsStr_lt {q : Nat} (h : gIsStr q = true) : ∃ i : Nat, i < 11 ∧ q = 100 + i := by
  simp only [gIsStr, Bool.and_eq_true, decide_eq_true_eq] at h
  exact ⟨q - 100, by omega, by omega⟩
end GFL
section GTX
variable {τ : Type} {G : gGG} {F : State → Heap → Prop} {own : String} {cc : ByteArray} {nL : Nat} {Ts : List Cond} {ret : Option FieldType} {R : Room} {cl sl : Nat} {Qf : Array Value → List Frame → State → τ → State → Prop} {pc : Nat} {env : List (Nat × Value)} {st0 rest : List Value} {S : gSt} {f : Option Int32} {k : Int32 → Option τ}
/-- a call upon a text -/
theorem g_cTp (hV : gVX G F) (hF0 : gSb G F) {y : MethodName} {bytes : ByteArray} {maxL index n d b : Nat} {rt : Option FieldType} {ws ws' : List Cond} {As : List Value} (hM : gCt G F y ws d (.ref (gad G b) :: As) S (f.map (fun x => (some (.int x), S)))) (hg : GoodIn Ts (wsV own index "java/lang/String" y ws)) (hw : ws = Cond.code y bytes maxL rt :: ws') (hp : gIsStr b = true)
    (hy : y.cls = "java/lang/String" ∧ y.cls ≠ "java/lang/invoke/MethodHandle" ∧ y.cls ≠ "java/lang/invoke/VarHandle" ∧ (parseMethodDescriptor y.desc).map (fun d => d.parameters.length) = some n) (hn : As.length = n) (hR : d + 1 ≤ R.frames ∧ 8 + (maxL + 11) + 40 * d ≤ R.locals ∧ cl ≤ R.cells ∧ sl ≤ R.slots) (hst : st0 = As.reverse ++ .ref (gad G b) :: rest) (hrest : (rest.map fun v => v.category).sum ≤ 8) (hd : decode cc pc = .ok (.invokevirtual index, 3))
    (kk : ∀ v : Int32, Gof G F own cc nL Ts ret R cl sl Qf (pc + 3) env (.int v :: rest) S (k v)) : Gof G F own cc nL Ts ret R cl sl Qf pc env st0 S (gBp f k) := by
  intro p l e s m args below meth c H locs ls x hx C hr hk hK hF hP hS hl
  obtain ⟨u, hu, hx⟩ := Option.bind_eq_some_iff.mp hx
  obtain ⟨i, hi, rfl⟩ := gIsStr_lt hp
  have hM := hM l (some (.int u), S) (by rw [hu]; rfl)
  subst hst
  refine g_after (x := (some (.int u), S)) (rest := rest) (va_runV (As := As) (rest := rest) C hM (cwV n C.2.2.2.2 hg hw rfl rfl hy ⟨hR.1, hR.2.1⟩) ⟨gB_blind hF0, vk_recv (hV s s.heap hF).2.1 hi hS, fun U hU hW => ⟨rfl, by rw [hU]; exact hP, va_K.moved hW.alike hK, by rw [hU]; exact hF0.2.2 U s.heap H (hF0.1 s U s.heap hW hF) hS.2.1⟩⟩ rfl hn hl.1 rfl (lv_room hrest) hd ⟨hR.2.2.1, hR.2.2.2⟩) hS (fun H1 locs1 hP1 hS1 => ?_)
  exact kk u p l e s m args below meth c H1 locs1 ls x hx C hr hk hK hF hP1 hS1 hl
/-- the same, where the answer is known -/
theorem g_cT1 (hV : gVX G F) (hF0 : gSb G F) {y : MethodName} {bytes : ByteArray} {maxL index n d b : Nat} {rt : Option FieldType} {ws ws' : List Cond} {As : List Value} {u : Int32} (hM : gCt G F y ws d (.ref (gad G b) :: As) S ((some u).map (fun x => (some (.int x), S)))) (hg : GoodIn Ts (wsV own index "java/lang/String" y ws)) (hw : ws = Cond.code y bytes maxL rt :: ws') (hp : gIsStr b = true)
    (hy : y.cls = "java/lang/String" ∧ y.cls ≠ "java/lang/invoke/MethodHandle" ∧ y.cls ≠ "java/lang/invoke/VarHandle" ∧ (parseMethodDescriptor y.desc).map (fun d => d.parameters.length) = some n) (hn : As.length = n) (hR : d + 1 ≤ R.frames ∧ 8 + (maxL + 11) + 40 * d ≤ R.locals ∧ cl ≤ R.cells ∧ sl ≤ R.slots) (hst : st0 = As.reverse ++ .ref (gad G b) :: rest) (hrest : (rest.map fun v => v.category).sum ≤ 8) (hd : decode cc pc = .ok (.invokevirtual index, 3))
    (kk : Gof G F own cc nL Ts ret R cl sl Qf (pc + 3) env (.int u :: rest) S (k u)) : Gof G F own cc nL Ts ret R cl sl Qf pc env st0 S (gBp (some u) k) := by
  intro p l e s m args below meth c H locs ls x hx C hr hk hK hF hP hS hl
  obtain ⟨i, hi, rfl⟩ := gIsStr_lt hp
  have hM := hM l (some (.int u), S) rfl
  subst hst
  refine g_after (x := (some (.int u), S)) (rest := rest) (va_runV (As := As) (rest := rest) C hM (cwV n C.2.2.2.2 hg hw rfl rfl hy ⟨hR.1, hR.2.1⟩) ⟨gB_blind hF0, vk_recv (hV s s.heap hF).2.1 hi hS, fun U hU hW => ⟨rfl, by rw [hU]; exact hP, va_K.moved hW.alike hK, by rw [hU]; exact hF0.2.2 U s.heap H (hF0.1 s U s.heap hW hF) hS.2.1⟩⟩ rfl hn hl.1 rfl (lv_room hrest) hd ⟨hR.2.2.1, hR.2.2.2⟩) hS (fun H1 locs1 hP1 hS1 => ?_)
  exact kk p l e s m args below meth c H1 locs1 ls x hx C hr hk hK hF hP1 hS1 hl
end GTX