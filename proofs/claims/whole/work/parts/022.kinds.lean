/-! kinds of positions: what the layout says of them -/
def gIsSt (o : Nat) : Bool := o == 36 || o == 46 || o == 55 || o == 64 || o == 68 || o == 73
def gIsRu (o : Nat) : Bool := o == 1 || o == 15
def gIsSi (o : Nat) : Bool := o == 40 || o == 50 || o == 59
def gIsIm (o : Nat) : Bool := o == 45 || o == 54
def gArM (o : Nat) : Bool := o == 80 || o == 83
def gArX (o : Nat) : Bool := o == 4 || o == 5 || o == 18 || o == 19
def gIsStr (o : Nat) : Bool := decide (100 ≤ o) && decide (o < 111)
def gPX (G : gGG) : Prop := ∀ p : Nat, p < 77 → p ∈ gps G
def gPM (G : gGG) : Prop := ∀ p : Nat, (77 ≤ p ∧ p < 87) → p ∈ gps G
theorem gSt_b {o : Nat} (h : gIsSt o = true) : o + 3 < 77 := by
  simp only [gIsSt, Bool.or_eq_true, beq_iff_eq] at h
  rcases h with ((((rfl | rfl) | rfl) | rfl) | rfl) | rfl <;> first | rfl | decide
theorem gSt_m {G : gGG} {o : Nat} (hX : gPX G) (h : gIsSt o = true) : o ∈ gps G := hX o (by have := gSt_b h; omega)
theorem gSt_l {o : Nat} (h : gIsSt o = true) : (gLay o).1 = 7 + 3 := by
  simp only [gIsSt, Bool.or_eq_true, beq_iff_eq] at h
  rcases h with ((((rfl | rfl) | rfl) | rfl) | rfl) | rfl <;> first | rfl | decide
theorem gSt_m1 {G : gGG} {o : Nat} (hX : gPX G) (h : gIsSt o = true) : o + 1 ∈ gps G := hX _ (by have := gSt_b h; omega)
theorem gSt_l1 {o : Nat} (h : gIsSt o = true) : gLay (o + 1) = (0, 8) := by
  simp only [gIsSt, Bool.or_eq_true, beq_iff_eq] at h
  rcases h with ((((rfl | rfl) | rfl) | rfl) | rfl) | rfl <;> first | rfl | decide
theorem gSt_m2 {G : gGG} {o : Nat} (hX : gPX G) (h : gIsSt o = true) : o + 2 ∈ gps G := hX _ (by have := gSt_b h; omega)
theorem gSt_l2 {o : Nat} (h : gIsSt o = true) : gLay (o + 2) = (0, 8) := by
  simp only [gIsSt, Bool.or_eq_true, beq_iff_eq] at h
  rcases h with ((((rfl | rfl) | rfl) | rfl) | rfl) | rfl <;> first | rfl | decide
theorem gSt_m3 {G : gGG} {o : Nat} (hX : gPX G) (h : gIsSt o = true) : o + 3 ∈ gps G := hX _ (by have := gSt_b h; omega)
theorem gSt_l3 {o : Nat} (h : gIsSt o = true) : gLay (o + 3) = (0, 8) := by
  simp only [gIsSt, Bool.or_eq_true, beq_iff_eq] at h
  rcases h with ((((rfl | rfl) | rfl) | rfl) | rfl) | rfl <;> first | rfl | decide
theorem gRu_b {o : Nat} (h : gIsRu o = true) : o + 13 < 77 := by
  simp only [gIsRu, Bool.or_eq_true, beq_iff_eq] at h
  rcases h with rfl | rfl <;> first | rfl | decide
theorem gRu_m {G : gGG} {o : Nat} (hX : gPX G) (h : gIsRu o = true) : o ∈ gps G := hX o (by have := gRu_b h; omega)
theorem gRu_l {o : Nat} (h : gIsRu o = true) : (gLay o).1 = 5 + 3 := by
  simp only [gIsRu, Bool.or_eq_true, beq_iff_eq] at h
  rcases h with rfl | rfl <;> first | rfl | decide
theorem gRu_m1 {G : gGG} {o : Nat} (hX : gPX G) (h : gIsRu o = true) : o + 1 ∈ gps G := hX _ (by have := gRu_b h; omega)
theorem gRu_l1 {o : Nat} (h : gIsRu o = true) : gLay (o + 1) = (0, 8) := by
  simp only [gIsRu, Bool.or_eq_true, beq_iff_eq] at h
  rcases h with rfl | rfl <;> first | rfl | decide
theorem gRu_m2 {G : gGG} {o : Nat} (hX : gPX G) (h : gIsRu o = true) : o + 2 ∈ gps G := hX _ (by have := gRu_b h; omega)
theorem gRu_l2 {o : Nat} (h : gIsRu o = true) : gLay (o + 2) = (0, 5) := by
  simp only [gIsRu, Bool.or_eq_true, beq_iff_eq] at h
  rcases h with rfl | rfl <;> first | rfl | decide
theorem gRu_m3 {G : gGG} {o : Nat} (hX : gPX G) (h : gIsRu o = true) : o + 3 ∈ gps G := hX _ (by have := gRu_b h; omega)
theorem gRu_l3 {o : Nat} (h : gIsRu o = true) : gLay (o + 3) = (0, 8) := by
  simp only [gIsRu, Bool.or_eq_true, beq_iff_eq] at h
  rcases h with rfl | rfl <;> first | rfl | decide
theorem gRu_m4 {G : gGG} {o : Nat} (hX : gPX G) (h : gIsRu o = true) : o + 4 ∈ gps G := hX _ (by have := gRu_b h; omega)
theorem gRu_l4 {o : Nat} (h : gIsRu o = true) : gLay (o + 4) = (0, 8) := by
  simp only [gIsRu, Bool.or_eq_true, beq_iff_eq] at h
  rcases h with rfl | rfl <;> first | rfl | decide
theorem gRu_m5 {G : gGG} {o : Nat} (hX : gPX G) (h : gIsRu o = true) : o + 5 ∈ gps G := hX _ (by have := gRu_b h; omega)
theorem gRu_l5 {o : Nat} (h : gIsRu o = true) : gLay (o + 5) = (2, 8) := by
  simp only [gIsRu, Bool.or_eq_true, beq_iff_eq] at h
  rcases h with rfl | rfl <;> first | rfl | decide
theorem gSi_b {o : Nat} (h : gIsSi o = true) : o + 3 < 77 := by
  simp only [gIsSi, Bool.or_eq_true, beq_iff_eq] at h
  rcases h with (rfl | rfl) | rfl <;> first | rfl | decide
theorem gSi_m {G : gGG} {o : Nat} (hX : gPX G) (h : gIsSi o = true) : o ∈ gps G := hX o (by have := gSi_b h; omega)
theorem gSi_l {o : Nat} (h : gIsSi o = true) : (gLay o).1 = 6 + 3 := by
  simp only [gIsSi, Bool.or_eq_true, beq_iff_eq] at h
  rcases h with (rfl | rfl) | rfl <;> first | rfl | decide
theorem gSi_m1 {G : gGG} {o : Nat} (hX : gPX G) (h : gIsSi o = true) : o + 1 ∈ gps G := hX _ (by have := gSi_b h; omega)
theorem gSi_l1 {o : Nat} (h : gIsSi o = true) : gLay (o + 1) = (0, 10) := by
  simp only [gIsSi, Bool.or_eq_true, beq_iff_eq] at h
  rcases h with (rfl | rfl) | rfl <;> first | rfl | decide
theorem gSi_m2 {G : gGG} {o : Nat} (hX : gPX G) (h : gIsSi o = true) : o + 2 ∈ gps G := hX _ (by have := gSi_b h; omega)
theorem gSi_l2 {o : Nat} (h : gIsSi o = true) : gLay (o + 2) = (0, 10) := by
  simp only [gIsSi, Bool.or_eq_true, beq_iff_eq] at h
  rcases h with (rfl | rfl) | rfl <;> first | rfl | decide
theorem gSi_m3 {G : gGG} {o : Nat} (hX : gPX G) (h : gIsSi o = true) : o + 3 ∈ gps G := hX _ (by have := gSi_b h; omega)
theorem gSi_l3 {o : Nat} (h : gIsSi o = true) : gLay (o + 3) = (1, 10) := by
  simp only [gIsSi, Bool.or_eq_true, beq_iff_eq] at h
  rcases h with (rfl | rfl) | rfl <;> first | rfl | decide
theorem gIm_b {o : Nat} (h : gIsIm o = true) : o + 8 < 77 := by
  simp only [gIsIm, Bool.or_eq_true, beq_iff_eq] at h
  rcases h with rfl | rfl <;> first | rfl | decide
theorem gIm_m {G : gGG} {o : Nat} (hX : gPX G) (h : gIsIm o = true) : o ∈ gps G := hX o (by have := gIm_b h; omega)
theorem gIm_l {o : Nat} (h : gIsIm o = true) : (gLay o).1 = 1 + 3 := by
  simp only [gIsIm, Bool.or_eq_true, beq_iff_eq] at h
  rcases h with rfl | rfl <;> first | rfl | decide
theorem gRu_lt {o : Nat} (h : gIsRu o = true) : o < 2 ^ 31 := by
  simp only [gIsRu, Bool.or_eq_true, beq_iff_eq] at h
  rcases h with rfl | rfl <;> first | rfl | decide
theorem gIm_s {o : Nat} (h : gIsIm o = true) : gIsSt (o + 1) = true := by
  simp only [gIsIm, Bool.or_eq_true, beq_iff_eq] at h
  rcases h with rfl | rfl <;> first | rfl | decide
theorem gIm_q {o : Nat} (h : gIsIm o = true) : gIsSi (o + 5) = true := by
  simp only [gIsIm, Bool.or_eq_true, beq_iff_eq] at h
  rcases h with rfl | rfl <;> first | rfl | decide
theorem gIn_lt {a : Int32} {n : Nat} (h : gIn a n = true) : gN a < n := Nat.not_le.mp fun q => gIn_in h (Or.inr q)
theorem gRu_mr {G : gGG} {o : Nat} {a : Int32} (hX : gPX G) (h : gIsRu o = true) (ha : gIn a 8 = true) : o + 5 + 1 + gN a ∈ gps G := hX _ (by have := gRu_b h; have := gIn_lt ha; omega)
theorem gRu_lr {o : Nat} {a : Int32} (h : gIsRu o = true) (ha : gIn a 8 = true) : gLay (o + 5 + 1 + gN a) = (0, 8) := by
  have hl := gIn_lt ha
  generalize gN a = j at hl
  simp only [gIsRu, Bool.or_eq_true, beq_iff_eq] at h
  rcases h with rfl | rfl <;> (match j, hl with
    | 0, _ => rfl
    | 1, _ => rfl
    | 2, _ => rfl
    | 3, _ => rfl
    | 4, _ => rfl
    | 5, _ => rfl
    | 6, _ => rfl
    | 7, _ => rfl
    | j + 8, h => exact absurd h (by omega))
theorem gAr_mM {G : gGG} {o : Nat} (hM : gPM G) (h : gArM o = true) : o ∈ gps G := hM o (by
  simp only [gArM, Bool.or_eq_true, beq_iff_eq] at h
  omega)
theorem gAr_lM {o : Nat} (h : gArM o = true) : gLay o = (0, (gLay o).2) := by
  simp only [gArM, Bool.or_eq_true, beq_iff_eq] at h
  rcases h with rfl | rfl <;> first | rfl | decide
theorem gAr_mX {G : gGG} {o : Nat} (hX : gPX G) (h : gArX o = true) : o ∈ gps G := hX o (by
  simp only [gArX, Bool.or_eq_true, beq_iff_eq] at h
  omega)
theorem gAr_lX {o : Nat} (h : gArX o = true) : gLay o = (0, (gLay o).2) := by
  simp only [gArX, Bool.or_eq_true, beq_iff_eq] at h
  rcases h with ((rfl | rfl) | rfl) | rfl <;> first | rfl | decide
theorem gArX_3 {o : Nat} (h : gIsRu o = true) : gArX (o + 3) = true := by
  simp only [gIsRu, Bool.or_eq_true, beq_iff_eq] at h
  rcases h with rfl | rfl <;> first | rfl | decide
theorem gArX_4 {o : Nat} (h : gIsRu o = true) : gArX (o + 4) = true := by
  simp only [gIsRu, Bool.or_eq_true, beq_iff_eq] at h
  rcases h with rfl | rfl <;> first | rfl | decide
theorem gOne10 : ∀ (j : Nat) (u : Nat × Nat), j ≠ 12 → (gFk 10)[j]? = some u → u.1 ≠ 1 := by
  intro j u hj hu
  match j, hj, hu with
  | 0, _, hu => cases hu; decide
  | 1, _, hu => cases hu; decide
  | 2, _, hu => cases hu; decide
  | 3, _, hu => cases hu; decide
  | 4, _, hu => cases hu; decide
  | 5, _, hu => cases hu; decide
  | 6, _, hu => cases hu; decide
  | 7, _, hu => cases hu; decide
  | 8, _, hu => cases hu; decide
  | 9, _, hu => cases hu; decide
  | 10, _, hu => cases hu; decide
  | 11, _, hu => cases hu; decide
  | 12, hj, _ => exact absurd rfl hj
  | j + 13, _, hu => cases hu
theorem gOne11 : ∀ (j : Nat) (u : Nat × Nat), j ≠ 1 → (gFk 11)[j]? = some u → u.1 ≠ 1 := by
  intro j u hj hu
  match j, hj, hu with
  | 0, _, hu => cases hu; decide
  | 1, hj, _ => exact absurd rfl hj
  | 2, _, hu => cases hu; decide
  | 3, _, hu => cases hu; decide
  | 4, _, hu => cases hu; decide
  | 5, _, hu => cases hu; decide
  | 6, _, hu => cases hu; decide
  | 7, _, hu => cases hu; decide
  | 8, _, hu => cases hu; decide
  | 9, _, hu => cases hu; decide
  | 10, _, hu => cases hu; decide
  | 11, _, hu => cases hu; decide
  | 12, _, hu => cases hu; decide
  | 13, _, hu => cases hu; decide
  | 14, _, hu => cases hu; decide
  | 15, _, hu => cases hu; decide
  | 16, _, hu => cases hu; decide
  | j + 17, _, hu => cases hu
theorem gRm_ok {d d' maxL : Nat} (h : d' + 1 ≤ d) (h2 : maxL ≤ 21) : d' + 1 ≤ (gRm d).frames ∧ 8 + (maxL + 11) + 40 * d' ≤ (gRm d).locals ∧ 0 ≤ (gRm d).cells ∧ 0 ≤ (gRm d).slots := ⟨h, by show _ ≤ 40 * d; omega, Nat.le_refl _, Nat.le_refl _⟩
theorem gRm_mx {d : Nat} (h : 1 ≤ d) : 1 ≤ (gRm d).frames ∧ 30 ≤ (gRm d).locals ∧ 0 ≤ (gRm d).cells ∧ 0 ≤ (gRm d).slots := ⟨h, by show _ ≤ 40 * d; omega, Nat.le_refl _, Nat.le_refl _⟩
