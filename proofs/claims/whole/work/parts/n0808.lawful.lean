/-! which rows are lawful; needs: 0800 0801 0802 0803 0804 0805 0806 0807 -/
def an (p : Nat → Bool) : Nat → Bool
  | 0 => false
  | g + 1 => an p g || p g
theorem an_s (p : Nat → Bool) (g : Nat) : an p (g + 1) = (an p g || p g) := rfl
theorem an_iff (p : Nat → Bool) : ∀ n, an p n = true ↔ ∃ e, e < n ∧ p e = true
  | 0 => ⟨fun h => absurd (show false = true from h) (by decide), fun ⟨e, h, _⟩ => absurd h (Nat.not_lt_zero _)⟩
  | n + 1 => by
    rw [an_s, Bool.or_eq_true, an_iff p n]
    constructor
    · rintro (⟨e, h1, h2⟩ | h)
      · exact ⟨e, by omega, h2⟩
      · exact ⟨n, by omega, h⟩
    · rintro ⟨e, h1, h2⟩
      by_cases q : e = n
      · right; rw [← q]; exact h2
      · left; exact ⟨e, by omega, h2⟩
theorem an_no {p : Nat → Bool} {n : Nat} (h : ∀ e, e < n → p e = false) : an p n = false := by
  cases q : an p n with
  | false => rfl
  | true =>
    obtain ⟨e, h1, h2⟩ := (an_iff p n).mp q
    rw [h e h1] at h2; exact absurd h2 (by decide)
theorem an_congr {p q : Nat → Bool} : ∀ {n : Nat}, (∀ g, g < n → p g = q g) → an p n = an q n
  | 0, _ => rfl
  | n + 1, h => by rw [an_s, an_s, an_congr (n := n) (fun g hg => h g (by omega)), h n (by omega)]
def bN (b : Bool) : Nat := if b then 1 else 0
theorem bN_lt (b : Bool) : bN b < 2 := by cases b <;> decide
theorem bN_t : bN true = 1 := rfl
theorem bN_f : bN false = 0 := rfl
theorem gBo_b (b : Bool) : gBo (nI (bN b)) = true := by cases b <;> decide
def cr4 (f : Nat → Nat) (a b c d : Nat) : Bool := decide (f a = f c) && decide (f b = f d) && !decide (f a = f b)
def cr3 (f : Nat → Nat) (n a b c : Nat) : Bool := an (fun d => decide (c < d) && cr4 f a b c d) n
def cr2 (f : Nat → Nat) (n a b : Nat) : Bool := an (fun c => decide (b < c) && cr3 f n a b c) n
def cr1 (f : Nat → Nat) (n a : Nat) : Bool := an (fun b => decide (a < b) && cr2 f n a b) n
def crossed (f : Nat → Nat) (n : Nat) : Bool := an (fun a => cr1 f n a) n
theorem an_from {p : Nat → Bool} (c : Nat) : an (fun d => decide (c < d) && p d) (c + 1) = false := an_no (fun e he => by rw [decide_eq_false (by omega)]; rfl)
theorem an_more {p : Nat → Bool} {c d : Nat} (h : c < d) : an (fun d => decide (c < d) && p d) (d + 1) = (an (fun d => decide (c < d) && p d) d || p d) := by
  rw [an_s, decide_eq_true h, Bool.true_and]
theorem m_cr4 {k4 : Int32 → Int32 → Option Int32} {k17 : Int32 → Int32 → Int32 → Option Int32} {k32 : Int32 → Int32 → Int32 → Int32 → Option Int32} {S : gSt} {n p a b c : Nat} {f : Nat → Nat} {x : Bool} (h : mN S n) (hr : 8 ≤ (gLay p).2) (hr2 : (gLay p).2 ≤ 5000) (hf : rowAt S p n f) (hb : ∀ g, g < n → f g < 1000000) (ha : a < b) (hbc : b < c) (hc : c < n) : fX11_isCrossed_L47 k4 k17 k32 p S gFU (nI (bN x)) (nI a) (nI b) (nI c) (nI (c + 1)) = k32 (nI (bN (x || cr3 f n a b c))) (nI a) (nI b) (nI (c + 1)) := by
  have h8 := h.2.2
  refine forE (fun m y d => fX11_isCrossed_L47 k4 k17 k32 p S m y (nI a) (nI b) (nI c) (nI d)) (fun y => y = k32 (nI (bN (x || cr3 f n a b c))) (nI a) (nI b) (nI (c + 1))) (fun d y => c < d ∧ y = nI (bN (x || an (fun d => decide (c < d) && cr4 f a b c d) d))) n ?_ ?_ (n - (c + 1)) gFU (c + 1) (nI (bN x)) (by omega) (show n - (c + 1) < 5000 by omega) ⟨by omega, by rw [an_from, Bool.or_false]⟩
  · rintro m d y hd ⟨hcd, rfl⟩
    right
    refine ⟨_, ⟨by omega, rfl⟩, ?_⟩
    show fX11_isCrossed_L47 k4 k17 k32 p S (m + 1) _ (nI a) (nI b) (nI c) (nI d) = fX11_isCrossed_L47 k4 k17 k32 p S m _ (nI a) (nI b) (nI c) (nI (d + 1))
    rw [an_more hcd, ← Bool.or_assoc, fX11_isCrossed_L47, m_guests h]
    have b1 := hb a (by omega)
    have b2 := hb b (by omega)
    have b3 := hb c (by omega)
    have b4 := hb d (by omega)
    cases (x || an (fun d => decide (c < d) && cr4 f a b c d) d) with
    | true =>
      rw [Bool.true_or, bN_t]
      simp (disch := omega) only [gC_d, gC_tt, gBp_s, gBd_s, gL_s, gIn_nI, gN_nI, nI_ltI, nI_leI, nI_eq, nI_add, nI_mul, nI_sub, ite_t, ite_f, gR_W2, gRL_W, if_true, if_false, true_and, and_true, false_and, and_false, and_self, Nat.add_zero, l0, l1, l2, l3, l4, l5, l6, l7, l8, l9, l10, l11, l12, l13, l14, l22, l30, l31, l32, l39, l40, l48, l50, l57, l59, l60, l94, l97, l99, l100, l122, l255, l256, l300, l488, l1000]
    | false =>
      rw [Bool.false_or, bN_f]
      unfold cr4
      by_cases z1 : f a = f c
      · by_cases z2 : f b = f d
        · by_cases z3 : f a = f b
          · simp (disch := omega) only [gC_d, gC_tt, gBp_s, gBd_s, gL_s, gIn_nI, gN_nI, nI_ltI, nI_leI, nI_eq, nI_add, nI_mul, nI_sub, ite_t, ite_f, gR_W2, gRL_W, if_true, if_false, true_and, and_true, false_and, and_false, and_self, Nat.add_zero, l0, l1, l2, l3, l4, l5, l6, l7, l8, l9, l10, l11, l12, l13, l14, l22, l30, l31, l32, l39, l40, l48, l50, l57, l59, l60, l94, l97, l99, l100, l122, l255, l256, l300, l488, l1000, hf a (show a < n by omega), hf b (show b < n by omega), hf c hc, hf d hd, decide_eq_true z1, decide_eq_true z2, decide_eq_true z3, Bool.not_true, Bool.and_false, bN_f]
          · simp (disch := omega) only [gC_d, gC_tt, gBp_s, gBd_s, gL_s, gIn_nI, gN_nI, nI_ltI, nI_leI, nI_eq, nI_add, nI_mul, nI_sub, ite_t, ite_f, gR_W2, gRL_W, if_true, if_false, true_and, and_true, false_and, and_false, and_self, Nat.add_zero, l0, l1, l2, l3, l4, l5, l6, l7, l8, l9, l10, l11, l12, l13, l14, l22, l30, l31, l32, l39, l40, l48, l50, l57, l59, l60, l94, l97, l99, l100, l122, l255, l256, l300, l488, l1000, hf a (show a < n by omega), hf b (show b < n by omega), hf c hc, hf d hd, decide_eq_true z1, decide_eq_true z2, decide_eq_false z3, Bool.not_false, Bool.and_true, bN_t]
        · simp (disch := omega) only [gC_d, gC_tt, gBp_s, gBd_s, gL_s, gIn_nI, gN_nI, nI_ltI, nI_leI, nI_eq, nI_add, nI_mul, nI_sub, ite_t, ite_f, gR_W2, gRL_W, if_true, if_false, true_and, and_true, false_and, and_false, and_self, Nat.add_zero, l0, l1, l2, l3, l4, l5, l6, l7, l8, l9, l10, l11, l12, l13, l14, l22, l30, l31, l32, l39, l40, l48, l50, l57, l59, l60, l94, l97, l99, l100, l122, l255, l256, l300, l488, l1000, hf a (show a < n by omega), hf b (show b < n by omega), hf c hc, hf d hd, decide_eq_false z2, Bool.and_false, Bool.false_and, bN_f]
      · simp (disch := omega) only [gC_d, gC_tt, gBp_s, gBd_s, gL_s, gIn_nI, gN_nI, nI_ltI, nI_leI, nI_eq, nI_add, nI_mul, nI_sub, ite_t, ite_f, gR_W2, gRL_W, if_true, if_false, true_and, and_true, false_and, and_false, and_self, Nat.add_zero, l0, l1, l2, l3, l4, l5, l6, l7, l8, l9, l10, l11, l12, l13, l14, l22, l30, l31, l32, l39, l40, l48, l50, l57, l59, l60, l94, l97, l99, l100, l122, l255, l256, l300, l488, l1000, hf a (show a < n by omega), hf b (show b < n by omega), hf c hc, hf d hd, decide_eq_false z1, Bool.false_and, bN_f]
  · rintro m y ⟨hcd, rfl⟩
    show fX11_isCrossed_L47 k4 k17 k32 p S (m + 1) _ (nI a) (nI b) (nI c) (nI n) = _
    rw [fX11_isCrossed_L47, m_guests h]
    simp (disch := omega) only [gC_d, gC_tt, gBp_s, gBd_s, gL_s, gIn_nI, gN_nI, nI_ltI, nI_leI, nI_eq, nI_add, nI_mul, nI_sub, ite_t, ite_f, gR_W2, gRL_W, if_true, if_false, true_and, and_true, false_and, and_false, and_self, Nat.add_zero, l0, l1, l2, l3, l4, l5, l6, l7, l8, l9, l10, l11, l12, l13, l14, l22, l30, l31, l32, l39, l40, l48, l50, l57, l59, l60, l94, l97, l99, l100, l122, l255, l256, l300, l488, l1000]
    rfl
theorem m_cr3 {k4 : Int32 → Int32 → Option Int32} {k17 : Int32 → Int32 → Int32 → Option Int32} {S : gSt} {n p a b : Nat} {f : Nat → Nat} {x : Bool} (h : mN S n) (hr : 8 ≤ (gLay p).2) (hr2 : (gLay p).2 ≤ 5000) (hf : rowAt S p n f) (hb : ∀ g, g < n → f g < 1000000) (ha : a < b) (hbc : b < n) : fX11_isCrossed_L32 k4 k17 p S gFU (nI (bN x)) (nI a) (nI b) (nI (b + 1)) = k17 (nI (bN (x || cr2 f n a b))) (nI a) (nI (b + 1)) := by
  have h8 := h.2.2
  refine forE (fun m y c => fX11_isCrossed_L32 k4 k17 p S m y (nI a) (nI b) (nI c)) (fun y => y = k17 (nI (bN (x || cr2 f n a b))) (nI a) (nI (b + 1))) (fun c y => b < c ∧ y = nI (bN (x || an (fun c => decide (b < c) && cr3 f n a b c) c))) n ?_ ?_ (n - (b + 1)) gFU (b + 1) (nI (bN x)) (by omega) (show n - (b + 1) < 5000 by omega) ⟨by omega, by rw [an_from, Bool.or_false]⟩
  · rintro m c y hd ⟨hcd, rfl⟩
    right
    refine ⟨_, ⟨by omega, rfl⟩, ?_⟩
    show fX11_isCrossed_L32 k4 k17 p S (m + 1) _ (nI a) (nI b) (nI c) = fX11_isCrossed_L32 k4 k17 p S m _ (nI a) (nI b) (nI (c + 1))
    rw [an_more hcd, ← Bool.or_assoc, fX11_isCrossed_L32, m_guests h]
    simp (disch := omega) only [gC_d, gC_tt, gBp_s, gBd_s, gL_s, gIn_nI, gN_nI, nI_ltI, nI_leI, nI_eq, nI_add, nI_mul, nI_sub, ite_t, ite_f, gR_W2, gRL_W, if_true, if_false, true_and, and_true, false_and, and_false, and_self, Nat.add_zero, l0, l1, l2, l3, l4, l5, l6, l7, l8, l9, l10, l11, l12, l13, l14, l22, l30, l31, l32, l39, l40, l48, l50, l57, l59, l60, l94, l97, l99, l100, l122, l255, l256, l300, l488, l1000, m_cr4 h hr hr2 hf hb ha hcd hd]
  · rintro m y ⟨hcd, rfl⟩
    show fX11_isCrossed_L32 k4 k17 p S (m + 1) _ (nI a) (nI b) (nI n) = _
    rw [fX11_isCrossed_L32, m_guests h]
    simp (disch := omega) only [gC_d, gC_tt, gBp_s, gBd_s, gL_s, gIn_nI, gN_nI, nI_ltI, nI_leI, nI_eq, nI_add, nI_mul, nI_sub, ite_t, ite_f, gR_W2, gRL_W, if_true, if_false, true_and, and_true, false_and, and_false, and_self, Nat.add_zero, l0, l1, l2, l3, l4, l5, l6, l7, l8, l9, l10, l11, l12, l13, l14, l22, l30, l31, l32, l39, l40, l48, l50, l57, l59, l60, l94, l97, l99, l100, l122, l255, l256, l300, l488, l1000]
    rfl
theorem m_cr2 {k4 : Int32 → Int32 → Option Int32} {S : gSt} {n p a : Nat} {f : Nat → Nat} {x : Bool} (h : mN S n) (hr : 8 ≤ (gLay p).2) (hr2 : (gLay p).2 ≤ 5000) (hf : rowAt S p n f) (hb : ∀ g, g < n → f g < 1000000) (ha : a < n) : fX11_isCrossed_L17 k4 p S gFU (nI (bN x)) (nI a) (nI (a + 1)) = k4 (nI (bN (x || cr1 f n a))) (nI (a + 1)) := by
  have h8 := h.2.2
  refine forE (fun m y b => fX11_isCrossed_L17 k4 p S m y (nI a) (nI b)) (fun y => y = k4 (nI (bN (x || cr1 f n a))) (nI (a + 1))) (fun b y => a < b ∧ y = nI (bN (x || an (fun b => decide (a < b) && cr2 f n a b) b))) n ?_ ?_ (n - (a + 1)) gFU (a + 1) (nI (bN x)) (by omega) (show n - (a + 1) < 5000 by omega) ⟨by omega, by rw [an_from, Bool.or_false]⟩
  · rintro m b y hd ⟨hcd, rfl⟩
    right
    refine ⟨_, ⟨by omega, rfl⟩, ?_⟩
    show fX11_isCrossed_L17 k4 p S (m + 1) _ (nI a) (nI b) = fX11_isCrossed_L17 k4 p S m _ (nI a) (nI (b + 1))
    rw [an_more hcd, ← Bool.or_assoc, fX11_isCrossed_L17, m_guests h]
    simp (disch := omega) only [gC_d, gC_tt, gBp_s, gBd_s, gL_s, gIn_nI, gN_nI, nI_ltI, nI_leI, nI_eq, nI_add, nI_mul, nI_sub, ite_t, ite_f, gR_W2, gRL_W, if_true, if_false, true_and, and_true, false_and, and_false, and_self, Nat.add_zero, l0, l1, l2, l3, l4, l5, l6, l7, l8, l9, l10, l11, l12, l13, l14, l22, l30, l31, l32, l39, l40, l48, l50, l57, l59, l60, l94, l97, l99, l100, l122, l255, l256, l300, l488, l1000, m_cr3 h hr hr2 hf hb hcd hd]
  · rintro m y ⟨hcd, rfl⟩
    show fX11_isCrossed_L17 k4 p S (m + 1) _ (nI a) (nI n) = _
    rw [fX11_isCrossed_L17, m_guests h]
    simp (disch := omega) only [gC_d, gC_tt, gBp_s, gBd_s, gL_s, gIn_nI, gN_nI, nI_ltI, nI_leI, nI_eq, nI_add, nI_mul, nI_sub, ite_t, ite_f, gR_W2, gRL_W, if_true, if_false, true_and, and_true, false_and, and_false, and_self, Nat.add_zero, l0, l1, l2, l3, l4, l5, l6, l7, l8, l9, l10, l11, l12, l13, l14, l22, l30, l31, l32, l39, l40, l48, l50, l57, l59, l60, l94, l97, l99, l100, l122, l255, l256, l300, l488, l1000]
    rfl
theorem m_isCrossed {S : gSt} {n p : Nat} {f : Nat → Nat} (h : mN S n) (hr : 8 ≤ (gLay p).2) (hr2 : (gLay p).2 ≤ 5000) (hf : rowAt S p n f) (hb : ∀ g, g < n → f g < 1000000) : fX11_isCrossed p S = some (nI (bN (crossed f n))) := by
  have h8 := h.2.2
  unfold fX11_isCrossed
  refine forFU (fun m y a => fX11_isCrossed_L4 p S m y (nI a)) (fun y => y = some (nI (bN (crossed f n)))) (fun a y => y = nI (bN (an (fun a => cr1 f n a) a))) n 0 (by omega) ?_ ?_ rfl
  · rintro m a y ha rfl
    right
    refine ⟨_, rfl, ?_⟩
    show fX11_isCrossed_L4 p S (m + 1) _ (nI a) = fX11_isCrossed_L4 p S m _ (nI (a + 1))
    rw [an_s, fX11_isCrossed_L4, m_guests h]
    simp (disch := omega) only [gC_d, gC_tt, gBp_s, gBd_s, gL_s, gIn_nI, gN_nI, nI_ltI, nI_leI, nI_eq, nI_add, nI_mul, nI_sub, ite_t, ite_f, gR_W2, gRL_W, if_true, if_false, true_and, and_true, false_and, and_false, and_self, Nat.add_zero, l0, l1, l2, l3, l4, l5, l6, l7, l8, l9, l10, l11, l12, l13, l14, l22, l30, l31, l32, l39, l40, l48, l50, l57, l59, l60, l94, l97, l99, l100, l122, l255, l256, l300, l488, l1000, m_cr2 h hr hr2 hf hb ha]
  · rintro m y rfl
    show fX11_isCrossed_L4 p S (m + 1) _ (nI n) = _
    rw [fX11_isCrossed_L4, m_guests h]
    simp (disch := omega) only [gC_d, gC_tt, gBp_s, gBd_s, gL_s, gIn_nI, gN_nI, nI_ltI, nI_leI, nI_eq, nI_add, nI_mul, nI_sub, ite_t, ite_f, gR_W2, gRL_W, if_true, if_false, true_and, and_true, false_and, and_false, and_self, Nat.add_zero, l0, l1, l2, l3, l4, l5, l6, l7, l8, l9, l10, l11, l12, l13, l14, l22, l30, l31, l32, l39, l40, l48, l50, l57, l59, l60, l94, l97, l99, l100, l122, l255, l256, l300, l488, l1000, gBo_b]
    rfl
/-- what two guests may not be to one another -/
def bad (r f : Nat → Nat) (a b : Nat) : Bool := if f a = f b then (r (22 + a)).testBit b || (decide (r 12 = 1) && decide (r (1 + a) = r (1 + b))) else (r (14 + a)).testBit b
theorem m_pair {k4 : Int32 → Int32 → Option Int32} {S : gSt} {p a : Nat} {r f : Nat → Nat} {w : Nat → Nat → Int} {x : Bool} (h : To S 0 r w) (hW : RW r w) (hr : 8 ≤ (gLay p).2) (hr2 : (gLay p).2 ≤ 5000) (hf : rowAt S p (r 0) f) (hb : ∀ g, g < r 0 → f g < 1000000) (ha : a < r 0) : fX11_arePairsWell_L15 k4 p S gFU (nI (bN (!x))) (nI a) 0 = k4 (nI (bN (!(x || an (fun b => bad r f a b) a)))) (nI (a + 1)) := by
  have h8 := hW.2.1
  refine forFU (fun m y b => fX11_arePairsWell_L15 k4 p S m y (nI a) (nI b)) (fun y => y = k4 (nI (bN (!(x || an (fun b => bad r f a b) a)))) (nI (a + 1))) (fun b y => y = nI (bN (!(x || an (fun b => bad r f a b) b)))) a (nI (bN (!x))) (by omega) ?_ ?_ (by rw [show an (fun b => bad r f a b) 0 = false from rfl, Bool.or_false])
  · rintro m b y hba rfl
    right
    refine ⟨_, rfl, ?_⟩
    show fX11_arePairsWell_L15 k4 p S (m + 1) _ (nI a) (nI b) = fX11_arePairsWell_L15 k4 p S m _ (nI a) (nI (b + 1))
    rw [an_s, ← Bool.or_assoc, fX11_arePairsWell_L15]
    unfold fX11_arePairsWell_L36 fX11_arePairsWell_L123 bad
    have b1 := hb a ha
    have b2 := hb b (by omega)
    have t14 := h.1 (14 + a) (by omega)
    have t22 := h.1 (22 + a) (by omega)
    have t12 := h.1 12 (by omega)
    have t1 := h.1 (1 + a) (by omega)
    have t2 := h.1 (1 + b) (by omega)
    rw [Nat.zero_add] at t14 t22 t12 t1 t2
    have v14 := hW.2.2.2.2.2.2.1 a (by omega)
    have v22 := hW.2.2.2.2.2.2.2.1 a (by omega)
    have v1 := hW.2.2.1 a (by omega)
    have v2 := hW.2.2.1 b (by omega)
    have v12 := hW.2.2.2.2.1
    generalize (x || an (fun b => if f a = f b then (r (22 + a)).testBit b || (decide (r 12 = 1) && decide (r (1 + a) = r (1 + b))) else (r (14 + a)).testBit b) b) = X
    by_cases z : f a = f b
    · rw [if_pos z]
      cases hB : (r (22 + a)).testBit b with
      | true =>
        simp (disch := omega) only [gC_d, gC_tt, gBp_s, gBd_s, gL_s, gIn_nI, gN_nI, nI_ltI, nI_leI, nI_eq, nI_add, nI_mul, nI_sub, ite_t, ite_f, gR_W2, gRL_W, if_true, if_false, true_and, and_true, false_and, and_false, and_self, Nat.add_zero, l0, l1, l2, l3, l4, l5, l6, l7, l8, l9, l10, l11, l12, l13, l14, l22, l30, l31, l32, l39, l40, l48, l50, l57, l59, l60, l94, l97, l99, l100, l122, l255, l256, l300, l488, l1000, hf a ha, hf b (show b < r 0 by omega), t22, nI_31, nI_shr]
        simp (disch := omega) only [nI_andI, shr1, hB, if_true, Bool.true_or, Bool.or_true, Bool.not_true, bN_f, nI_eq, ite_f]
        cases X
        · simp (disch := omega) only [gC_d, gC_tt, gBp_s, gBd_s, gL_s, gIn_nI, gN_nI, nI_ltI, nI_leI, nI_eq, nI_add, nI_mul, nI_sub, ite_t, ite_f, gR_W2, gRL_W, if_true, if_false, true_and, and_true, false_and, and_false, and_self, Nat.add_zero, l0, l1, l2, l3, l4, l5, l6, l7, l8, l9, l10, l11, l12, l13, l14, l22, l30, l31, l32, l39, l40, l48, l50, l57, l59, l60, l94, l97, l99, l100, l122, l255, l256, l300, l488, l1000, Bool.not_false, bN_t]
        · simp (disch := omega) only [gC_d, gC_tt, gBp_s, gBd_s, gL_s, gIn_nI, gN_nI, nI_ltI, nI_leI, nI_eq, nI_add, nI_mul, nI_sub, ite_t, ite_f, gR_W2, gRL_W, if_true, if_false, true_and, and_true, false_and, and_false, and_self, Nat.add_zero, l0, l1, l2, l3, l4, l5, l6, l7, l8, l9, l10, l11, l12, l13, l14, l22, l30, l31, l32, l39, l40, l48, l50, l57, l59, l60, l94, l97, l99, l100, l122, l255, l256, l300, l488, l1000, Bool.not_true, bN_f]
      | false =>
        by_cases z12 : r 12 = 1
        · by_cases zz : r (1 + a) = r (1 + b)
          · rw [decide_eq_true z12, decide_eq_true zz]
            simp (disch := omega) only [gC_d, gC_tt, gBp_s, gBd_s, gL_s, gIn_nI, gN_nI, nI_ltI, nI_leI, nI_eq, nI_add, nI_mul, nI_sub, ite_t, ite_f, gR_W2, gRL_W, if_true, if_false, true_and, and_true, false_and, and_false, and_self, Nat.add_zero, l0, l1, l2, l3, l4, l5, l6, l7, l8, l9, l10, l11, l12, l13, l14, l22, l30, l31, l32, l39, l40, l48, l50, l57, l59, l60, l94, l97, l99, l100, l122, l255, l256, l300, l488, l1000, hf a ha, hf b (show b < r 0 by omega), t22, t12, t1, t2, nI_31, nI_shr]
            simp (disch := omega) only [nI_andI, shr1, hB, if_true, Bool.false_eq_true, if_false, Bool.and_true, Bool.false_or, Bool.or_true, Bool.not_true, bN_f, nI_eq, ite_f]
            cases X
            · simp (disch := omega) only [gC_d, gC_tt, gBp_s, gBd_s, gL_s, gIn_nI, gN_nI, nI_ltI, nI_leI, nI_eq, nI_add, nI_mul, nI_sub, ite_t, ite_f, gR_W2, gRL_W, if_true, if_false, true_and, and_true, false_and, and_false, and_self, Nat.add_zero, l0, l1, l2, l3, l4, l5, l6, l7, l8, l9, l10, l11, l12, l13, l14, l22, l30, l31, l32, l39, l40, l48, l50, l57, l59, l60, l94, l97, l99, l100, l122, l255, l256, l300, l488, l1000, Bool.not_false, bN_t]
            · simp (disch := omega) only [gC_d, gC_tt, gBp_s, gBd_s, gL_s, gIn_nI, gN_nI, nI_ltI, nI_leI, nI_eq, nI_add, nI_mul, nI_sub, ite_t, ite_f, gR_W2, gRL_W, if_true, if_false, true_and, and_true, false_and, and_false, and_self, Nat.add_zero, l0, l1, l2, l3, l4, l5, l6, l7, l8, l9, l10, l11, l12, l13, l14, l22, l30, l31, l32, l39, l40, l48, l50, l57, l59, l60, l94, l97, l99, l100, l122, l255, l256, l300, l488, l1000, Bool.not_true, bN_f]
          · rw [decide_eq_false zz]
            simp (disch := omega) only [gC_d, gC_tt, gBp_s, gBd_s, gL_s, gIn_nI, gN_nI, nI_ltI, nI_leI, nI_eq, nI_add, nI_mul, nI_sub, ite_t, ite_f, gR_W2, gRL_W, if_true, if_false, true_and, and_true, false_and, and_false, and_self, Nat.add_zero, l0, l1, l2, l3, l4, l5, l6, l7, l8, l9, l10, l11, l12, l13, l14, l22, l30, l31, l32, l39, l40, l48, l50, l57, l59, l60, l94, l97, l99, l100, l122, l255, l256, l300, l488, l1000, hf a ha, hf b (show b < r 0 by omega), t22, t12, t1, t2, nI_31, nI_shr]
            simp (disch := omega) only [nI_andI, shr1, hB, if_true, Bool.false_eq_true, if_false, Bool.and_false, Bool.false_or, Bool.or_false, Bool.not_true, bN_f, nI_eq, ite_f]
            cases X
            · simp (disch := omega) only [gC_d, gC_tt, gBp_s, gBd_s, gL_s, gIn_nI, gN_nI, nI_ltI, nI_leI, nI_eq, nI_add, nI_mul, nI_sub, ite_t, ite_f, gR_W2, gRL_W, if_true, if_false, true_and, and_true, false_and, and_false, and_self, Nat.add_zero, l0, l1, l2, l3, l4, l5, l6, l7, l8, l9, l10, l11, l12, l13, l14, l22, l30, l31, l32, l39, l40, l48, l50, l57, l59, l60, l94, l97, l99, l100, l122, l255, l256, l300, l488, l1000, Bool.not_false, bN_t]
            · simp (disch := omega) only [gC_d, gC_tt, gBp_s, gBd_s, gL_s, gIn_nI, gN_nI, nI_ltI, nI_leI, nI_eq, nI_add, nI_mul, nI_sub, ite_t, ite_f, gR_W2, gRL_W, if_true, if_false, true_and, and_true, false_and, and_false, and_self, Nat.add_zero, l0, l1, l2, l3, l4, l5, l6, l7, l8, l9, l10, l11, l12, l13, l14, l22, l30, l31, l32, l39, l40, l48, l50, l57, l59, l60, l94, l97, l99, l100, l122, l255, l256, l300, l488, l1000, Bool.not_true, bN_f]
        · rw [decide_eq_false z12]
          simp (disch := omega) only [gC_d, gC_tt, gBp_s, gBd_s, gL_s, gIn_nI, gN_nI, nI_ltI, nI_leI, nI_eq, nI_add, nI_mul, nI_sub, ite_t, ite_f, gR_W2, gRL_W, if_true, if_false, true_and, and_true, false_and, and_false, and_self, Nat.add_zero, l0, l1, l2, l3, l4, l5, l6, l7, l8, l9, l10, l11, l12, l13, l14, l22, l30, l31, l32, l39, l40, l48, l50, l57, l59, l60, l94, l97, l99, l100, l122, l255, l256, l300, l488, l1000, hf a ha, hf b (show b < r 0 by omega), t22, t12, t1, t2, nI_31, nI_shr]
          simp (disch := omega) only [nI_andI, shr1, hB, if_true, Bool.false_eq_true, if_false, Bool.false_and, Bool.false_or, Bool.or_false, Bool.not_true, bN_f, nI_eq, ite_f]
          cases X
          · simp (disch := omega) only [gC_d, gC_tt, gBp_s, gBd_s, gL_s, gIn_nI, gN_nI, nI_ltI, nI_leI, nI_eq, nI_add, nI_mul, nI_sub, ite_t, ite_f, gR_W2, gRL_W, if_true, if_false, true_and, and_true, false_and, and_false, and_self, Nat.add_zero, l0, l1, l2, l3, l4, l5, l6, l7, l8, l9, l10, l11, l12, l13, l14, l22, l30, l31, l32, l39, l40, l48, l50, l57, l59, l60, l94, l97, l99, l100, l122, l255, l256, l300, l488, l1000, Bool.not_false, bN_t]
          · simp (disch := omega) only [gC_d, gC_tt, gBp_s, gBd_s, gL_s, gIn_nI, gN_nI, nI_ltI, nI_leI, nI_eq, nI_add, nI_mul, nI_sub, ite_t, ite_f, gR_W2, gRL_W, if_true, if_false, true_and, and_true, false_and, and_false, and_self, Nat.add_zero, l0, l1, l2, l3, l4, l5, l6, l7, l8, l9, l10, l11, l12, l13, l14, l22, l30, l31, l32, l39, l40, l48, l50, l57, l59, l60, l94, l97, l99, l100, l122, l255, l256, l300, l488, l1000, Bool.not_true, bN_f]
    · rw [if_neg z]
      cases hB : (r (14 + a)).testBit b with
      | true =>
        simp (disch := omega) only [gC_d, gC_tt, gBp_s, gBd_s, gL_s, gIn_nI, gN_nI, nI_ltI, nI_leI, nI_eq, nI_add, nI_mul, nI_sub, ite_t, ite_f, gR_W2, gRL_W, if_true, if_false, true_and, and_true, false_and, and_false, and_self, Nat.add_zero, l0, l1, l2, l3, l4, l5, l6, l7, l8, l9, l10, l11, l12, l13, l14, l22, l30, l31, l32, l39, l40, l48, l50, l57, l59, l60, l94, l97, l99, l100, l122, l255, l256, l300, l488, l1000, hf a ha, hf b (show b < r 0 by omega), t14, nI_31, nI_shr]
        simp (disch := omega) only [nI_andI, shr1, hB, if_true, Bool.true_or, Bool.or_true, Bool.not_true, bN_f, nI_eq, ite_f]
        cases X
        · simp (disch := omega) only [gC_d, gC_tt, gBp_s, gBd_s, gL_s, gIn_nI, gN_nI, nI_ltI, nI_leI, nI_eq, nI_add, nI_mul, nI_sub, ite_t, ite_f, gR_W2, gRL_W, if_true, if_false, true_and, and_true, false_and, and_false, and_self, Nat.add_zero, l0, l1, l2, l3, l4, l5, l6, l7, l8, l9, l10, l11, l12, l13, l14, l22, l30, l31, l32, l39, l40, l48, l50, l57, l59, l60, l94, l97, l99, l100, l122, l255, l256, l300, l488, l1000, Bool.not_false, bN_t]
        · simp (disch := omega) only [gC_d, gC_tt, gBp_s, gBd_s, gL_s, gIn_nI, gN_nI, nI_ltI, nI_leI, nI_eq, nI_add, nI_mul, nI_sub, ite_t, ite_f, gR_W2, gRL_W, if_true, if_false, true_and, and_true, false_and, and_false, and_self, Nat.add_zero, l0, l1, l2, l3, l4, l5, l6, l7, l8, l9, l10, l11, l12, l13, l14, l22, l30, l31, l32, l39, l40, l48, l50, l57, l59, l60, l94, l97, l99, l100, l122, l255, l256, l300, l488, l1000, Bool.not_true, bN_f]
      | false =>
        simp (disch := omega) only [gC_d, gC_tt, gBp_s, gBd_s, gL_s, gIn_nI, gN_nI, nI_ltI, nI_leI, nI_eq, nI_add, nI_mul, nI_sub, ite_t, ite_f, gR_W2, gRL_W, if_true, if_false, true_and, and_true, false_and, and_false, and_self, Nat.add_zero, l0, l1, l2, l3, l4, l5, l6, l7, l8, l9, l10, l11, l12, l13, l14, l22, l30, l31, l32, l39, l40, l48, l50, l57, l59, l60, l94, l97, l99, l100, l122, l255, l256, l300, l488, l1000, hf a ha, hf b (show b < r 0 by omega), t14, nI_31, nI_shr]
        simp (disch := omega) only [nI_andI, shr1, hB, if_true, Bool.false_eq_true, if_false, Bool.or_false, Bool.not_true, bN_f, nI_eq, ite_f]
        cases X
        · simp (disch := omega) only [gC_d, gC_tt, gBp_s, gBd_s, gL_s, gIn_nI, gN_nI, nI_ltI, nI_leI, nI_eq, nI_add, nI_mul, nI_sub, ite_t, ite_f, gR_W2, gRL_W, if_true, if_false, true_and, and_true, false_and, and_false, and_self, Nat.add_zero, l0, l1, l2, l3, l4, l5, l6, l7, l8, l9, l10, l11, l12, l13, l14, l22, l30, l31, l32, l39, l40, l48, l50, l57, l59, l60, l94, l97, l99, l100, l122, l255, l256, l300, l488, l1000, Bool.not_false, bN_t]
        · simp (disch := omega) only [gC_d, gC_tt, gBp_s, gBd_s, gL_s, gIn_nI, gN_nI, nI_ltI, nI_leI, nI_eq, nI_add, nI_mul, nI_sub, ite_t, ite_f, gR_W2, gRL_W, if_true, if_false, true_and, and_true, false_and, and_false, and_self, Nat.add_zero, l0, l1, l2, l3, l4, l5, l6, l7, l8, l9, l10, l11, l12, l13, l14, l22, l30, l31, l32, l39, l40, l48, l50, l57, l59, l60, l94, l97, l99, l100, l122, l255, l256, l300, l488, l1000, Bool.not_true, bN_f]
  · rintro m y rfl
    show fX11_arePairsWell_L15 k4 p S (m + 1) _ (nI a) (nI a) = _
    rw [fX11_arePairsWell_L15]
    simp (disch := omega) only [gC_d, gC_tt, gBp_s, gBd_s, gL_s, gIn_nI, gN_nI, nI_ltI, nI_leI, nI_eq, nI_add, nI_mul, nI_sub, ite_t, ite_f, gR_W2, gRL_W, if_true, if_false, true_and, and_true, false_and, and_false, and_self, Nat.add_zero, l0, l1, l2, l3, l4, l5, l6, l7, l8, l9, l10, l11, l12, l13, l14, l22, l30, l31, l32, l39, l40, l48, l50, l57, l59, l60, l94, l97, l99, l100, l122, l255, l256, l300, l488, l1000]
def badAny (r f : Nat → Nat) (n : Nat) : Bool := an (fun a => an (fun b => bad r f a b) a) n
theorem m_arePairsWell {S : gSt} {p : Nat} {r f : Nat → Nat} {w : Nat → Nat → Int} (h : To S 0 r w) (hW : RW r w) (hr : 8 ≤ (gLay p).2) (hr2 : (gLay p).2 ≤ 5000) (hf : rowAt S p (r 0) f) (hb : ∀ g, g < r 0 → f g < 1000000) : fX11_arePairsWell p S = some (nI (bN (!badAny r f (r 0)))) := by
  have h8 := hW.2.1
  unfold fX11_arePairsWell
  refine forFU (fun m y a => fX11_arePairsWell_L4 p S m y (nI a)) (fun y => y = some (nI (bN (!badAny r f (r 0))))) (fun a y => y = nI (bN (!an (fun a => an (fun b => bad r f a b) a) a))) (r 0) 1 (by omega) ?_ ?_ rfl
  · rintro m a y ha rfl
    right
    refine ⟨_, rfl, ?_⟩
    show fX11_arePairsWell_L4 p S (m + 1) _ (nI a) = fX11_arePairsWell_L4 p S m _ (nI (a + 1))
    rw [an_s, fX11_arePairsWell_L4, m_guests (h.mN hW), gBp_s, if_neg (nI_nleI ha (by omega)), m_pair h hW hr hr2 hf hb ha]
  · rintro m y rfl
    show fX11_arePairsWell_L4 p S (m + 1) _ (nI (r 0)) = _
    rw [fX11_arePairsWell_L4, m_guests (h.mN hW)]
    simp (disch := omega) only [gC_d, gC_tt, gBp_s, gBd_s, gL_s, gIn_nI, gN_nI, nI_ltI, nI_leI, nI_eq, nI_add, nI_mul, nI_sub, ite_t, ite_f, gR_W2, gRL_W, if_true, if_false, true_and, and_true, false_and, and_false, and_self, Nat.add_zero, l0, l1, l2, l3, l4, l5, l6, l7, l8, l9, l10, l11, l12, l13, l14, l22, l30, l31, l32, l39, l40, l48, l50, l57, l59, l60, l94, l97, l99, l100, l122, l255, l256, l300, l488, l1000, gBo_b]
    rfl
def sz (f : Nat → Nat) (n p : Nat) : Nat := cn (fun e => decide (f e = p)) n
def szBad (r f : Nat → Nat) (n p : Nat) : Bool := decide (sz f n p < r 10) || (!decide (r 11 = 0) && decide (r 11 < sz f n p))
/-- the rows that the laws allow -/
def lawful (r f : Nat → Nat) : Bool := (decide (r 9 = 0) || decide (pts f (r 0) = r 9)) && !an (fun p => szBad r f (r 0) p) (pts f (r 0)) && !badAny r f (r 0) && !(decide (r 13 = 1) && crossed f (r 0))
theorem m_isLawful {S : gSt} {p : Nat} {r f : Nat → Nat} {w : Nat → Nat → Int} (h : To S 0 r w) (hW : RW r w) (hr : 8 ≤ (gLay p).2) (hr2 : (gLay p).2 ≤ 5000) (hf : rowAt S p (r 0) f) (hC : Can f (r 0)) : fX11_isLawful p S = some (nI (bN (lawful r f))) := by
  have h8 := hW.2.1
  have hm := h.mN hW
  have hb : ∀ g, g < r 0 → f g < 1000000 := fun g hg => by have := hC.lt8 h8 hg; omega
  have hp := pts_leN hC
  have t9 := h.1 9 (by omega)
  have t10 := h.1 10 (by omega)
  have t11 := h.1 11 (by omega)
  have t13 := h.1 13 (by omega)
  rw [Nat.zero_add] at t9 t10 t11 t13
  have v9 : r 9 ≤ 8 := hW.2.2.2.1 0 (by omega)
  have v10 : r 10 ≤ 8 := hW.2.2.2.1 1 (by omega)
  have v11 : r 11 ≤ 8 := hW.2.2.2.1 2 (by omega)
  have v13 := hW.2.2.2.2.2.1
  have key : ∀ x : Bool, fX11_isLawful_L36 p S gFU (nI (pts f (r 0))) (nI (bN x)) 0 = some (nI (bN (x && !an (fun p => szBad r f (r 0) p) (pts f (r 0)) && !badAny r f (r 0) && !(decide (r 13 = 1) && crossed f (r 0))))) := by
    intro x
    have hend : ∀ y : Bool, fX11_isLawful_L101 p S (nI (bN y)) = some (nI (bN (y && !badAny r f (r 0) && !(decide (r 13 = 1) && crossed f (r 0))))) := by
      intro y
      unfold fX11_isLawful_L101
      cases y with
      | false => simp (disch := omega) only [gC_d, gC_tt, gBp_s, gBd_s, gL_s, gIn_nI, gN_nI, nI_ltI, nI_leI, nI_eq, nI_add, nI_mul, nI_sub, ite_t, ite_f, gR_W2, gRL_W, if_true, if_false, true_and, and_true, false_and, and_false, and_self, Nat.add_zero, l0, l1, l2, l3, l4, l5, l6, l7, l8, l9, l10, l11, l12, l13, l14, l22, l30, l31, l32, l39, l40, l48, l50, l57, l59, l60, l94, l97, l99, l100, l122, l255, l256, l300, l488, l1000, bN_f, Bool.false_and]
      | true =>
        rw [m_arePairsWell h hW hr hr2 hf hb]
        cases badAny r f (r 0) with
        | true => simp (disch := omega) only [gC_d, gC_tt, gBp_s, gBd_s, gL_s, gIn_nI, gN_nI, nI_ltI, nI_leI, nI_eq, nI_add, nI_mul, nI_sub, ite_t, ite_f, gR_W2, gRL_W, if_true, if_false, true_and, and_true, false_and, and_false, and_self, Nat.add_zero, l0, l1, l2, l3, l4, l5, l6, l7, l8, l9, l10, l11, l12, l13, l14, l22, l30, l31, l32, l39, l40, l48, l50, l57, l59, l60, l94, l97, l99, l100, l122, l255, l256, l300, l488, l1000, bN_t, bN_f, Bool.not_true, Bool.and_false, Bool.false_and]
        | false =>
          by_cases z : r 13 = 1
          · rw [m_isCrossed hm hr hr2 hf hb, decide_eq_true z]
            cases crossed f (r 0) with
            | true => simp (disch := omega) only [gC_d, gC_tt, gBp_s, gBd_s, gL_s, gIn_nI, gN_nI, nI_ltI, nI_leI, nI_eq, nI_add, nI_mul, nI_sub, ite_t, ite_f, gR_W2, gRL_W, if_true, if_false, true_and, and_true, false_and, and_false, and_self, Nat.add_zero, l0, l1, l2, l3, l4, l5, l6, l7, l8, l9, l10, l11, l12, l13, l14, l22, l30, l31, l32, l39, l40, l48, l50, l57, l59, l60, l94, l97, l99, l100, l122, l255, l256, l300, l488, l1000, t13, bN_t, bN_f, Bool.not_true, Bool.not_false, Bool.and_self, Bool.and_false]
            | false => simp (disch := omega) only [gC_d, gC_tt, gBp_s, gBd_s, gL_s, gIn_nI, gN_nI, nI_ltI, nI_leI, nI_eq, nI_add, nI_mul, nI_sub, ite_t, ite_f, gR_W2, gRL_W, if_true, if_false, true_and, and_true, false_and, and_false, and_self, Nat.add_zero, l0, l1, l2, l3, l4, l5, l6, l7, l8, l9, l10, l11, l12, l13, l14, l22, l30, l31, l32, l39, l40, l48, l50, l57, l59, l60, l94, l97, l99, l100, l122, l255, l256, l300, l488, l1000, t13, bN_t, bN_f, Bool.not_true, Bool.not_false, Bool.and_self, Bool.and_false]
          · rw [decide_eq_false z]
            simp (disch := omega) only [gC_d, gC_tt, gBp_s, gBd_s, gL_s, gIn_nI, gN_nI, nI_ltI, nI_leI, nI_eq, nI_add, nI_mul, nI_sub, ite_t, ite_f, gR_W2, gRL_W, if_true, if_false, true_and, and_true, false_and, and_false, and_self, Nat.add_zero, l0, l1, l2, l3, l4, l5, l6, l7, l8, l9, l10, l11, l12, l13, l14, l22, l30, l31, l32, l39, l40, l48, l50, l57, l59, l60, l94, l97, l99, l100, l122, l255, l256, l300, l488, l1000, t13, bN_t, bN_f, Bool.not_true, Bool.not_false, Bool.and_self, Bool.false_and]
    refine forFU (fun m y q => fX11_isLawful_L36 p S m (nI (pts f (r 0))) y (nI q)) (fun y => y = some (nI (bN (x && !an (fun p => szBad r f (r 0) p) (pts f (r 0)) && !badAny r f (r 0) && !(decide (r 13 = 1) && crossed f (r 0)))))) (fun q y => y = nI (bN (x && !an (fun p => szBad r f (r 0) p) q))) (pts f (r 0)) (nI (bN x)) (by omega) ?_ ?_ (by rw [show an (fun p => szBad r f (r 0) p) 0 = false from rfl, Bool.not_false, Bool.and_true])
    · rintro m q y hq rfl
      cases hX : (x && !an (fun p => szBad r f (r 0) p) q) with
      | false =>
        left
        show fX11_isLawful_L36 p S (m + 1) (nI (pts f (r 0))) (nI (bN false)) (nI q) = _
        have e1 : (x && !an (fun p => szBad r f (r 0) p) (pts f (r 0))) = false := by
          cases hx : x with
          | false => rfl
          | true =>
            rw [hx, Bool.true_and, Bool.not_eq_false'] at hX
            obtain ⟨e, u1, u2⟩ := (an_iff _ _).mp hX
            have : an (fun p => szBad r f (r 0) p) (pts f (r 0)) = true := (an_iff _ _).mpr ⟨e, by omega, u2⟩
            rw [this]; rfl
        rw [fX11_isLawful_L36, hend, e1]
        simp (disch := omega) only [gC_d, gC_tt, gBp_s, gBd_s, gL_s, gIn_nI, gN_nI, nI_ltI, nI_leI, nI_eq, nI_add, nI_mul, nI_sub, ite_t, ite_f, gR_W2, gRL_W, if_true, if_false, true_and, and_true, false_and, and_false, and_self, Nat.add_zero, l0, l1, l2, l3, l4, l5, l6, l7, l8, l9, l10, l11, l12, l13, l14, l22, l30, l31, l32, l39, l40, l48, l50, l57, l59, l60, l94, l97, l99, l100, l122, l255, l256, l300, l488, l1000, bN_f]
      | true =>
        right
        refine ⟨_, rfl, ?_⟩
        have hx2 : x = true ∧ an (fun p => szBad r f (r 0) p) q = false := by
          cases hx : x <;> cases hy : an (fun p => szBad r f (r 0) p) q <;> rw [hx, hy] at hX <;> first | exact ⟨rfl, rfl⟩ | exact absurd hX (by decide)
        show fX11_isLawful_L36 p S (m + 1) (nI (pts f (r 0))) (nI (bN true)) (nI q) = fX11_isLawful_L36 p S m (nI (pts f (r 0))) _ (nI (q + 1))
        have hsz := m_sizeOf (q := q) hm (by omega) hr2 hf hb (by omega)
        have hcl := cn_le (fun g => decide (f g = q)) (r 0)
        rw [an_s, hx2.1, hx2.2, Bool.false_or, Bool.true_and, fX11_isLawful_L36, hsz]
        unfold szBad sz
        generalize cn (fun g => decide (f g = q)) (r 0) = k at hcl
        by_cases z1 : k < r 10
        · rw [decide_eq_true z1]
          simp (disch := omega) only [gC_d, gC_tt, gBp_s, gBd_s, gL_s, gIn_nI, gN_nI, nI_ltI, nI_leI, nI_eq, nI_add, nI_mul, nI_sub, ite_t, ite_f, gR_W2, gRL_W, if_true, if_false, true_and, and_true, false_and, and_false, and_self, Nat.add_zero, l0, l1, l2, l3, l4, l5, l6, l7, l8, l9, l10, l11, l12, l13, l14, l22, l30, l31, l32, l39, l40, l48, l50, l57, l59, l60, l94, l97, l99, l100, l122, l255, l256, l300, l488, l1000, t10, bN_t, bN_f, Bool.true_or, Bool.not_true]
        · rw [decide_eq_false z1]
          by_cases z2 : r 11 = 0
          · rw [decide_eq_true z2]
            simp (disch := omega) only [gC_d, gC_tt, gBp_s, gBd_s, gL_s, gIn_nI, gN_nI, nI_ltI, nI_leI, nI_eq, nI_add, nI_mul, nI_sub, ite_t, ite_f, gR_W2, gRL_W, if_true, if_false, true_and, and_true, false_and, and_false, and_self, Nat.add_zero, l0, l1, l2, l3, l4, l5, l6, l7, l8, l9, l10, l11, l12, l13, l14, l22, l30, l31, l32, l39, l40, l48, l50, l57, l59, l60, l94, l97, l99, l100, l122, l255, l256, l300, l488, l1000, t10, t11, bN_t, bN_f, Bool.false_or, Bool.not_true, Bool.false_and, Bool.not_false]
          · rw [decide_eq_false z2]
            by_cases z3 : r 11 < k
            · rw [decide_eq_true z3]
              simp (disch := omega) only [gC_d, gC_tt, gBp_s, gBd_s, gL_s, gIn_nI, gN_nI, nI_ltI, nI_leI, nI_eq, nI_add, nI_mul, nI_sub, ite_t, ite_f, gR_W2, gRL_W, if_true, if_false, true_and, and_true, false_and, and_false, and_self, Nat.add_zero, l0, l1, l2, l3, l4, l5, l6, l7, l8, l9, l10, l11, l12, l13, l14, l22, l30, l31, l32, l39, l40, l48, l50, l57, l59, l60, l94, l97, l99, l100, l122, l255, l256, l300, l488, l1000, t10, t11, bN_t, bN_f, Bool.false_or, Bool.not_true, Bool.true_and, Bool.not_false]
            · rw [decide_eq_false z3]
              simp (disch := omega) only [gC_d, gC_tt, gBp_s, gBd_s, gL_s, gIn_nI, gN_nI, nI_ltI, nI_leI, nI_eq, nI_add, nI_mul, nI_sub, ite_t, ite_f, gR_W2, gRL_W, if_true, if_false, true_and, and_true, false_and, and_false, and_self, Nat.add_zero, l0, l1, l2, l3, l4, l5, l6, l7, l8, l9, l10, l11, l12, l13, l14, l22, l30, l31, l32, l39, l40, l48, l50, l57, l59, l60, l94, l97, l99, l100, l122, l255, l256, l300, l488, l1000, t10, t11, bN_t, bN_f, Bool.false_or, Bool.not_true, Bool.and_false, Bool.not_false]
    · rintro m y rfl
      show fX11_isLawful_L36 p S (m + 1) (nI (pts f (r 0))) _ (nI (pts f (r 0))) = _
      rw [fX11_isLawful_L36, hend]
      simp (disch := omega) only [gC_d, gC_tt, gBp_s, gBd_s, gL_s, gIn_nI, gN_nI, nI_ltI, nI_leI, nI_eq, nI_add, nI_mul, nI_sub, ite_t, ite_f, gR_W2, gRL_W, if_true, if_false, true_and, and_true, false_and, and_false, and_self, Nat.add_zero, l0, l1, l2, l3, l4, l5, l6, l7, l8, l9, l10, l11, l12, l13, l14, l22, l30, l31, l32, l39, l40, l48, l50, l57, l59, l60, l94, l97, l99, l100, l122, l255, l256, l300, l488, l1000]
  unfold fX11_isLawful
  rw [m_partiesOf hm (by omega) hr2 hf hb, show fX11_isLawful_L36 p S gFU = fX11_isLawful_L36 p S gFU from rfl]
  unfold lawful
  have k1 := key true
  have k0 := key false
  rw [bN_t] at k1
  rw [bN_f] at k0
  rw [l0] at k1 k0
  by_cases z1 : r 9 = 0
  · rw [decide_eq_true z1]
    simp (disch := omega) only [gC_d, gC_tt, gBp_s, gBd_s, gL_s, gIn_nI, gN_nI, nI_ltI, nI_leI, nI_eq, nI_add, nI_mul, nI_sub, ite_t, ite_f, gR_W2, gRL_W, if_true, if_false, true_and, and_true, false_and, and_false, and_self, Nat.add_zero, l0, l1, l2, l3, l4, l5, l6, l7, l8, l9, l10, l11, l12, l13, l14, l22, l30, l31, l32, l39, l40, l48, l50, l57, l59, l60, l94, l97, l99, l100, l122, l255, l256, l300, l488, l1000, t9, k1, Bool.true_or]
  · rw [decide_eq_false z1]
    by_cases z2 : pts f (r 0) = r 9
    · rw [decide_eq_true z2]
      simp (disch := omega) only [gC_d, gC_tt, gBp_s, gBd_s, gL_s, gIn_nI, gN_nI, nI_ltI, nI_leI, nI_eq, nI_add, nI_mul, nI_sub, ite_t, ite_f, gR_W2, gRL_W, if_true, if_false, true_and, and_true, false_and, and_false, and_self, Nat.add_zero, l0, l1, l2, l3, l4, l5, l6, l7, l8, l9, l10, l11, l12, l13, l14, l22, l30, l31, l32, l39, l40, l48, l50, l57, l59, l60, l94, l97, l99, l100, l122, l255, l256, l300, l488, l1000, t9, k1, Bool.or_true]
    · rw [decide_eq_false z2]
      simp (disch := omega) only [gC_d, gC_tt, gBp_s, gBd_s, gL_s, gIn_nI, gN_nI, nI_ltI, nI_leI, nI_eq, nI_add, nI_mul, nI_sub, ite_t, ite_f, gR_W2, gRL_W, if_true, if_false, true_and, and_true, false_and, and_false, and_self, Nat.add_zero, l0, l1, l2, l3, l4, l5, l6, l7, l8, l9, l10, l11, l12, l13, l14, l22, l30, l31, l32, l39, l40, l48, l50, l57, l59, l60, l94, l97, l99, l100, l122, l255, l256, l300, l488, l1000, t9, k0, Bool.or_false]
