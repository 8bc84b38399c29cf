/-! what a standing of the class does; needs: 0800 0801 0802 0803 0804 -/
def upN (f : Nat → Nat) (g v : Nat) : Nat → Nat := fun e => if e = g then v else f e
theorem upN_s (f : Nat → Nat) (g v : Nat) : upN f g v g = v := if_pos rfl
theorem upN_n {f : Nat → Nat} {g v e : Nat} (h : e ≠ g) : upN f g v e = f e := if_neg h
theorem c_relabel {S : gSt} {o n : Nat} {f : Nat → Nat} (h : St S o n f) : ∃ S1, fX7_relabel o S = some S1 ∧ gFr (o + 3) (o + 4) S S1 ∧ ∀ g, g < n → gR S1 (o + 3) g = nI (f g) := by
  unfold fX7_relabel
  obtain ⟨h1, h2, h3, h4, h5, h6, h7⟩ := h
  refine forS (fun m (T : gSt) g => fX7_relabel_L2 o m (nI g) T) (fun x => ∃ S1, x = some S1 ∧ gFr (o + 3) (o + 4) S S1 ∧ ∀ g, g < n → gR S1 (o + 3) g = nI (f g)) (fun g T => gFr (o + 3) (o + 4) S T ∧ ∀ e, e < g → gR T (o + 3) e = nI (f e)) n ?_ ?_ (by omega) S ⟨gFr.rf, fun e h => absurd h (Nat.not_lt_zero _)⟩
  · rintro m g T hg ⟨hF, a1⟩
    refine ⟨gW T (o + 3) g (nI (f g)), ⟨hF.w (by omega) (by omega), fun e he => ?_⟩, ?_⟩
    · by_cases q : e = g
      · subst q; simp (disch := omega) only [gC_d, gC_tt, gBp_s, gBd_s, gL_s, gIn_nI, gN_nI, nI_ltI, nI_leI, nI_eq, nI_add, nI_mul, nI_sub, ite_t, ite_f, gR_W2, gRL_W, if_true, if_false, true_and, and_true, false_and, and_false, and_self, Nat.add_zero, l0, l1, l2, l3, l4, l5, l6, l7, l8, l9, l10, l11, l12, l13, l14, l22, l30, l31, l32, l39, l40, l48, l50, l57, l59, l60, l94, l97, l99, l100, l122, l255, l256, l300, l488, l1000]
      · simp (disch := omega) only [gC_d, gC_tt, gBp_s, gBd_s, gL_s, gIn_nI, gN_nI, nI_ltI, nI_leI, nI_eq, nI_add, nI_mul, nI_sub, ite_t, ite_f, gR_W2, gRL_W, if_true, if_false, true_and, and_true, false_and, and_false, and_self, Nat.add_zero, l0, l1, l2, l3, l4, l5, l6, l7, l8, l9, l10, l11, l12, l13, l14, l22, l30, l31, l32, l39, l40, l48, l50, l57, l59, l60, l94, l97, l99, l100, l122, l255, l256, l300, l488, l1000, a1 e (by omega)]
    · show fX7_relabel_L2 o (m + 1) (nI g) T = fX7_relabel_L2 o m (nI (g + 1)) _
      rw [fX7_relabel_L2]
      simp (disch := omega) only [gC_d, gC_tt, gBp_s, gBd_s, gL_s, gIn_nI, gN_nI, nI_ltI, nI_leI, nI_eq, nI_add, nI_mul, nI_sub, ite_t, ite_f, gR_W2, gRL_W, if_true, if_false, true_and, and_true, false_and, and_false, and_self, Nat.add_zero, l0, l1, l2, l3, l4, l5, l6, l7, l8, l9, l10, l11, l12, l13, l14, l22, l30, l31, l32, l39, l40, l48, l50, l57, l59, l60, l94, l97, l99, l100, l122, l255, l256, l300, l488, l1000, hF.2, h1, h3]
  · rintro m T ⟨hF, a1⟩
    refine ⟨T, ?_, hF, a1⟩
    show fX7_relabel_L2 o (m + 1) (nI n) T = _
    rw [fX7_relabel_L2]
    simp (disch := omega) only [gC_d, gC_tt, gBp_s, gBd_s, gL_s, gIn_nI, gN_nI, nI_ltI, nI_leI, nI_eq, nI_add, nI_mul, nI_sub, ite_t, ite_f, gR_W2, gRL_W, if_true, if_false, true_and, and_true, false_and, and_false, and_self, Nat.add_zero, l0, l1, l2, l3, l4, l5, l6, l7, l8, l9, l10, l11, l12, l13, l14, l22, l30, l31, l32, l39, l40, l48, l50, l57, l59, l60, l94, l97, l99, l100, l122, l255, l256, l300, l488, l1000, hF.2, h1]
theorem c_sendToParty {S : gSt} {o n g p : Nat} {f : Nat → Nat} (h : St S o n f) (hg : g < n) (hp : p < 1000) : ∃ S1, fX7_sendToParty o (nI g) (nI p) S = some S1 ∧ gFr o (o + 4) S S1 ∧ St S1 o n (can (upN f g p)) := by
  obtain ⟨T, e1, hF, hl⟩ := c_relabel h
  obtain ⟨h1, h2, h3, h4, h5, h6, h7⟩ := h
  obtain ⟨S1, a, b, c⟩ := c_settle (S := gW T (o + 3) g (nI p)) (o := o) (n := n) (l := upN f g p) (by simp (disch := omega) only [gC_d, gC_tt, gBp_s, gBd_s, gL_s, gIn_nI, gN_nI, nI_ltI, nI_leI, nI_eq, nI_add, nI_mul, nI_sub, ite_t, ite_f, gR_W2, gRL_W, if_true, if_false, true_and, and_true, false_and, and_false, and_self, Nat.add_zero, l0, l1, l2, l3, l4, l5, l6, l7, l8, l9, l10, l11, l12, l13, l14, l22, l30, l31, l32, l39, l40, l48, l50, l57, l59, l60, l94, l97, l99, l100, l122, l255, l256, l300, l488, l1000, hF.2, h1]) h6 h7 (fun e he => by
    by_cases q : e = g
    · subst q; rw [upN_s]; simp (disch := omega) only [gC_d, gC_tt, gBp_s, gBd_s, gL_s, gIn_nI, gN_nI, nI_ltI, nI_leI, nI_eq, nI_add, nI_mul, nI_sub, ite_t, ite_f, gR_W2, gRL_W, if_true, if_false, true_and, and_true, false_and, and_false, and_self, Nat.add_zero, l0, l1, l2, l3, l4, l5, l6, l7, l8, l9, l10, l11, l12, l13, l14, l22, l30, l31, l32, l39, l40, l48, l50, l57, l59, l60, l94, l97, l99, l100, l122, l255, l256, l300, l488, l1000]
    · rw [upN_n q]; simp (disch := omega) only [gC_d, gC_tt, gBp_s, gBd_s, gL_s, gIn_nI, gN_nI, nI_ltI, nI_leI, nI_eq, nI_add, nI_mul, nI_sub, ite_t, ite_f, gR_W2, gRL_W, if_true, if_false, true_and, and_true, false_and, and_false, and_self, Nat.add_zero, l0, l1, l2, l3, l4, l5, l6, l7, l8, l9, l10, l11, l12, l13, l14, l22, l30, l31, l32, l39, l40, l48, l50, l57, l59, l60, l94, l97, l99, l100, l122, l255, l256, l300, l488, l1000, hl]) (fun e he => by
    by_cases q : e = g
    · subst q; rw [upN_s]; exact hp
    · rw [upN_n q]; have := h5.lt8 h7 he; omega)
  refine ⟨S1, ?_, ((hF.mono (by omega) (by omega)).tr (gFr.w0 (by omega) (by omega))).tr (b.mono (by omega) (by omega)), c⟩
  unfold fX7_sendToParty fX7_sendToParty_L23
  rw [e1]
  simp (disch := omega) only [gC_d, gC_tt, gBp_s, gBd_s, gL_s, gIn_nI, gN_nI, nI_ltI, nI_leI, nI_eq, nI_add, nI_mul, nI_sub, ite_t, ite_f, gR_W2, gRL_W, if_true, if_false, true_and, and_true, false_and, and_false, and_self, Nat.add_zero, l0, l1, l2, l3, l4, l5, l6, l7, l8, l9, l10, l11, l12, l13, l14, l22, l30, l31, l32, l39, l40, l48, l50, l57, l59, l60, l94, l97, l99, l100, l122, l255, l256, l300, l488, l1000, hF.2, h1]
  rw [a, gBp_s]
theorem c_sendTo {S : gSt} {o n g t : Nat} {f : Nat → Nat} (h : St S o n f) (hg : g < n) (ht : t < n) : ∃ S1, fX7_sendTo o (nI g) (nI t) S = some S1 ∧ gFr o (o + 4) S S1 ∧ St S1 o n (can (upN f g (if g = t then 8 else f t))) := by
  have h7 := h.2.2.2.2.2.2
  have h8 := h.2.2.2.2.1.lt8 h7 ht
  obtain ⟨S1, a, b, c⟩ := c_sendToParty (p := if g = t then 8 else f t) h hg (by split <;> omega)
  refine ⟨S1, ?_, b, c⟩
  unfold fX7_sendTo fX7_sendTo_L17
  by_cases q : g = t
  · rw [if_pos q] at a
    simp (disch := omega) only [gC_d, gC_tt, gBp_s, gBd_s, gL_s, gIn_nI, gN_nI, nI_ltI, nI_leI, nI_eq, nI_add, nI_mul, nI_sub, ite_t, ite_f, gR_W2, gRL_W, if_true, if_false, true_and, and_true, false_and, and_false, and_self, Nat.add_zero, l0, l1, l2, l3, l4, l5, l6, l7, l8, l9, l10, l11, l12, l13, l14, l22, l30, l31, l32, l39, l40, l48, l50, l57, l59, l60, l94, l97, l99, l100, l122, l255, l256, l300, l488, l1000]
    rw [a, gBp_s]
  · rw [if_neg q] at a
    simp (disch := omega) only [gC_d, gC_tt, gBp_s, gBd_s, gL_s, gIn_nI, gN_nI, nI_ltI, nI_leI, nI_eq, nI_add, nI_mul, nI_sub, ite_t, ite_f, gR_W2, gRL_W, if_true, if_false, true_and, and_true, false_and, and_false, and_self, Nat.add_zero, l0, l1, l2, l3, l4, l5, l6, l7, l8, l9, l10, l11, l12, l13, l14, l22, l30, l31, l32, l39, l40, l48, l50, l57, l59, l60, l94, l97, l99, l100, l122, l255, l256, l300, l488, l1000, c_partyOf h ht]
    rw [a, gBp_s]
theorem c_sendAlone {S : gSt} {o n g : Nat} {f : Nat → Nat} (h : St S o n f) (hg : g < n) : ∃ S1, fX7_sendAlone o (nI g) S = some S1 ∧ gFr o (o + 4) S S1 ∧ St S1 o n (can (upN f g 8)) := by
  obtain ⟨S1, a, b, c⟩ := c_sendToParty (p := 8) h hg (by omega)
  refine ⟨S1, ?_, b, c⟩
  unfold fX7_sendAlone
  rw [l8, a, gBp_s]
theorem c_merge {S : gSt} {o n p q : Nat} {f : Nat → Nat} (h : St S o n f) (hp : p < 1000) (hq : q < 1000) : ∃ S1, fX7_merge o (nI p) (nI q) S = some S1 ∧ gFr o (o + 4) S S1 ∧ St S1 o n (can (fun g => if f g = q then p else f g)) := by
  obtain ⟨h1, h2, h3, h4, h5, h6, h7⟩ := h
  unfold fX7_merge
  refine c_label (fun m (x : Int32 × Int32) g T => fX7_merge_L2 o m x.1 x.2 (nI g) T) (l := fun g => if f g = q then p else f g) (nI p, nI q) h1 h6 h7 (fun g hg => ?_) (fun m g T hg hF a3 => ?_) (fun m T hF a3 => ?_)
  · have := h5.lt8 h7 hg
    show (if f g = q then p else f g) < 1000
    split <;> omega
  · show fX7_merge_L2 o (m + 1) (nI p) (nI q) (nI g) T = fX7_merge_L2 o m (nI p) (nI q) (nI (g + 1)) _
    rw [fX7_merge_L2]
    have := h5.lt8 h7 hg
    by_cases z : f g = q
    · simp (disch := omega) only [gC_d, gC_tt, gBp_s, gBd_s, gL_s, gIn_nI, gN_nI, nI_ltI, nI_leI, nI_eq, nI_add, nI_mul, nI_sub, ite_t, ite_f, gR_W2, gRL_W, if_true, if_false, true_and, and_true, false_and, and_false, and_self, Nat.add_zero, l0, l1, l2, l3, l4, l5, l6, l7, l8, l9, l10, l11, l12, l13, l14, l22, l30, l31, l32, l39, l40, l48, l50, l57, l59, l60, l94, l97, l99, l100, l122, l255, l256, l300, l488, l1000, a3, hF.2, h3]
    · simp (disch := omega) only [gC_d, gC_tt, gBp_s, gBd_s, gL_s, gIn_nI, gN_nI, nI_ltI, nI_leI, nI_eq, nI_add, nI_mul, nI_sub, ite_t, ite_f, gR_W2, gRL_W, if_true, if_false, true_and, and_true, false_and, and_false, and_self, Nat.add_zero, l0, l1, l2, l3, l4, l5, l6, l7, l8, l9, l10, l11, l12, l13, l14, l22, l30, l31, l32, l39, l40, l48, l50, l57, l59, l60, l94, l97, l99, l100, l122, l255, l256, l300, l488, l1000, a3, hF.2, h3]
  · show fX7_merge_L2 o (m + 1) (nI p) (nI q) (nI n) T = _
    rw [fX7_merge_L2]
    simp (disch := omega) only [gC_d, gC_tt, gBp_s, gBd_s, gL_s, gIn_nI, gN_nI, nI_ltI, nI_leI, nI_eq, nI_add, nI_mul, nI_sub, ite_t, ite_f, gR_W2, gRL_W, if_true, if_false, true_and, and_true, false_and, and_false, and_self, Nat.add_zero, l0, l1, l2, l3, l4, l5, l6, l7, l8, l9, l10, l11, l12, l13, l14, l22, l30, l31, l32, l39, l40, l48, l50, l57, l59, l60, l94, l97, l99, l100, l122, l255, l256, l300, l488, l1000, a3]
theorem and_bit (s g : Nat) : s &&& 2 ^ g = 0 ↔ s.testBit g = false := by
  constructor
  · intro h
    have : (s &&& 2 ^ g).testBit g = s.testBit g := by rw [Nat.testBit_and, Nat.testBit_two_pow_self, Bool.and_true]
    rw [← this, h, Nat.zero_testBit]
  · intro h
    apply Nat.eq_of_testBit_eq
    intro i
    rw [Nat.testBit_and, Nat.zero_testBit, Nat.testBit_two_pow]
    by_cases e : g = i
    · subst e; rw [h, Bool.false_and]
    · rw [decide_eq_false e, Bool.and_false]
theorem and_le2 (s g : Nat) : s &&& 2 ^ g ≤ s := Nat.and_le_left
theorem c_splitOff {S : gSt} {o n s : Nat} {f : Nat → Nat} (h : St S o n f) (hs : s < 256) : ∃ S1, fX7_splitOff o (nI s) S = some S1 ∧ gFr o (o + 4) S S1 ∧ St S1 o n (can (fun g => if s.testBit g then 8 else f g)) := by
  obtain ⟨h1, h2, h3, h4, h5, h6, h7⟩ := h
  unfold fX7_splitOff
  refine c_label (fun m (x : Int32) g T => fX7_splitOff_L2 o m x (nI g) T) (l := fun g => if s.testBit g then 8 else f g) (nI s) h1 h6 h7 (fun g hg => ?_) (fun m g T hg hF a3 => ?_) (fun m T hF a3 => ?_)
  · have := h5.lt8 h7 hg
    show (if s.testBit g then 8 else f g) < 1000
    split <;> omega
  · show fX7_splitOff_L2 o (m + 1) (nI s) (nI g) T = fX7_splitOff_L2 o m (nI s) (nI (g + 1)) _
    rw [fX7_splitOff_L2]
    have hz := and_bit s g
    have hy := and_le2 s g
    cases hb : s.testBit g with
    | false =>
      simp (disch := omega) only [gC_d, gC_tt, gBp_s, gBd_s, gL_s, gIn_nI, gN_nI, nI_ltI, nI_leI, nI_eq, nI_add, nI_mul, nI_sub, ite_t, ite_f, gR_W2, gRL_W, if_true, if_false, true_and, and_true, false_and, and_false, and_self, Nat.add_zero, l0, l1, l2, l3, l4, l5, l6, l7, l8, l9, l10, l11, l12, l13, l14, l22, l30, l31, l32, l39, l40, l48, l50, l57, l59, l60, l94, l97, l99, l100, l122, l255, l256, l300, l488, l1000, a3, hF.2, h3, nI_31, nI_shl, Nat.one_mul]
      simp (disch := omega) only [gC_d, gC_tt, gBp_s, gBd_s, gL_s, gIn_nI, gN_nI, nI_ltI, nI_leI, nI_eq, nI_add, nI_mul, nI_sub, ite_t, ite_f, gR_W2, gRL_W, if_true, if_false, true_and, and_true, false_and, and_false, and_self, Nat.add_zero, l0, l1, l2, l3, l4, l5, l6, l7, l8, l9, l10, l11, l12, l13, l14, l22, l30, l31, l32, l39, l40, l48, l50, l57, l59, l60, l94, l97, l99, l100, l122, l255, l256, l300, l488, l1000, nI_andI, hz.mpr hb, Bool.false_eq_true, hF.2, h3]
    | true =>
      have hz : ¬ s &&& 2 ^ g = 0 := fun z => by rw [hz.mp z] at hb; exact absurd hb (by decide)
      simp (disch := omega) only [gC_d, gC_tt, gBp_s, gBd_s, gL_s, gIn_nI, gN_nI, nI_ltI, nI_leI, nI_eq, nI_add, nI_mul, nI_sub, ite_t, ite_f, gR_W2, gRL_W, if_true, if_false, true_and, and_true, false_and, and_false, and_self, Nat.add_zero, l0, l1, l2, l3, l4, l5, l6, l7, l8, l9, l10, l11, l12, l13, l14, l22, l30, l31, l32, l39, l40, l48, l50, l57, l59, l60, l94, l97, l99, l100, l122, l255, l256, l300, l488, l1000, a3, hF.2, h3, nI_31, nI_shl, Nat.one_mul]
      simp (disch := omega) only [gC_d, gC_tt, gBp_s, gBd_s, gL_s, gIn_nI, gN_nI, nI_ltI, nI_leI, nI_eq, nI_add, nI_mul, nI_sub, ite_t, ite_f, gR_W2, gRL_W, if_true, if_false, true_and, and_true, false_and, and_false, and_self, Nat.add_zero, l0, l1, l2, l3, l4, l5, l6, l7, l8, l9, l10, l11, l12, l13, l14, l22, l30, l31, l32, l39, l40, l48, l50, l57, l59, l60, l94, l97, l99, l100, l122, l255, l256, l300, l488, l1000, nI_andI]
  · show fX7_splitOff_L2 o (m + 1) (nI s) (nI n) T = _
    rw [fX7_splitOff_L2]
    simp (disch := omega) only [gC_d, gC_tt, gBp_s, gBd_s, gL_s, gIn_nI, gN_nI, nI_ltI, nI_leI, nI_eq, nI_add, nI_mul, nI_sub, ite_t, ite_f, gR_W2, gRL_W, if_true, if_false, true_and, and_true, false_and, and_false, and_self, Nat.add_zero, l0, l1, l2, l3, l4, l5, l6, l7, l8, l9, l10, l11, l12, l13, l14, l22, l30, l31, l32, l39, l40, l48, l50, l57, l59, l60, l94, l97, l99, l100, l122, l255, l256, l300, l488, l1000, a3]
theorem c_meet {S : gSt} {o a b n : Nat} {f k : Nat → Nat} (h : St S a n f) (h' : St S b n k) (ha : a + 3 < o ∨ o + 3 < a) (hb : b + 3 < o ∨ o + 3 < b) : ∃ S1, fX7_meet o a b S = some S1 ∧ gFr o (o + 4) S S1 ∧ St S1 o n (can (fun g => f g * 8 + k g)) := by
  have h6 := h.2.2.2.2.2.1
  have h7 := h.2.2.2.2.2.2
  have hF0 : gFr o (o + 4) S (gW S o 3 (nI n)) := gFr.w0 (by omega) (by omega)
  unfold fX7_meet
  rw [show fX7_guests a S = some (nI n) from congrArg some h.1, gBp_s, gL_s]
  obtain ⟨S1, x, y, z⟩ := c_label (fun m (_ : Unit) g T => fX7_meet_L10 o a b m (nI g) T) (S := gW S o 3 (nI n)) (o := o) (n := n) (l := fun g => f g * 8 + k g) () (gR_Ws _ _ _ _) h6 h7 (fun g hg => by
    have := h.2.2.2.2.1.lt8 h7 hg
    have := h'.2.2.2.2.1.lt8 h7 hg
    show f g * 8 + k g < 1000
    omega) (fun m g T hg hF a3 => by
    show fX7_meet_L10 o a b (m + 1) (nI g) T = fX7_meet_L10 o a b m (nI (g + 1)) _
    have hF1 := hF0.tr (hF.mono (c := o) (d := o + 4) (by omega) (by omega))
    rw [fX7_meet_L10, c_partyOf (h.fr hF1 (by omega)) hg, gBp_s, c_partyOf (h'.fr hF1 (by omega)) hg, gBp_s]
    simp (disch := omega) only [gC_d, gC_tt, gBp_s, gBd_s, gL_s, gIn_nI, gN_nI, nI_ltI, nI_leI, nI_eq, nI_add, nI_mul, nI_sub, ite_t, ite_f, gR_W2, gRL_W, if_true, if_false, true_and, and_true, false_and, and_false, and_self, Nat.add_zero, l0, l1, l2, l3, l4, l5, l6, l7, l8, l9, l10, l11, l12, l13, l14, l22, l30, l31, l32, l39, l40, l48, l50, l57, l59, l60, l94, l97, l99, l100, l122, l255, l256, l300, l488, l1000, a3]) (fun m T hF a3 => by
    show fX7_meet_L10 o a b (m + 1) (nI n) T = _
    rw [fX7_meet_L10]
    simp (disch := omega) only [gC_d, gC_tt, gBp_s, gBd_s, gL_s, gIn_nI, gN_nI, nI_ltI, nI_leI, nI_eq, nI_add, nI_mul, nI_sub, ite_t, ite_f, gR_W2, gRL_W, if_true, if_false, true_and, and_true, false_and, and_false, and_self, Nat.add_zero, l0, l1, l2, l3, l4, l5, l6, l7, l8, l9, l10, l11, l12, l13, l14, l22, l30, l31, l32, l39, l40, l48, l50, l57, l59, l60, l94, l97, l99, l100, l122, l255, l256, l300, l488, l1000, a3])
  exact ⟨S1, x, hF0.tr y, z⟩
/-- c: the finest row that is coarser than both f and k -/
def Cl (n : Nat) (f k c : Nat → Nat) : Prop := (∀ a b, a < n → b < n → (f a = f b ∨ k a = k b) → c a = c b) ∧ ∀ T : Nat → Nat → Prop, (∀ a, T a a) → (∀ a b, T a b → T b a) → (∀ a b c, T a b → T b c → T a c) → (∀ a b, a < n → b < n → (f a = f b ∨ k a = k b) → T a b) → ∀ a b, a < n → b < n → c a = c b → T a b
theorem tz_mk (S : gSt) {k : Nat → Nat} {n g : Nat} (hn : n ≤ 8) (hg : g < n) : fJ6_numberOfTrailingZeros_0f7a4 (nI (mk (fun e => decide (k e = k g)) n)) S = some (nI (fs k g)) := by
  have hlt := mk_lt8 (fun e => decide (k e = k g)) hn
  have hpos : 0 < mk (fun e => decide (k e = k g)) n := by
    rcases Nat.eq_zero_or_pos (mk (fun e => decide (k e = k g)) n) with z | z
    · have := mk_bit (fun e => decide (k e = k g)) n g
      rw [z, Nat.zero_testBit] at this
      simp [hg] at this
    · exact z
  rw [numTZ_ok S _ hpos hlt]
  have h : ∀ a : Fin 256, 0 < a.val → tzN 8 a.val = ff (fun g => a.val.testBit g) 8 := by decide +kernel
  rw [h ⟨_, hlt⟩ hpos]
  have hle := fs_le k g
  congr 2
  refine ff_u (by omega) (fun _ => ?_) (fun e he => ?_)
  · show (mk (fun e => decide (k e = k g)) n).testBit (fs k g) = true
    rw [mk_bit]
    simp only [Bool.and_eq_true, decide_eq_true_eq]
    exact ⟨by omega, fs_eq k g⟩
  · show (mk (fun e => decide (k e = k g)) n).testBit e = false
    rw [mk_bit, Bool.and_eq_false_iff]
    right
    exact decide_eq_false (fs_min he)
theorem c_mergeAlong {S : gSt} {o q n : Nat} {f k : Nat → Nat} (h : St S o n f) (h' : St S q n k) (hq : q + 3 < o ∨ o + 3 < q) : ∃ S1 c, fX7_mergeAlong o q S = some S1 ∧ gFr o (o + 4) S S1 ∧ St S1 o n c ∧ Cl n f k c := by
  have h6 := h.2.2.2.2.2.1
  have h7 := h.2.2.2.2.2.2
  unfold fX7_mergeAlong
  refine forE (fun m (T : gSt) g => fX7_mergeAlong_L2 o q m (nI g) T) (fun x => ∃ S1 c, x = some S1 ∧ gFr o (o + 4) S S1 ∧ St S1 o n c ∧ Cl n f k c) (fun g T => gFr o (o + 4) S T ∧ ∃ c, St T o n c ∧ (∀ a b, a < n → b < n → f a = f b → c a = c b) ∧ (∀ e, e < g → e < n → c e = c (fs k e)) ∧ ∀ T : Nat → Nat → Prop, (∀ a, T a a) → (∀ a b, T a b → T b a) → (∀ a b c, T a b → T b c → T a c) → (∀ a b, a < n → b < n → (f a = f b ∨ k a = k b) → T a b) → ∀ a b, a < n → b < n → c a = c b → T a b) n ?_ ?_ (n - 1) gFU 1 S (by omega) (show n - 1 < 5000 by omega) ⟨gFr.rf, f, h, fun _ _ _ _ e => e, fun e he _ => ?_, fun T _ _ _ hE a b ha hb e => hE a b ha hb (Or.inl e)⟩
  · rintro m g T hg ⟨hF, c, hc, i1, i2, i3⟩
    right
    have hk := h'.fr hF (by omega)
    have hle := fs_le k g
    have hkp : k g < pts k n := lt_pts hg
    have c8 := hc.2.2.2.2.1.lt8 h7 hg
    have c9 := hc.2.2.2.2.1.lt8 h7 (show fs k g < n by omega)
    have hc3 := hc.1
    by_cases z : c (fs k g) = c g
    · refine ⟨T, ⟨hF, c, hc, i1, fun e he hn => ?_, i3⟩, ?_⟩
      · by_cases y : e = g
        · subst y; exact z.symm
        · exact i2 e (by omega) hn
      · show fX7_mergeAlong_L2 o q (m + 1) (nI g) T = fX7_mergeAlong_L2 o q m (nI (g + 1)) T
        rw [fX7_mergeAlong_L2, c_partyOf hk hg, gBp_s, c_setOf hk hkp, gBp_s, tz_mk T h7 hg, gBp_s, c_partyOf hc (by omega), gBp_s, c_partyOf hc hg, gBp_s]
        simp (disch := omega) only [gC_d, gC_tt, gBp_s, gBd_s, gL_s, gIn_nI, gN_nI, nI_ltI, nI_leI, nI_eq, nI_add, nI_mul, nI_sub, ite_t, ite_f, gR_W2, gRL_W, if_true, if_false, true_and, and_true, false_and, and_false, and_self, Nat.add_zero, l0, l1, l2, l3, l4, l5, l6, l7, l8, l9, l10, l11, l12, l13, l14, l22, l30, l31, l32, l39, l40, l48, l50, l57, l59, l60, l94, l97, l99, l100, l122, l255, l256, l300, l488, l1000, hc3]
    · obtain ⟨T1, e1, hF1, hs1⟩ := c_merge (p := c (fs k g)) (q := c g) hc (by omega) (by omega)
      refine ⟨T1, ⟨hF.tr hF1, _, hs1, fun a b ha hb e => ?_, fun e he hn => ?_, fun R r1 r2 r3 hE a b ha hb e => ?_⟩, ?_⟩
      · rw [can_iff]
        show (if c a = c g then c (fs k g) else c a) = (if c b = c g then c (fs k g) else c b)
        rw [i1 a b ha hb e]
      · rw [can_iff]
        show (if c e = c g then c (fs k g) else c e) = (if c (fs k e) = c g then c (fs k g) else c (fs k e))
        by_cases y : e = g
        · subst y
          rw [if_pos rfl, if_neg z]
        · rw [← i2 e (by omega) hn]
      · rw [can_iff] at e
        have e : (if c a = c g then c (fs k g) else c a) = (if c b = c g then c (fs k g) else c b) := e
        have hgk : R (fs k g) g := hE _ _ (by omega) hg (Or.inr (fs_eq k g))
        have hR : ∀ a b, a < n → b < n → c a = c b → R a b := i3 R r1 r2 r3 hE
        by_cases y1 : c a = c g
        · rw [if_pos y1] at e
          have ra : R a g := hR a g ha hg y1
          by_cases y2 : c b = c g
          · exact hR a b ha hb (y1.trans y2.symm)
          · rw [if_neg y2] at e
            exact r3 _ _ _ (r3 _ _ _ ra (r2 _ _ hgk)) (hR _ _ (by omega) hb e)
        · rw [if_neg y1] at e
          by_cases y2 : c b = c g
          · rw [if_pos y2] at e
            have rb : R b g := hR b g hb hg y2
            exact r3 _ _ _ (r3 _ _ _ (hR _ _ ha (by omega) e) hgk) (r2 _ _ rb)
          · rw [if_neg y2] at e
            exact hR a b ha hb e
      · show fX7_mergeAlong_L2 o q (m + 1) (nI g) T = fX7_mergeAlong_L2 o q m (nI (g + 1)) T1
        rw [fX7_mergeAlong_L2, c_partyOf hk hg, gBp_s, c_setOf hk hkp, gBp_s, tz_mk T h7 hg, gBp_s, c_partyOf hc (by omega), gBp_s, c_partyOf hc hg, gBp_s]
        simp (disch := omega) only [gC_d, gC_tt, gBp_s, gBd_s, gL_s, gIn_nI, gN_nI, nI_ltI, nI_leI, nI_eq, nI_add, nI_mul, nI_sub, ite_t, ite_f, gR_W2, gRL_W, if_true, if_false, true_and, and_true, false_and, and_false, and_self, Nat.add_zero, l0, l1, l2, l3, l4, l5, l6, l7, l8, l9, l10, l11, l12, l13, l14, l22, l30, l31, l32, l39, l40, l48, l50, l57, l59, l60, l94, l97, l99, l100, l122, l255, l256, l300, l488, l1000, hc3, e1]
  · rintro m T ⟨hF, c, hc, i1, i2, i3⟩
    refine ⟨T, c, ?_, hF, hc, fun a b ha hb e => ?_, i3⟩
    · show fX7_mergeAlong_L2 o q (m + 1) (nI n) T = _
      have hc3 := hc.1
      rw [fX7_mergeAlong_L2]
      simp (disch := omega) only [gC_d, gC_tt, gBp_s, gBd_s, gL_s, gIn_nI, gN_nI, nI_ltI, nI_leI, nI_eq, nI_add, nI_mul, nI_sub, ite_t, ite_f, gR_W2, gRL_W, if_true, if_false, true_and, and_true, false_and, and_false, and_self, Nat.add_zero, l0, l1, l2, l3, l4, l5, l6, l7, l8, l9, l10, l11, l12, l13, l14, l22, l30, l31, l32, l39, l40, l48, l50, l57, l59, l60, l94, l97, l99, l100, l122, l255, l256, l300, l488, l1000, hc3]
    · rcases e with e | e
      · exact i1 a b ha hb e
      · rw [i2 a ha ha, i2 b hb hb]
        have : fs k a = fs k b := by
          have h1 := fs_eq k a
          have h2 := fs_eq k b
          rcases Nat.lt_trichotomy (fs k a) (fs k b) with y | y | y
          · exact absurd (h1.trans e) (fs_min y)
          · exact y
          · exact absurd (h2.trans e.symm) (fs_min y)
        rw [this]
  · have : e = 0 := by omega
    subst this
    have := fs_le k 0
    rw [show fs k 0 = 0 by omega]
theorem c_isAlone {S : gSt} {o n g : Nat} {f : Nat → Nat} (h : St S o n f) (hg : g < n) : fX7_isAlone o (nI g) S = some (if cn (fun e => decide (f e = f g)) n = 1 then 1 else 0) := by
  unfold fX7_isAlone
  have h7 := h.2.2.2.2.2.2
  have := cn_le (fun e => decide (f e = f g)) n
  rw [c_partyOf h hg, gBp_s, c_setOf h (lt_pts hg), gBp_s, bc_mk S _ h7, gBp_s]
  by_cases z : cn (fun e => decide (f e = f g)) n = 1
  · simp (disch := omega) only [gC_d, gC_tt, gBp_s, gBd_s, gL_s, gIn_nI, gN_nI, nI_ltI, nI_leI, nI_eq, nI_add, nI_mul, nI_sub, ite_t, ite_f, gR_W2, gRL_W, if_true, if_false, true_and, and_true, false_and, and_false, and_self, Nat.add_zero, l0, l1, l2, l3, l4, l5, l6, l7, l8, l9, l10, l11, l12, l13, l14, l22, l30, l31, l32, l39, l40, l48, l50, l57, l59, l60, l94, l97, l99, l100, l122, l255, l256, l300, l488, l1000]
  · simp (disch := omega) only [gC_d, gC_tt, gBp_s, gBd_s, gL_s, gIn_nI, gN_nI, nI_ltI, nI_leI, nI_eq, nI_add, nI_mul, nI_sub, ite_t, ite_f, gR_W2, gRL_W, if_true, if_false, true_and, and_true, false_and, and_false, and_self, Nat.add_zero, l0, l1, l2, l3, l4, l5, l6, l7, l8, l9, l10, l11, l12, l13, l14, l22, l30, l31, l32, l39, l40, l48, l50, l57, l59, l60, l94, l97, l99, l100, l122, l255, l256, l300, l488, l1000]
theorem c_loners {S : gSt} {o n : Nat} {f : Nat → Nat} (h : St S o n f) : fX7_loners o S = some (nI (cn (fun p => decide (cn (fun e => decide (f e = p)) n = 1)) (pts f n))) := by
  unfold fX7_loners
  have h7 := h.2.2.2.2.2.2
  have h8 := h.pts
  have h4 := h.2.1
  refine forFU (fun m a p => fX7_loners_L4 o S m a (nI p)) (fun x => x = some (nI (cn (fun p => decide (cn (fun e => decide (f e = p)) n = 1)) (pts f n)))) (fun p a => a = nI (cn (fun p => decide (cn (fun e => decide (f e = p)) n = 1)) p)) (pts f n) 0 (by omega) ?_ ?_ rfl
  · rintro m p a hp rfl
    right
    refine ⟨_, rfl, ?_⟩
    show fX7_loners_L4 o S (m + 1) _ (nI p) = fX7_loners_L4 o S m _ (nI (p + 1))
    have := cn_le (fun e => decide (f e = p)) n
    rw [fX7_loners_L4, c_setOf h hp, gBp_s, bc_mk S _ h7, gBp_s, cn_s]
    by_cases z : cn (fun e => decide (f e = p)) n = 1
    · simp (disch := omega) only [gC_d, gC_tt, gBp_s, gBd_s, gL_s, gIn_nI, gN_nI, nI_ltI, nI_leI, nI_eq, nI_add, nI_mul, nI_sub, ite_t, ite_f, gR_W2, gRL_W, if_true, if_false, true_and, and_true, false_and, and_false, and_self, Nat.add_zero, l0, l1, l2, l3, l4, l5, l6, l7, l8, l9, l10, l11, l12, l13, l14, l22, l30, l31, l32, l39, l40, l48, l50, l57, l59, l60, l94, l97, l99, l100, l122, l255, l256, l300, l488, l1000, h4, z, decide_true]
    · rw [decide_eq_false z]
      simp (disch := omega) only [gC_d, gC_tt, gBp_s, gBd_s, gL_s, gIn_nI, gN_nI, nI_ltI, nI_leI, nI_eq, nI_add, nI_mul, nI_sub, ite_t, ite_f, gR_W2, gRL_W, if_true, if_false, true_and, and_true, false_and, and_false, and_self, Nat.add_zero, l0, l1, l2, l3, l4, l5, l6, l7, l8, l9, l10, l11, l12, l13, l14, l22, l30, l31, l32, l39, l40, l48, l50, l57, l59, l60, l94, l97, l99, l100, l122, l255, l256, l300, l488, l1000, h4, Bool.false_eq_true]
  · rintro m a rfl
    show fX7_loners_L4 o S (m + 1) _ (nI (pts f n)) = _
    rw [fX7_loners_L4]
    simp (disch := omega) only [gC_d, gC_tt, gBp_s, gBd_s, gL_s, gIn_nI, gN_nI, nI_ltI, nI_leI, nI_eq, nI_add, nI_mul, nI_sub, ite_t, ite_f, gR_W2, gRL_W, if_true, if_false, true_and, and_true, false_and, and_false, and_self, Nat.add_zero, l0, l1, l2, l3, l4, l5, l6, l7, l8, l9, l10, l11, l12, l13, l14, l22, l30, l31, l32, l39, l40, l48, l50, l57, l59, l60, l94, l97, l99, l100, l122, l255, l256, l300, l488, l1000, h4]
