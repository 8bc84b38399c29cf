/-! a standing of the class; needs: 0800 0801 0802 0803 -/
/-- the standing at o: n guests, the row f -/
def St (S : gSt) (o n : Nat) (f : Nat → Nat) : Prop := gR S o 3 = nI n ∧ gR S o 4 = nI (pts f n) ∧ (∀ g, g < n → gR S (o + 1) g = nI (f g)) ∧ (∀ p, p < pts f n → gR S (o + 2) p = nI (mk (fun g => decide (f g = p)) n)) ∧ Can f n ∧ 1 ≤ n ∧ n ≤ 8
theorem St.fr {S S1 : gSt} {o n a b : Nat} {f : Nat → Nat} (h : St S o n f) (hf : gFr a b S S1) (hp : o + 3 < a ∨ b ≤ o) : St S1 o n f := by
  obtain ⟨h1, h2, h3, h4, h5⟩ := h
  refine ⟨?_, ?_, fun g hg => ?_, fun p hp => ?_, h5⟩
  · rw [hf.2 _ _ (by omega)]; exact h1
  · rw [hf.2 _ _ (by omega)]; exact h2
  · rw [hf.2 _ _ (by omega)]; exact h3 g hg
  · rw [hf.2 _ _ (by omega)]; exact h4 p hp
theorem St.congr {S : gSt} {o n : Nat} {f k : Nat → Nat} (h : St S o n f) (e : ∀ g, g < n → f g = k g) : St S o n k := by
  obtain ⟨h1, h2, h3, h4, h5, h6⟩ := h
  rw [pts_congr e] at h2 h4
  refine ⟨h1, h2, fun g hg => by rw [h3 g hg, e g hg], fun p hp => ?_, h5.congr e, h6⟩
  rw [h4 p hp, mk_congr (fun g hg => by rw [e g hg])]
theorem St.pts {S : gSt} {o n : Nat} {f : Nat → Nat} (h : St S o n f) : pts f n ≤ 8 := Nat.le_trans (pts_leN h.2.2.2.2.1) h.2.2.2.2.2.2
theorem c_partyOf {S : gSt} {o n g : Nat} {f : Nat → Nat} (h : St S o n f) (hg : g < n) : fX7_partyOf o (nI g) S = some (nI (f g)) := by
  obtain ⟨h1, h2, h3, h4, h5, h6, h7⟩ := h
  unfold fX7_partyOf
  simp (disch := omega) only [gC_d, gC_tt, gBp_s, gBd_s, gL_s, gIn_nI, gN_nI, nI_ltI, nI_leI, nI_eq, nI_add, nI_mul, nI_sub, ite_t, ite_f, gR_W2, gRL_W, if_true, if_false, true_and, and_true, false_and, and_false, and_self, Nat.add_zero, l0, l1, l2, l3, l4, l5, l6, l7, l8, l9, l10, l11, l12, l13, l14, l22, l30, l31, l32, l39, l40, l48, l50, l57, l59, l60, l94, l97, l99, l100, l122, l255, l256, l300, l488, l1000, h1, h3]
theorem c_setOf {S : gSt} {o n p : Nat} {f : Nat → Nat} (h : St S o n f) (hp : p < pts f n) : fX7_setOf o (nI p) S = some (nI (mk (fun g => decide (f g = p)) n)) := by
  have h8 := h.pts
  obtain ⟨h1, h2, h3, h4, h5, h6, h7⟩ := h
  unfold fX7_setOf
  simp (disch := omega) only [gC_d, gC_tt, gBp_s, gBd_s, gL_s, gIn_nI, gN_nI, nI_ltI, nI_leI, nI_eq, nI_add, nI_mul, nI_sub, ite_t, ite_f, gR_W2, gRL_W, if_true, if_false, true_and, and_true, false_and, and_false, and_self, Nat.add_zero, l0, l1, l2, l3, l4, l5, l6, l7, l8, l9, l10, l11, l12, l13, l14, l22, l30, l31, l32, l39, l40, l48, l50, l57, l59, l60, l94, l97, l99, l100, l122, l255, l256, l300, l488, l1000, h2, h4]
theorem c_first {S : gSt} {o n g : Nat} {l : Nat → Nat} (hn : n ≤ 8) (hl : ∀ g, g < n → gR S (o + 3) g = nI (l g)) (hb : ∀ g, g < n → l g < 1000) (hg : g < n) : fX7_firstLabelledLike o (nI g) S = some (nI (fs l g)) := by
  unfold fX7_firstLabelledLike
  refine forFU (fun m (_ : Unit) e => fX7_firstLabelledLike_L2 o S m (nI g) (nI e)) (fun x => x = some (nI (fs l g))) (fun e _ => ∀ e', e' < e → l e' ≠ l g) g () (by omega) ?_ ?_ (fun e' h => absurd h (Nat.not_lt_zero _))
  · intro m e _ he hi
    have b1 := hb g hg
    have b2 := hb e (by omega)
    by_cases q : l e = l g
    · left
      show fX7_firstLabelledLike_L2 o S (m + 1) (nI g) (nI e) = some (nI (fs l g))
      rw [fX7_firstLabelledLike_L2]
      simp (disch := omega) only [gC_d, gC_tt, gBp_s, gBd_s, gL_s, gIn_nI, gN_nI, nI_ltI, nI_leI, nI_eq, nI_add, nI_mul, nI_sub, ite_t, ite_f, gR_W2, gRL_W, if_true, if_false, true_and, and_true, false_and, and_false, and_self, Nat.add_zero, l0, l1, l2, l3, l4, l5, l6, l7, l8, l9, l10, l11, l12, l13, l14, l22, l30, l31, l32, l39, l40, l48, l50, l57, l59, l60, l94, l97, l99, l100, l122, l255, l256, l300, l488, l1000, hl]
      rw [fs_u (by omega) q hi]
    · right
      refine ⟨(), fun e' h' => ?_, ?_⟩
      · by_cases z : e' = e
        · rw [z]; exact q
        · exact hi e' (by omega)
      · show fX7_firstLabelledLike_L2 o S (m + 1) (nI g) (nI e) = fX7_firstLabelledLike_L2 o S m (nI g) (nI (e + 1))
        rw [fX7_firstLabelledLike_L2]
        simp (disch := omega) only [gC_d, gC_tt, gBp_s, gBd_s, gL_s, gIn_nI, gN_nI, nI_ltI, nI_leI, nI_eq, nI_add, nI_mul, nI_sub, ite_t, ite_f, gR_W2, gRL_W, if_true, if_false, true_and, and_true, false_and, and_false, and_self, Nat.add_zero, l0, l1, l2, l3, l4, l5, l6, l7, l8, l9, l10, l11, l12, l13, l14, l22, l30, l31, l32, l39, l40, l48, l50, l57, l59, l60, l94, l97, l99, l100, l122, l255, l256, l300, l488, l1000, hl]
  · intro m _ hi
    show fX7_firstLabelledLike_L2 o S (m + 1) (nI g) (nI g) = some (nI (fs l g))
    rw [fX7_firstLabelledLike_L2]
    simp (disch := omega) only [gC_d, gC_tt, gBp_s, gBd_s, gL_s, gIn_nI, gN_nI, nI_ltI, nI_leI, nI_eq, nI_add, nI_mul, nI_sub, ite_t, ite_f, gR_W2, gRL_W, if_true, if_false, true_and, and_true, false_and, and_false, and_self, Nat.add_zero, l0, l1, l2, l3, l4, l5, l6, l7, l8, l9, l10, l11, l12, l13, l14, l22, l30, l31, l32, l39, l40, l48, l50, l57, l59, l60, l94, l97, l99, l100, l122, l255, l256, l300, l488, l1000]
    rw [fs_u (Nat.le_refl g) rfl hi]
theorem c_settle {S : gSt} {o n : Nat} {l : Nat → Nat} (h3 : gR S o 3 = nI n) (hn1 : 1 ≤ n) (hn : n ≤ 8) (hl : ∀ g, g < n → gR S (o + 3) g = nI (l g)) (hb : ∀ g, g < n → l g < 1000) : ∃ S1, fX7_settle o S = some S1 ∧ gFr o (o + 3) S S1 ∧ St S1 o n (can l) := by
  unfold fX7_settle
  rw [gL_s]
  refine forS (fun m (T : gSt) g => fX7_settle_L7 o m (nI g) T) (fun x => ∃ S1, x = some S1 ∧ gFr o (o + 3) S S1 ∧ St S1 o n (can l)) (fun g T => gFr o (o + 3) S T ∧ gR T o 3 = nI n ∧ gR T o 4 = nI (cn (nw l) g) ∧ (∀ e, e < g → gR T (o + 1) e = nI (can l e)) ∧ (∀ p, p < cn (nw l) g → gR T (o + 2) p = nI (mk (fun e => decide (can l e = p)) g))) n ?_ ?_ (by omega) _ ?_
  · rintro m g T hg ⟨hF, a3, a4, a1, a2⟩
    have hlT : ∀ g, g < n → gR T (o + 3) g = nI (l g) := fun g hg => by rw [hF.2 _ _ (by omega)]; exact hl g hg
    have hc := cn_le (nw l) g
    have hfl := fs_le l g
    by_cases hf : fs l g = g
    · have hnw : nw l g = true := decide_eq_true hf
      have hcan := can_nw hf
      refine ⟨gW (gW (gW (gW T (o + 2) (cn (nw l) g) 0) (o + 1) g (nI (cn (nw l) g))) o 4 (nI (cn (nw l) g + 1))) (o + 2) (cn (nw l) g) (nI (2 ^ g)), ⟨?_, ?_, ?_, ?_, ?_⟩, ?_⟩
      · exact (((hF.w (by omega) (by omega)).w (by omega) (by omega)).w (by omega) (by omega)).w (by omega) (by omega)
      · simp (disch := omega) only [gC_d, gC_tt, gBp_s, gBd_s, gL_s, gIn_nI, gN_nI, nI_ltI, nI_leI, nI_eq, nI_add, nI_mul, nI_sub, ite_t, ite_f, gR_W2, gRL_W, if_true, if_false, true_and, and_true, false_and, and_false, and_self, Nat.add_zero, l0, l1, l2, l3, l4, l5, l6, l7, l8, l9, l10, l11, l12, l13, l14, l22, l30, l31, l32, l39, l40, l48, l50, l57, l59, l60, l94, l97, l99, l100, l122, l255, l256, l300, l488, l1000, a3]
      · rw [cn_s, if_pos hnw]
        simp (disch := omega) only [gC_d, gC_tt, gBp_s, gBd_s, gL_s, gIn_nI, gN_nI, nI_ltI, nI_leI, nI_eq, nI_add, nI_mul, nI_sub, ite_t, ite_f, gR_W2, gRL_W, if_true, if_false, true_and, and_true, false_and, and_false, and_self, Nat.add_zero, l0, l1, l2, l3, l4, l5, l6, l7, l8, l9, l10, l11, l12, l13, l14, l22, l30, l31, l32, l39, l40, l48, l50, l57, l59, l60, l94, l97, l99, l100, l122, l255, l256, l300, l488, l1000]
      · intro e he
        by_cases q : e = g
        · subst q
          simp (disch := omega) only [gC_d, gC_tt, gBp_s, gBd_s, gL_s, gIn_nI, gN_nI, nI_ltI, nI_leI, nI_eq, nI_add, nI_mul, nI_sub, ite_t, ite_f, gR_W2, gRL_W, if_true, if_false, true_and, and_true, false_and, and_false, and_self, Nat.add_zero, l0, l1, l2, l3, l4, l5, l6, l7, l8, l9, l10, l11, l12, l13, l14, l22, l30, l31, l32, l39, l40, l48, l50, l57, l59, l60, l94, l97, l99, l100, l122, l255, l256, l300, l488, l1000, hcan]
        · simp (disch := omega) only [gC_d, gC_tt, gBp_s, gBd_s, gL_s, gIn_nI, gN_nI, nI_ltI, nI_leI, nI_eq, nI_add, nI_mul, nI_sub, ite_t, ite_f, gR_W2, gRL_W, if_true, if_false, true_and, and_true, false_and, and_false, and_self, Nat.add_zero, l0, l1, l2, l3, l4, l5, l6, l7, l8, l9, l10, l11, l12, l13, l14, l22, l30, l31, l32, l39, l40, l48, l50, l57, l59, l60, l94, l97, l99, l100, l122, l255, l256, l300, l488, l1000, a1 e (by omega)]
      · intro p hp
        rw [cn_s, if_pos hnw] at hp
        rw [mk_s]
        by_cases q : p = cn (nw l) g
        · subst q
          have : mk (fun e => decide (can l e = cn (nw l) g)) g = 0 := by
            have h0 : ∀ k, k ≤ g → mk (fun e => decide (can l e = cn (nw l) g)) k = 0 := by
              intro k
              induction k with
              | zero => intro _; rfl
              | succ k ih =>
                intro hk
                have := can_lt l (show k < g by omega)
                rw [mk_s, ih (by omega), if_neg (by rw [decide_eq_true_eq]; omega)]
            exact h0 g (Nat.le_refl _)
          rw [this, if_pos (by rw [decide_eq_true_eq]; exact hcan)]
          simp (disch := omega) only [gC_d, gC_tt, gBp_s, gBd_s, gL_s, gIn_nI, gN_nI, nI_ltI, nI_leI, nI_eq, nI_add, nI_mul, nI_sub, ite_t, ite_f, gR_W2, gRL_W, if_true, if_false, true_and, and_true, false_and, and_false, and_self, Nat.add_zero, l0, l1, l2, l3, l4, l5, l6, l7, l8, l9, l10, l11, l12, l13, l14, l22, l30, l31, l32, l39, l40, l48, l50, l57, l59, l60, l94, l97, l99, l100, l122, l255, l256, l300, l488, l1000, Nat.zero_add]
        · rw [if_neg (by rw [decide_eq_true_eq]; omega), Nat.add_zero]
          simp (disch := omega) only [gC_d, gC_tt, gBp_s, gBd_s, gL_s, gIn_nI, gN_nI, nI_ltI, nI_leI, nI_eq, nI_add, nI_mul, nI_sub, ite_t, ite_f, gR_W2, gRL_W, if_true, if_false, true_and, and_true, false_and, and_false, and_self, Nat.add_zero, l0, l1, l2, l3, l4, l5, l6, l7, l8, l9, l10, l11, l12, l13, l14, l22, l30, l31, l32, l39, l40, l48, l50, l57, l59, l60, l94, l97, l99, l100, l122, l255, l256, l300, l488, l1000, a2]
      · show fX7_settle_L7 o (m + 1) (nI g) T = fX7_settle_L7 o m (nI (g + 1)) _
        rw [fX7_settle_L7]
        unfold fX7_settle_L71
        simp (disch := omega) only [gC_d, gC_tt, gBp_s, gBd_s, gL_s, gIn_nI, gN_nI, nI_ltI, nI_leI, nI_eq, nI_add, nI_mul, nI_sub, ite_t, ite_f, gR_W2, gRL_W, if_true, if_false, true_and, and_true, false_and, and_false, and_self, Nat.add_zero, l0, l1, l2, l3, l4, l5, l6, l7, l8, l9, l10, l11, l12, l13, l14, l22, l30, l31, l32, l39, l40, l48, l50, l57, l59, l60, l94, l97, l99, l100, l122, l255, l256, l300, l488, l1000, a3, a4, c_first hn hlT hb hg, hf, nI_31, nI_shl, nI_orI, Nat.one_mul, Nat.zero_or]
    · have hnw : ¬ nw l g = true := fun z => hf (of_decide_eq_true z)
      have hlt := can_lt l (show fs l g < g by omega)
      rw [can_fs] at hlt
      have hcf := can_fs l g
      refine ⟨gW (gW T (o + 1) g (nI (can l g))) (o + 2) (can l g) (nI (mk (fun e => decide (can l e = can l g)) (g + 1))), ⟨?_, ?_, ?_, ?_, ?_⟩, ?_⟩
      · exact (hF.w (by omega) (by omega)).w (by omega) (by omega)
      · simp (disch := omega) only [gC_d, gC_tt, gBp_s, gBd_s, gL_s, gIn_nI, gN_nI, nI_ltI, nI_leI, nI_eq, nI_add, nI_mul, nI_sub, ite_t, ite_f, gR_W2, gRL_W, if_true, if_false, true_and, and_true, false_and, and_false, and_self, Nat.add_zero, l0, l1, l2, l3, l4, l5, l6, l7, l8, l9, l10, l11, l12, l13, l14, l22, l30, l31, l32, l39, l40, l48, l50, l57, l59, l60, l94, l97, l99, l100, l122, l255, l256, l300, l488, l1000, a3]
      · rw [cn_s, if_neg hnw]
        simp (disch := omega) only [gC_d, gC_tt, gBp_s, gBd_s, gL_s, gIn_nI, gN_nI, nI_ltI, nI_leI, nI_eq, nI_add, nI_mul, nI_sub, ite_t, ite_f, gR_W2, gRL_W, if_true, if_false, true_and, and_true, false_and, and_false, and_self, Nat.add_zero, l0, l1, l2, l3, l4, l5, l6, l7, l8, l9, l10, l11, l12, l13, l14, l22, l30, l31, l32, l39, l40, l48, l50, l57, l59, l60, l94, l97, l99, l100, l122, l255, l256, l300, l488, l1000, a4, Nat.add_zero]
      · intro e he
        by_cases q : e = g
        · subst q
          simp (disch := omega) only [gC_d, gC_tt, gBp_s, gBd_s, gL_s, gIn_nI, gN_nI, nI_ltI, nI_leI, nI_eq, nI_add, nI_mul, nI_sub, ite_t, ite_f, gR_W2, gRL_W, if_true, if_false, true_and, and_true, false_and, and_false, and_self, Nat.add_zero, l0, l1, l2, l3, l4, l5, l6, l7, l8, l9, l10, l11, l12, l13, l14, l22, l30, l31, l32, l39, l40, l48, l50, l57, l59, l60, l94, l97, l99, l100, l122, l255, l256, l300, l488, l1000]
        · simp (disch := omega) only [gC_d, gC_tt, gBp_s, gBd_s, gL_s, gIn_nI, gN_nI, nI_ltI, nI_leI, nI_eq, nI_add, nI_mul, nI_sub, ite_t, ite_f, gR_W2, gRL_W, if_true, if_false, true_and, and_true, false_and, and_false, and_self, Nat.add_zero, l0, l1, l2, l3, l4, l5, l6, l7, l8, l9, l10, l11, l12, l13, l14, l22, l30, l31, l32, l39, l40, l48, l50, l57, l59, l60, l94, l97, l99, l100, l122, l255, l256, l300, l488, l1000, a1 e (by omega)]
      · intro p hp
        rw [cn_s, if_neg hnw, Nat.add_zero] at hp
        by_cases q : p = can l g
        · subst q
          simp (disch := omega) only [gC_d, gC_tt, gBp_s, gBd_s, gL_s, gIn_nI, gN_nI, nI_ltI, nI_leI, nI_eq, nI_add, nI_mul, nI_sub, ite_t, ite_f, gR_W2, gRL_W, if_true, if_false, true_and, and_true, false_and, and_false, and_self, Nat.add_zero, l0, l1, l2, l3, l4, l5, l6, l7, l8, l9, l10, l11, l12, l13, l14, l22, l30, l31, l32, l39, l40, l48, l50, l57, l59, l60, l94, l97, l99, l100, l122, l255, l256, l300, l488, l1000]
        · rw [mk_s (fun e => decide (can l e = p)) g, if_neg (by rw [decide_eq_true_eq]; omega), Nat.add_zero]
          simp (disch := omega) only [gC_d, gC_tt, gBp_s, gBd_s, gL_s, gIn_nI, gN_nI, nI_ltI, nI_leI, nI_eq, nI_add, nI_mul, nI_sub, ite_t, ite_f, gR_W2, gRL_W, if_true, if_false, true_and, and_true, false_and, and_false, and_self, Nat.add_zero, l0, l1, l2, l3, l4, l5, l6, l7, l8, l9, l10, l11, l12, l13, l14, l22, l30, l31, l32, l39, l40, l48, l50, l57, l59, l60, l94, l97, l99, l100, l122, l255, l256, l300, l488, l1000, a2]
      · show fX7_settle_L7 o (m + 1) (nI g) T = fX7_settle_L7 o m (nI (g + 1)) _
        rw [fX7_settle_L7]
        unfold fX7_settle_L71
        have hor := mk_or (fun e => decide (can l e = can l g)) g
        have hms : mk (fun e => decide (can l e = can l g)) (g + 1) = mk (fun e => decide (can l e = can l g)) g + 2 ^ g := by rw [mk_s, if_pos (by rw [decide_eq_true_eq])]
        simp (disch := omega) only [gC_d, gC_tt, gBp_s, gBd_s, gL_s, gIn_nI, gN_nI, nI_ltI, nI_leI, nI_eq, nI_add, nI_mul, nI_sub, ite_t, ite_f, gR_W2, gRL_W, if_true, if_false, true_and, and_true, false_and, and_false, and_self, Nat.add_zero, l0, l1, l2, l3, l4, l5, l6, l7, l8, l9, l10, l11, l12, l13, l14, l22, l30, l31, l32, l39, l40, l48, l50, l57, l59, l60, l94, l97, l99, l100, l122, l255, l256, l300, l488, l1000, a3, a4, c_first hn hlT hb hg, a1 (fs l g) (by omega), a2, nI_31, nI_shl, nI_orI, Nat.one_mul, hcf, hor, hms]
  · rintro m T ⟨hF, a3, a4, a1, a2⟩
    show ∃ S1, fX7_settle_L7 o (m + 1) (nI n) T = some S1 ∧ _
    rw [fX7_settle_L7]
    refine ⟨T, by simp (disch := omega) only [gC_d, gC_tt, gBp_s, gBd_s, gL_s, gIn_nI, gN_nI, nI_ltI, nI_leI, nI_eq, nI_add, nI_mul, nI_sub, ite_t, ite_f, gR_W2, gRL_W, if_true, if_false, true_and, and_true, false_and, and_false, and_self, Nat.add_zero, l0, l1, l2, l3, l4, l5, l6, l7, l8, l9, l10, l11, l12, l13, l14, l22, l30, l31, l32, l39, l40, l48, l50, l57, l59, l60, l94, l97, l99, l100, l122, l255, l256, l300, l488, l1000, a3], hF, a3, ?_, a1, ?_, Can_can l n, hn1, hn⟩
    · rw [pts_can]; exact a4
    · rw [pts_can]; exact a2
  · refine ⟨gFr.w0 (by omega) (by omega), ?_, ?_, fun e h => absurd h (Nat.not_lt_zero _), fun p h => absurd h (Nat.not_lt_zero _)⟩
    · simp (disch := omega) only [gC_d, gC_tt, gBp_s, gBd_s, gL_s, gIn_nI, gN_nI, nI_ltI, nI_leI, nI_eq, nI_add, nI_mul, nI_sub, ite_t, ite_f, gR_W2, gRL_W, if_true, if_false, true_and, and_true, false_and, and_false, and_self, Nat.add_zero, l0, l1, l2, l3, l4, l5, l6, l7, l8, l9, l10, l11, l12, l13, l14, l22, l30, l31, l32, l39, l40, l48, l50, l57, l59, l60, l94, l97, l99, l100, l122, l255, l256, l300, l488, l1000, h3]
    · simp (disch := omega) only [gC_d, gC_tt, gBp_s, gBd_s, gL_s, gIn_nI, gN_nI, nI_ltI, nI_leI, nI_eq, nI_add, nI_mul, nI_sub, ite_t, ite_f, gR_W2, gRL_W, if_true, if_false, true_and, and_true, false_and, and_false, and_self, Nat.add_zero, l0, l1, l2, l3, l4, l5, l6, l7, l8, l9, l10, l11, l12, l13, l14, l22, l30, l31, l32, l39, l40, l48, l50, l57, l59, l60, l94, l97, l99, l100, l122, l255, l256, l300, l488, l1000]; rfl

theorem c_label {α : Type} (L : Nat → α → Nat → gSt → Option gSt) {S : gSt} {o n : Nat} {l : Nat → Nat} (a : α) (h3 : gR S o 3 = nI n) (hn1 : 1 ≤ n) (hn : n ≤ 8) (hb : ∀ g, g < n → l g < 1000) (hs : ∀ m g T, g < n → gFr (o + 3) (o + 4) S T → gR T o 3 = nI n → L (m + 1) a g T = L m a (g + 1) (gW T (o + 3) g (nI (l g)))) (he : ∀ m T, gFr (o + 3) (o + 4) S T → gR T o 3 = nI n → L (m + 1) a n T = gBp (fX7_settle o T) (fun S_1 => some S_1)) : ∃ S1, L gFU a 0 S = some S1 ∧ gFr o (o + 4) S S1 ∧ St S1 o n (can l) := by
  refine forS (fun m (T : gSt) g => L m a g T) (fun x => ∃ S1, x = some S1 ∧ gFr o (o + 4) S S1 ∧ St S1 o n (can l)) (fun g T => gFr (o + 3) (o + 4) S T ∧ gR T o 3 = nI n ∧ ∀ e, e < g → gR T (o + 3) e = nI (l e)) n ?_ ?_ (by omega) S ⟨gFr.rf, h3, fun e h => absurd h (Nat.not_lt_zero _)⟩
  · rintro m g T hg ⟨hF, a3, a1⟩
    refine ⟨gW T (o + 3) g (nI (l g)), ⟨hF.w (by omega) (by omega), ?_, fun e he => ?_⟩, hs m g T hg hF a3⟩
    · simp (disch := omega) only [gC_d, gC_tt, gBp_s, gBd_s, gL_s, gIn_nI, gN_nI, nI_ltI, nI_leI, nI_eq, nI_add, nI_mul, nI_sub, ite_t, ite_f, gR_W2, gRL_W, if_true, if_false, true_and, and_true, false_and, and_false, and_self, Nat.add_zero, l0, l1, l2, l3, l4, l5, l6, l7, l8, l9, l10, l11, l12, l13, l14, l22, l30, l31, l32, l39, l40, l48, l50, l57, l59, l60, l94, l97, l99, l100, l122, l255, l256, l300, l488, l1000, a3]
    · by_cases q : e = g
      · subst q; simp (disch := omega) only [gC_d, gC_tt, gBp_s, gBd_s, gL_s, gIn_nI, gN_nI, nI_ltI, nI_leI, nI_eq, nI_add, nI_mul, nI_sub, ite_t, ite_f, gR_W2, gRL_W, if_true, if_false, true_and, and_true, false_and, and_false, and_self, Nat.add_zero, l0, l1, l2, l3, l4, l5, l6, l7, l8, l9, l10, l11, l12, l13, l14, l22, l30, l31, l32, l39, l40, l48, l50, l57, l59, l60, l94, l97, l99, l100, l122, l255, l256, l300, l488, l1000]
      · simp (disch := omega) only [gC_d, gC_tt, gBp_s, gBd_s, gL_s, gIn_nI, gN_nI, nI_ltI, nI_leI, nI_eq, nI_add, nI_mul, nI_sub, ite_t, ite_f, gR_W2, gRL_W, if_true, if_false, true_and, and_true, false_and, and_false, and_self, Nat.add_zero, l0, l1, l2, l3, l4, l5, l6, l7, l8, l9, l10, l11, l12, l13, l14, l22, l30, l31, l32, l39, l40, l48, l50, l57, l59, l60, l94, l97, l99, l100, l122, l255, l256, l300, l488, l1000, a1 e (by omega)]
  · rintro m T ⟨hF, a3, a1⟩
    obtain ⟨S1, e1, f1, s1⟩ := c_settle a3 hn1 hn a1 hb
    refine ⟨S1, ?_, (hF.mono (by omega) (by omega)).tr (f1.mono (by omega) (by omega)), s1⟩
    show L (m + 1) a n T = some S1
    rw [he m T hF a3, e1, gBp_s]
theorem c_scatter {S : gSt} {o n : Nat} (hn1 : 1 ≤ n) (hn : n ≤ 8) : ∃ S1, fX7_scatter o (nI n) S = some S1 ∧ gFr o (o + 4) S S1 ∧ St S1 o n (can (fun g => g)) := by
  unfold fX7_scatter
  have e : (if 1 < (if nI n < 8 then nI n else 8) then (if nI n < 8 then nI n else 8) else (1 : Int32)) = nI n := by
    have : ∀ n : Fin 9, 1 ≤ n.val → (if 1 < (if nI n.val < 8 then nI n.val else 8) then (if nI n.val < 8 then nI n.val else 8) else (1 : Int32)) = nI n.val := by decide +kernel
    exact this ⟨n, by omega⟩ hn1
  rw [e, gL_s]
  obtain ⟨S1, a, b, c⟩ := c_label (fun m (_ : Unit) g T => fX7_scatter_L16 o m (nI g) T) (S := gW S o 3 (nI n)) (o := o) (n := n) (l := fun g => g) () (gR_Ws _ _ _ _) hn1 hn (fun g hg => by omega) (fun m g T hg hF h3 => by
    show fX7_scatter_L16 o (m + 1) (nI g) T = fX7_scatter_L16 o m (nI (g + 1)) _
    rw [fX7_scatter_L16]
    simp (disch := omega) only [gC_d, gC_tt, gBp_s, gBd_s, gL_s, gIn_nI, gN_nI, nI_ltI, nI_leI, nI_eq, nI_add, nI_mul, nI_sub, ite_t, ite_f, gR_W2, gRL_W, if_true, if_false, true_and, and_true, false_and, and_false, and_self, Nat.add_zero, l0, l1, l2, l3, l4, l5, l6, l7, l8, l9, l10, l11, l12, l13, l14, l22, l30, l31, l32, l39, l40, l48, l50, l57, l59, l60, l94, l97, l99, l100, l122, l255, l256, l300, l488, l1000, h3]) (fun m T hF h3 => by
    show fX7_scatter_L16 o (m + 1) (nI n) T = _
    rw [fX7_scatter_L16]
    simp (disch := omega) only [gC_d, gC_tt, gBp_s, gBd_s, gL_s, gIn_nI, gN_nI, nI_ltI, nI_leI, nI_eq, nI_add, nI_mul, nI_sub, ite_t, ite_f, gR_W2, gRL_W, if_true, if_false, true_and, and_true, false_and, and_false, and_self, Nat.add_zero, l0, l1, l2, l3, l4, l5, l6, l7, l8, l9, l10, l11, l12, l13, l14, l22, l30, l31, l32, l39, l40, l48, l50, l57, l59, l60, l94, l97, l99, l100, l122, l255, l256, l300, l488, l1000, h3])
  exact ⟨S1, a, (gFr.w0 (by omega) (by omega)).tr b, c⟩
/-- a row as one number, guest 0 the highest -/
def enc (f : Nat → Nat) : Nat → Nat
  | 0 => 0
  | g + 1 => enc f g + f g * 8 ^ (7 - g)
theorem enc_s (f : Nat → Nat) (g : Nat) : enc f (g + 1) = enc f g + f g * 8 ^ (7 - g) := rfl
theorem enc_congr {f k : Nat → Nat} : ∀ {n : Nat}, (∀ g, g < n → f g = k g) → enc f n = enc k n
  | 0, _ => rfl
  | n + 1, h => by
    rw [enc_s, enc_s, enc_congr (n := n) (fun g hg => h g (by omega)), h n (by omega)]
def dig (c g : Nat) : Nat := c / 8 ^ (7 - g) % 8
theorem dig_lt (c g : Nat) : dig c g < 8 := Nat.mod_lt _ (by decide)
theorem enc8 (f : Nat → Nat) (n : Nat) (hn : n ≤ 8) : enc f n = (if 0 < n then f 0 else 0) * 2097152 + (if 1 < n then f 1 else 0) * 262144 + (if 2 < n then f 2 else 0) * 32768 + (if 3 < n then f 3 else 0) * 4096 + (if 4 < n then f 4 else 0) * 512 + (if 5 < n then f 5 else 0) * 64 + (if 6 < n then f 6 else 0) * 8 + (if 7 < n then f 7 else 0) := by
  have : n = 0 ∨ n = 1 ∨ n = 2 ∨ n = 3 ∨ n = 4 ∨ n = 5 ∨ n = 6 ∨ n = 7 ∨ n = 8 := by omega
  rcases this with rfl | rfl | rfl | rfl | rfl | rfl | rfl | rfl | rfl <;> simp [enc]
theorem enc_lt {f : Nat → Nat} {n : Nat} (hn : n ≤ 8) (hf : ∀ g, g < n → f g < 8) : enc f n < 2 ^ 24 := by
  rw [enc8 f n hn]
  have h : ∀ g, (if g < n then f g else 0) ≤ 7 := fun g => by
    split
    · have := hf g (by assumption); omega
    · omega
  have h0 := h 0; have h1 := h 1; have h2 := h 2; have h3 := h 3; have h4 := h 4; have h5 := h 5; have h6 := h 6; have h7 := h 7
  generalize (if 0 < n then f 0 else 0) = x0 at *
  generalize (if 1 < n then f 1 else 0) = x1 at *
  generalize (if 2 < n then f 2 else 0) = x2 at *
  generalize (if 3 < n then f 3 else 0) = x3 at *
  generalize (if 4 < n then f 4 else 0) = x4 at *
  generalize (if 5 < n then f 5 else 0) = x5 at *
  generalize (if 6 < n then f 6 else 0) = x6 at *
  generalize (if 7 < n then f 7 else 0) = x7 at *
  omega
theorem dig_enc {f : Nat → Nat} {n g : Nat} (hn : n ≤ 8) (hf : ∀ g, g < n → f g < 8) (hg : g < 8) : dig (enc f n) g = if g < n then f g else 0 := by
  unfold dig
  rw [enc8 f n hn]
  have h : ∀ g, (if g < n then f g else 0) ≤ 7 := fun g => by
    split
    · have := hf g (by assumption); omega
    · omega
  have h0 := h 0; have h1 := h 1; have h2 := h 2; have h3 := h 3; have h4 := h 4; have h5 := h 5; have h6 := h 6; have h7 := h 7
  have : g = 0 ∨ g = 1 ∨ g = 2 ∨ g = 3 ∨ g = 4 ∨ g = 5 ∨ g = 6 ∨ g = 7 := by omega
  rcases this with rfl | rfl | rfl | rfl | rfl | rfl | rfl | rfl
  all_goals
    generalize (if 0 < n then f 0 else 0) = x0 at *
    generalize (if 1 < n then f 1 else 0) = x1 at *
    generalize (if 2 < n then f 2 else 0) = x2 at *
    generalize (if 3 < n then f 3 else 0) = x3 at *
    generalize (if 4 < n then f 4 else 0) = x4 at *
    generalize (if 5 < n then f 5 else 0) = x5 at *
    generalize (if 6 < n then f 6 else 0) = x6 at *
    generalize (if 7 < n then f 7 else 0) = x7 at *
    simp only [Nat.sub_zero, Nat.reduceSub, Nat.reducePow]
    omega
theorem enc_mul (f : Nat → Nat) : ∀ g, g ≤ 7 → ∃ k, enc f g = k * 8 ^ (8 - g)
  | 0, _ => ⟨0, by simp [enc]⟩
  | g + 1, h => by
    obtain ⟨k, e⟩ := enc_mul f g (by omega)
    refine ⟨k * 8 + f g, ?_⟩
    rw [enc_s, e, show 8 - g = (7 - g) + 1 by omega, show 8 - (g + 1) = 7 - g by omega, Nat.pow_succ]
    rw [Nat.add_mul, Nat.mul_assoc, Nat.mul_comm 8]
theorem enc_or {f : Nat → Nat} {g : Nat} (hg : g ≤ 7) (hf : f g < 8) : enc f g ||| f g * 2 ^ (3 * (7 - g)) = enc f (g + 1) := by
  obtain ⟨k, e⟩ := enc_mul f g hg
  have e8 : ∀ m, (8 : Nat) ^ m = 2 ^ (3 * m) := fun m => by rw [show (8 : Nat) = 2 ^ 3 from rfl, ← Nat.pow_mul]
  have hlt : f g * 2 ^ (3 * (7 - g)) < 2 ^ (3 * (8 - g)) := by
    rw [show 3 * (8 - g) = 3 + 3 * (7 - g) by omega, Nat.pow_add]
    exact Nat.mul_lt_mul_of_pos_right (by omega) (Nat.two_pow_pos _)
  have := Nat.two_pow_add_eq_or_of_lt hlt k
  rw [enc_s, e, e8, e8, Nat.mul_comm k, ← this]
theorem c_shiftOf {S : gSt} {g : Nat} (hg : g < 8) : fX7_shiftOf (nI g) S = some (nI (3 * (7 - g))) := by
  unfold fX7_shiftOf
  simp (disch := omega) only [gC_d, gC_tt, gBp_s, gBd_s, gL_s, gIn_nI, gN_nI, nI_ltI, nI_leI, nI_eq, nI_add, nI_mul, nI_sub, ite_t, ite_f, gR_W2, gRL_W, if_true, if_false, true_and, and_true, false_and, and_false, and_self, Nat.add_zero, l0, l1, l2, l3, l4, l5, l6, l7, l8, l9, l10, l11, l12, l13, l14, l22, l30, l31, l32, l39, l40, l48, l50, l57, l59, l60, l94, l97, l99, l100, l122, l255, l256, l300, l488, l1000]
theorem c_partyIn {S : gSt} {c g : Nat} (hc : c < 2 ^ 24) (hg : g < 8) : fX7_partyIn (nI c) (nI g) S = some (nI (dig c g)) := by
  unfold fX7_partyIn
  rw [c_shiftOf hg, gBp_s]
  simp (disch := omega) only [gC_d, gC_tt, gBp_s, gBd_s, gL_s, gIn_nI, gN_nI, nI_ltI, nI_leI, nI_eq, nI_add, nI_mul, nI_sub, ite_t, ite_f, gR_W2, gRL_W, if_true, if_false, true_and, and_true, false_and, and_false, and_self, Nat.add_zero, l0, l1, l2, l3, l4, l5, l6, l7, l8, l9, l10, l11, l12, l13, l14, l22, l30, l31, l32, l39, l40, l48, l50, l57, l59, l60, l94, l97, l99, l100, l122, l255, l256, l300, l488, l1000, nI_31, nI_shr]
  rw [nI_andI, Nat.and_two_pow_sub_one_eq_mod _ 3]
  unfold dig
  rw [Nat.pow_mul]
theorem c_code {S : gSt} {o n : Nat} {f : Nat → Nat} (h : St S o n f) : fX7_code o S = some (nI (enc f n)) := by
  unfold fX7_code
  have h7 := h.2.2.2.2.2.2
  have h1 := h.1
  refine forFU (fun m a g => fX7_code_L4 o S m a (nI g)) (fun x => x = some (nI (enc f n))) (fun g a => a = nI (enc f g)) n 0 (by omega) ?_ ?_ rfl
  · rintro m g a hg rfl
    right
    refine ⟨nI (enc f (g + 1)), rfl, ?_⟩
    show fX7_code_L4 o S (m + 1) (nI (enc f g)) (nI g) = fX7_code_L4 o S m (nI (enc f (g + 1))) (nI (g + 1))
    rw [fX7_code_L4, c_partyOf h hg, gBp_s, c_shiftOf (by omega), gBp_s]
    simp (disch := omega) only [gC_d, gC_tt, gBp_s, gBd_s, gL_s, gIn_nI, gN_nI, nI_ltI, nI_leI, nI_eq, nI_add, nI_mul, nI_sub, ite_t, ite_f, gR_W2, gRL_W, if_true, if_false, true_and, and_true, false_and, and_false, and_self, Nat.add_zero, l0, l1, l2, l3, l4, l5, l6, l7, l8, l9, l10, l11, l12, l13, l14, l22, l30, l31, l32, l39, l40, l48, l50, l57, l59, l60, l94, l97, l99, l100, l122, l255, l256, l300, l488, l1000, h1, nI_31, nI_shl, nI_orI]
    rw [enc_or (by omega) (h.2.2.2.2.1.lt8 h7 hg)]
  · rintro m a rfl
    show fX7_code_L4 o S (m + 1) (nI (enc f n)) (nI n) = _
    rw [fX7_code_L4]
    simp (disch := omega) only [gC_d, gC_tt, gBp_s, gBd_s, gL_s, gIn_nI, gN_nI, nI_ltI, nI_leI, nI_eq, nI_add, nI_mul, nI_sub, ite_t, ite_f, gR_W2, gRL_W, if_true, if_false, true_and, and_true, false_and, and_false, and_self, Nat.add_zero, l0, l1, l2, l3, l4, l5, l6, l7, l8, l9, l10, l11, l12, l13, l14, l22, l30, l31, l32, l39, l40, l48, l50, l57, l59, l60, l94, l97, l99, l100, l122, l255, l256, l300, l488, l1000, h1]
theorem c_standAs {S : gSt} {o n c : Nat} (h3 : gR S o 3 = nI n) (hn1 : 1 ≤ n) (hn : n ≤ 8) (hc : c < 2 ^ 24) : ∃ S1, fX7_standAs o (nI c) S = some S1 ∧ gFr o (o + 4) S S1 ∧ St S1 o n (can (dig c)) := by
  unfold fX7_standAs
  exact c_label (fun m (x : Int32) g T => fX7_standAs_L2 o m x (nI g) T) (l := dig c) (nI c) h3 hn1 hn (fun g _ => Nat.lt_trans (dig_lt c g) (by decide)) (fun m g T hg hF h3 => by
    show fX7_standAs_L2 o (m + 1) (nI c) (nI g) T = fX7_standAs_L2 o m (nI c) (nI (g + 1)) _
    rw [fX7_standAs_L2, c_partyIn hc (by omega)]
    simp (disch := omega) only [gC_d, gC_tt, gBp_s, gBd_s, gL_s, gIn_nI, gN_nI, nI_ltI, nI_leI, nI_eq, nI_add, nI_mul, nI_sub, ite_t, ite_f, gR_W2, gRL_W, if_true, if_false, true_and, and_true, false_and, and_false, and_self, Nat.add_zero, l0, l1, l2, l3, l4, l5, l6, l7, l8, l9, l10, l11, l12, l13, l14, l22, l30, l31, l32, l39, l40, l48, l50, l57, l59, l60, l94, l97, l99, l100, l122, l255, l256, l300, l488, l1000, h3]) (fun m T hF h3 => by
    show fX7_standAs_L2 o (m + 1) (nI c) (nI n) T = _
    rw [fX7_standAs_L2]
    simp (disch := omega) only [gC_d, gC_tt, gBp_s, gBd_s, gL_s, gIn_nI, gN_nI, nI_ltI, nI_leI, nI_eq, nI_add, nI_mul, nI_sub, ite_t, ite_f, gR_W2, gRL_W, if_true, if_false, true_and, and_true, false_and, and_false, and_self, Nat.add_zero, l0, l1, l2, l3, l4, l5, l6, l7, l8, l9, l10, l11, l12, l13, l14, l22, l30, l31, l32, l39, l40, l48, l50, l57, l59, l60, l94, l97, l99, l100, l122, l255, l256, l300, l488, l1000, h3])
theorem St.enc {S : gSt} {o n : Nat} {f : Nat → Nat} (h : St S o n f) : enc f n < 2 ^ 24 := enc_lt h.2.2.2.2.2.2 (fun g hg => h.2.2.2.2.1.lt8 h.2.2.2.2.2.2 hg)
theorem can_dig {f : Nat → Nat} {n : Nat} (hn : n ≤ 8) (h : Can f n) : ∀ g, g < n → can (dig (enc f n)) g = f g := fun g hg => by
  rw [can_congr (k := f) (n := n) (fun a b ha hb => by rw [dig_enc hn (fun g hg => h.lt8 hn hg) (by omega), dig_enc hn (fun g hg => h.lt8 hn hg) (by omega), if_pos ha, if_pos hb]) g hg, can_id h hg]
theorem c_standLike {S : gSt} {o q n : Nat} {f : Nat → Nat} (h : St S q n f) (hq : q + 3 < o ∨ o + 3 < q) : ∃ S1, fX7_standLike o q S = some S1 ∧ gFr o (o + 4) S S1 ∧ St S1 o n f := by
  unfold fX7_standLike
  have hF : gFr o (o + 4) S (gW S o 3 (nI n)) := gFr.w0 (by omega) (by omega)
  have h2 : St (gW S o 3 (nI n)) q n f := h.fr hF (by omega)
  have h7 := h.2.2.2.2.2
  obtain ⟨S1, a, b, c⟩ := c_standAs (S := gW S o 3 (nI n)) (o := o) (gR_Ws _ _ _ _) h7.1 h7.2 h.enc
  refine ⟨S1, ?_, hF.tr b, c.congr (can_dig h7.2 h.2.2.2.2.1)⟩
  rw [show fX7_guests q S = some (nI n) from congrArg some h.1, gBp_s, gL_s, c_code h2, gBp_s, a, gBp_s]
