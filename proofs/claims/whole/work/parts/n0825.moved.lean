/-! saw, goes, join, part; needs: 0800 0801 0802 0803 0804 0805 0806 0807 0808 0809 0810 0811 0812 0813 0814 0815 0816 0821 0822 -/
def sg (σ : Nat → Nat) (k x y c : Nat) : Nat → Nat := fun j => if j = 3 * k then x else if j = 3 * k + 1 then y else if j = 3 * k + 2 then c else σ j
theorem sg_o {σ : Nat → Nat} {k x y c j : Nat} (h : j < 3 * k) : sg σ k x y c j = σ j := by
  unfold sg
  rw [if_neg (by omega), if_neg (by omega), if_neg (by omega)]
theorem sg_0 (σ : Nat → Nat) (k x y c : Nat) : sg σ k x y c (3 * k) = x := if_pos rfl
theorem sg_1 (σ : Nat → Nat) (k x y c : Nat) : sg σ k x y c (3 * k + 1) = y := by unfold sg; rw [if_neg (by omega), if_pos rfl]
theorem sg_2 (σ : Nat → Nat) (k x y c : Nat) : sg σ k x y c (3 * k + 2) = c := by unfold sg; rw [if_neg (by omega), if_neg (by omega), if_pos rfl]
theorem nar_b {c : Nat} (h : c ≤ 1) : vp_nar .boolean (nI c) = nI c := by
  have : c = 0 ∨ c = 1 := by omega
  rcases this with rfl | rfl <;> rfl
theorem c_add {S : gSt} {o k x y c : Nat} {σ : Nat → Nat} (h : Si S o k σ) (hk : k < 10) (hc : c ≤ 1) : ∃ S1, fX6_add o (nI x) (nI y) (nI c) S = some S1 ∧ gFr o (o + 4) S S1 ∧ Si S1 o (k + 1) (sg σ k x y c) := by
  have h1 := h.1
  refine ⟨gW (gW (gW (gW S (o + 1) k (nI x)) (o + 2) k (nI y)) (o + 3) k (nI c)) o 3 (nI (k + 1)), ?_, ?_, gR_Ws _ _ _ _, fun j hj => ?_⟩
  · unfold fX6_add
    rw [nar_b hc]
    simp (disch := omega) only [gC_d, gC_tt, gBp_s, gBd_s, gL_s, gIn_nI, gN_nI, nI_ltI, nI_leI, nI_eq, nI_add, nI_mul, nI_sub, ite_t, ite_f, gR_W2, gRL_W, if_true, if_false, true_and, and_true, false_and, and_false, and_self, Nat.add_zero, l0, l1, l2, l3, l4, l5, l6, l7, l8, l9, l10, l11, l12, l13, l14, l22, l30, l31, l32, l39, l40, l48, l50, l57, l59, l60, l94, l97, l99, l100, l122, l255, l256, l300, l488, l1000, h1]
  · exact (((gFr.w0 (by omega) (by omega)).w (by omega) (by omega)).w (by omega) (by omega)).w (by omega) (by omega)
  · by_cases q : j = k
    · subst q
      rw [sg_0, sg_1, sg_2]
      refine ⟨?_, ?_, ?_⟩
      · simp (disch := omega) only [gC_d, gC_tt, gBp_s, gBd_s, gL_s, gIn_nI, gN_nI, nI_ltI, nI_leI, nI_eq, nI_add, nI_mul, nI_sub, ite_t, ite_f, gR_W2, gRL_W, if_true, if_false, true_and, and_true, false_and, and_false, and_self, Nat.add_zero, l0, l1, l2, l3, l4, l5, l6, l7, l8, l9, l10, l11, l12, l13, l14, l22, l30, l31, l32, l39, l40, l48, l50, l57, l59, l60, l94, l97, l99, l100, l122, l255, l256, l300, l488, l1000]
      · simp (disch := omega) only [gC_d, gC_tt, gBp_s, gBd_s, gL_s, gIn_nI, gN_nI, nI_ltI, nI_leI, nI_eq, nI_add, nI_mul, nI_sub, ite_t, ite_f, gR_W2, gRL_W, if_true, if_false, true_and, and_true, false_and, and_false, and_self, Nat.add_zero, l0, l1, l2, l3, l4, l5, l6, l7, l8, l9, l10, l11, l12, l13, l14, l22, l30, l31, l32, l39, l40, l48, l50, l57, l59, l60, l94, l97, l99, l100, l122, l255, l256, l300, l488, l1000]
      · simp (disch := omega) only [gC_d, gC_tt, gBp_s, gBd_s, gL_s, gIn_nI, gN_nI, nI_ltI, nI_leI, nI_eq, nI_add, nI_mul, nI_sub, ite_t, ite_f, gR_W2, gRL_W, if_true, if_false, true_and, and_true, false_and, and_false, and_self, Nat.add_zero, l0, l1, l2, l3, l4, l5, l6, l7, l8, l9, l10, l11, l12, l13, l14, l22, l30, l31, l32, l39, l40, l48, l50, l57, l59, l60, l94, l97, l99, l100, l122, l255, l256, l300, l488, l1000]
    · obtain ⟨a, b, d⟩ := h.2 j (by omega)
      rw [sg_o (by omega), sg_o (by omega), sg_o (by omega)]
      refine ⟨?_, ?_, ?_⟩
      · simp (disch := omega) only [gC_d, gC_tt, gBp_s, gBd_s, gL_s, gIn_nI, gN_nI, nI_ltI, nI_leI, nI_eq, nI_add, nI_mul, nI_sub, ite_t, ite_f, gR_W2, gRL_W, if_true, if_false, true_and, and_true, false_and, and_false, and_self, Nat.add_zero, l0, l1, l2, l3, l4, l5, l6, l7, l8, l9, l10, l11, l12, l13, l14, l22, l30, l31, l32, l39, l40, l48, l50, l57, l59, l60, l94, l97, l99, l100, l122, l255, l256, l300, l488, l1000, a]
      · simp (disch := omega) only [gC_d, gC_tt, gBp_s, gBd_s, gL_s, gIn_nI, gN_nI, nI_ltI, nI_leI, nI_eq, nI_add, nI_mul, nI_sub, ite_t, ite_f, gR_W2, gRL_W, if_true, if_false, true_and, and_true, false_and, and_false, and_self, Nat.add_zero, l0, l1, l2, l3, l4, l5, l6, l7, l8, l9, l10, l11, l12, l13, l14, l22, l30, l31, l32, l39, l40, l48, l50, l57, l59, l60, l94, l97, l99, l100, l122, l255, l256, l300, l488, l1000, b]
      · simp (disch := omega) only [gC_d, gC_tt, gBp_s, gBd_s, gL_s, gIn_nI, gN_nI, nI_ltI, nI_leI, nI_eq, nI_add, nI_mul, nI_sub, ite_t, ite_f, gR_W2, gRL_W, if_true, if_false, true_and, and_true, false_and, and_false, and_self, Nat.add_zero, l0, l1, l2, l3, l4, l5, l6, l7, l8, l9, l10, l11, l12, l13, l14, l22, l30, l31, l32, l39, l40, l48, l50, l57, l59, l60, l94, l97, l99, l100, l122, l255, l256, l300, l488, l1000, d]
theorem Sg_sg {n k x y c : Nat} {σ : Nat → Nat} (h : Sg n k σ) (hk : k < 10) (hx : x < n) (hy : y < n) (hc : c ≤ 1) : Sg n (k + 1) (sg σ k x y c) := by
  refine ⟨by omega, fun j hj => ?_⟩
  by_cases q : j = k
  · subst q
    rw [sg_0, sg_1, sg_2]
    exact ⟨hx, hy, hc⟩
  · rw [sg_o (by omega), sg_o (by omega), sg_o (by omega)]
    exact h.2 j (by omega)
theorem t_saw (a b c : Int32) : Tw (fX10_saw a b c) (fX11_saw a b c) := by
  rintro S ⟨o, r, w, f, v, k, σ, Z, hG, hX, hM⟩
  have hW := hG.1
  have h8 := hW.2.1
  have hk := hG.2.2.1.1
  have hM' := hM.sc (gW7 S)
  have hX' := hX.sc (gW7 S)
  have bad : ∀ x, fX10_saw a b c S = some (x, S) → fX11_saw a b c S = some (x, gW S 77 0 0) → ∃ v S1 S2, fX10_saw a b c S = some (v, S1) ∧ fX11_saw a b c S1 = some (v, S2) ∧ Rel S2 := fun x e1 e2 => ⟨x, S, _, e1, e2, o, r, w, f, v, k, σ, Z, hG, hX', hM'⟩
  rcases c_areTwo hX hW a b with ⟨e1, ⟨x, hx, rfl⟩, ⟨y, hy, rfl⟩, hxy⟩ | ⟨e1, hn⟩
  · have e2 : ∀ T, RM T r w f v k σ Z → fX11_areTwo (nI x) (nI y) T = some 1 := fun T hT => by
      rcases m_areTwo (hT.mn hW) (nI x) (nI y) with ⟨e, -⟩ | ⟨-, h2⟩
      · exact e
      · exact absurd ⟨⟨x, hx, rfl⟩, ⟨y, hy, rfl⟩, hxy⟩ h2
    rcases cB c (n := 2) (by omega) with ⟨z, hz, rfl⟩ | ⟨hz, q⟩
    · have c0 : ¬ nI z < 0 := nI_pos (by omega)
      have c1 : nI z ≤ 1 := nI_le (b := 1) (by omega) (by omega)
      by_cases hk2 : k = 10
      · subst hk2
        refine bad (-3) ?_ ?_
        · unfold fX10_saw fX6_areFull
          rw [e1, gBp_s, if_neg (by decide), if_neg c0, if_pos c1, hX.2.2.2.2.1.1, if_neg (by decide), gBp_s, if_neg (by decide)]
        · unfold fX11_saw
          rw [gL_s, e2 _ hM', gBp_s, if_neg (by decide), in_t (n := 2) (by decide) (by omega) (by omega) ⟨z, hz, rfl⟩, gBp_s, if_neg (by decide), gC_ok (by decide), show gN 8 = 8 from rfl, hM'.2.2.1.1, if_pos (by decide)]
      · obtain ⟨S1, e3, F1, s1⟩ := c_add (x := x) (y := y) (c := z) hX.2.2.2.2.1 (by omega) (by omega)
        have hX1 := (hX.x40 F1 s1).sc (gW7 S1)
        have hM1 := (hM.fr F1 (by omega)).sc (gW7 S1)
        have k8 := hM1.2.2.1.1
        have hF2 : gRw 80 40 (gW S1 77 0 0) (gW (gW (gW (gW (gW S1 77 0 0) 80 (9 + 3 * k) (nI x)) 80 (9 + 3 * k + 1) (nI y)) 80 (9 + 3 * k + 2) (nI z)) 80 8 (nI (k + 1))) := (((gRw.rf.w (by omega)).w (by omega)).w (by omega)).w (by omega)
        refine ⟨nI (k + 1), S1, _, ?_, ?_, o, r, w, f, v, k + 1, sg σ k x y z, Z, ⟨hW, hG.2.1, Sg_sg hG.2.2.1 (by omega) hx hy (by omega), hG.2.2.2⟩, hX1.up (hF2.fr (a := 80) (b := 81) (by omega) (by omega)) (by omega), hM1.s80 hF2 (fun g hg => ?_) ⟨gR_Ws _ _ _ _, fun j hj => ?_⟩ ?_⟩
        · have full : ¬ nI k = nI 10 := nI_neI (by omega) (by omega) hk2
          have lt10 : nI k < 10 := nI_lt (b := 10) (by omega) (by omega)
          have e4 : fX10_saw_L49 (nI x) (nI y) (nI z) S = some (nI (k + 1), S1) := by
            unfold fX10_saw_L49 fX6_size
            rw [e3, gBp_s, gBp_s, s1.1]
          unfold fX10_saw fX6_areFull
          rw [e1, gBp_s, if_neg (by decide), if_neg c0, if_pos c1, hX.2.2.2.2.1.1, if_pos lt10, gBp_s, if_pos rfl]
          have : z = 0 ∨ z = 1 := by omega
          rcases this with rfl | rfl
          · rw [if_neg (by decide)]; exact e4
          · rw [if_pos (by decide)]; exact e4
        · unfold fX11_saw
          rw [gL_s, e2 _ hM1, gBp_s, if_neg (by decide), in_t (n := 2) (by decide) (by omega) (by omega) ⟨z, hz, rfl⟩, gBp_s, if_neg (by decide)]
          generalize gW S1 77 0 0 = T at *
          simp (disch := omega) only [gC_d, gC_tt, gBp_s, gBd_s, gL_s, gIn_nI, gN_nI, nI_ltI, nI_leI, nI_eq, nI_add, nI_mul, nI_sub, ite_t, ite_f, gR_W2, gRL_W, if_true, if_false, true_and, and_true, false_and, and_false, and_self, Nat.add_zero, l0, l1, l2, l3, l4, l5, l6, l7, l8, l9, l10, l11, l12, l13, l14, l22, l30, l31, l32, l39, l40, l48, l50, l57, l59, l60, l94, l97, l99, l100, l122, l255, l256, l300, l488, l1000, k8]
        · rw [gR_Wk (by omega), gR_Wk (by omega), gR_Wk (by omega), gR_Wk (by omega)]; exact hM1.2.1 g hg
        · rw [gR_Wk (by omega)]
          by_cases q2 : j = 3 * k + 2
          · subst q2; rw [sg_2]; exact gR_Ws _ _ _ _
          · rw [gR_Wk (by omega)]
            by_cases q1 : j = 3 * k + 1
            · subst q1; rw [sg_1]; exact gR_Ws _ _ _ _
            · rw [gR_Wk (by omega)]
              by_cases q0 : j = 3 * k
              · subst q0; rw [sg_0]; exact gR_Ws _ _ _ _
              · rw [gR_Wk (by omega), sg_o (by omega)]; exact hM1.2.2.1.2 j (by omega)
        · rw [gR_Wk (by omega), gR_Wk (by omega), gR_Wk (by omega), gR_Wk (by omega)]; exact hM1.2.2.2.1
    · refine bad (-1) ?_ ?_
      · unfold fX10_saw
        rw [e1, gBp_s, if_neg (by decide)]
        rcases q with q | ⟨q1, q2⟩
        · rw [if_pos q]
        · rw [if_neg q1, if_neg (show ¬ c ≤ 1 from fun z => absurd (Int32.le_trans (show (2 : Int32) ≤ c from q2) z) (by decide))]
      · unfold fX11_saw
        rw [gL_s, e2 _ hM', gBp_s, if_neg (by decide), in_f (n := 2) (by decide) (by omega) (by omega) hz, gBp_s, if_pos rfl]
  · rcases m_areTwo (hM'.mn hW) a b with ⟨-, h2⟩ | ⟨e2, -⟩
    · exact absurd h2 hn
    · refine bad (-1) ?_ ?_
      · unfold fX10_saw; rw [e1, gBp_s, if_pos rfl]
      · unfold fX11_saw; rw [gL_s, e2, gBp_s, if_pos rfl]
theorem t_goes (a b : Int32) : Tw (fX10_goes a b) (fX11_goes a b) := by
  rintro S ⟨o, r, w, f, v, k, σ, Z, hG, hX, hM⟩
  have hW := hG.1
  have hC := hG.2.1
  have h8 := hW.2.1
  have hM' := hM.sc (gW7 S)
  have hX' := hX.sc (gW7 S)
  have hs := hX.2.2.2.1
  unfold fX10_goes fX11_goes
  rcases c_isGuest hX hW a with ⟨e1, g, hg, rfl⟩ | ⟨e1, hn⟩
  · have m1 : ∀ T, RM T r w f v k σ Z → fX11_isGuest (nI g) T = some 1 := fun T hT => by
      rcases m_isGuest (hT.mn hW) (nI g) with ⟨e, -⟩ | ⟨-, h2⟩
      · exact e
      · exact absurd ⟨g, hg, rfl⟩ h2
    rcases c_isGuest hX hW b with ⟨e2, t, ht, rfl⟩ | ⟨e2, hn⟩
    · have m2 : ∀ T, RM T r w f v k σ Z → fX11_isGuest (nI t) T = some 1 := fun T hT => by
        rcases m_isGuest (hT.mn hW) (nI t) with ⟨e, -⟩ | ⟨-, h2⟩
        · exact e
        · exact absurd ⟨t, ht, rfl⟩ h2
      have fg := hC.lt8 h8 hg
      have ft := hC.lt8 h8 ht
      have sp : ∀ b : Int32, (b = 1 ∧ isTh f (r 0) g t) ∨ (b = 0 ∧ ¬ isTh f (r 0) g t) → fX10_goes (nI g) (nI t) S = fX10_goes_L58 (nI g) (nI t) b S := fun b hb => by
        unfold fX10_goes
        rw [e1, gBp_s, if_neg (by decide), e2, gBp_s, if_neg (by decide)]
        unfold isTh at hb
        by_cases q : g = t
        · rw [if_pos (show nI g = nI t by rw [q]), c_isAlone hs hg, gBp_s]
          rw [if_pos q] at hb
          rcases hb with ⟨rfl, h⟩ | ⟨rfl, h⟩
          · rw [if_pos h]
          · rw [if_neg h]
        · rw [if_neg (nI_neI (by omega) (by omega) q), c_partyOf hs hg, gBp_s, c_partyOf hs ht, gBp_s]
          rw [if_neg q] at hb
          rcases hb with ⟨rfl, y⟩ | ⟨rfl, y⟩
          · rw [if_pos (show nI (f g) = nI (f t) by rw [y])]
          · rw [if_neg (nI_neI (by omega) (by omega) y)]
      unfold fX10_goes at sp
      by_cases th : isTh f (r 0) g t
      · have sp := sp 1 (Or.inl ⟨rfl, th⟩)
        rcases m_moves (hM'.mn hW) (by omega) g80.1 g80.2 hM'.2.1 hC hg ht with ⟨-, e⟩ | ⟨z, -⟩
        · refine ⟨-2, S, gW S 77 0 0, ?_, ?_, o, r, w, f, v, k, σ, Z, hG, hX', hM'⟩
          · rw [sp]; unfold fX10_goes_L58; rw [if_neg (by decide)]
          · rw [gL_s, m1 _ hM', gBp_s, if_neg (by decide), m2 _ hM', gBp_s, if_neg (by decide), e, gBd_s, if_pos rfl]
        · exact absurd th z
      · have sp := sp 0 (Or.inr ⟨rfl, th⟩)
        obtain ⟨S1, e3, F1, s1⟩ := c_sendTo hs hg ht
        have s1 : St S1 36 (r 0) (mv f g t) := s1
        have hX1 := (hX.x36 F1 s1).sc (gW7 S1)
        have hM1 := (hM.fr F1 (by omega)).sc (gW7 S1)
        rcases m_moves (hM1.mn hW) (by omega) g80.1 g80.2 hM1.2.1 hC hg ht with ⟨z, -⟩ | ⟨-, S2, e, F2, r2⟩
        · exact absurd z th
        · refine ⟨nI (mv f g t g), S1, S2, ?_, ?_, o, r, w, mv f g t, v, k, σ, Z, ⟨hW, Can_can _ _, hG.2.2⟩, hX1.up (F2.fr (a := 80) (b := 81) (by omega) (by omega)) (by omega), hM1.row (F2.mono h8) r2⟩
          · rw [sp]; unfold fX10_goes_L58
            rw [if_pos rfl, e3, gBp_s, c_partyOf s1 hg, gBp_s]
          · rw [gL_s, m1 _ hM1, gBp_s, if_neg (by decide), m2 _ hM1, gBp_s, if_neg (by decide), e, gBd_s, if_neg (by decide), gC_ok (gIn_ok (by omega) (by omega)), gN_nI (by omega), r2 g hg]
    · rcases m_isGuest (hM'.mn hW) b with ⟨-, h2⟩ | ⟨m2, -⟩
      · exact absurd h2 hn
      · exact ⟨-1, S, gW S 77 0 0, by rw [e1, gBp_s, if_neg (by decide), e2, gBp_s, if_pos rfl], by rw [gL_s, m1 _ hM', gBp_s, if_neg (by decide), m2, gBp_s, if_pos rfl], o, r, w, f, v, k, σ, Z, hG, hX', hM'⟩
  · rcases m_isGuest (hM'.mn hW) a with ⟨-, h2⟩ | ⟨m1, -⟩
    · exact absurd h2 hn
    · exact ⟨-1, S, gW S 77 0 0, by rw [e1, gBp_s, if_pos rfl], by rw [gL_s, m1, gBp_s, if_pos rfl], o, r, w, f, v, k, σ, Z, hG, hX', hM'⟩
theorem c_isParty {S : gSt} {n : Nat} {f : Nat → Nat} (h : St S 36 n f) (x : Int32) : (fX10_isParty x S = some 1 ∧ isB x (pts f n)) ∨ (fX10_isParty x S = some 0 ∧ ¬ isB x (pts f n)) := by
  have h8 := h.pts
  unfold fX10_isParty
  rw [show fX7_parties 36 S = some (nI (pts f n)) from congrArg some h.2.1, gBp_s]
  rcases cB x (n := pts f n) (by omega) with ⟨g, hg, rfl⟩ | ⟨hn, q | ⟨q1, q2⟩⟩
  · left
    rw [if_neg (nI_pos (by omega)), if_neg (nI_nleI hg (by omega))]
    exact ⟨rfl, g, hg, rfl⟩
  · right
    rw [if_pos q]
    exact ⟨rfl, hn⟩
  · right
    rw [if_neg q1, if_pos q2]
    exact ⟨rfl, hn⟩
theorem pts_pos {f : Nat → Nat} {n : Nat} (h : 1 ≤ n) : 1 ≤ pts f n := by
  have := lt_pts (f := f) (show 0 < n by omega)
  omega
/-- the reference numbers and counts -/
theorem m_numcount {S : gSt} {n : Nat} {l : Nat → Nat} (h : mN S n) (hl : rowAt S 80 n l) (hb : ∀ g, g < n → l g < 1000) : ∃ S1, gBp (fX11_numbers 80 S) (fun S_2 => gBp (fX11_partiesOf 80 S_2) (fun v_3 => some (v_3, S_2))) = some (nI (pts (can l) n), S1) ∧ gRw 80 8 S S1 ∧ rowAt S1 80 n (can l) := by
  have h8 := h.2.2
  obtain ⟨S1, e1, F1, r1⟩ := m_numbers h (by omega) g80.1 g80.2 hl hb
  refine ⟨S1, ?_, F1.mono h8, r1⟩
  rw [e1, gBp_s, m_partiesOf (h.rw F1 (by omega)) (by have := g80.1; omega) g80.2 r1 (fun g hg => by have := can_le l g; omega), gBp_s]
theorem m_joinL {S : gSt} {n p q : Nat} {f : Nat → Nat} (h : mN S n) (hf : rowAt S 80 n f) (hb : ∀ g, g < n → f g < 8) (hp : p < 8) (hq : q < 8) : ∃ S1, fX11_join_L46 gFU (nI p) (nI q) 0 S = some (nI (pts (can (fun g => if f g = q then p else f g)) n), S1) ∧ gRw 80 8 S S1 ∧ rowAt S1 80 n (can (fun g => if f g = q then p else f g)) := by
  have h8 := h.2.2
  refine forS (fun m (T : gSt) g => fX11_join_L46 m (nI p) (nI q) (nI g) T) (fun y => ∃ S1, y = some (nI (pts (can (fun g => if f g = q then p else f g)) n), S1) ∧ gRw 80 8 S S1 ∧ rowAt S1 80 n (can (fun g => if f g = q then p else f g))) (fun g T => gRw 80 8 S T ∧ (∀ e, e < g → gR T 80 e = nI (if f e = q then p else f e)) ∧ ∀ e, g ≤ e → e < n → gR T 80 e = nI (f e)) n ?_ ?_ (by omega) S ⟨gRw.rf, fun e h => absurd h (Nat.not_lt_zero _), fun e _ he => hf e he⟩
  · rintro m g T hg ⟨hF, a1, a2⟩
    have hm := h.rw hF (by omega)
    have fg := hb g hg
    have hr := a2 g (Nat.le_refl g) hg
    refine ⟨gW T 80 g (nI (if f g = q then p else f g)), ⟨hF.w (by omega), fun e he => ?_, fun e he hn => ?_⟩, ?_⟩
    · by_cases z : e = g
      · subst z; exact gR_Ws _ _ _ _
      · rw [gR_Wk z]; exact a1 e (by omega)
    · rw [gR_Wk (by omega)]; exact a2 e (by omega) hn
    · show fX11_join_L46 (m + 1) (nI p) (nI q) (nI g) T = fX11_join_L46 m (nI p) (nI q) (nI (g + 1)) _
      rw [fX11_join_L46, m_guests hm, gBp_s, if_neg (nI_nleI hg (by omega)), gC_ok (gIn_ok (by omega) (by omega)), gN_nI (by omega), hr]
      by_cases z : f g = q
      · rw [if_pos (show nI (f g) = nI q by rw [z]), if_pos z, gC_ok (gIn_ok (by omega) (by omega)), gL_s, nI_1]
      · rw [if_neg (nI_neI (by omega) (by omega) z), if_neg z, gC_ok (gIn_ok (by omega) (by omega)), gC_ok (gIn_ok (by omega) (by omega)), gL_s, nI_1]
  · rintro m T ⟨hF, a1, a2⟩
    have hm := h.rw hF (by omega)
    obtain ⟨S1, e1, F1, r1⟩ := m_numcount (l := fun g => if f g = q then p else f g) hm a1 (fun g hg => by have := hb g hg; show (if f g = q then p else f g) < 1000; split <;> omega)
    refine ⟨S1, ?_, hF.tr F1, r1⟩
    show fX11_join_L46 (m + 1) (nI p) (nI q) (nI n) T = _
    rw [fX11_join_L46, m_guests hm, gBp_s, if_pos (nI_le (Nat.le_refl n) (by omega)), e1]
theorem t_join (a b : Int32) : Tw (fX10_join a b) (fX11_join a b) := by
  rintro S ⟨o, r, w, f, v, k, σ, Z, hG, hX, hM⟩
  have hW := hG.1
  have hC := hG.2.1
  have h8 := hW.2.1
  have hM' := hM.sc (gW7 S)
  have hX' := hX.sc (gW7 S)
  have hs := hX.2.2.2.1
  have hp8 := hs.pts
  have hp1 := pts_pos (f := f) hW.1
  have mp : ∀ T, RM T r w f v k σ Z → fX11_partiesOf 80 T = some (nI (pts f (r 0))) := fun T hT => m_partiesOf (hT.mn hW) (by have := g80.1; omega) g80.2 hT.2.1 (fun g hg => by have := hC.lt8 h8 hg; omega)
  have bad : ∀ x, fX10_join a b S = some (x, S) → fX11_join a b S = some (x, gW S 77 0 0) → ∃ v S1 S2, fX10_join a b S = some (v, S1) ∧ fX11_join a b S1 = some (v, S2) ∧ Rel S2 := fun x e1 e2 => ⟨x, S, _, e1, e2, o, r, w, f, v, k, σ, Z, hG, hX', hM'⟩
  rcases c_isParty hs a with ⟨e1, p, hp, rfl⟩ | ⟨e1, hn⟩
  · rcases c_isParty hs b with ⟨e2, q, hq, rfl⟩ | ⟨e2, hn⟩
    · by_cases z : p = q
      · subst z
        refine bad (-1) ?_ ?_
        · unfold fX10_join
          rw [e1, gBp_s, if_neg (by decide), gBp_s, if_neg (by decide), if_pos rfl]
        · unfold fX11_join
          rw [gL_s, mp _ hM', gBp_s, in_t rfl hp1 (by omega) ⟨p, hp, rfl⟩, gBp_s, if_neg (by decide), gBp_s, if_neg (by decide), if_pos rfl]
      · obtain ⟨S1, e3, F1, s1⟩ := c_merge (p := p) (q := q) hs (by omega) (by omega)
        have hX1 := (hX.x36 F1 s1).sc (gW7 S1)
        have hM1 := (hM.fr F1 (by omega)).sc (gW7 S1)
        obtain ⟨S2, e4, F2, r2⟩ := m_joinL (p := p) (q := q) (hM1.mn hW) hM1.2.1 (fun g hg => hC.lt8 h8 hg) (by omega) (by omega)
        refine ⟨nI (pts (can (fun g => if f g = q then p else f g)) (r 0)), S1, S2, ?_, ?_, o, r, w, can (fun g => if f g = q then p else f g), v, k, σ, Z, ⟨hW, Can_can _ _, hG.2.2⟩, hX1.up (F2.fr (a := 80) (b := 81) (by omega) (by omega)) (by omega), hM1.row F2 r2⟩
        · unfold fX10_join
          rw [e1, gBp_s, if_neg (by decide), e2, gBp_s, if_neg (by decide), if_neg (nI_neI (by omega) (by omega) z), e3, gBp_s, show fX7_parties 36 S1 = some _ from congrArg some s1.2.1, gBp_s]
        · unfold fX11_join
          rw [gL_s, mp _ hM1, gBp_s, in_t rfl hp1 (by omega) ⟨p, hp, rfl⟩, gBp_s, if_neg (by decide), in_t rfl hp1 (by omega) ⟨q, hq, rfl⟩, gBp_s, if_neg (by decide), if_neg (nI_neI (by omega) (by omega) z), e4]
    · refine bad (-1) ?_ ?_
      · unfold fX10_join
        rw [e1, gBp_s, if_neg (by decide), e2, gBp_s, if_pos rfl]
      · unfold fX11_join
        rw [gL_s, mp _ hM', gBp_s, in_t rfl hp1 (by omega) ⟨p, hp, rfl⟩, gBp_s, if_neg (by decide), in_f rfl hp1 (by omega) hn, gBp_s, if_pos rfl]
  · refine bad (-1) ?_ ?_
    · unfold fX10_join
      rw [e1, gBp_s, if_pos rfl]
    · unfold fX11_join
      rw [gL_s, mp _ hM', gBp_s, in_f rfl hp1 (by omega) hn, gBp_s, if_pos rfl]
/-- a set within a small one is small -/
theorem sub_small {s : Int32} {m : Nat} (hm : m < 256) (h : s &&& (nI m ^^^ (-1)) = 0) : ∃ a, a < 256 ∧ s = nI a := by
  have hs : s = nI s.toBitVec.toNat := by
    apply Int32.toBitVec_inj.mp
    show s.toBitVec = BitVec.ofNat 32 s.toBitVec.toNat
    rw [BitVec.ofNat_toNat, BitVec.setWidth_eq]
  have hlt := s.toBitVec.isLt
  generalize s.toBitVec.toNat = a at hs hlt
  subst hs
  refine ⟨a, ?_, rfl⟩
  rw [lm1, nI_xor, nI_andI] at h
  have hle : a &&& (m ^^^ 4294967295) < 2 ^ 32 := Nat.lt_of_le_of_lt Nat.and_le_left hlt
  have h0 : a &&& (m ^^^ 4294967295) = 0 := by
    have h2 := congrArg Int32.toBitVec h
    have h3 : BitVec.ofNat 32 (a &&& (m ^^^ 4294967295)) = BitVec.ofNat 32 0 := h2
    have h4 := congrArg BitVec.toNat h3
    rw [BitVec.toNat_ofNat, BitVec.toNat_ofNat, Nat.mod_eq_of_lt hle] at h4
    simpa using h4
  have hsub : a &&& m = a := by
    apply Nat.eq_of_testBit_eq
    intro e
    rw [Nat.testBit_and]
    cases hb : a.testBit e with
    | false => rfl
    | true =>
      have he : e < 32 := by
        rcases Nat.lt_or_ge e 32 with z | z
        · exact z
        · rw [Nat.testBit_lt_two_pow (Nat.lt_of_lt_of_le hlt (Nat.pow_le_pow_right (by decide) z))] at hb
          cases hb
      have : (a &&& (m ^^^ 4294967295)).testBit e = false := by rw [h0, Nat.zero_testBit]
      rw [Nat.testBit_and, Nat.testBit_xor, hb, show (4294967295 : Nat) = 2 ^ 32 - 1 from rfl, Nat.testBit_two_pow_sub_one, decide_eq_true he] at this
      cases hm2 : m.testBit e with
      | false => rw [hm2] at this; exact absurd this (by decide)
      | true => rfl
  have := Nat.and_le_right (n := a) (m := m)
  omega
theorem m_setL {S : gSt} {n p : Nat} {s : Int32} {f : Nat → Nat} (h : mN S n) (hf : rowAt S 80 n f) (hb : ∀ g, g < n → f g < 8) (hp : p < 8) : fX11_part_L30 gFU (nI p) s 0 0 S = if s = 0 then some ((-2), S) else if s = nI (mk (fun g => decide (f g = p)) n) then some ((-2), S) else if (s &&& (nI (mk (fun g => decide (f g = p)) n) ^^^ (-1))) = 0 then fX11_part_L90 gFU s 0 S else some ((-2), S) := by
  have h8 := h.2.2
  refine forFU (fun m x g => fX11_part_L30 m (nI p) s x (nI g) S) (fun y => y = if s = 0 then some ((-2), S) else if s = nI (mk (fun g => decide (f g = p)) n) then some ((-2), S) else if (s &&& (nI (mk (fun g => decide (f g = p)) n) ^^^ (-1))) = 0 then fX11_part_L90 gFU s 0 S else some ((-2), S)) (fun g x => x = nI (mk (fun g => decide (f g = p)) g)) n 0 (by omega) ?_ ?_ rfl
  · rintro m g x hg rfl
    right
    refine ⟨_, rfl, ?_⟩
    show fX11_part_L30 (m + 1) (nI p) s _ (nI g) S = fX11_part_L30 m (nI p) s _ (nI (g + 1)) S
    have fg := hb g hg
    rw [fX11_part_L30, m_guests h, gBp_s, if_neg (nI_nleI hg (by omega)), gC_ok (gIn_ok (by omega) (by omega)), gN_nI (by omega), hf g hg, nI_1, mk_s]
    by_cases z : f g = p
    · rw [if_pos (show nI (f g) = nI p by rw [z]), gL_s, if_pos (decide_eq_true z), l31, nI_31 (by omega), l1, nI_shl (by omega), Nat.one_mul, nI_orI, mk_or]
    · rw [if_neg (nI_neI (by omega) (by omega) z), gL_s, if_neg (by rw [decide_eq_true_eq]; exact z), l0, nI_orI, Nat.or_zero]
      rfl
  · rintro m x rfl
    show fX11_part_L30 (m + 1) (nI p) s _ (nI n) S = _
    rw [fX11_part_L30, m_guests h, gBp_s, if_pos (nI_le (Nat.le_refl n) (by omega))]
theorem can_50 {f : Nat → Nat} {a n : Nat} (hb : ∀ g, g < n → f g < 8) : ∀ g, g < n → can (fun g => if a.testBit g then 50 else f g) g = can (fun g => if a.testBit g then 8 else f g) g := by
  refine can_congr (fun x y hx hy => ?_)
  have fx := hb x hx
  have fy := hb y hy
  show (if a.testBit x then 50 else f x) = (if a.testBit y then 50 else f y) ↔ (if a.testBit x then 8 else f x) = (if a.testBit y then 8 else f y)
  cases a.testBit x <;> cases a.testBit y <;> simp <;> omega
theorem m_partL {S : gSt} {n a : Nat} {f : Nat → Nat} (h : mN S n) (hf : rowAt S 80 n f) (hb : ∀ g, g < n → f g < 8) (ha : a < 256) : ∃ S1, fX11_part_L90 gFU (nI a) 0 S = some (nI (pts (can (fun g => if a.testBit g then 8 else f g)) n), S1) ∧ gRw 80 8 S S1 ∧ rowAt S1 80 n (can (fun g => if a.testBit g then 8 else f g)) := by
  have h8 := h.2.2
  refine forS (fun m (T : gSt) g => fX11_part_L90 m (nI a) (nI g) T) (fun y => ∃ S1, y = some (nI (pts (can (fun g => if a.testBit g then 8 else f g)) n), S1) ∧ gRw 80 8 S S1 ∧ rowAt S1 80 n (can (fun g => if a.testBit g then 8 else f g))) (fun g T => gRw 80 8 S T ∧ (∀ e, e < g → gR T 80 e = nI (if a.testBit e then 50 else f e)) ∧ ∀ e, g ≤ e → e < n → gR T 80 e = nI (f e)) n ?_ ?_ (by omega) S ⟨gRw.rf, fun e h => absurd h (Nat.not_lt_zero _), fun e _ he => hf e he⟩
  · rintro m g T hg ⟨hF, a1, a2⟩
    have hm := h.rw hF (by omega)
    have fg := hb g hg
    have hr := a2 g (Nat.le_refl g) hg
    refine ⟨gW T 80 g (nI (if a.testBit g then 50 else f g)), ⟨hF.w (by omega), fun e he => ?_, fun e he hn => ?_⟩, ?_⟩
    · by_cases z : e = g
      · subst z; exact gR_Ws _ _ _ _
      · rw [gR_Wk z]; exact a1 e (by omega)
    · rw [gR_Wk (by omega)]; exact a2 e (by omega) hn
    · show fX11_part_L90 (m + 1) (nI a) (nI g) T = fX11_part_L90 m (nI a) (nI (g + 1)) _
      rw [fX11_part_L90, m_guests hm, gBp_s, if_neg (nI_nleI hg (by omega)), m_bitOf ha (by omega), gN_nI (by omega), hr, nI_1]
      cases hb2 : a.testBit g with
      | true => rw [if_pos (by decide), gC_ok (gIn_ok (by omega) (by omega)), gL_s]; rfl
      | false => rw [if_neg (by decide), gC_ok (gIn_ok (by omega) (by omega)), gC_ok (gIn_ok (by omega) (by omega)), gL_s]; rfl
  · rintro m T ⟨hF, a1, a2⟩
    have hm := h.rw hF (by omega)
    obtain ⟨S1, e1, F1, r1⟩ := m_numcount (l := fun g => if a.testBit g then 50 else f g) hm a1 (fun g hg => by have := hb g hg; show (if a.testBit g then 50 else f g) < 1000; split <;> omega)
    have hc := can_50 (a := a) hb
    rw [pts_congr hc] at e1
    refine ⟨S1, ?_, hF.tr F1, r1.congr hc⟩
    show fX11_part_L90 (m + 1) (nI a) (nI n) T = _
    rw [fX11_part_L90, m_guests hm, gBp_s, if_pos (nI_le (Nat.le_refl n) (by omega)), e1]
theorem t_part (a s : Int32) : Tw (fX10_part a s) (fX11_part a s) := by
  rintro S ⟨o, r, w, f, v, k, σ, Z, hG, hX, hM⟩
  have hW := hG.1
  have hC := hG.2.1
  have h8 := hW.2.1
  have hM' := hM.sc (gW7 S)
  have hX' := hX.sc (gW7 S)
  have hs := hX.2.2.2.1
  have hp8 := hs.pts
  have hp1 := pts_pos (f := f) hW.1
  have hb : ∀ g, g < r 0 → f g < 8 := fun g hg => hC.lt8 h8 hg
  have mp : ∀ T, RM T r w f v k σ Z → fX11_partiesOf 80 T = some (nI (pts f (r 0))) := fun T hT => m_partiesOf (hT.mn hW) (by have := g80.1; omega) g80.2 hT.2.1 (fun g hg => by have := hC.lt8 h8 hg; omega)
  have bad : ∀ x, fX10_part a s S = some (x, S) → fX11_part a s S = some (x, gW S 77 0 0) → ∃ v S1 S2, fX10_part a s S = some (v, S1) ∧ fX11_part a s S1 = some (v, S2) ∧ Rel S2 := fun x e1 e2 => ⟨x, S, _, e1, e2, o, r, w, f, v, k, σ, Z, hG, hX', hM'⟩
  rcases c_isParty hs a with ⟨e1, p, hp, rfl⟩ | ⟨e1, hn⟩
  · have hm8 := mk_lt8 (fun g => decide (f g = p)) h8
    have ec : fX10_part (nI p) s S = if s = 0 then some ((-2), S) else if s = nI (mk (fun g => decide (f g = p)) (r 0)) then some ((-2), S) else if (s &&& (nI (mk (fun g => decide (f g = p)) (r 0)) ^^^ (-1))) = 0 then (gBp (fX7_splitOff 36 s S) (fun S_3 => gBp (fX7_parties 36 S_3) (fun v_4 => some (v_4, S_3)))) else some ((-2), S) := by
      unfold fX10_part
      rw [e1, gBp_s, if_neg (by decide), c_setOf hs hp, gBp_s]
    have em : ∀ T, RM (gW T 77 0 0) r w f v k σ Z → fX11_part (nI p) s T = if s = 0 then some ((-2), gW T 77 0 0) else if s = nI (mk (fun g => decide (f g = p)) (r 0)) then some ((-2), gW T 77 0 0) else if (s &&& (nI (mk (fun g => decide (f g = p)) (r 0)) ^^^ (-1))) = 0 then fX11_part_L90 gFU s 0 (gW T 77 0 0) else some ((-2), gW T 77 0 0) := fun T hT => by
      unfold fX11_part
      rw [gL_s, mp _ hT, gBp_s, in_t rfl hp1 (by omega) ⟨p, hp, rfl⟩, gBp_s, if_neg (by decide), m_setL (hT.mn hW) hT.2.1 hb (by omega)]
    by_cases z0 : s = 0
    · exact bad (-2) (by rw [ec, if_pos z0]) (by rw [em S hM', if_pos z0])
    by_cases z1 : s = nI (mk (fun g => decide (f g = p)) (r 0))
    · exact bad (-2) (by rw [ec, if_neg z0, if_pos z1]) (by rw [em S hM', if_neg z0, if_pos z1])
    by_cases z2 : (s &&& (nI (mk (fun g => decide (f g = p)) (r 0)) ^^^ (-1))) = 0
    · obtain ⟨x, hx, hsx⟩ := sub_small hm8 z2
      obtain ⟨S1, e3, F1, s1⟩ := c_splitOff (s := x) hs hx
      have hX1 := (hX.x36 F1 s1).sc (gW7 S1)
      have hM1 := (hM.fr F1 (by omega)).sc (gW7 S1)
      obtain ⟨S2, e4, F2, r2⟩ := m_partL (a := x) (hM1.mn hW) hM1.2.1 hb hx
      refine ⟨nI (pts (can (fun g => if x.testBit g then 8 else f g)) (r 0)), S1, S2, ?_, ?_, o, r, w, can (fun g => if x.testBit g then 8 else f g), v, k, σ, Z, ⟨hW, Can_can _ _, hG.2.2⟩, hX1.up (F2.fr (a := 80) (b := 81) (by omega) (by omega)) (by omega), hM1.row F2 r2⟩
      · rw [ec, if_neg z0, if_neg z1, if_pos z2, hsx, e3, gBp_s, show fX7_parties 36 S1 = some _ from congrArg some s1.2.1, gBp_s]
      · rw [em S1 hM1, if_neg z0, if_neg z1, if_pos z2, hsx, e4]
    · exact bad (-2) (by rw [ec, if_neg z0, if_neg z1, if_neg z2]) (by rw [em S hM', if_neg z0, if_neg z1, if_neg z2])
  · refine bad (-1) ?_ ?_
    · unfold fX10_part
      rw [e1, gBp_s, if_pos rfl]
    · unfold fX11_part
      rw [gL_s, mp _ hM', gBp_s, in_f rfl hp1 (by omega) hn, gBp_s, if_pos rfl]
