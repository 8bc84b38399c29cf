/-! the reference numbers parties anew; needs: 0800 0801 0802 0803 0804 0805 -/
theorem nI_div {a b : Nat} (ha : a < 2 ^ 31) (hb : b < 2 ^ 31) : nI a / nI b = nI (a / b) := by
  have hd : a / b ≤ a := Nat.div_le_self a b
  apply Int32.toInt_inj.mp
  rw [Int32.toInt_div, nI_toInt ha, nI_toInt hb, nI_toInt (by omega), ← Int.ofNat_tdiv]
  generalize a / b = d at hd
  apply Int.bmod_eq_of_le <;> omega
/-- only the first n places of r have changed -/
def gRw (r n : Nat) (S S1 : gSt) : Prop := S1.2 = S.2 ∧ ∀ p k, p ≠ r ∨ n ≤ k → gR S1 p k = gR S p k
theorem gRw.rf {r n : Nat} {S : gSt} : gRw r n S S := ⟨rfl, fun _ _ _ => rfl⟩
theorem gRw.tr {r n : Nat} {S S1 S2 : gSt} (h : gRw r n S S1) (h2 : gRw r n S1 S2) : gRw r n S S2 := ⟨h2.1.trans h.1, fun p k hp => (h2.2 p k hp).trans (h.2 p k hp)⟩
theorem gRw.mono {r n m : Nat} {S S1 : gSt} (h : gRw r n S S1) (h2 : n ≤ m) : gRw r m S S1 := ⟨h.1, fun p k hp => h.2 p k (by omega)⟩
theorem gRw.w {r n : Nat} {S S1 : gSt} {k : Nat} {v : Int32} (h : gRw r n S S1) (h1 : k < n) : gRw r n S (gW S1 r k v) := ⟨h.1, fun q j hq => by rw [gR_W2, if_neg (by omega)]; exact h.2 q j hq⟩
theorem gRw.fr {r n a b : Nat} {S S1 : gSt} (h : gRw r n S S1) (h1 : a ≤ r) (h2 : r < b) : gFr a b S S1 := ⟨h.1, fun p k hp => h.2 p k (by omega)⟩
theorem mN.rw {S S1 : gSt} {n r m : Nat} (h : mN S n) (hF : gRw r m S S1) (hr : r ≠ 79) : mN S1 n := ⟨by rw [hF.2 79 0 (by omega)]; exact h.1, h.2⟩
theorem mN.fr {S S1 : gSt} {n a b : Nat} (h : mN S n) (hF : gFr a b S S1) (hr : 79 < a ∨ b ≤ 79) : mN S1 n := ⟨by rw [hF.2 79 0 (by omega)]; exact h.1, h.2⟩
theorem m_num_in {k4 : Int32 → Int32 → gSt → Option gSt} {S : gSt} {n r g c : Nat} {l : Nat → Nat} (hr : 8 ≤ (gLay r).2) (hr2 : (gLay r).2 ≤ 5000) (hn : n ≤ 8) (hg : g < n) (hlb : ∀ g, g < n → l g < 1000) (h1 : ∀ e, e < g → gR S r e = nI (1000 * (l e + 1) + can l e)) (h2 : gR S r g = nI (l g)) (hc : c = cn (nw l) g) : fX11_numbers_L19 k4 r gFU (nI c) (nI g) 100 0 S = k4 (nI (cn (nw l) (g + 1))) (nI (g + 1)) (gW S r g (nI (1000 * (l g + 1) + can l g))) := by
  have bg := hlb g hg
  refine forFU (fun m a e => fX11_numbers_L19 k4 r m (nI c) (nI g) a (nI e) S) (fun x => x = k4 (nI (cn (nw l) (g + 1))) (nI (g + 1)) (gW S r g (nI (1000 * (l g + 1) + can l g)))) (fun e a => a = nI (if ∃ e', e' < e ∧ l e' = l g then can l g else 100)) g 100 (by omega) ?_ ?_ ?_
  · rintro m e a he rfl
    right
    refine ⟨_, rfl, ?_⟩
    show fX11_numbers_L19 k4 r (m + 1) (nI c) (nI g) _ (nI e) S = fX11_numbers_L19 k4 r m (nI c) (nI g) _ (nI (e + 1)) S
    rw [fX11_numbers_L19]
    have be := hlb e (by omega)
    have ce := can_le l e
    have d1 : (1000 * (l e + 1) + can l e) / 1000 = l e + 1 := by omega
    by_cases q : l e = l g
    · have cc := (can_iff l e g).mpr q
      rw [if_pos (show ∃ e', e' < e + 1 ∧ l e' = l g from ⟨e, by omega, q⟩)]
      have d2 : 1000 * (l g + 1) + can l e - (1000 * (l g + 1) + can l e) / 1000 * 1000 = can l g := by omega
      simp (disch := omega) only [gC_d, gC_tt, gBp_s, gBd_s, gL_s, gIn_nI, gN_nI, nI_ltI, nI_leI, nI_eq, nI_add, nI_mul, nI_sub, ite_t, ite_f, gR_W2, gRL_W, if_true, if_false, true_and, and_true, false_and, and_false, and_self, Nat.add_zero, l0, l1, l2, l3, l4, l5, l6, l7, l8, l9, l10, l11, l12, l13, l14, l22, l30, l31, l32, l39, l40, l48, l50, l57, l59, l60, l94, l97, l99, l100, l122, l255, l256, l300, l488, l1000, h1, h2, nI_div, q, d2]
    · have : (∃ e', e' < e + 1 ∧ l e' = l g) = (∃ e', e' < e ∧ l e' = l g) := propext ⟨fun ⟨e', a, b⟩ => ⟨e', by
        rcases Nat.lt_or_ge e' e with z | z
        · exact z
        · have : e' = e := by omega
          subst this; exact absurd b q, b⟩, fun ⟨e', a, b⟩ => ⟨e', by omega, b⟩⟩
      simp only [this]
      simp (disch := omega) only [gC_d, gC_tt, gBp_s, gBd_s, gL_s, gIn_nI, gN_nI, nI_ltI, nI_leI, nI_eq, nI_add, nI_mul, nI_sub, ite_t, ite_f, gR_W2, gRL_W, if_true, if_false, true_and, and_true, false_and, and_false, and_self, Nat.add_zero, l0, l1, l2, l3, l4, l5, l6, l7, l8, l9, l10, l11, l12, l13, l14, l22, l30, l31, l32, l39, l40, l48, l50, l57, l59, l60, l94, l97, l99, l100, l122, l255, l256, l300, l488, l1000, h1, h2, nI_div, d1]
  · rintro m a rfl
    show fX11_numbers_L19 k4 r (m + 1) (nI c) (nI g) _ (nI g) S = _
    rw [fX11_numbers_L19]
    unfold fX11_numbers_L75
    have cle := can_le l g
    have hle := fs_le l g
    by_cases q : ∃ e', e' < g ∧ l e' = l g
    · obtain ⟨e', z1, z2⟩ := q
      have hnw : ¬ nw l g = true := fun z => by
        have z := of_decide_eq_true z
        exact fs_min (show e' < fs l g by omega) z2
      rw [if_pos (show ∃ e', e' < g ∧ l e' = l g from ⟨e', z1, z2⟩), cn_s, if_neg hnw, hc]
      simp (disch := omega) only [gC_d, gC_tt, gBp_s, gBd_s, gL_s, gIn_nI, gN_nI, nI_ltI, nI_leI, nI_eq, nI_add, nI_mul, nI_sub, ite_t, ite_f, gR_W2, gRL_W, if_true, if_false, true_and, and_true, false_and, and_false, and_self, Nat.add_zero, l0, l1, l2, l3, l4, l5, l6, l7, l8, l9, l10, l11, l12, l13, l14, l22, l30, l31, l32, l39, l40, l48, l50, l57, l59, l60, l94, l97, l99, l100, l122, l255, l256, l300, l488, l1000, h2]
    · have hf : fs l g = g := by
        rcases Nat.lt_or_ge (fs l g) g with z | z
        · exact absurd ⟨fs l g, z, fs_eq l g⟩ q
        · omega
      have hnw : nw l g = true := decide_eq_true hf
      rw [if_neg q, cn_s, if_pos hnw, hc, can_nw hf]
      simp (disch := omega) only [gC_d, gC_tt, gBp_s, gBd_s, gL_s, gIn_nI, gN_nI, nI_ltI, nI_leI, nI_eq, nI_add, nI_mul, nI_sub, ite_t, ite_f, gR_W2, gRL_W, if_true, if_false, true_and, and_true, false_and, and_false, and_self, Nat.add_zero, l0, l1, l2, l3, l4, l5, l6, l7, l8, l9, l10, l11, l12, l13, l14, l22, l30, l31, l32, l39, l40, l48, l50, l57, l59, l60, l94, l97, l99, l100, l122, l255, l256, l300, l488, l1000, h2]
  · rw [if_neg (fun ⟨e', a, _⟩ => absurd a (Nat.not_lt_zero _))]; rfl
theorem m_numbers {S : gSt} {n r : Nat} {l : Nat → Nat} (h : mN S n) (hr0 : r ≠ 79) (hr : 8 ≤ (gLay r).2) (hr2 : (gLay r).2 ≤ 5000) (hf : rowAt S r n l) (hb : ∀ g, g < n → l g < 1000) : ∃ S1, fX11_numbers r S = some S1 ∧ gRw r n S S1 ∧ rowAt S1 r n (can l) := by
  have h8 := h.2.2
  unfold fX11_numbers
  refine forS (fun m (T : gSt × Int32) g => fX11_numbers_L4 r m T.2 (nI g) T.1) (fun x => ∃ S1, x = some S1 ∧ gRw r n S S1 ∧ rowAt S1 r n (can l)) (fun g T => gRw r n S T.1 ∧ T.2 = nI (cn (nw l) g) ∧ (∀ e, e < g → gR T.1 r e = nI (1000 * (l e + 1) + can l e)) ∧ (∀ e, g ≤ e → e < n → gR T.1 r e = nI (l e))) n ?_ ?_ (by omega) (S, 0) ⟨gRw.rf, rfl, fun e h => absurd h (Nat.not_lt_zero _), fun e _ he => hf e he⟩
  · rintro m g ⟨T, c⟩ hg ⟨hF, hc, a1, a2⟩
    have hc : c = nI (cn (nw l) g) := hc
    subst hc
    have hF : gRw r n S T := hF
    have hm := h.rw hF hr0
    refine ⟨(gW T r g (nI (1000 * (l g + 1) + can l g)), nI (cn (nw l) (g + 1))), ⟨hF.w hg, rfl, fun e he => ?_, fun e he hn => ?_⟩, ?_⟩
    · show gR (gW T r g _) r e = _
      by_cases q : e = g
      · subst q; simp (disch := omega) only [gC_d, gC_tt, gBp_s, gBd_s, gL_s, gIn_nI, gN_nI, nI_ltI, nI_leI, nI_eq, nI_add, nI_mul, nI_sub, ite_t, ite_f, gR_W2, gRL_W, if_true, if_false, true_and, and_true, false_and, and_false, and_self, Nat.add_zero, l0, l1, l2, l3, l4, l5, l6, l7, l8, l9, l10, l11, l12, l13, l14, l22, l30, l31, l32, l39, l40, l48, l50, l57, l59, l60, l94, l97, l99, l100, l122, l255, l256, l300, l488, l1000]
      · simp (disch := omega) only [gC_d, gC_tt, gBp_s, gBd_s, gL_s, gIn_nI, gN_nI, nI_ltI, nI_leI, nI_eq, nI_add, nI_mul, nI_sub, ite_t, ite_f, gR_W2, gRL_W, if_true, if_false, true_and, and_true, false_and, and_false, and_self, Nat.add_zero, l0, l1, l2, l3, l4, l5, l6, l7, l8, l9, l10, l11, l12, l13, l14, l22, l30, l31, l32, l39, l40, l48, l50, l57, l59, l60, l94, l97, l99, l100, l122, l255, l256, l300, l488, l1000, a1 e (by omega)]
    · show gR (gW T r g _) r e = _
      simp (disch := omega) only [gC_d, gC_tt, gBp_s, gBd_s, gL_s, gIn_nI, gN_nI, nI_ltI, nI_leI, nI_eq, nI_add, nI_mul, nI_sub, ite_t, ite_f, gR_W2, gRL_W, if_true, if_false, true_and, and_true, false_and, and_false, and_self, Nat.add_zero, l0, l1, l2, l3, l4, l5, l6, l7, l8, l9, l10, l11, l12, l13, l14, l22, l30, l31, l32, l39, l40, l48, l50, l57, l59, l60, l94, l97, l99, l100, l122, l255, l256, l300, l488, l1000, a2 e (by omega)]
    · show fX11_numbers_L4 r (m + 1) (nI (cn (nw l) g)) (nI g) T = fX11_numbers_L4 r m (nI (cn (nw l) (g + 1))) (nI (g + 1)) (gW T r g (nI (1000 * (l g + 1) + can l g)))
      rw [fX11_numbers_L4, m_guests hm]
      simp (disch := omega) only [gC_d, gC_tt, gBp_s, gBd_s, gL_s, gIn_nI, gN_nI, nI_ltI, nI_leI, nI_eq, nI_add, nI_mul, nI_sub, ite_t, ite_f, gR_W2, gRL_W, if_true, if_false, true_and, and_true, false_and, and_false, and_self, Nat.add_zero, l0, l1, l2, l3, l4, l5, l6, l7, l8, l9, l10, l11, l12, l13, l14, l22, l30, l31, l32, l39, l40, l48, l50, l57, l59, l60, l94, l97, l99, l100, l122, l255, l256, l300, l488, l1000]
      rw [← l100, ← l0]
      exact m_num_in hr hr2 h8 hg hb a1 (a2 g (Nat.le_refl g) hg) rfl
  · rintro m ⟨T, c⟩ ⟨hF, hc, a1, a2⟩
    have hF : gRw r n S T := hF
    have hm := h.rw hF hr0
    have a1 : ∀ e, e < n → gR T r e = nI (1000 * (l e + 1) + can l e) := a1
    show ∃ S1, fX11_numbers_L4 r (m + 1) c (nI n) T = some S1 ∧ _
    rw [fX11_numbers_L4, m_guests hm]
    simp (disch := omega) only [gC_d, gC_tt, gBp_s, gBd_s, gL_s, gIn_nI, gN_nI, nI_ltI, nI_leI, nI_eq, nI_add, nI_mul, nI_sub, ite_t, ite_f, gR_W2, gRL_W, if_true, if_false, true_and, and_true, false_and, and_false, and_self, Nat.add_zero, l0, l1, l2, l3, l4, l5, l6, l7, l8, l9, l10, l11, l12, l13, l14, l22, l30, l31, l32, l39, l40, l48, l50, l57, l59, l60, l94, l97, l99, l100, l122, l255, l256, l300, l488, l1000]
    rw [← l0]
    refine forS (fun m (T : gSt) g => fX11_numbers_L98 r m (nI g) T) (fun x => ∃ S1, x = some S1 ∧ gRw r n S S1 ∧ rowAt S1 r n (can l)) (fun g T => gRw r n S T ∧ (∀ e, e < g → gR T r e = nI (can l e)) ∧ (∀ e, g ≤ e → e < n → gR T r e = nI (1000 * (l e + 1) + can l e))) n ?_ ?_ (by omega) T ⟨hF, fun e h => absurd h (Nat.not_lt_zero _), fun e _ he => a1 e he⟩
    · rintro m g T hg ⟨hF, b1, b2⟩
      have hm := h.rw hF hr0
      refine ⟨gW T r g (nI (can l g)), ⟨hF.w hg, fun e he => ?_, fun e he hn => ?_⟩, ?_⟩
      · by_cases q : e = g
        · subst q; simp (disch := omega) only [gC_d, gC_tt, gBp_s, gBd_s, gL_s, gIn_nI, gN_nI, nI_ltI, nI_leI, nI_eq, nI_add, nI_mul, nI_sub, ite_t, ite_f, gR_W2, gRL_W, if_true, if_false, true_and, and_true, false_and, and_false, and_self, Nat.add_zero, l0, l1, l2, l3, l4, l5, l6, l7, l8, l9, l10, l11, l12, l13, l14, l22, l30, l31, l32, l39, l40, l48, l50, l57, l59, l60, l94, l97, l99, l100, l122, l255, l256, l300, l488, l1000]
        · simp (disch := omega) only [gC_d, gC_tt, gBp_s, gBd_s, gL_s, gIn_nI, gN_nI, nI_ltI, nI_leI, nI_eq, nI_add, nI_mul, nI_sub, ite_t, ite_f, gR_W2, gRL_W, if_true, if_false, true_and, and_true, false_and, and_false, and_self, Nat.add_zero, l0, l1, l2, l3, l4, l5, l6, l7, l8, l9, l10, l11, l12, l13, l14, l22, l30, l31, l32, l39, l40, l48, l50, l57, l59, l60, l94, l97, l99, l100, l122, l255, l256, l300, l488, l1000, b1 e (by omega)]
      · simp (disch := omega) only [gC_d, gC_tt, gBp_s, gBd_s, gL_s, gIn_nI, gN_nI, nI_ltI, nI_leI, nI_eq, nI_add, nI_mul, nI_sub, ite_t, ite_f, gR_W2, gRL_W, if_true, if_false, true_and, and_true, false_and, and_false, and_self, Nat.add_zero, l0, l1, l2, l3, l4, l5, l6, l7, l8, l9, l10, l11, l12, l13, l14, l22, l30, l31, l32, l39, l40, l48, l50, l57, l59, l60, l94, l97, l99, l100, l122, l255, l256, l300, l488, l1000, b2 e (by omega)]
      · show fX11_numbers_L98 r (m + 1) (nI g) T = fX11_numbers_L98 r m (nI (g + 1)) _
        have bg := hb g hg
        have cle := can_le l g
        have d1 : (1000 * (l g + 1) + can l g) / 1000 = l g + 1 := by omega
        have d2 : 1000 * (l g + 1) + can l g - (l g + 1) * 1000 = can l g := by omega
        rw [fX11_numbers_L98, m_guests hm]
        simp (disch := omega) only [gC_d, gC_tt, gBp_s, gBd_s, gL_s, gIn_nI, gN_nI, nI_ltI, nI_leI, nI_eq, nI_add, nI_mul, nI_sub, ite_t, ite_f, gR_W2, gRL_W, if_true, if_false, true_and, and_true, false_and, and_false, and_self, Nat.add_zero, l0, l1, l2, l3, l4, l5, l6, l7, l8, l9, l10, l11, l12, l13, l14, l22, l30, l31, l32, l39, l40, l48, l50, l57, l59, l60, l94, l97, l99, l100, l122, l255, l256, l300, l488, l1000, b2 g (Nat.le_refl g) hg, nI_div, d1, d2]
    · rintro m T ⟨hF, b1, b2⟩
      have hm := h.rw hF hr0
      refine ⟨T, ?_, hF, b1⟩
      show fX11_numbers_L98 r (m + 1) (nI n) T = _
      rw [fX11_numbers_L98, m_guests hm]
      simp (disch := omega) only [gC_d, gC_tt, gBp_s, gBd_s, gL_s, gIn_nI, gN_nI, nI_ltI, nI_leI, nI_eq, nI_add, nI_mul, nI_sub, ite_t, ite_f, gR_W2, gRL_W, if_true, if_false, true_and, and_true, false_and, and_false, and_self, Nat.add_zero, l0, l1, l2, l3, l4, l5, l6, l7, l8, l9, l10, l11, l12, l13, l14, l22, l30, l31, l32, l39, l40, l48, l50, l57, l59, l60, l94, l97, l99, l100, l122, l255, l256, l300, l488, l1000]
/-- one goes over: to the party of t, or alone -/
def mv (f : Nat → Nat) (g t : Nat) : Nat → Nat := can (upN f g (if g = t then 8 else f t))
def isTh (f : Nat → Nat) (n g t : Nat) : Prop := if g = t then cn (fun e => decide (f e = f g)) n = 1 else f g = f t
theorem mv50 {f : Nat → Nat} {n g t : Nat} (hf : ∀ e, e < n → f e < 8) (hg : g < n) (ht : t < n) : ∀ e, e < n → can (upN f g (if g = t then 50 else f t)) e = mv f g t e := by
  refine can_congr (fun a b ha hb => ?_)
  have fa := hf a ha
  have fb := hf b hb
  have ft := hf t ht
  unfold upN
  by_cases q : g = t
  · simp only [if_pos q]
    split <;> split <;> omega
  · simp only [if_neg q]
theorem rowAt.congr {S : gSt} {r n : Nat} {f k : Nat → Nat} (h : rowAt S r n f) (e : ∀ g, g < n → f g = k g) : rowAt S r n k := fun g hg => by rw [h g hg, e g hg]
theorem m_moves {S : gSt} {n r g t : Nat} {f : Nat → Nat} (h : mN S n) (hr0 : r ≠ 79) (hr : 8 ≤ (gLay r).2) (hr2 : (gLay r).2 ≤ 5000) (hf : rowAt S r n f) (hC : Can f n) (hg : g < n) (ht : t < n) : (isTh f n g t ∧ fX11_moves r (nI g) (nI t) S = some (0, S)) ∨ (¬ isTh f n g t ∧ ∃ S1, fX11_moves r (nI g) (nI t) S = some (1, S1) ∧ gRw r n S S1 ∧ rowAt S1 r n (mv f g t)) := by
  have h8 := h.2.2
  have hb : ∀ e, e < n → f e < 8 := fun e he => hC.lt8 h8 he
  have b1 := hb g hg
  have b2 := hb t ht
  have cl := cn_le (fun e => decide (f e = f g)) n
  have hsz := m_sizeOf (q := f g) h (by omega) hr2 hf (fun e he => by have := hb e he; omega) (by omega)
  have hgo : ∀ v, v < 1000 → (∃ S1, fX11_numbers r (gW S r g (nI v)) = some S1 ∧ gRw r n S S1 ∧ rowAt S1 r n (can (upN f g v))) := fun v hv => by
    obtain ⟨S1, x, y, z⟩ := m_numbers (S := gW S r g (nI v)) (n := n) (r := r) (l := upN f g v) (h.rw (gRw.rf.w hg) hr0) hr0 hr hr2 (fun e he => by
      by_cases q : e = g
      · subst q; rw [upN_s]; simp (disch := omega) only [gC_d, gC_tt, gBp_s, gBd_s, gL_s, gIn_nI, gN_nI, nI_ltI, nI_leI, nI_eq, nI_add, nI_mul, nI_sub, ite_t, ite_f, gR_W2, gRL_W, if_true, if_false, true_and, and_true, false_and, and_false, and_self, Nat.add_zero, l0, l1, l2, l3, l4, l5, l6, l7, l8, l9, l10, l11, l12, l13, l14, l22, l30, l31, l32, l39, l40, l48, l50, l57, l59, l60, l94, l97, l99, l100, l122, l255, l256, l300, l488, l1000]
      · rw [upN_n q]; simp (disch := omega) only [gC_d, gC_tt, gBp_s, gBd_s, gL_s, gIn_nI, gN_nI, nI_ltI, nI_leI, nI_eq, nI_add, nI_mul, nI_sub, ite_t, ite_f, gR_W2, gRL_W, if_true, if_false, true_and, and_true, false_and, and_false, and_self, Nat.add_zero, l0, l1, l2, l3, l4, l5, l6, l7, l8, l9, l10, l11, l12, l13, l14, l22, l30, l31, l32, l39, l40, l48, l50, l57, l59, l60, l94, l97, l99, l100, l122, l255, l256, l300, l488, l1000, hf e he]) (fun e he => by
      by_cases q : e = g
      · subst q; rw [upN_s]; exact hv
      · rw [upN_n q]; have := hb e he; omega)
    exact ⟨S1, x, (gRw.rf.w hg).tr y, z⟩
  unfold isTh fX11_moves fX11_moves_L31 fX11_moves_L46
  by_cases q : g = t
  · subst q
    simp only [if_true]
    by_cases z : cn (fun e => decide (f e = f g)) n = 1
    · left
      refine ⟨z, ?_⟩
      simp (disch := omega) only [gC_d, gC_tt, gBp_s, gBd_s, gL_s, gIn_nI, gN_nI, nI_ltI, nI_leI, nI_eq, nI_add, nI_mul, nI_sub, ite_t, ite_f, gR_W2, gRL_W, if_true, if_false, true_and, and_true, false_and, and_false, and_self, Nat.add_zero, l0, l1, l2, l3, l4, l5, l6, l7, l8, l9, l10, l11, l12, l13, l14, l22, l30, l31, l32, l39, l40, l48, l50, l57, l59, l60, l94, l97, l99, l100, l122, l255, l256, l300, l488, l1000, hf g hg, hsz]
    · right
      refine ⟨z, ?_⟩
      obtain ⟨S1, x, y, w⟩ := hgo 50 (by decide)
      refine ⟨S1, ?_, y, w.congr (fun e he => by have := mv50 hb hg hg e he; rw [if_pos rfl] at this; exact this)⟩
      simp (disch := omega) only [gC_d, gC_tt, gBp_s, gBd_s, gL_s, gIn_nI, gN_nI, nI_ltI, nI_leI, nI_eq, nI_add, nI_mul, nI_sub, ite_t, ite_f, gR_W2, gRL_W, if_true, if_false, true_and, and_true, false_and, and_false, and_self, Nat.add_zero, l0, l1, l2, l3, l4, l5, l6, l7, l8, l9, l10, l11, l12, l13, l14, l22, l30, l31, l32, l39, l40, l48, l50, l57, l59, l60, l94, l97, l99, l100, l122, l255, l256, l300, l488, l1000, hf g hg, hsz, x]
  · rw [if_neg q]
    by_cases z : f g = f t
    · left
      refine ⟨z, ?_⟩
      simp (disch := omega) only [gC_d, gC_tt, gBp_s, gBd_s, gL_s, gIn_nI, gN_nI, nI_ltI, nI_leI, nI_eq, nI_add, nI_mul, nI_sub, ite_t, ite_f, gR_W2, gRL_W, if_true, if_false, true_and, and_true, false_and, and_false, and_self, Nat.add_zero, l0, l1, l2, l3, l4, l5, l6, l7, l8, l9, l10, l11, l12, l13, l14, l22, l30, l31, l32, l39, l40, l48, l50, l57, l59, l60, l94, l97, l99, l100, l122, l255, l256, l300, l488, l1000, hf g hg, hf t ht]
    · right
      refine ⟨z, ?_⟩
      obtain ⟨S1, x, y, w⟩ := hgo (f t) (by omega)
      refine ⟨S1, ?_, y, w.congr (fun e he => by have := mv50 hb hg ht e he; rw [if_neg q] at this; exact this)⟩
      simp (disch := omega) only [gC_d, gC_tt, gBp_s, gBd_s, gL_s, gIn_nI, gN_nI, nI_ltI, nI_leI, nI_eq, nI_add, nI_mul, nI_sub, ite_t, ite_f, gR_W2, gRL_W, if_true, if_false, true_and, and_true, false_and, and_false, and_self, Nat.add_zero, l0, l1, l2, l3, l4, l5, l6, l7, l8, l9, l10, l11, l12, l13, l14, l22, l30, l31, l32, l39, l40, l48, l50, l57, l59, l60, l94, l97, l99, l100, l122, l255, l256, l300, l488, l1000, hf g hg, hf t ht, x]
theorem m_alone {S : gSt} {n : Nat} {f : Nat → Nat} (h : mN S n) (hf : rowAt S 80 n f) (hC : Can f n) : fX11_alone S = some (nI (cn (fun g => decide (cn (fun e => decide (f e = f g)) n = 1)) n)) := by
  have h8 := h.2.2
  unfold fX11_alone
  refine forFU (fun m a g => fX11_alone_L4 S m a (nI g)) (fun x => x = some (nI (cn (fun g => decide (cn (fun e => decide (f e = f g)) n = 1)) n))) (fun g a => a = nI (cn (fun g => decide (cn (fun e => decide (f e = f g)) n = 1)) g)) n 0 (by omega) ?_ ?_ rfl
  · rintro m g a hg rfl
    right
    refine ⟨_, rfl, ?_⟩
    show fX11_alone_L4 S (m + 1) _ (nI g) = fX11_alone_L4 S m _ (nI (g + 1))
    have cl := cn_le (fun e => decide (f e = f g)) n
    have b1 := hC.lt8 h8 hg
    have hsz := m_sizeOf (q := f g) h (show n ≤ (gLay 80).2 from Nat.le_trans h8 (by decide)) (by decide) hf (fun e he => by have := hC.lt8 h8 he; omega) (by omega)
    rw [fX11_alone_L4, m_guests h, cn_s]
    by_cases z : cn (fun e => decide (f e = f g)) n = 1
    · simp (disch := omega) only [gC_d, gC_tt, gBp_s, gBd_s, gL_s, gIn_nI, gN_nI, nI_ltI, nI_leI, nI_eq, nI_add, nI_mul, nI_sub, ite_t, ite_f, gR_W2, gRL_W, if_true, if_false, true_and, and_true, false_and, and_false, and_self, Nat.add_zero, l0, l1, l2, l3, l4, l5, l6, l7, l8, l9, l10, l11, l12, l13, l14, l22, l30, l31, l32, l39, l40, l48, l50, l57, l59, l60, l94, l97, l99, l100, l122, l255, l256, l300, l488, l1000, hf g hg, hsz, z, decide_true]
    · rw [decide_eq_false z]
      simp (disch := omega) only [gC_d, gC_tt, gBp_s, gBd_s, gL_s, gIn_nI, gN_nI, nI_ltI, nI_leI, nI_eq, nI_add, nI_mul, nI_sub, ite_t, ite_f, gR_W2, gRL_W, if_true, if_false, true_and, and_true, false_and, and_false, and_self, Nat.add_zero, l0, l1, l2, l3, l4, l5, l6, l7, l8, l9, l10, l11, l12, l13, l14, l22, l30, l31, l32, l39, l40, l48, l50, l57, l59, l60, l94, l97, l99, l100, l122, l255, l256, l300, l488, l1000, hf g hg, hsz, Bool.false_eq_true]
  · rintro m a rfl
    show fX11_alone_L4 S (m + 1) _ (nI n) = _
    rw [fX11_alone_L4, m_guests h]
    simp (disch := omega) only [gC_d, gC_tt, gBp_s, gBd_s, gL_s, gIn_nI, gN_nI, nI_ltI, nI_leI, nI_eq, nI_add, nI_mul, nI_sub, ite_t, ite_f, gR_W2, gRL_W, if_true, if_false, true_and, and_true, false_and, and_false, and_self, Nat.add_zero, l0, l1, l2, l3, l4, l5, l6, l7, l8, l9, l10, l11, l12, l13, l14, l22, l30, l31, l32, l39, l40, l48, l50, l57, l59, l60, l94, l97, l99, l100, l122, l255, l256, l300, l488, l1000]
def sm (p : Nat → Nat) : Nat → Nat
  | 0 => 0
  | g + 1 => sm p g + p g
theorem sm_s (p : Nat → Nat) (g : Nat) : sm p (g + 1) = sm p g + p g := rfl
theorem sm_congr {p q : Nat → Nat} : ∀ {n : Nat}, (∀ g, g < n → p g = q g) → sm p n = sm q n
  | 0, _ => rfl
  | n + 1, h => by rw [sm_s, sm_s, sm_congr (n := n) (fun g hg => h g (by omega)), h n (by omega)]
theorem sm_add (p q : Nat → Nat) : ∀ n, sm (fun g => p g + q g) n = sm p n + sm q n
  | 0 => rfl
  | n + 1 => by rw [sm_s, sm_s, sm_s, sm_add p q n]; omega
theorem sm_one {m v : Nat} (p : Nat → Nat) (h : v < m) : sm (fun g => p g * (if v = g then 1 else 0)) m = p v := by
  induction m with
  | zero => exact absurd h (Nat.not_lt_zero _)
  | succ m ih =>
    rw [sm_s]
    by_cases e : v = m
    · subst e
      rw [if_pos rfl, Nat.mul_one]
      have : sm (fun g => p g * (if v = g then 1 else 0)) v = sm (fun _ => 0) v := sm_congr (fun g hg => by rw [if_neg (by omega), Nat.mul_zero])
      have z : ∀ k, sm (fun _ => 0) k = 0 := fun k => by induction k with | zero => rfl | succ k ih => rw [sm_s, ih]
      rw [this, z, Nat.zero_add]
    · rw [ih (by omega), if_neg e, Nat.mul_zero, Nat.add_zero]
theorem cn_sm (p : Nat → Bool) : ∀ n, cn p n = sm (fun g => if p g then 1 else 0) n
  | 0 => rfl
  | n + 1 => by rw [cn_s, sm_s, cn_sm p n]
theorem sm_fib (φ : Nat → Nat) (f : Nat → Nat) (m : Nat) : ∀ k, (∀ g, g < k → f g < m) → sm (fun g => φ (f g)) k = sm (fun p => φ p * cn (fun e => decide (f e = p)) k) m
  | 0, _ => by
    have z : ∀ k, sm (fun p => φ p * cn (fun e => decide (f e = p)) 0) k = 0 := fun k => by
      induction k with
      | zero => rfl
      | succ k ih => rw [sm_s, ih]; rfl
    rw [z]; rfl
  | k + 1, h => by
    rw [sm_s, sm_fib φ f m k (fun g hg => h g (by omega)), ← sm_one φ (h k (by omega)), ← sm_add]
    refine sm_congr (fun p _ => ?_)
    rw [cn_s, Nat.mul_add]
    congr 1
    by_cases e : f k = p
    · rw [if_pos e, if_pos (decide_eq_true e)]
    · rw [if_neg e, if_neg (by rw [decide_eq_true_eq]; exact e)]
/-- so many are alone as parties have one guest -/
theorem alone_eq (f : Nat → Nat) (n : Nat) : cn (fun g => decide (cn (fun e => decide (f e = f g)) n = 1)) n = cn (fun p => decide (cn (fun e => decide (f e = p)) n = 1)) (pts f n) := by
  rw [cn_sm, cn_sm, sm_fib (fun p => if decide (cn (fun e => decide (f e = p)) n = 1) then 1 else 0) f (pts f n) n (fun g hg => lt_pts hg)]
  refine sm_congr (fun p _ => ?_)
  by_cases e : cn (fun e => decide (f e = p)) n = 1
  · rw [e]; rfl
  · rw [if_neg (by rw [decide_eq_true_eq]; exact e), Nat.zero_mul]
