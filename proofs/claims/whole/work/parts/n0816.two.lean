/-! two standings: finer, coarser; needs: 0800 0801 0802 0803 0804 0805 0806 0807 0808 0809 -/
/-- the row kept in image i -/
def kAt (S : gSt) (i n : Nat) (k : Nat → Nat) : Prop := ∀ g, g < n → gR S 81 (40 * i + g) = nI (k g)
theorem m_finer {S : gSt} {n i : Nat} {f k : Nat → Nat} (h : mN S n) (hf : rowAt S 80 n f) (hk : kAt S i n k) (hi : i < 2) (hC : Can f n) (hD : Can k n) : ∃ S1, fX11_finer (nI i) S = some S1 ∧ gRw 83 n S S1 ∧ rowAt S1 83 n (can (fun g => f g * 8 + k g)) := by
  have h8 := h.2.2
  unfold fX11_finer
  refine forS (fun m (T : gSt) g => fX11_finer_L2 m (nI i) (nI g) T) (fun x => ∃ S1, x = some S1 ∧ gRw 83 n S S1 ∧ rowAt S1 83 n (can (fun g => f g * 8 + k g))) (fun g T => gRw 83 n S T ∧ ∀ e, e < g → gR T 83 e = nI (f e * 8 + k e)) n ?_ ?_ (by omega) S ⟨gRw.rf, fun e h => absurd h (Nat.not_lt_zero _)⟩
  · rintro m g T hg ⟨hF, a1⟩
    refine ⟨gW T 83 g (nI (f g * 8 + k g)), ⟨hF.w hg, fun e he => ?_⟩, ?_⟩
    · by_cases q : e = g
      · subst q; simp (disch := omega) only [gC_d, gC_tt, gBp_s, gBd_s, gL_s, gIn_nI, gN_nI, nI_ltI, nI_leI, nI_eq, nI_add, nI_mul, nI_sub, ite_t, ite_f, gR_W2, gRL_W, if_true, if_false, true_and, and_true, false_and, and_false, and_self, Nat.add_zero, l0, l1, l2, l3, l4, l5, l6, l7, l8, l9, l10, l11, l12, l13, l14, l22, l30, l31, l32, l39, l40, l48, l50, l57, l59, l60, l94, l97, l99, l100, l122, l255, l256, l300, l488, l1000]
      · simp (disch := omega) only [gC_d, gC_tt, gBp_s, gBd_s, gL_s, gIn_nI, gN_nI, nI_ltI, nI_leI, nI_eq, nI_add, nI_mul, nI_sub, ite_t, ite_f, gR_W2, gRL_W, if_true, if_false, true_and, and_true, false_and, and_false, and_self, Nat.add_zero, l0, l1, l2, l3, l4, l5, l6, l7, l8, l9, l10, l11, l12, l13, l14, l22, l30, l31, l32, l39, l40, l48, l50, l57, l59, l60, l94, l97, l99, l100, l122, l255, l256, l300, l488, l1000, a1 e (show e < g by omega)]
    · show fX11_finer_L2 (m + 1) (nI i) (nI g) T = fX11_finer_L2 m (nI i) (nI (g + 1)) _
      have b1 := hC.lt8 h8 hg
      have b2 := hD.lt8 h8 hg
      have e1 : 8 * f g + k g = f g * 8 + k g := by omega
      rw [fX11_finer_L2, m_guests (h.rw hF (by decide))]
      simp (disch := omega) only [gC_d, gC_tt, gBp_s, gBd_s, gL_s, gIn_nI, gN_nI, nI_ltI, nI_leI, nI_eq, nI_add, nI_mul, nI_sub, ite_t, ite_f, gR_W2, gRL_W, if_true, if_false, true_and, and_true, false_and, and_false, and_self, Nat.add_zero, l0, l1, l2, l3, l4, l5, l6, l7, l8, l9, l10, l11, l12, l13, l14, l22, l30, l31, l32, l39, l40, l48, l50, l57, l59, l60, l94, l97, l99, l100, l122, l255, l256, l300, l488, l1000, hF.2, hf g hg, hk g hg, e1]
  · rintro m T ⟨hF, a1⟩
    obtain ⟨S1, e1, e2, e3⟩ := m_numbers (r := 83) (h.rw hF (by decide)) (by decide) (by decide) (by decide) (l := fun g => f g * 8 + k g) a1 (fun g hg => by
      have b1 := hC.lt8 h8 hg
      have b2 := hD.lt8 h8 hg
      show f g * 8 + k g < 1000
      omega)
    refine ⟨S1, ?_, hF.tr e2, e3⟩
    show fX11_finer_L2 (m + 1) (nI i) (nI n) T = _
    rw [fX11_finer_L2, m_guests (h.rw hF (by decide)), gBp_s, if_pos (nI_le (Nat.le_refl _) (by omega)), e1, gBp_s]
theorem co_b {k25 : Int32 → Int32 → gSt → Option gSt} {k35 : Int32 → Int32 → Int32 → gSt → Option gSt} {S0 S : gSt} {n i a : Nat} {t : Int32} {f k c ρ : Nat → Nat} (h : mN S0 n) (hf : rowAt S0 80 n f) (hk : kAt S0 i n k) (hi : i < 2) (hC : Can f n) (hD : Can k n) (hE : ∀ a b, a < n → b < n → (f a = f b ∨ k a = k b) → c a = c b) (ha : a < n) (hF : gRw 83 n S0 S) (hρ : rowAt S 83 n ρ) (hA : ∀ x, x < n → ρ x ≤ x ∧ c (ρ x) = c x) : ∃ S1 ρ', fX11_coarser_L46 k25 k35 gFU (nI i) t (nI a) 0 S = k35 (nI i) t (nI (a + 1)) S1 ∧ gRw 83 n S0 S1 ∧ rowAt S1 83 n ρ' ∧ (∀ x, x ≠ a → ρ' x = ρ x) ∧ ρ' a ≤ ρ a ∧ c (ρ' a) = c a ∧ ∀ b, b < n → (f a = f b ∨ k a = k b) → ρ' a ≤ ρ b := by
  have h8 := h.2.2
  refine forS (fun m (T : gSt × (Nat → Nat)) b => fX11_coarser_L46 k25 k35 m (nI i) t (nI a) (nI b) T.1) (fun y => ∃ S1 ρ', y = k35 (nI i) t (nI (a + 1)) S1 ∧ gRw 83 n S0 S1 ∧ rowAt S1 83 n ρ' ∧ (∀ x, x ≠ a → ρ' x = ρ x) ∧ ρ' a ≤ ρ a ∧ c (ρ' a) = c a ∧ ∀ b, b < n → (f a = f b ∨ k a = k b) → ρ' a ≤ ρ b) (fun b T => gRw 83 n S0 T.1 ∧ rowAt T.1 83 n T.2 ∧ (∀ x, x ≠ a → T.2 x = ρ x) ∧ T.2 a ≤ ρ a ∧ c (T.2 a) = c a ∧ ∀ b', b' < b → b' < n → (f a = f b' ∨ k a = k b') → T.2 a ≤ ρ b') n ?_ ?_ (by omega) (S, ρ) ⟨hF, hρ, fun _ _ => rfl, Nat.le_refl _, (hA a ha).2, fun b h => absurd h (Nat.not_lt_zero _)⟩
  · rintro m b ⟨T, τ⟩ hb ⟨hF, hτ, i1, i2, i3, i4⟩
    have hF : gRw 83 n S0 T := hF
    have hτ : rowAt T 83 n τ := hτ
    have i1 : ∀ x, x ≠ a → τ x = ρ x := i1
    have i2 : τ a ≤ ρ a := i2
    have i3 : c (τ a) = c a := i3
    have i4 : ∀ b', b' < b → b' < n → (f a = f b' ∨ k a = k b') → τ a ≤ ρ b' := i4
    have ta := hτ a ha
    have tb := hτ b hb
    have fa := hC.lt8 h8 ha
    have fb := hC.lt8 h8 hb
    have ka := hD.lt8 h8 ha
    have kb := hD.lt8 h8 hb
    have la := (hA a ha).1
    have lb := (hA b hb).1
    have lb2 : τ b ≤ 8 := by
      by_cases q : b = a
      · rw [q]; omega
      · rw [i1 b q]; omega
    have hin : (if f a = f b ∨ k a = k b then (if τ a ≤ τ b then fX11_coarser_L46 k25 k35 m (nI i) t (nI a) (nI (b + 1)) (gW T 83 a (nI (τ a))) else fX11_coarser_L46 k25 k35 m (nI i) t (nI a) (nI (b + 1)) (gW T 83 a (nI (τ b)))) else fX11_coarser_L46 k25 k35 m (nI i) t (nI a) (nI (b + 1)) (gW T 83 a (nI (τ a)))) = fX11_coarser_L46 k25 k35 (m + 1) (nI i) t (nI a) (nI b) T := by
      rw [fX11_coarser_L46, m_guests (h.rw hF (by decide))]
      unfold fX11_coarser_L102
      have u1 := hf a ha
      have u2 := hf b hb
      have u3 := hk a ha
      have u4 := hk b hb
      by_cases z1 : f a = f b
      · rw [if_pos (Or.inl z1)]
        by_cases z3 : τ a ≤ τ b
        · rw [if_pos z3]
          simp (disch := omega) only [gC_d, gC_tt, gBp_s, gBd_s, gL_s, gIn_nI, gN_nI, nI_ltI, nI_leI, nI_eq, nI_add, nI_mul, nI_sub, ite_t, ite_f, gR_W2, gRL_W, if_true, if_false, true_and, and_true, false_and, and_false, and_self, Nat.add_zero, l0, l1, l2, l3, l4, l5, l6, l7, l8, l9, l10, l11, l12, l13, l14, l22, l30, l31, l32, l39, l40, l48, l50, l57, l59, l60, l94, l97, l99, l100, l122, l255, l256, l300, l488, l1000, hF.2, u1, u2, u3, u4, ta, tb]
        · rw [if_neg z3]
          simp (disch := omega) only [gC_d, gC_tt, gBp_s, gBd_s, gL_s, gIn_nI, gN_nI, nI_ltI, nI_leI, nI_eq, nI_add, nI_mul, nI_sub, ite_t, ite_f, gR_W2, gRL_W, if_true, if_false, true_and, and_true, false_and, and_false, and_self, Nat.add_zero, l0, l1, l2, l3, l4, l5, l6, l7, l8, l9, l10, l11, l12, l13, l14, l22, l30, l31, l32, l39, l40, l48, l50, l57, l59, l60, l94, l97, l99, l100, l122, l255, l256, l300, l488, l1000, hF.2, u1, u2, u3, u4, ta, tb]
      · by_cases z2 : k a = k b
        · rw [if_pos (Or.inr z2)]
          by_cases z3 : τ a ≤ τ b
          · rw [if_pos z3]
            simp (disch := omega) only [gC_d, gC_tt, gBp_s, gBd_s, gL_s, gIn_nI, gN_nI, nI_ltI, nI_leI, nI_eq, nI_add, nI_mul, nI_sub, ite_t, ite_f, gR_W2, gRL_W, if_true, if_false, true_and, and_true, false_and, and_false, and_self, Nat.add_zero, l0, l1, l2, l3, l4, l5, l6, l7, l8, l9, l10, l11, l12, l13, l14, l22, l30, l31, l32, l39, l40, l48, l50, l57, l59, l60, l94, l97, l99, l100, l122, l255, l256, l300, l488, l1000, hF.2, u1, u2, u3, u4, ta, tb]
          · rw [if_neg z3]
            simp (disch := omega) only [gC_d, gC_tt, gBp_s, gBd_s, gL_s, gIn_nI, gN_nI, nI_ltI, nI_leI, nI_eq, nI_add, nI_mul, nI_sub, ite_t, ite_f, gR_W2, gRL_W, if_true, if_false, true_and, and_true, false_and, and_false, and_self, Nat.add_zero, l0, l1, l2, l3, l4, l5, l6, l7, l8, l9, l10, l11, l12, l13, l14, l22, l30, l31, l32, l39, l40, l48, l50, l57, l59, l60, l94, l97, l99, l100, l122, l255, l256, l300, l488, l1000, hF.2, u1, u2, u3, u4, ta, tb]
        · rw [if_neg (fun y => y.elim z1 z2)]
          simp (disch := omega) only [gC_d, gC_tt, gBp_s, gBd_s, gL_s, gIn_nI, gN_nI, nI_ltI, nI_leI, nI_eq, nI_add, nI_mul, nI_sub, ite_t, ite_f, gR_W2, gRL_W, if_true, if_false, true_and, and_true, false_and, and_false, and_self, Nat.add_zero, l0, l1, l2, l3, l4, l5, l6, l7, l8, l9, l10, l11, l12, l13, l14, l22, l30, l31, l32, l39, l40, l48, l50, l57, l59, l60, l94, l97, l99, l100, l122, l255, l256, l300, l488, l1000, hF.2, u1, u2, u3, u4, ta, tb]
    have hsame : rowAt (gW T 83 a (nI (τ a))) 83 n τ := fun g hg => by
      by_cases q : g = a
      · subst q; simp (disch := omega) only [gC_d, gC_tt, gBp_s, gBd_s, gL_s, gIn_nI, gN_nI, nI_ltI, nI_leI, nI_eq, nI_add, nI_mul, nI_sub, ite_t, ite_f, gR_W2, gRL_W, if_true, if_false, true_and, and_true, false_and, and_false, and_self, Nat.add_zero, l0, l1, l2, l3, l4, l5, l6, l7, l8, l9, l10, l11, l12, l13, l14, l22, l30, l31, l32, l39, l40, l48, l50, l57, l59, l60, l94, l97, l99, l100, l122, l255, l256, l300, l488, l1000]
      · simp (disch := omega) only [gC_d, gC_tt, gBp_s, gBd_s, gL_s, gIn_nI, gN_nI, nI_ltI, nI_leI, nI_eq, nI_add, nI_mul, nI_sub, ite_t, ite_f, gR_W2, gRL_W, if_true, if_false, true_and, and_true, false_and, and_false, and_self, Nat.add_zero, l0, l1, l2, l3, l4, l5, l6, l7, l8, l9, l10, l11, l12, l13, l14, l22, l30, l31, l32, l39, l40, l48, l50, l57, l59, l60, l94, l97, l99, l100, l122, l255, l256, l300, l488, l1000, hτ g hg]
    by_cases z : f a = f b ∨ k a = k b
    · rw [if_pos z] at hin
      by_cases z3 : τ a ≤ τ b
      · rw [if_pos z3] at hin
        refine ⟨(gW T 83 a (nI (τ a)), τ), ⟨hF.w ha, hsame, i1, i2, i3, fun b' h1 h2 h3 => ?_⟩, hin.symm⟩
        show τ a ≤ ρ b'
        by_cases q : b' = b
        · subst q
          by_cases q2 : b' = a
          · rw [q2]; exact i2
          · rw [← i1 b' q2]; exact z3
        · exact i4 b' (by omega) h2 h3
      · rw [if_neg z3] at hin
        have hba : b ≠ a := fun q => z3 (by rw [q]; exact Nat.le_refl _)
        refine ⟨(gW T 83 a (nI (τ b)), upN τ a (τ b)), ⟨hF.w ha, fun g hg => ?_, fun x hx => ?_, ?_, ?_, fun b' h1 h2 h3 => ?_⟩, hin.symm⟩
        · show gR (gW T 83 a (nI (τ b))) 83 g = nI (upN τ a (τ b) g)
          by_cases q : g = a
          · subst q; rw [upN_s]; simp (disch := omega) only [gC_d, gC_tt, gBp_s, gBd_s, gL_s, gIn_nI, gN_nI, nI_ltI, nI_leI, nI_eq, nI_add, nI_mul, nI_sub, ite_t, ite_f, gR_W2, gRL_W, if_true, if_false, true_and, and_true, false_and, and_false, and_self, Nat.add_zero, l0, l1, l2, l3, l4, l5, l6, l7, l8, l9, l10, l11, l12, l13, l14, l22, l30, l31, l32, l39, l40, l48, l50, l57, l59, l60, l94, l97, l99, l100, l122, l255, l256, l300, l488, l1000]
          · rw [upN_n q]; simp (disch := omega) only [gC_d, gC_tt, gBp_s, gBd_s, gL_s, gIn_nI, gN_nI, nI_ltI, nI_leI, nI_eq, nI_add, nI_mul, nI_sub, ite_t, ite_f, gR_W2, gRL_W, if_true, if_false, true_and, and_true, false_and, and_false, and_self, Nat.add_zero, l0, l1, l2, l3, l4, l5, l6, l7, l8, l9, l10, l11, l12, l13, l14, l22, l30, l31, l32, l39, l40, l48, l50, l57, l59, l60, l94, l97, l99, l100, l122, l255, l256, l300, l488, l1000, hτ g hg]
        · show upN τ a (τ b) x = ρ x
          rw [upN_n hx]; exact i1 x hx
        · show upN τ a (τ b) a ≤ ρ a
          rw [upN_s]; omega
        · show c (upN τ a (τ b) a) = c a
          rw [upN_s, i1 b hba, (hA b hb).2]
          exact (hE a b ha hb z).symm
        · show upN τ a (τ b) a ≤ ρ b'
          rw [upN_s]
          by_cases q : b' = b
          · subst q; rw [i1 b' hba]; exact Nat.le_refl _
          · have := i4 b' (by omega) h2 h3; omega
    · rw [if_neg z] at hin
      refine ⟨(gW T 83 a (nI (τ a)), τ), ⟨hF.w ha, hsame, i1, i2, i3, fun b' h1 h2 h3 => ?_⟩, hin.symm⟩
      show τ a ≤ ρ b'
      by_cases q : b' = b
      · subst q; exact absurd h3 z
      · exact i4 b' (by omega) h2 h3
  · rintro m ⟨T, τ⟩ ⟨hF, hτ, i1, i2, i3, i4⟩
    have hF : gRw 83 n S0 T := hF
    refine ⟨T, τ, ?_, hF, hτ, i1, i2, i3, fun b hb => i4 b hb hb⟩
    show fX11_coarser_L46 k25 k35 (m + 1) (nI i) t (nI a) (nI n) T = _
    rw [fX11_coarser_L46, m_guests (h.rw hF (by decide))]
    simp (disch := omega) only [gC_d, gC_tt, gBp_s, gBd_s, gL_s, gIn_nI, gN_nI, nI_ltI, nI_leI, nI_eq, nI_add, nI_mul, nI_sub, ite_t, ite_f, gR_W2, gRL_W, if_true, if_false, true_and, and_true, false_and, and_false, and_self, Nat.add_zero, l0, l1, l2, l3, l4, l5, l6, l7, l8, l9, l10, l11, l12, l13, l14, l22, l30, l31, l32, l39, l40, l48, l50, l57, l59, l60, l94, l97, l99, l100, l122, l255, l256, l300, l488, l1000]
theorem co_a {k25 : Int32 → Int32 → gSt → Option gSt} {S0 S : gSt} {n i t : Nat} {f k c ρ : Nat → Nat} (h : mN S0 n) (hf : rowAt S0 80 n f) (hk : kAt S0 i n k) (hi : i < 2) (hC : Can f n) (hD : Can k n) (hE : ∀ a b, a < n → b < n → (f a = f b ∨ k a = k b) → c a = c b) (hF : gRw 83 n S0 S) (hρ : rowAt S 83 n ρ) (hA : ∀ x, x < n → ρ x ≤ x ∧ c (ρ x) = c x) : ∃ S1 ρ', fX11_coarser_L35 k25 gFU (nI i) (nI t) 0 S = k25 (nI i) (nI (t + 1)) S1 ∧ gRw 83 n S0 S1 ∧ rowAt S1 83 n ρ' ∧ (∀ x, x < n → ρ' x ≤ ρ x) ∧ (∀ x, x < n → ρ' x ≤ x ∧ c (ρ' x) = c x) ∧ ∀ a b, a < n → b < n → (f a = f b ∨ k a = k b) → ρ' a ≤ ρ b := by
  have h8 := h.2.2
  refine forS (fun m (T : gSt × (Nat → Nat)) a => fX11_coarser_L35 k25 m (nI i) (nI t) (nI a) T.1) (fun y => ∃ S1 ρ', y = k25 (nI i) (nI (t + 1)) S1 ∧ gRw 83 n S0 S1 ∧ rowAt S1 83 n ρ' ∧ (∀ x, x < n → ρ' x ≤ ρ x) ∧ (∀ x, x < n → ρ' x ≤ x ∧ c (ρ' x) = c x) ∧ ∀ a b, a < n → b < n → (f a = f b ∨ k a = k b) → ρ' a ≤ ρ b) (fun a T => gRw 83 n S0 T.1 ∧ rowAt T.1 83 n T.2 ∧ (∀ x, x < n → T.2 x ≤ ρ x) ∧ (∀ x, x < n → T.2 x ≤ x ∧ c (T.2 x) = c x) ∧ ∀ x b, x < a → x < n → b < n → (f x = f b ∨ k x = k b) → T.2 x ≤ ρ b) n ?_ ?_ (by omega) (S, ρ) ⟨hF, hρ, fun x _ => Nat.le_refl _, hA, fun x b h => absurd h (Nat.not_lt_zero _)⟩
  · rintro m a ⟨T, τ⟩ ha ⟨hF, hτ, i1, i2, i3⟩
    have hF : gRw 83 n S0 T := hF
    have hτ : rowAt T 83 n τ := hτ
    have i1 : ∀ x, x < n → τ x ≤ ρ x := i1
    have i2 : ∀ x, x < n → τ x ≤ x ∧ c (τ x) = c x := i2
    have i3 : ∀ x b, x < a → x < n → b < n → (f x = f b ∨ k x = k b) → τ x ≤ ρ b := i3
    obtain ⟨S1, ρ', e1, e2, e3, e4, e5, e6, e7⟩ := co_b (k25 := k25) (k35 := fX11_coarser_L35 k25 m) (t := nI t) h hf hk hi hC hD hE ha hF hτ i2
    refine ⟨(S1, ρ'), ⟨e2, e3, fun x hx => ?_, fun x hx => ?_, fun x b h1 h2 h3 h4 => ?_⟩, ?_⟩
    · show ρ' x ≤ ρ x
      have := i1 x hx
      by_cases q : x = a
      · subst q; omega
      · rw [e4 x q]; exact this
    · show ρ' x ≤ x ∧ c (ρ' x) = c x
      have := i2 x hx
      by_cases q : x = a
      · subst q; exact ⟨by omega, e6⟩
      · rw [e4 x q]; exact this
    · show ρ' x ≤ ρ b
      by_cases q : x = a
      · subst q
        exact Nat.le_trans (e7 b h3 h4) (i1 b h3)
      · rw [e4 x q]; exact i3 x b (by omega) h2 h3 h4
    · show fX11_coarser_L35 k25 (m + 1) (nI i) (nI t) (nI a) T = fX11_coarser_L35 k25 m (nI i) (nI t) (nI (a + 1)) S1
      rw [fX11_coarser_L35, m_guests (h.rw hF (by decide)), gBp_s, if_neg (nI_nleI ha (by omega)), e1]
  · rintro m ⟨T, τ⟩ ⟨hF, hτ, i1, i2, i3⟩
    have hF : gRw 83 n S0 T := hF
    refine ⟨T, τ, ?_, hF, hτ, i1, i2, fun a b ha hb => i3 a b ha ha hb⟩
    show fX11_coarser_L35 k25 (m + 1) (nI i) (nI t) (nI n) T = _
    rw [fX11_coarser_L35, m_guests (h.rw hF (by decide)), gBp_s, if_pos (nI_le (Nat.le_refl _) (by omega)), nI_1]
theorem cn_grow {p q : Nat → Bool} : ∀ {n : Nat}, (∀ e, e < n → p e = true → q e = true) → (∃ x, x < n ∧ p x = false ∧ q x = true) → cn p n < cn q n
  | 0, _, ⟨x, h, _⟩ => absurd h (Nat.not_lt_zero _)
  | n + 1, h, ⟨x, h1, h2, h3⟩ => by
    have hle : cn p n ≤ cn q n := by
      have : ∀ m, m ≤ n → cn p m ≤ cn q m := fun m => by
        induction m with
        | zero => intro _; exact Nat.le_refl _
        | succ m ih =>
          intro hm
          have i := ih (by omega)
          have hh := h m (by omega)
          rw [cn_s, cn_s]
          by_cases z : p m = true
          · rw [if_pos z, if_pos (hh z)]; omega
          · rw [if_neg z]; omega
      exact this n (Nat.le_refl _)
    rw [cn_s, cn_s]
    by_cases e : x = n
    · subst e
      rw [if_neg (by rw [h2]; decide), if_pos h3]; omega
    · have := cn_grow (n := n) (fun e he => h e (by omega)) ⟨x, by omega, h2, h3⟩
      have hh := h n (by omega)
      by_cases z : p n = true
      · rw [if_pos z, if_pos (hh z)]; omega
      · rw [if_neg z]; omega
theorem fs_low {c : Nat → Nat} {a x : Nat} (h : c x = c a) : fs c a ≤ x := by
  rcases Nat.lt_or_ge x (fs c a) with z | z
  · exact absurd h (fs_min z)
  · exact z
theorem fs_cong {c : Nat → Nat} {a b : Nat} (h : c a = c b) : fs c a = fs c b := by
  have h1 := fs_eq c a
  have h2 := fs_eq c b
  have h3 := fs_low (c := c) (a := a) (x := fs c b) (by rw [h2, h])
  have h4 := fs_low (c := c) (a := b) (x := fs c a) (by rw [h1, h])
  omega
theorem m_coarser {S : gSt} {n i : Nat} {f k c : Nat → Nat} (h : mN S n) (hf : rowAt S 80 n f) (hk : kAt S i n k) (hi : i < 2) (hC : Can f n) (hD : Can k n) (hcC : Can c n) (hCl : Cl n f k c) : ∃ S1, fX11_coarser (nI i) S = some S1 ∧ gRw 83 n S S1 ∧ rowAt S1 83 n c := by
  have h8 := h.2.2
  have h1 := h.2.1
  unfold fX11_coarser
  have hrounds : ∀ T, gRw 83 n S T → rowAt T 83 n (fun g => g) → ∃ S1, fX11_coarser_L25 gFU (nI i) 0 T = some S1 ∧ gRw 83 n S S1 ∧ rowAt S1 83 n c := by
    intro T hF hT
    refine forS (fun m (T : gSt × (Nat → Nat)) t => fX11_coarser_L25 m (nI i) (nI t) T.1) (fun y => ∃ S1, y = some S1 ∧ gRw 83 n S S1 ∧ rowAt S1 83 n c) (fun t T => gRw 83 n S T.1 ∧ rowAt T.1 83 n T.2 ∧ (∀ x, x < n → T.2 x ≤ x ∧ c (T.2 x) = c x) ∧ ((∀ x, x < n → T.2 x = fs c x) ∨ t < cn (fun x => decide (T.2 x = fs c x)) n)) n ?_ ?_ (by omega) (T, fun g => g) ⟨hF, hT, fun x _ => ⟨Nat.le_refl _, rfl⟩, Or.inr ?_⟩
    · rintro m t ⟨T, ρ⟩ ht ⟨hF, hρ, i1, i2⟩
      have hF : gRw 83 n S T := hF
      have hρ : rowAt T 83 n ρ := hρ
      have i1 : ∀ x, x < n → ρ x ≤ x ∧ c (ρ x) = c x := i1
      have i2 : (∀ x, x < n → ρ x = fs c x) ∨ t < cn (fun x => decide (ρ x = fs c x)) n := i2
      obtain ⟨S1, ρ', e1, e2, e3, e4, e5, e6⟩ := co_a (k25 := fX11_coarser_L25 m) (t := t) h hf hk hi hC hD hCl.1 hF hρ i1
      have hmono : ∀ x, x < n → ρ x = fs c x → ρ' x = fs c x := fun x hx hd => by
        have a1 := e4 x hx
        have a2 := fs_low (c := c) (a := x) (x := ρ' x) (e5 x hx).2
        omega
      refine ⟨(S1, ρ'), ⟨e2, e3, e5, ?_⟩, ?_⟩
      · show (∀ x, x < n → ρ' x = fs c x) ∨ t + 1 < cn (fun x => decide (ρ' x = fs c x)) n
        rcases i2 with i2 | i2
        · left; exact fun x hx => hmono x hx (i2 x hx)
        · by_cases hall : ∀ x, x < n → ρ x = fs c x
          · left; exact fun x hx => hmono x hx (hall x hx)
          · right
            have hex : ∃ x, x < n ∧ ¬ ρ x = fs c x := by
              refine Classical.byContradiction (fun hno => hall (fun x hx => ?_))
              refine Classical.byContradiction (fun y => hno ⟨x, hx, y⟩)
            obtain ⟨u, hu, hud⟩ := hex
            have hedge : ∃ x y, x < n ∧ y < n ∧ (f x = f y ∨ k x = k y) ∧ ρ y = fs c y ∧ ¬ ρ x = fs c x := by
              refine Classical.byContradiction (fun hno => hud ?_)
              have hinv : ∀ x y, x < n → y < n → (f x = f y ∨ k x = k y) → ρ y = fs c y → ρ x = fs c x := fun x y hx hy hxy hd => Classical.byContradiction (fun q => hno ⟨x, y, hx, hy, hxy, hd, q⟩)
              have hm : fs c u < n := Nat.lt_of_le_of_lt (fs_le c u) hu
              have hmd : ρ (fs c u) = fs c (fs c u) := by
                rw [fs_fs]
                have a1 := (i1 _ hm).1
                have a2 := fs_low (c := c) (a := u) (x := ρ (fs c u)) (by rw [(i1 _ hm).2, fs_eq c u])
                omega
              have := hCl.2 (fun a b => ρ a = fs c a ↔ ρ b = fs c b) (fun _ => Iff.rfl) (fun _ _ q => q.symm) (fun _ _ _ q1 q2 => q1.trans q2) (fun a b ha hb hab => ⟨fun q => hinv b a hb ha (hab.imp Eq.symm Eq.symm) q, fun q => hinv a b ha hb hab q⟩) u (fs c u) hu hm (fs_eq c u).symm
              exact this.mpr hmd
            obtain ⟨x, y, hx, hy, hxy, hyd, hxd⟩ := hedge
            have hxd' : ρ' x = fs c x := by
              have a1 := e6 x y hx hy hxy
              have a2 := fs_low (c := c) (a := x) (x := ρ' x) (e5 x hx).2
              have a3 := fs_cong (hCl.1 x y hx hy hxy)
              omega
            have := cn_grow (p := fun x => decide (ρ x = fs c x)) (q := fun x => decide (ρ' x = fs c x)) (n := n) (fun e he hp => decide_eq_true (hmono e he (of_decide_eq_true hp))) ⟨x, hx, decide_eq_false hxd, decide_eq_true hxd'⟩
            omega
      · show fX11_coarser_L25 (m + 1) (nI i) (nI t) T = fX11_coarser_L25 m (nI i) (nI (t + 1)) S1
        rw [fX11_coarser_L25, m_guests (h.rw hF (by decide)), gBp_s, if_neg (nI_nleI ht (by omega)), e1]
    · rintro m ⟨T, ρ⟩ ⟨hF, hρ, i1, i2⟩
      have hF : gRw 83 n S T := hF
      have hρ : rowAt T 83 n ρ := hρ
      have i1 : ∀ x, x < n → ρ x ≤ x ∧ c (ρ x) = c x := i1
      have i2 : (∀ x, x < n → ρ x = fs c x) ∨ n < cn (fun x => decide (ρ x = fs c x)) n := i2
      have i2 : ∀ x, x < n → ρ x = fs c x := by
        rcases i2 with i2 | i2
        · exact i2
        · have := cn_le (fun x => decide (ρ x = fs c x)) n; omega
      obtain ⟨S1, e1, e2, e3⟩ := m_numbers (r := 83) (h.rw hF (by decide)) (by decide) (by decide) (by decide) hρ (fun g hg => by have := (i1 g hg).1; omega)
      refine ⟨S1, ?_, hF.tr e2, e3.congr (fun g hg => ?_)⟩
      · show fX11_coarser_L25 (m + 1) (nI i) (nI n) T = _
        rw [fX11_coarser_L25, m_guests (h.rw hF (by decide)), gBp_s, if_pos (nI_le (Nat.le_refl _) (by omega)), e1, gBp_s]
      · rw [can_congr (k := c) (n := n) (fun a b ha hb => ?_) g hg, can_id hcC hg]
        rw [i2 a ha, i2 b hb]
        constructor
        · intro q
          rw [← fs_eq c a, ← fs_eq c b, q]
        · exact fs_cong
    · show 0 < cn (fun x => decide (x = fs c x)) n
      have : fs c 0 = 0 := by have := fs_le c 0; omega
      exact Nat.lt_of_le_of_lt (Nat.zero_le _) (cn_lt (p := fun x => decide (x = fs c x)) (show 0 < n by omega) (decide_eq_true this.symm))
  refine forS (fun m (T : gSt) g => fX11_coarser_L2 m (nI i) (nI g) T) (fun x => ∃ S1, x = some S1 ∧ gRw 83 n S S1 ∧ rowAt S1 83 n c) (fun g T => gRw 83 n S T ∧ ∀ e, e < g → gR T 83 e = nI e) n ?_ ?_ (by omega) S ⟨gRw.rf, fun e h => absurd h (Nat.not_lt_zero _)⟩
  · rintro m g T hg ⟨hF, a1⟩
    refine ⟨gW T 83 g (nI g), ⟨hF.w hg, fun e he => ?_⟩, ?_⟩
    · by_cases q : e = g
      · subst q; simp (disch := omega) only [gC_d, gC_tt, gBp_s, gBd_s, gL_s, gIn_nI, gN_nI, nI_ltI, nI_leI, nI_eq, nI_add, nI_mul, nI_sub, ite_t, ite_f, gR_W2, gRL_W, if_true, if_false, true_and, and_true, false_and, and_false, and_self, Nat.add_zero, l0, l1, l2, l3, l4, l5, l6, l7, l8, l9, l10, l11, l12, l13, l14, l22, l30, l31, l32, l39, l40, l48, l50, l57, l59, l60, l94, l97, l99, l100, l122, l255, l256, l300, l488, l1000]
      · simp (disch := omega) only [gC_d, gC_tt, gBp_s, gBd_s, gL_s, gIn_nI, gN_nI, nI_ltI, nI_leI, nI_eq, nI_add, nI_mul, nI_sub, ite_t, ite_f, gR_W2, gRL_W, if_true, if_false, true_and, and_true, false_and, and_false, and_self, Nat.add_zero, l0, l1, l2, l3, l4, l5, l6, l7, l8, l9, l10, l11, l12, l13, l14, l22, l30, l31, l32, l39, l40, l48, l50, l57, l59, l60, l94, l97, l99, l100, l122, l255, l256, l300, l488, l1000, a1 e (show e < g by omega)]
    · show fX11_coarser_L2 (m + 1) (nI i) (nI g) T = fX11_coarser_L2 m (nI i) (nI (g + 1)) _
      rw [fX11_coarser_L2, m_guests (h.rw hF (by decide))]
      simp (disch := omega) only [gC_d, gC_tt, gBp_s, gBd_s, gL_s, gIn_nI, gN_nI, nI_ltI, nI_leI, nI_eq, nI_add, nI_mul, nI_sub, ite_t, ite_f, gR_W2, gRL_W, if_true, if_false, true_and, and_true, false_and, and_false, and_self, Nat.add_zero, l0, l1, l2, l3, l4, l5, l6, l7, l8, l9, l10, l11, l12, l13, l14, l22, l30, l31, l32, l39, l40, l48, l50, l57, l59, l60, l94, l97, l99, l100, l122, l255, l256, l300, l488, l1000]
  · rintro m T ⟨hF, a1⟩
    obtain ⟨S1, e1, e2⟩ := hrounds T hF a1
    refine ⟨S1, ?_, e2⟩
    show fX11_coarser_L2 (m + 1) (nI i) (nI n) T = _
    rw [fX11_coarser_L2, m_guests (h.rw hF (by decide)), gBp_s, if_pos (nI_le (Nat.le_refl _) (by omega)), e1]
