/-! images: keep, back, two, between, fewest; needs: 0800 0801 0802 0803 0804 0805 0806 0807 0808 0809 0810 0811 0812 0813 0814 0815 0816 0817 0818 0819 0821 0822 0825 -/
theorem Si.congr {S : gSt} {o k : Nat} {σ σ' : Nat → Nat} (h : Si S o k σ) (e : ∀ j, j < 3 * k → σ j = σ' j) : Si S o k σ' := ⟨h.1, fun j hj => by rw [← e (3 * j) (by omega), ← e (3 * j + 1) (by omega), ← e (3 * j + 2) (by omega)]; exact h.2 j hj⟩
theorem sg_self (σ : Nat → Nat) (k : Nat) : ∀ j, sg σ k (σ (3 * k)) (σ (3 * k + 1)) (σ (3 * k + 2)) j = σ j := fun j => by
  unfold sg
  by_cases a : j = 3 * k
  · rw [if_pos a, a]
  · rw [if_neg a]
    by_cases b : j = 3 * k + 1
    · rw [if_pos b, b]
    · rw [if_neg b]
      by_cases c : j = 3 * k + 2
      · rw [if_pos c, c]
      · rw [if_neg c]
theorem c_copy {S : gSt} {o a k n : Nat} {σ : Nat → Nat} (h : Si S a k σ) (hg : Sg n k σ) (hq : a + 3 < o ∨ o + 3 < a) : ∃ S1, fX6_copy o a S = some S1 ∧ gFr o (o + 4) S S1 ∧ Si S1 o k σ := by
  have hk := hg.1
  unfold fX6_copy fX6_empty
  rw [gL_s, gBp_s]
  refine forS (fun m (T : gSt) j => fX6_copy_L6 o a m (nI j) T) (fun y => ∃ S1, y = some S1 ∧ gFr o (o + 4) S S1 ∧ Si S1 o k σ) (fun j T => gFr o (o + 4) S T ∧ Si T o j σ) k ?_ ?_ (by omega) (gW S o 3 0) ⟨gFr.w0 (by omega) (by omega), gR_Ws _ _ _ _, fun j hj => absurd hj (Nat.not_lt_zero _)⟩
  · rintro m j T hj ⟨hF, hs⟩
    have ha := h.fr hF (by omega)
    obtain ⟨x1, x2, x3⟩ := ha.2 j hj
    obtain ⟨T1, e1, F1, s1⟩ := c_add (x := σ (3 * j)) (y := σ (3 * j + 1)) (c := σ (3 * j + 2)) hs (by omega) (hg.2 j hj).2.2
    refine ⟨T1, ⟨hF.tr F1, s1.congr (fun i _ => sg_self σ j i)⟩, ?_⟩
    show fX6_copy_L6 o a (m + 1) (nI j) T = fX6_copy_L6 o a m (nI (j + 1)) T1
    rw [fX6_copy_L6, ha.1, if_neg (nI_nleI hj (by omega)), gC_ok (gIn_ok (by omega) (by omega)), gC_ok (gIn_ok (by omega) (by omega)), gC_ok (gIn_ok (by omega) (by omega)), gN_nI (by omega), x1, x2, x3, e1, gBp_s, nI_1]
  · rintro m T ⟨hF, hs⟩
    have ha := h.fr hF (by omega)
    refine ⟨T, ?_, hF, hs⟩
    show fX6_copy_L6 o a (m + 1) (nI k) T = _
    rw [fX6_copy_L6, ha.1, if_pos (nI_le (Nat.le_refl k) (by omega))]
/-- image i -/
def imz (Z : Rst) (i : Nat) : Imt := if i = 0 then Z.1 else Z.2.1
def setz (Z : Rst) (i : Nat) (I : Imt) : Rst := if i = 0 then (I, Z.2) else (Z.1, I, Z.2.2)
theorem RX.im {S : gSt} {o i : Nat} {r f σ : Nat → Nat} {w : Nat → Nat → Int} {v : Int32} {k : Nat} {Z : Rst} (h : RX S o r w f v k σ Z) (hi : i < 2) : ImX S (45 + 9 * i) (r 0) (imz Z i) := by
  have : i = 0 ∨ i = 1 := by omega
  rcases this with rfl | rfl
  · exact h.2.2.2.2.2.2.1
  · exact h.2.2.2.2.2.2.2.1
theorem RM.im {S : gSt} {i : Nat} {r f σ : Nat → Nat} {w : Nat → Nat → Int} {v : Int32} {k : Nat} {Z : Rst} (h : RM S r w f v k σ Z) (hi : i < 2) : ImM S i (r 0) (imz Z i) := by
  have : i = 0 ∨ i = 1 := by omega
  rcases this with rfl | rfl
  · exact h.2.2.2.2.1
  · exact h.2.2.2.2.2.1
theorem RG.im {i : Nat} {r f σ : Nat → Nat} {w : Nat → Nat → Int} {k : Nat} {Z : Rst} (h : RG r w f k σ Z) (hi : i < 2) : ImOk (r 0) (imz Z i) := by
  have : i = 0 ∨ i = 1 := by omega
  rcases this with rfl | rfl
  · exact h.2.2.2.1
  · exact h.2.2.2.2.1
theorem RX.setim {S S1 : gSt} {o i : Nat} {r f σ : Nat → Nat} {w : Nat → Nat → Int} {v : Int32} {k : Nat} {I : Imt} {Z : Rst} (h : RX S o r w f v k σ Z) (hi : i < 2) (hF : gFr (45 + 9 * i) (54 + 9 * i) S S1) (hI : ImX S1 (45 + 9 * i) (r 0) I) : RX S1 o r w f v k σ (setz Z i I) := by
  have : i = 0 ∨ i = 1 := by omega
  rcases this with rfl | rfl
  · exact h.x45 hF hI
  · exact h.x54 hF hI
theorem RG.setim {i : Nat} {r f σ : Nat → Nat} {w : Nat → Nat → Int} {k : Nat} {I : Imt} {Z : Rst} (h : RG r w f k σ Z) (hi : i < 2) (hI : ImOk (r 0) I) : RG r w f k σ (setz Z i I) := by
  have : i = 0 ∨ i = 1 := by omega
  rcases this with rfl | rfl
  · exact ⟨h.1, h.2.1, h.2.2.1, hI, h.2.2.2.2⟩
  · exact ⟨h.1, h.2.1, h.2.2.1, h.2.2.2.1, hI, h.2.2.2.2.2⟩
theorem c_isImage (a : Int32) (S : gSt) : (fX10_isImage a S = some 1 ∧ isB a 2) ∨ (fX10_isImage a S = some 0 ∧ ¬ isB a 2) := by
  unfold fX10_isImage
  by_cases z0 : a = 0
  · left; rw [if_pos z0]; exact ⟨rfl, 0, by omega, z0⟩
  · rw [if_neg z0]
    by_cases z1 : a = 1
    · left; rw [if_pos z1]; exact ⟨rfl, 1, by omega, z1⟩
    · right; rw [if_neg z1]
      refine ⟨rfl, ?_⟩
      rintro ⟨g, hg, rfl⟩
      have : g = 0 ∨ g = 1 := by omega
      rcases this with rfl | rfl
      · exact z0 rfl
      · exact z1 rfl
theorem c_imageOf {i : Nat} (hi : i < 2) (S : gSt) : fX10_imageOf (nI i) S = some (45 + 9 * i) := by
  have : i = 0 ∨ i = 1 := by omega
  unfold fX10_imageOf
  rcases this with rfl | rfl
  · rw [if_pos (show nI 0 = 0 from rfl)]
  · rw [if_neg (by decide)]
theorem m_isImage_t {i : Nat} (hi : i < 2) (S : gSt) : fX11_isImage (nI i) S = some 1 := by
  unfold fX11_isImage
  rw [in_t (n := 2) (by decide) (by omega) (by omega) ⟨i, hi, rfl⟩, gBp_s, gC_ok (by decide)]
theorem m_isImage_f {a : Int32} (hi : ¬ isB a 2) (S : gSt) : fX11_isImage a S = some 0 := by
  unfold fX11_isImage
  rw [in_f (n := 2) (by decide) (by omega) (by omega) hi, gBp_s, gC_ok (by decide)]
theorem gIm_i {i : Nat} (hi : i < 2) : gIsIm (45 + 9 * i) = true ∧ gIsSt (45 + 9 * i + 1) = true := by
  have : i = 0 ∨ i = 1 := by omega
  rcases this with rfl | rfl <;> decide
theorem c_take {S : gSt} {o i : Nat} {r f σ : Nat → Nat} {w : Nat → Nat → Int} {v : Int32} {k : Nat} {Z : Rst} (h : RX S o r w f v k σ Z) (hg : Sg (r 0) k σ) (hi : i < 2) : ∃ S1, fX1_take (45 + 9 * i) 36 40 S = some S1 ∧ gFr (45 + 9 * i) (54 + 9 * i) S S1 ∧ RX S1 o r w f v k σ (setz Z i (some (f, v, k, σ))) := by
  obtain ⟨S1, e1, F1, s1⟩ := c_standLike (o := 45 + 9 * i + 1) h.2.2.2.1 (by omega)
  have si1 := h.2.2.2.2.1.fr F1 (by omega)
  obtain ⟨S2, e2, F2, s2⟩ := c_copy (o := 45 + 9 * i + 5) si1 hg (by omega)
  have F12 : gFr (45 + 9 * i) (54 + 9 * i) S S2 := (F1.mono (by omega) (by omega)).tr (F2.mono (by omega) (by omega))
  have F3 : gFr (45 + 9 * i) (45 + 9 * i + 1) S2 (gW (gW S2 (45 + 9 * i) 2 v) (45 + 9 * i) 3 1) := (gFr.w0 (by omega) (by omega)).w (by omega) (by omega)
  have F : gFr (45 + 9 * i) (54 + 9 * i) S (gW (gW S2 (45 + 9 * i) 2 v) (45 + 9 * i) 3 1) := F12.tr (F3.mono (by omega) (by omega))
  refine ⟨gW (gW S2 (45 + 9 * i) 2 v) (45 + 9 * i) 3 1, ?_, F, h.setim hi F ⟨gR_Ws _ _ _ _, (s1.fr F2 (by omega)).fr F3 (by omega), s2.fr F3 (by omega), ?_⟩⟩
  · unfold fX1_take fX2_value
    rw [e1, gBp_s, e2, gBp_s, gBp_s, gL_s, gL_s, F12.2 44 0 (by omega), h.2.2.2.2.2.1]
  · rw [gR_Wk (by omega)]; exact gR_Ws _ _ _ _
theorem c_back {S : gSt} {o i : Nat} {r f σ : Nat → Nat} {w : Nat → Nat → Int} {v : Int32} {k : Nat} {Z : Rst} {I : (Nat → Nat) × Int32 × Nat × (Nat → Nat)} (h : RX S o r w f v k σ Z) (hi : i < 2) (hI : imz Z i = some I) (hg : Sg (r 0) I.2.2.1 I.2.2.2) : ∃ S1, fX1_giveBack (45 + 9 * i) 36 40 S = some S1 ∧ gFr 36 45 S S1 ∧ RX S1 o r w I.1 I.2.1 I.2.2.1 I.2.2.2 Z := by
  have him := h.im hi
  rw [hI] at him
  obtain ⟨m1, m2, m3, m4⟩ := him
  obtain ⟨S1, e1, F1, s1⟩ := c_standLike (o := 36) m2 (by omega)
  have h1 := h.x36 F1 s1
  obtain ⟨S2, e2, F2, s2⟩ := c_copy (o := 40) (m3.fr F1 (by omega)) hg (by omega)
  have h2 := h1.x40 F2 s2
  have F3 : gFr 44 45 S2 (gW S2 44 0 I.2.1) := gFr.w0 (by omega) (by omega)
  refine ⟨gW S2 44 0 I.2.1, ?_, ((F1.mono (by omega) (by omega)).tr (F2.mono (by omega) (by omega))).tr (F3.mono (by omega) (by omega)), h2.x44 F3 (gR_Ws _ _ _ _)⟩
  unfold fX1_giveBack fX2_become
  rw [e1, gBp_s, e2, gBp_s, F2.2 _ 2 (by omega), F1.2 _ 2 (by omega), m4, gL_s, gBp_s]
theorem nar1 : vp_nar .boolean 1 = nI 1 := rfl
theorem m_keepL {S : gSt} {i : Nat} {r f σ : Nat → Nat} {w : Nat → Nat → Int} {v : Int32} {k : Nat} {Z : Rst} (h : RM S r w f v k σ Z) (hW : RW r w) (hC : Can f (r 0)) (hk : k ≤ 10) (hi : i < 2) (hO : ∀ i, i < 2 → ImOk (r 0) (imz Z i)) : ∃ S1, fX11_keep_L16 gFU (nI i) 0 S = some (nI (pts f (r 0)), S1) ∧ gFr 81 83 S S1 ∧ RM S1 r w f v k σ (setz Z i (some (f, v, k, σ))) := by
  have h8 := hW.2.1
  refine forS (fun m (T : gSt) j => fX11_keep_L16 m (nI i) (nI j) T) (fun y => ∃ S1, y = some (nI (pts f (r 0)), S1) ∧ gFr 81 83 S S1 ∧ RM S1 r w f v k σ (setz Z i (some (f, v, k, σ)))) (fun j T => T.2 = S.2 ∧ (∀ p x, p ≠ 81 ∨ (x < 40 * i ∨ 40 * i + 40 ≤ x) → gR T p x = gR S p x) ∧ ∀ x, x < j → gR T 81 (40 * i + x) = gR S 80 x) 40 ?_ ?_ (by omega) S ⟨rfl, fun _ _ _ => rfl, fun x hx => absurd hx (Nat.not_lt_zero _)⟩
  · rintro m j T hj ⟨a0, a1, a2⟩
    refine ⟨gW T 81 (40 * i + j) (gR S 80 j), ⟨a0, fun p x hp => ?_, fun x hx => ?_⟩, ?_⟩
    · rw [gR_W2, if_neg (by omega)]; exact a1 p x hp
    · by_cases z : x = j
      · subst z; exact gR_Ws _ _ _ _
      · rw [gR_Wk (by omega)]; exact a2 x (by omega)
    · show fX11_keep_L16 (m + 1) (nI i) (nI j) T = fX11_keep_L16 m (nI i) (nI (j + 1)) _
      rw [fX11_keep_L16, l40, if_neg (nI_nleI hj (by omega)), gC_ok (gIn_ok (by omega) (by omega)), nI_mul, nI_add, gC_ok (gIn_ok (by omega) (by omega)), gL_s, gN_nI (by omega), gN_nI (by omega), a1 80 j (by omega), nI_1]
  · rintro m T ⟨a0, a1, a2⟩
    obtain ⟨hT, hf, ⟨k1, k2⟩, hv, i0, i1, ⟨t1, t2⟩, ht⟩ := h
    have e81 : ∀ x, x < 40 → gR (gW T 82 i (nI 1)) 81 (40 * i + x) = gR S 80 x := fun x hx => by rw [gR_Wp (by omega)]; exact a2 x hx
    have eo : ∀ p x, p ≠ 81 → p ≠ 82 → gR (gW T 82 i (nI 1)) p x = gR S p x := fun p x h1 h2 => by rw [gR_Wp h2]; exact a1 p x (Or.inl h1)
    have new : ImM (gW T 82 i (nI 1)) i (r 0) (some (f, v, k, σ)) := ⟨gR_Ws _ _ _ _, fun g hg => by rw [e81 g (by omega)]; exact hf g hg, by rw [e81 8 (by omega)]; exact k1, fun j hj => by rw [e81 (9 + j) (by show 9 + j < 40; have : j < 3 * k := hj; omega)]; exact k2 j hj, by rw [e81 39 (by omega)]; exact hv⟩
    have old : ∀ i' I, i' < 2 → i' ≠ i → ImOk (r 0) I → ImM S i' (r 0) I → ImM (gW T 82 i (nI 1)) i' (r 0) I := fun i' I hi' hne ho hI => by
      have e2 : gR (gW T 82 i (nI 1)) 82 i' = gR S 82 i' := by rw [gR_Wk hne]; exact a1 82 i' (by omega)
      have e1 : ∀ x, x < 40 → gR (gW T 82 i (nI 1)) 81 (40 * i' + x) = gR S 81 (40 * i' + x) := fun x hx => by rw [gR_Wp (by omega)]; exact a1 81 _ (by omega)
      cases I with
      | none => show gR (gW T 82 i (nI 1)) 82 i' = nI 0; rw [e2]; exact hI
      | some I =>
        obtain ⟨b0, b1, b2, b3, b4⟩ := hI
        have hI10 : I.2.2.1 ≤ 10 := ho.2.1
        refine ⟨by rw [e2]; exact b0, fun g hg => ?_, ?_, fun j hj => ?_, ?_⟩
        · rw [e1 g (by omega)]; exact b1 g hg
        · rw [e1 8 (by omega)]; exact b2
        · rw [e1 (9 + j) (by omega)]; exact b3 j hj
        · rw [e1 39 (by omega)]; exact b4
    have hF : gFr 81 83 S (gW T 82 i (nI 1)) := ⟨a0, fun p x hp => eo p x (by omega) (by omega)⟩
    have hmn : mN (gW T 82 i (nI 1)) (r 0) := (hT.mN hW).fr hF (by omega)
    have hf' : rowAt (gW T 82 i (nI 1)) 80 (r 0) f := fun g hg => by rw [eo 80 g (by omega) (by omega)]; exact hf g hg
    refine ⟨gW T 82 i (nI 1), ?_, hF, ?_⟩
    · show fX11_keep_L16 (m + 1) (nI i) (nI 40) T = _
      rw [fX11_keep_L16, l40, if_pos (nI_le (Nat.le_refl 40) (by omega)), gC_ok (gIn_ok (by omega) (by omega)), gN_nI (by omega), nar1, gL_s, m_partiesOf hmn (by have := g80.1; omega) g80.2 hf' (fun g hg => by have := hC.lt8 h8 hg; omega), gBp_s]
    · have : i = 0 ∨ i = 1 := by omega
      have hk' : gR (gW T 82 i (nI 1)) 80 8 = nI k ∧ ∀ j, j < 3 * k → gR (gW T 82 i (nI 1)) 80 (9 + j) = nI (σ j) := ⟨by rw [eo 80 8 (by omega) (by omega)]; exact k1, fun j hj => by rw [eo 80 _ (by omega) (by omega)]; exact k2 j hj⟩
      have hv' : gR (gW T 82 i (nI 1)) 80 39 = v := by rw [eo 80 39 (by omega) (by omega)]; exact hv
      have ht' : gR (gW T 82 i (nI 1)) 77 3 = nI Z.2.2.1 ∧ ∀ j, j < Z.2.2.1 → gR (gW T 82 i (nI 1)) 78 j = nI (Z.2.2.2.1 j) := ⟨by rw [eo 77 3 (by omega) (by omega)]; exact t1, fun j hj => by rw [eo 78 _ (by omega) (by omega)]; exact t2 j hj⟩
      have hl' : gRL (gW T 82 i (nI 1)) 77 = Z.2.2.2.2 := by show T.2 77 = _; rw [a0]; exact ht
      have hT' := hT.fr hF (by omega)
      rcases this with rfl | rfl
      · exact ⟨hT', hf', hk', hv', new, old 1 _ (by omega) (by omega) (hO 1 (by omega)) i1, ht', hl'⟩
      · exact ⟨hT', hf', hk', hv', old 0 _ (by omega) (by omega) (hO 0 (by omega)) i0, new, ht', hl'⟩
theorem t_keep (a : Int32) : Tw (fX10_keep a) (fX11_keep a) := by
  rintro S ⟨o, r, w, f, v, k, σ, Z, hG, hX, hM⟩
  have hW := hG.1
  unfold fX10_keep fX11_keep
  rcases c_isImage a S with ⟨e1, i, hi, rfl⟩ | ⟨e1, hn⟩
  · obtain ⟨S1, e2, F1, hX1⟩ := c_take hX hG.2.2.1 hi
    have hM1 := (hM.fr F1 (by omega)).sc (gW7 S1)
    obtain ⟨S2, e3, F2, hM2⟩ := m_keepL hM1 hW hG.2.1 hG.2.2.1.1 hi (fun i hi => hG.im hi)
    have hG2 : RG r w f k σ (setz Z i (some (f, v, k, σ))) := hG.setim hi (I := some (f, v, k, σ)) ⟨hG.2.1, hG.2.2.1⟩
    refine ⟨nI (pts f (r 0)), S1, S2, ?_, ?_, o, r, w, f, v, k, σ, _, hG2, (hX1.sc (gW7 S1)).up F2 (by omega), hM2⟩
    · rw [e1, gBp_s, if_neg (by decide), c_imageOf hi, gBp_s, gC_ok (gIm_i hi).1, e2, gBp_s, show fX7_parties 36 S1 = some _ from congrArg some hX1.2.2.2.1.2.1, gBp_s]
    · rw [gL_s, m_isImage_t hi, gBp_s, if_neg (by decide), e3]
  · exact ⟨-1, S, gW S 77 0 0, by rw [e1, gBp_s, if_pos rfl], by rw [gL_s, m_isImage_f hn, gBp_s, if_pos rfl], o, r, w, f, v, k, σ, Z, hG, hX.sc (gW7 S), hM.sc (gW7 S)⟩
theorem m_backL {S : gSt} {i : Nat} {r f σ : Nat → Nat} {w : Nat → Nat → Int} {v : Int32} {k : Nat} {Z : Rst} {I : (Nat → Nat) × Int32 × Nat × (Nat → Nat)} (h : RM S r w f v k σ Z) (hW : RW r w) (hi : i < 2) (hI : imz Z i = some I) (hO : Can I.1 (r 0) ∧ Sg (r 0) I.2.2.1 I.2.2.2) : ∃ S1, fX11_back_L28 gFU (nI i) 0 S = some (nI (pts I.1 (r 0)), S1) ∧ gFr 80 81 S S1 ∧ RM S1 r w I.1 I.2.1 I.2.2.1 I.2.2.2 Z := by
  have h8 := hW.2.1
  have him := h.im hi
  rw [hI] at him
  obtain ⟨b0, b1, b2, b3, b4⟩ := him
  have hI10 := hO.2.1
  refine forS (fun m (T : gSt) j => fX11_back_L28 m (nI i) (nI j) T) (fun y => ∃ S1, y = some (nI (pts I.1 (r 0)), S1) ∧ gFr 80 81 S S1 ∧ RM S1 r w I.1 I.2.1 I.2.2.1 I.2.2.2 Z) (fun j T => gRw 80 40 S T ∧ ∀ x, x < j → gR T 80 x = gR S 81 (40 * i + x)) 40 ?_ ?_ (by omega) S ⟨gRw.rf, fun x hx => absurd hx (Nat.not_lt_zero _)⟩
  · rintro m j T hj ⟨a1, a2⟩
    refine ⟨gW T 80 j (gR S 81 (40 * i + j)), ⟨a1.w hj, fun x hx => ?_⟩, ?_⟩
    · by_cases z : x = j
      · subst z; exact gR_Ws _ _ _ _
      · rw [gR_Wk (by omega)]; exact a2 x (by omega)
    · show fX11_back_L28 (m + 1) (nI i) (nI j) T = fX11_back_L28 m (nI i) (nI (j + 1)) _
      rw [fX11_back_L28, l40, if_neg (nI_nleI hj (by omega)), nI_mul, nI_add, gC_ok (gIn_ok (by omega) (by omega)), gC_ok (gIn_ok (by omega) (by omega)), gL_s, gN_nI (by omega), gN_nI (by omega), a1.2 81 _ (by omega), nI_1]
  · rintro m T ⟨a1, a2⟩
    have hf : rowAt T 80 (r 0) I.1 := fun g hg => by rw [a2 g (by omega)]; exact b1 g hg
    refine ⟨T, ?_, a1.fr (by omega) (by omega), h.s80 a1 hf ⟨by rw [a2 8 (by omega)]; exact b2, fun j hj => by rw [a2 _ (by omega)]; exact b3 j hj⟩ (by rw [a2 39 (by omega)]; exact b4)⟩
    show fX11_back_L28 (m + 1) (nI i) (nI 40) T = _
    rw [fX11_back_L28, l40, if_pos (nI_le (Nat.le_refl 40) (by omega)), m_partiesOf ((h.mn hW).rw a1 (by omega)) (by have := g80.1; omega) g80.2 hf (fun g hg => by have := hO.1.lt8 h8 hg; omega), gBp_s]
/-- whether an image is kept, both halves -/
theorem kept_c {S : gSt} {o i : Nat} {r f σ : Nat → Nat} {w : Nat → Nat → Int} {v : Int32} {k : Nat} {Z : Rst} (h : RX S o r w f v k σ Z) (hi : i < 2) : (imz Z i = none ∧ fX1_isKept (45 + 9 * i) S = some 0) ∨ ∃ I, imz Z i = some I ∧ fX1_isKept (45 + 9 * i) S = some 1 := by
  have him := h.im hi
  unfold fX1_isKept
  cases hI : imz Z i with
  | none =>
    rw [hI] at him
    have him : gR S (45 + 9 * i) 3 = nI 0 := him
    left
    rw [him, gC_ok (by decide)]
    exact ⟨rfl, rfl⟩
  | some I =>
    rw [hI] at him
    have h1 := him.1
    right
    rw [h1, gC_ok (by decide)]
    exact ⟨I, rfl, rfl⟩
theorem kept_m {S : gSt} {i : Nat} {r f σ : Nat → Nat} {w : Nat → Nat → Int} {v : Int32} {k : Nat} {Z : Rst} (h : RM S r w f v k σ Z) (hi : i < 2) : (imz Z i = none → gR S 82 i = 0) ∧ (∀ I, imz Z i = some I → ¬ gR S 82 i = 0) := by
  have him := h.im hi
  constructor
  · intro hI
    rw [hI] at him
    exact him
  · intro I hI
    rw [hI] at him
    rw [him.1]
    decide
theorem t_back (a : Int32) : Tw (fX10_back a) (fX11_back a) := by
  rintro S ⟨o, r, w, f, v, k, σ, Z, hG, hX, hM⟩
  have hW := hG.1
  unfold fX10_back fX11_back
  rcases c_isImage a S with ⟨e1, i, hi, rfl⟩ | ⟨e1, hn⟩
  · rcases kept_c hX hi with ⟨hI, e2⟩ | ⟨I, hI, e2⟩
    · have hM1 := hM.sc (gW7 S)
      refine ⟨-2, S, gW S 77 0 0, ?_, ?_, o, r, w, f, v, k, σ, Z, hG, hX.sc (gW7 S), hM1⟩
      · rw [e1, gBp_s, if_neg (by decide), c_imageOf hi, gBp_s, gC_ok (gIm_i hi).1, e2, gBp_s, if_pos rfl]
      · rw [gL_s, m_isImage_t hi, gBp_s, if_neg (by decide), gC_ok (gIn_ok (by omega) (by omega)), gN_nI (by omega), if_pos ((kept_m hM1 hi).1 hI)]
    · have hO := hG.im hi
      rw [hI] at hO
      obtain ⟨S1, e3, F1, hX1⟩ := c_back hX hi hI hO.2
      have hM1 := (hM.fr F1 (by omega)).sc (gW7 S1)
      obtain ⟨S2, e4, F2, hM2⟩ := m_backL hM1 hW hi hI hO
      refine ⟨nI (pts I.1 (r 0)), S1, S2, ?_, ?_, o, r, w, I.1, I.2.1, I.2.2.1, I.2.2.2, Z, ⟨hW, hO.1, hO.2, hG.2.2.2⟩, (hX1.sc (gW7 S1)).up F2 (by omega), hM2⟩
      · rw [e1, gBp_s, if_neg (by decide), c_imageOf hi, gBp_s, gC_ok (gIm_i hi).1, e2, gBp_s, if_neg (by decide), e3, gBp_s, show fX7_parties 36 S1 = some _ from congrArg some hX1.2.2.2.1.2.1, gBp_s]
      · rw [gL_s, m_isImage_t hi, gBp_s, if_neg (by decide), gC_ok (gIn_ok (by omega) (by omega)), gN_nI (by omega), if_neg ((kept_m hM1 hi).2 I hI), e4]
  · exact ⟨-1, S, gW S 77 0 0, by rw [e1, gBp_s, if_pos rfl], by rw [gL_s, m_isImage_f hn, gBp_s, if_pos rfl], o, r, w, f, v, k, σ, Z, hG, hX.sc (gW7 S), hM.sc (gW7 S)⟩
theorem c_compare {S : gSt} {o i : Nat} {r f σ : Nat → Nat} {w : Nat → Nat → Int} {v : Int32} {k : Nat} {Z : Rst} {I : (Nat → Nat) × Int32 × Nat × (Nat → Nat)} (h : RX S o r w f v k σ Z) (hi : i < 2) (hI : imz Z i = some I) : ∃ S1 c, fX3_compare 36 (45 + 9 * i + 1) S = some S1 ∧ gFr 63 77 S S1 ∧ St S1 64 (r 0) (can (fun g => f g * 8 + I.1 g)) ∧ St S1 68 (r 0) c ∧ Cl (r 0) f I.1 c := by
  have him := h.im hi
  rw [hI] at him
  have hf := h.2.2.2.1
  obtain ⟨S1, e1, F1, s1⟩ := c_meet (o := 64) hf him.2.1 (by omega) (by omega)
  obtain ⟨S2, e2, F2, s2⟩ := c_standLike (o := 68) (hf.fr F1 (by omega)) (by omega)
  have hk2 := (him.2.1.fr F1 (by omega)).fr F2 (by omega)
  obtain ⟨S3, c, e3, F3, s3, hc⟩ := c_mergeAlong s2 hk2 (by omega)
  refine ⟨S3, c, ?_, ((F1.mono (by omega) (by omega)).tr (F2.mono (by omega) (by omega))).tr (F3.mono (by omega) (by omega)), (s1.fr F2 (by omega)).fr F3 (by omega), s3, hc⟩
  unfold fX3_compare
  rw [e1, gBp_s, e2, gBp_s, e3, gBp_s]
theorem t_two (a b c : Int32) : Tw (fX10_two a b c) (fX11_two a b c) := by
  rintro S ⟨o, r, w, f, v, k, σ, Z, hG, hX, hM⟩
  have hW := hG.1
  have h8 := hW.2.1
  have hC := hG.2.1
  have hM' := hM.sc (gW7 S)
  have hX' := hX.sc (gW7 S)
  have bad : ∀ x, fX10_two a b c S = some (x, S) → fX11_two a b c S = some (x, gW S 77 0 0) → ∃ v S1 S2, fX10_two a b c S = some (v, S1) ∧ fX11_two a b c S1 = some (v, S2) ∧ Rel S2 := fun x e1 e2 => ⟨x, S, _, e1, e2, o, r, w, f, v, k, σ, Z, hG, hX', hM'⟩
  rcases c_isImage a S with ⟨e1, i, hi, rfl⟩ | ⟨e1, hn⟩
  · rcases cB b (n := 2) (by omega) with ⟨z, hz, rfl⟩ | ⟨hz, q⟩
    · have c0 : ¬ nI z < 0 := nI_pos (by omega)
      have c1 : ¬ 1 < nI z := fun y => absurd ((nI_ltI (a := 1) (by omega) (by omega)).mp y) (by omega)
      rcases c_isGuest hX hW c with ⟨e2, g, hg, rfl⟩ | ⟨e2, hn⟩
      · have m2 : ∀ T, RM T r w f v k σ Z → fX11_isGuest (nI g) T = some 1 := fun T hT => by
          rcases m_isGuest (hT.mn hW) (nI g) with ⟨e, -⟩ | ⟨-, h2⟩
          · exact e
          · exact absurd ⟨g, hg, rfl⟩ h2
        rcases kept_c hX hi with ⟨hI, e3⟩ | ⟨I, hI, e3⟩
        · refine bad (-2) ?_ ?_
          · unfold fX10_two
            rw [e1, gBp_s, if_neg (by decide), if_neg c0, if_neg c1, e2, gBp_s, if_neg (by decide), c_imageOf hi, gBp_s, gC_ok (gIm_i hi).1, e3, gBp_s, if_pos rfl]
          · unfold fX11_two
            rw [gL_s, m_isImage_t hi, gBp_s, if_neg (by decide), in_t (n := 2) (by decide) (by omega) (by omega) ⟨z, hz, rfl⟩, gBp_s, if_neg (by decide), m2 _ hM', gBp_s, if_neg (by decide), gC_ok (gIn_ok (by omega) (by omega)), gN_nI (by omega), if_pos ((kept_m hM' hi).1 hI)]
        · have hO := hG.im hi
          rw [hI] at hO
          obtain ⟨S1, d, e4, F1, s1, s2, hc⟩ := c_compare hX hi hI
          have hX1 := (hX.up F1 (by omega)).sc (gW7 S1)
          have hM1 := (hM.fr F1 (by omega)).sc (gW7 S1)
          have him := hM1.im hi
          rw [hI] at him
          have hc1 : fX10_two (nI i) (nI z) (nI g) S = if nI z = 0 then some (nI (can (fun g => f g * 8 + I.1 g) g), S1) else some (nI (d g), S1) := by
            unfold fX10_two
            rw [e1, gBp_s, if_neg (by decide), if_neg c0, if_neg c1, e2, gBp_s, if_neg (by decide), c_imageOf hi, gBp_s, gC_ok (gIm_i hi).1, e3, gBp_s, if_neg (by decide), show fX1_standing (45 + 9 * i) S = some (45 + 9 * i + 1) from rfl, gBp_s, gC_ok (gIm_i hi).2, e4, gBp_s, show fX3_finer S1 = some 64 from rfl, show fX3_coarser S1 = some 68 from rfl, gBp_s, gBp_s, gC_ok (by decide), gC_ok (by decide), c_partyOf s1 hg, c_partyOf s2 hg, gBp_s, gBp_s]
          have hm1 : fX11_two (nI i) (nI z) (nI g) S1 = if nI z = 0 then (gBp (fX11_finer (nI i) (gW S1 77 0 0)) (fun S_6 => gC (gIn (nI g) 8) (some (gR S_6 83 (gN (nI g)), S_6)))) else (gBp (fX11_coarser (nI i) (gW S1 77 0 0)) (fun S_5 => gC (gIn (nI g) 8) (some (gR S_5 83 (gN (nI g)), S_5)))) := by
            unfold fX11_two
            rw [gL_s, m_isImage_t hi, gBp_s, if_neg (by decide), in_t (n := 2) (by decide) (by omega) (by omega) ⟨z, hz, rfl⟩, gBp_s, if_neg (by decide), m2 _ hM1, gBp_s, if_neg (by decide), gC_ok (gIn_ok (by omega) (by omega)), gN_nI (by omega), if_neg ((kept_m hM1 hi).2 I hI)]
          by_cases z0 : nI z = 0
          · rw [if_pos z0] at hc1 hm1
            obtain ⟨S2, e5, F2, r2⟩ := m_finer (hM1.mn hW) hM1.2.1 him.2.1 hi hC hO.1
            refine ⟨_, S1, S2, hc1, ?_, o, r, w, f, v, k, σ, Z, hG, hX1.sc (F2.sc (by omega) (by omega)), hM1.sc (F2.sc (by omega) (by omega))⟩
            rw [hm1, e5, gBp_s, gC_ok (gIn_ok (by omega) (by omega)), gN_nI (by omega), r2 g hg]
          · rw [if_neg z0] at hc1 hm1
            obtain ⟨S2, e5, F2, r2⟩ := m_coarser (c := d) (hM1.mn hW) hM1.2.1 him.2.1 hi hC hO.1 s2.2.2.2.2.1 hc
            refine ⟨_, S1, S2, hc1, ?_, o, r, w, f, v, k, σ, Z, hG, hX1.sc (F2.sc (by omega) (by omega)), hM1.sc (F2.sc (by omega) (by omega))⟩
            rw [hm1, e5, gBp_s, gC_ok (gIn_ok (by omega) (by omega)), gN_nI (by omega), r2 g hg]
      · refine bad (-1) ?_ ?_
        · unfold fX10_two
          rw [e1, gBp_s, if_neg (by decide), if_neg c0, if_neg c1, e2, gBp_s, if_pos rfl]
        · unfold fX11_two
          rcases m_isGuest (hM'.mn hW) c with ⟨-, h2⟩ | ⟨m2, -⟩
          · exact absurd h2 hn
          · rw [gL_s, m_isImage_t hi, gBp_s, if_neg (by decide), in_t (n := 2) (by decide) (by omega) (by omega) ⟨z, hz, rfl⟩, gBp_s, if_neg (by decide), m2, gBp_s, if_pos rfl]
    · refine bad (-1) ?_ ?_
      · unfold fX10_two
        rw [e1, gBp_s, if_neg (by decide)]
        rcases q with q | ⟨q1, q2⟩
        · rw [if_pos q]
        · rw [if_neg q1, if_pos (show 1 < b from Int32.lt_of_lt_of_le (by decide) (show (2 : Int32) ≤ b from q2))]
      · unfold fX11_two
        rw [gL_s, m_isImage_t hi, gBp_s, if_neg (by decide), in_f (n := 2) (by decide) (by omega) (by omega) hz, gBp_s, if_pos rfl]
  · refine bad (-1) ?_ ?_
    · unfold fX10_two
      rw [e1, gBp_s, if_pos rfl]
    · unfold fX11_two
      rw [gL_s, m_isImage_f hn, gBp_s, if_pos rfl]
theorem t_between (a : Int32) : Tw (fX10_between a) (fX11_between a) := by
  rintro S ⟨o, r, w, f, v, k, σ, Z, hG, hX, hM⟩
  have hW := hG.1
  have h8 := hW.2.1
  have hC := hG.2.1
  unfold fX10_between fX11_between
  rcases c_isImage a S with ⟨e1, i, hi, rfl⟩ | ⟨e1, hn⟩
  · rcases kept_c hX hi with ⟨hI, e2⟩ | ⟨I, hI, e2⟩
    · have hM1 := hM.sc (gW7 S)
      refine ⟨-2, S, gW S 77 0 0, ?_, ?_, o, r, w, f, v, k, σ, Z, hG, hX.sc (gW7 S), hM1⟩
      · rw [e1, gBp_s, if_neg (by decide), c_imageOf hi, gBp_s, gC_ok (gIm_i hi).1, e2, gBp_s, if_pos rfl]
      · rw [gL_s, m_isImage_t hi, gBp_s, if_neg (by decide), gC_ok (gIn_ok (by omega) (by omega)), gN_nI (by omega), if_pos ((kept_m hM1 hi).1 hI)]
    · have hO := hG.im hi
      rw [hI] at hO
      obtain ⟨S1, d, e4, F1, s1, s2, hc⟩ := c_compare hX hi hI
      have hX1 := (hX.up F1 (by omega)).sc (gW7 S1)
      have hM1 := (hM.fr F1 (by omega)).sc (gW7 S1)
      have href : ∀ a b, a < r 0 → b < r 0 → can (fun g => f g * 8 + I.1 g) a = can (fun g => f g * 8 + I.1 g) b → d a = d b := fun a b ha hb e => by
        rw [can_iff] at e
        have e : f a * 8 + I.1 a = f b * 8 + I.1 b := e
        have k1 := hO.1.lt8 h8 ha
        have k2 := hO.1.lt8 h8 hb
        exact hc.1 a b ha hb (Or.inl (by omega))
      have e5 := c_within s1 s2 href
      have him := hM1.im hi
      rw [hI] at him
      obtain ⟨S2, e6, F2, r2⟩ := m_finer (hM1.mn hW) hM1.2.1 him.2.1 hi hC hO.1
      have hX2 := hX1.sc (F2.sc (by omega) (by omega))
      have hM2 := hM1.sc (F2.sc (by omega) (by omega))
      obtain ⟨S3, e7, F3, r3⟩ := m_other (x := nI i) (hM2.mn hW) r2
      have hX3 := hX2.sc (F3.sc (by omega) (by omega))
      have hM3 := hM2.sc (F3.sc (by omega) (by omega))
      have him3 := hM3.im hi
      rw [hI] at him3
      obtain ⟨S4, e8, F4, r4⟩ := m_coarser (c := d) (hM3.mn hW) hM3.2.1 him3.2.1 hi hC hO.1 s2.2.2.2.2.1 hc
      have hX4 := hX3.sc (F4.sc (by omega) (by omega))
      have hM4 := hM3.sc (F4.sc (by omega) (by omega))
      have r3' : rowAt S4 84 (r 0) (can (fun g => f g * 8 + I.1 g)) := fun g hg => by rw [F4.2 84 g (by omega)]; exact r3 g hg
      have e9 := m_bet (hM4.mn hW) r4 r3' s2.2.2.2.2.1 (Can_can _ _)
      refine ⟨pr (can (fun g => f g * 8 + I.1 g)) d (r 0) (pts d (r 0)), S1, S4, ?_, ?_, o, r, w, f, v, k, σ, Z, hG, hX4, hM4⟩
      · rw [e1, gBp_s, if_neg (by decide), c_imageOf hi, gBp_s, gC_ok (gIm_i hi).1, e2, gBp_s, if_neg (by decide), show fX1_standing (45 + 9 * i) S = some (45 + 9 * i + 1) from rfl, gBp_s, gC_ok (gIm_i hi).2, e4, gBp_s, e5, gBp_s]
      · rw [gL_s, m_isImage_t hi, gBp_s, if_neg (by decide), gC_ok (gIn_ok (by omega) (by omega)), gN_nI (by omega), if_neg ((kept_m hM1 hi).2 I hI), e6, gBp_s, e7, e8, gBp_s, e9]
  · exact ⟨-1, S, gW S 77 0 0, by rw [e1, gBp_s, if_pos rfl], by rw [gL_s, m_isImage_f hn, gBp_s, if_pos rfl], o, r, w, f, v, k, σ, Z, hG, hX.sc (gW7 S), hM.sc (gW7 S)⟩
theorem t_fewest (a : Int32) : Tp (fX10_fewest a) (fX11_fewest a) := by
  rintro S ⟨o, r, w, f, v, k, σ, Z, hG, hX, hM⟩
  have hW := hG.1
  have h8 := hW.2.1
  have hC := hG.2.1
  have hM1 := hM.sc (gW7 S)
  have hX1 := hX.sc (gW7 S)
  unfold fX10_fewest fX11_fewest
  rcases c_isImage a S with ⟨e1, i, hi, rfl⟩ | ⟨e1, hn⟩
  · rcases kept_c hX hi with ⟨hI, e2⟩ | ⟨I, hI, e2⟩
    · refine ⟨-2, gW S 77 0 0, ?_, ?_, o, r, w, f, v, k, σ, Z, hG, hX1, hM1⟩
      · rw [e1, gBp_s, if_neg (by decide), c_imageOf hi, gBp_s, gC_ok (gIm_i hi).1, e2, gBp_s, if_pos rfl]
      · rw [gL_s, m_isImage_t hi, gBp_s, if_neg (by decide), gC_ok (gIn_ok (by omega) (by omega)), gN_nI (by omega), if_pos ((kept_m hM1 hi).1 hI)]
    · have hO := hG.im hi
      rw [hI] at hO
      have him := hM1.im hi
      rw [hI] at him
      have hix := hX.im hi
      rw [hI] at hix
      have hp8 := hX.2.2.2.1.pts
      have e3 := c_stay hX.2.2.2.1 hix.2.1 (pts f (r 0)) 0 0 20 (by omega) (by omega) (by omega)
      obtain ⟨S2, e4, F2, g2⟩ := m_few (hM1.mn hW) hM1.2.1 him.2.1 hi hC hO.1
      have hs : gSc (gW S 77 0 0) S2 := gSc.of F2 g2
      refine ⟨nI (r 0) - nI (By (cm f I.1 (r 0)) (pts I.1 (r 0)) (pts f (r 0)) 0 0), S2, ?_, ?_, o, r, w, f, v, k, σ, Z, hG, hX1.sc hs, hM1.sc hs⟩
      · rw [e1, gBp_s, if_neg (by decide), c_imageOf hi, gBp_s, gC_ok (gIm_i hi).1, e2, gBp_s, if_neg (by decide), show fX1_standing (45 + 9 * i) S = some (45 + 9 * i + 1) from rfl, gBp_s, gC_ok (gIm_i hi).2]
        unfold fX3_fewestGoings fX3_stayers_c
        rw [show fX7_guests 36 S = some (nI (r 0)) from congrArg some hX.2.2.2.1.1, gBp_s, show fSY 20 36 (45 + 9 * i + 1) 0 0 S = _ from e3, gBp_s, gBp_s]
      · rw [gL_s, m_isImage_t hi, gBp_s, if_neg (by decide), gC_ok (gIn_ok (by omega) (by omega)), gN_nI (by omega), if_neg ((kept_m hM1 hi).2 I hI), e4]
  · exact ⟨-1, gW S 77 0 0, by rw [e1, gBp_s, if_pos rfl], by rw [gL_s, m_isImage_f hn, gBp_s, if_pos rfl], o, r, w, f, v, k, σ, Z, hG, hX1, hM1⟩
