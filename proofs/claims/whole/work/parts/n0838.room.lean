/-! a text tells all anew: beginning and end of room -/
theorem pts_idf : ∀ n, pts (fun g => g) n = n
  | 0 => rfl
  | n + 1 => by rw [pts_s, pts_idf n, if_neg (Nat.lt_irrefl _)]
theorem Can_idf (n : Nat) : Can (fun g => g) n := fun g _ => by
  rw [pts_idf]
  exact Nat.le_refl _
theorem can_idf (g : Nat) : can (fun g => g) g = g := can_id (Can_idf (g + 1)) (Nat.lt_succ_self g)
theorem c_rs7 {o : Nat} : ∀ (n x F : Nat) (S : gSt), x + n = 5 → n < F → (∀ j, j < x → gR S (o + 2) j = nI 0) → ∃ S1, fX5_reset_L7 o F (nI x) S = fX5_reset_L27 o gFU 0 S1 ∧ S1.2 = S.2 ∧ (∀ p k, p ≠ o + 2 → gR S1 p k = gR S p k) ∧ ∀ j, j < 5 → gR S1 (o + 2) j = nI 0
  | 0, x, F, S, hx, hF, h => by
    obtain ⟨F, rfl⟩ : ∃ m, F = m + 1 := ⟨F - 1, by omega⟩
    refine ⟨S, ?_, rfl, fun _ _ _ => rfl, fun j hj => h j (by omega)⟩
    rw [fX5_reset_L7, l5, if_pos (nI_le (by omega) (by omega))]
  | n + 1, x, F, S, hx, hF, h => by
    obtain ⟨F, rfl⟩ : ∃ m, F = m + 1 := ⟨F - 1, by omega⟩
    obtain ⟨S1, e1, e2, e3, e4⟩ := c_rs7 n (x + 1) F (gW S (o + 2) x (nI 0)) (by omega) (by omega) (fun j hj => by
      by_cases z : j = x
      · rw [z]; exact gR_Ws _ _ _ _
      · rw [gR_Wk z]; exact h j (by omega))
    refine ⟨S1, ?_, e2, fun p k hp => by rw [e3 p k hp, gR_Wp hp], e4⟩
    rw [fX5_reset_L7, l5, if_neg (nI_nleI (by omega) (by omega)), gC_ok (gIn_ok (by omega) (by omega)), gL_s, gN_nI (by omega), nI_1]
    exact e1
theorem c_rs56 {o g : Nat} {k27 : Int32 → gSt → Option gSt} (hg : g < 8) : ∀ (n y F : Nat) (S : gSt), y + n = 8 → n < F → (∀ j, j < y → gR S (o + 6 + g) j = nI 0) → ∃ S1, fX5_reset_L56 k27 o F (nI g) (nI y) S = k27 (nI (g + 1)) S1 ∧ S1.2 = S.2 ∧ (∀ p k, p ≠ o + 6 + g → gR S1 p k = gR S p k) ∧ ∀ j, j < 8 → gR S1 (o + 6 + g) j = nI 0
  | 0, y, F, S, hy, hF, h => by
    obtain ⟨F, rfl⟩ : ∃ m, F = m + 1 := ⟨F - 1, by omega⟩
    refine ⟨S, ?_, rfl, fun _ _ _ => rfl, fun j hj => h j (by omega)⟩
    rw [fX5_reset_L56, l8, if_pos (nI_le (by omega) (by omega)), nI_1]
  | n + 1, y, F, S, hy, hF, h => by
    obtain ⟨F, rfl⟩ : ∃ m, F = m + 1 := ⟨F - 1, by omega⟩
    obtain ⟨S1, e1, e2, e3, e4⟩ := c_rs56 (k27 := k27) hg n (y + 1) F (gW S (o + 6 + g) y (nI 0)) (by omega) (by omega) (fun j hj => by
      by_cases z : j = y
      · rw [z]; exact gR_Ws _ _ _ _
      · rw [gR_Wk z]; exact h j (by omega))
    refine ⟨S1, ?_, e2, fun p k hp => by rw [e3 p k hp, gR_Wp hp], e4⟩
    rw [fX5_reset_L56, l8, if_neg (nI_nleI (by omega) (by omega)), gC_ok (gIn_ok (by omega) (by omega)), gC_ok (gIn_ok (by omega) (by omega)), gL_s, gN_nI (by omega), gN_nI (by omega), nI_1, show o + 5 + 1 + g = o + 6 + g by omega]
    exact e1
def RZ (S : gSt) (o x : Nat) : Prop := ∀ g, g < x → gR S (o + 1) g = nI 0 ∧ gR S (o + 3) g = nI 0 ∧ gR S (o + 4) g = nI 0 ∧ ∀ j, j < 8 → gR S (o + 6 + g) j = nI 0
theorem c_rs27 {o : Nat} : ∀ (n x F : Nat) (S : gSt), x + n = 8 → n < F → RZ S o x → ∃ S1, fX5_reset_L27 o F (nI x) S = some S1 ∧ gFr o (o + 14) S S1 ∧ gR S1 o 5 = gR S o 5 ∧ (∀ k, gR S1 (o + 2) k = gR S (o + 2) k) ∧ RZ S1 o 8
  | 0, x, F, S, hx, hF, h => by
    obtain ⟨F, rfl⟩ : ∃ m, F = m + 1 := ⟨F - 1, by omega⟩
    refine ⟨S, ?_, gFr.rf, rfl, fun _ => rfl, fun g hg => h g (by omega)⟩
    rw [fX5_reset_L27, l8, if_pos (nI_le (by omega) (by omega))]
  | n + 1, x, F, S, hx, hF, h => by
    obtain ⟨F, rfl⟩ : ∃ m, F = m + 1 := ⟨F - 1, by omega⟩
    obtain ⟨T, hT⟩ : ∃ T, T = gW (gW (gW S (o + 1) x 0) (o + 3) x 0) (o + 4) x 0 := ⟨_, rfl⟩
    obtain ⟨S1, e1, e2, e3, e4⟩ := c_rs56 (o := o) (g := x) (k27 := fX5_reset_L27 o F) (by omega) 8 0 gFU T rfl (show 8 < 5000 by omega) (fun j hj => absurd hj (Nat.not_lt_zero _))
    have hFr : gFr o (o + 14) S S1 := ⟨by rw [e2, hT]; rfl, fun p k hp => by rw [e3 p k (by omega), hT, gR_Wp (by omega), gR_Wp (by omega), gR_Wp (by omega)]⟩
    have hz : RZ S1 o (x + 1) := fun g hg => by
      by_cases z : g = x
      · rw [z]
        refine ⟨?_, ?_, ?_, e4⟩
        · rw [e3 _ _ (by omega), hT, gR_Wp (by omega), gR_Wp (by omega)]; exact gR_Ws _ _ _ _
        · rw [e3 _ _ (by omega), hT, gR_Wp (by omega)]; exact gR_Ws _ _ _ _
        · rw [e3 _ _ (by omega), hT]; exact gR_Ws _ _ _ _
      · obtain ⟨a, b, c, d⟩ := h g (by omega)
        refine ⟨?_, ?_, ?_, fun j hj => ?_⟩
        · rw [e3 _ _ (by omega), hT, gR_Wk z, gR_Wk z, gR_Wk z]; exact a
        · rw [e3 _ _ (by omega), hT, gR_Wk z, gR_Wk z, gR_Wk z]; exact b
        · rw [e3 _ _ (by omega), hT, gR_Wk z, gR_Wk z, gR_Wk z]; exact c
        · rw [e3 _ _ (by omega), hT, gR_Wp (by omega), gR_Wp (by omega), gR_Wp (by omega)]; exact d j hj
    obtain ⟨S2, d1, d2, d3, d4, d5⟩ := c_rs27 n (x + 1) F S1 (by omega) (by omega) hz
    refine ⟨S2, ?_, hFr.tr d2, ?_, fun k => ?_, d5⟩
    · rw [fX5_reset_L27, l8, if_neg (nI_nleI (by omega) (by omega)), gC_ok (gIn_ok (by omega) (by omega)), gL_s, gC_ok (gIn_ok (by omega) (by omega)), gL_s, gC_ok (gIn_ok (by omega) (by omega)), gL_s, gN_nI (by omega), ← hT]
      exact e1.trans d1
    · rw [d3, e3 _ _ (by omega), hT, gR_Wp (by omega), gR_Wp (by omega), gR_Wp (by omega)]
    · rw [d4, e3 _ _ (by omega), hT, gR_Wp (by omega), gR_Wp (by omega), gR_Wp (by omega)]
theorem c_reset (S : gSt) (o : Nat) : ∃ S1, fX5_reset o S = some S1 ∧ gFr o (o + 14) S S1 ∧ Ru S1 o rI wI := by
  obtain ⟨S1, e1, e2, e3, e4⟩ := c_rs7 (o := o) 5 0 gFU (gW S o 5 4) rfl (show 5 < 5000 by omega) (fun j hj => absurd hj (Nat.not_lt_zero _))
  obtain ⟨S2, d1, d2, d3, d4, d5⟩ := c_rs27 (o := o) 8 0 gFU S1 rfl (show 8 < 5000 by omega) (fun g hg => absurd hg (Nat.not_lt_zero _))
  refine ⟨S2, ?_, ⟨?_, fun p k hp => ?_⟩, ?_, fun g hg => ?_, fun k hk => ?_, fun g hg => ?_, fun g hg => ?_, fun a b ha hb => ?_⟩
  · unfold fX5_reset
    rw [gL_s]
    exact e1.trans d1
  · rw [d2.1, e2]; rfl
  · rw [d2.2 p k hp, e3 p k (by omega), gR_Wp (by omega)]
  · rw [d3, e3 _ _ (by omega)]; exact gR_Ws _ _ _ _
  · rw [rI_n (by omega)]; exact (d5 g hg).1
  · rw [rI_n (by omega), d4]; exact e4 k hk
  · rw [rI_n (by omega)]; exact (d5 g hg).2.1
  · rw [rI_n (by omega)]; exact (d5 g hg).2.2.1
  · exact (d5 a ha).2.2.2 b hb
theorem gA31.fr {S S1 : gSt} (h : gA31 S S1) : gFr 31 32 S S1 := ⟨h.1, fun p k hp => h.2 p k (by omega)⟩
theorem c_into {S : gSt} {q tl : Nat} {tx : Nat → Nat} (hX : Txt tl tx) (hq : gIsRu q = true) (hT : TX S tl tx) : ∃ S4, fX4_readInto q S = fX4_readInto_L23 q gFU 0 S4 ∧ gRd q S S4 ∧ AtX S4 q tl tx rI wI (tk tl tx 0) := by
  have hq2 := ru_q hq
  obtain ⟨S2, e2, F2, r2⟩ := c_reset (gW S 31 2 (nI q)) q
  have hT3 : TX (gW S2 31 3 0) tl tx := ⟨by rw [gR_Wp (by omega), F2.2 _ _ (by omega), gR_Wp (by omega)]; exact hT.1, fun i hi => by rw [gR_Wp (by omega), F2.2 _ _ (by omega), gR_Wp (by omega)]; exact hT.2 i hi⟩
  obtain ⟨S4, e4, F4, t4⟩ := c_adv (p := 0) hT3 hX.1 hX.2 (Nat.zero_le _) (gR_Ws _ _ _ _)
  refine ⟨S4, ?_, (((gRd.rf.w).tr F2.rd).w).tr F4.rd, ?_, ⟨?_, fun i hi => ?_⟩, (r2.fr (gFr.w0 (a := 31) (b := 32) (by omega) (by omega)) (by omega)).fr F4.fr (by omega), t4⟩
  · unfold fX4_readInto
    rw [gL_s, gR_Ws, gN_nI (by omega), gC_ok hq, e2, gBp_s, gL_s, e4, gBp_s]
  · rw [F4.2 31 2 (by omega), gR_Wk (by omega), F2.2 _ _ (by omega)]; exact gR_Ws _ _ _ _
  · rw [F4.2 _ _ (by omega)]; exact hT3.1
  · rw [F4.2 _ _ (by omega)]; exact hT3.2 i hi
theorem m_dr : ∀ (n x F : Nat) (S : gSt), x + n = 94 → n < F → (∀ j, j < x → gR S 79 (94 + j) = nI 0) → ∃ S1, fX11_drafts_L2 F 4 (nI x) S = some S1 ∧ (S1.2 = S.2 ∧ ∀ p k, p ≠ 79 ∨ k < 94 → gR S1 p k = gR S p k) ∧ gR S1 79 94 = nI 4 ∧ ∀ j, 1 ≤ j → j < 94 → gR S1 79 (94 + j) = nI 0
  | 0, x, F, S, hx, hF, h => by
    obtain ⟨F, rfl⟩ : ∃ m, F = m + 1 := ⟨F - 1, by omega⟩
    refine ⟨gW S 79 94 4, ?_, ⟨rfl, fun p k hp => by rw [gR_W2, if_neg (by omega)]⟩, gR_Ws _ _ _ _, fun j h1 h2 => by rw [gR_Wk (by omega)]; exact h j (by omega)⟩
    rw [fX11_drafts_L2, l94, if_pos (nI_le (by omega) (by omega)), gC_ok (gIn_ok (by omega) (by omega)), gL_s, gN_nI (by omega)]
  | n + 1, x, F, S, hx, hF, h => by
    obtain ⟨F, rfl⟩ : ∃ m, F = m + 1 := ⟨F - 1, by omega⟩
    obtain ⟨S1, e1, e2, e3, e4⟩ := m_dr n (x + 1) F (gW S 79 (94 + x) (nI 0)) (by omega) (by omega) (fun j hj => by
      by_cases z : j = x
      · rw [z]; exact gR_Ws _ _ _ _
      · rw [gR_Wk (by omega)]; exact h j (by omega))
    refine ⟨S1, ?_, ⟨e2.1, fun p k hp => by rw [e2.2 p k hp, gR_W2, if_neg (by omega)]⟩, e3, e4⟩
    rw [fX11_drafts_L2, l94, if_neg (nI_nleI (by omega) (by omega)), nI_add, gC_ok (gIn_ok (by omega) (by omega)), gL_s, gN_nI (by omega), nI_1]
    exact e1
theorem m_drafts (S : gSt) : ∃ S1, fX11_drafts 4 S = some S1 ∧ (S1.2 = S.2 ∧ ∀ p k, p ≠ 79 ∨ k < 94 → gR S1 p k = gR S p k) ∧ To S1 94 rI wI := by
  obtain ⟨S1, e1, e2, e3, e4⟩ := m_dr 94 0 gFU S rfl (show 94 < 5000 by omega) (fun j hj => absurd hj (Nat.not_lt_zero _))
  refine ⟨S1, e1, e2, fun k hk => ?_, fun x y hx hy => ?_⟩
  · by_cases z : k = 0
    · rw [z]; exact e3
    · rw [rI_n z]; exact e4 k (by omega) (by omega)
  · exact e4 _ (by omega) (by omega)
theorem m_into {S : gSt} {tl : Nat} {tx : Nat → Nat} (hX : Txt tl tx) (hT : TM S tl tx) : ∃ S5, fX11_room S = fX11_room_L26 gFU 0 S5 ∧ gMd S S5 ∧ AtM S5 tl tx rI wI (tk tl tx 0) := by
  obtain ⟨S4, e4, F4, t4⟩ := m_drafts (gW (gW (gW S 77 0 0) 77 8 (-1)) 77 4 0)
  have hT4 : TM S4 tl tx := ⟨by rw [F4.2 _ _ (by omega), gR_Wk (by omega), gR_Wk (by omega), gR_Wk (by omega)]; exact hT.1, fun i hi => by rw [F4.2 _ _ (by omega), gR_Wp (by omega), gR_Wp (by omega), gR_Wp (by omega)]; exact hT.2 i hi⟩
  obtain ⟨S5, e5, F5, t5⟩ := m_adv (p := 0) hT4 hX.1 hX.2 (Nat.zero_le _) (by rw [F4.2 _ _ (by omega)]; exact gR_Ws _ _ _ _)
  refine ⟨S5, ?_, ((((gMd.rf.w7 (by omega)).w7 (by omega)).w7 (by omega)).tr (gMd.of9 F4)).tr F5.md, ?_, ⟨?_, fun i hi => ?_⟩, ⟨fun k hk => ?_, fun x y hx hy => ?_⟩, t5⟩
  · unfold fX11_room
    rw [gL_s, gL_s, gL_s, e4, gBp_s, e5, gBp_s]
  · rw [F5.2 _ _ (by omega), F4.2 _ _ (by omega), gR_Wk (by omega)]; exact gR_Ws _ _ _ _
  · rw [F5.2 _ _ (by omega)]; exact hT4.1
  · rw [F5.2 _ _ (by omega)]; exact hT4.2 i hi
  · rw [F5.2 _ _ (by omega)]; exact t4.1 k hk
  · rw [F5.2 _ _ (by omega)]; exact t4.2 x y hx hy
theorem m_ad31 : ∀ (n x F : Nat) (S : gSt), x + n = 8 → n < F → (∀ j, j < x → gR S 80 j = nI j) → ∃ S1, fX11_adopts_L31 F (nI x) S = some S1 ∧ S1.2 = S.2 ∧ (∀ p k, (p ≠ 80 ∨ 8 < k) → p ≠ 82 → gR S1 p k = gR S p k) ∧ (∀ j, j < 8 → gR S1 80 j = nI j) ∧ gR S1 80 8 = nI 0 ∧ gR S1 82 0 = nI 0 ∧ gR S1 82 1 = nI 0
  | 0, x, F, S, hx, hF, h => by
    obtain ⟨F, rfl⟩ : ∃ m, F = m + 1 := ⟨F - 1, by omega⟩
    refine ⟨gW (gW (gW S 80 8 0) 82 0 (vp_nar .boolean 0)) 82 1 (vp_nar .boolean 0), ?_, rfl, fun p k h1 h2 => ?_, fun j hj => ?_, ?_, ?_, ?_⟩
    · rw [fX11_adopts_L31, l8, if_pos (nI_le (by omega) (by omega)), gC_ok (by decide), gL_s, gC_ok (by decide), gL_s, gC_ok (by decide), gL_s]
      rfl
    · rw [gR_Wp h2, gR_Wp h2, gR_W2, if_neg (by omega)]
    · rw [gR_Wp (by omega), gR_Wp (by omega), gR_Wk (by omega)]; exact h j (by omega)
    · rw [gR_Wp (by omega), gR_Wp (by omega)]; exact gR_Ws _ _ _ _
    · rw [gR_Wk (by omega), gR_Ws]; decide
    · rw [gR_Ws]; decide
  | n + 1, x, F, S, hx, hF, h => by
    obtain ⟨F, rfl⟩ : ∃ m, F = m + 1 := ⟨F - 1, by omega⟩
    obtain ⟨S1, e1, e2, e3, e4⟩ := m_ad31 n (x + 1) F (gW S 80 x (nI x)) (by omega) (by omega) (fun j hj => by
      by_cases z : j = x
      · rw [z]; exact gR_Ws _ _ _ _
      · rw [gR_Wk z]; exact h j (by omega))
    refine ⟨S1, ?_, e2, fun p k h1 h2 => by rw [e3 p k h1 h2, gR_W2, if_neg (by omega)], e4⟩
    rw [fX11_adopts_L31, l8, if_neg (nI_nleI (by omega) (by omega)), gC_ok (gIn_ok (by omega) (by omega)), gL_s, gN_nI (by omega), nI_1]
    exact e1
theorem m_ad2 : ∀ (n x F : Nat) (S : gSt), x + n = 94 → n < F → (∀ j, j < x → gR S 79 j = gR S 79 (94 + j)) → ∃ S1, fX11_adopts_L2 F (nI x) S = fX11_adopts_L31 gFU 0 S1 ∧ S1.2 = S.2 ∧ (∀ p k, p ≠ 79 ∨ 94 ≤ k → gR S1 p k = gR S p k) ∧ ∀ j, j < 94 → gR S1 79 j = gR S 79 (94 + j)
  | 0, x, F, S, hx, hF, h => by
    obtain ⟨F, rfl⟩ : ∃ m, F = m + 1 := ⟨F - 1, by omega⟩
    refine ⟨S, ?_, rfl, fun _ _ _ => rfl, fun j hj => h j (by omega)⟩
    rw [fX11_adopts_L2, l94, if_pos (nI_le (by omega) (by omega))]
  | n + 1, x, F, S, hx, hF, h => by
    obtain ⟨F, rfl⟩ : ∃ m, F = m + 1 := ⟨F - 1, by omega⟩
    obtain ⟨S1, e1, e2, e3, e4⟩ := m_ad2 n (x + 1) F (gW S 79 x (gR S 79 (94 + x))) (by omega) (by omega) (fun j hj => by
      by_cases z : j = x
      · rw [z, gR_Ws, gR_Wk (by omega)]
      · rw [gR_Wk z, gR_Wk (by omega)]; exact h j (by omega))
    refine ⟨S1, ?_, e2, fun p k hp => by rw [e3 p k hp, gR_W2, if_neg (by omega)], fun j hj => by rw [e4 j hj, gR_Wk (by omega)]⟩
    rw [fX11_adopts_L2, l94, if_neg (nI_nleI (by omega) (by omega)), nI_add, gC_ok (gIn_ok (by omega) (by omega)), gC_ok (gIn_ok (by omega) (by omega)), gL_s, gN_nI (by omega), gN_nI (by omega), nI_1]
    exact e1
theorem m_adopts {S : gSt} {r : Nat → Nat} {w : Nat → Nat → Int} (h : To S 94 r w) : ∃ S1, fX11_adopts S = some S1 ∧ S1.2 = S.2 ∧ (∀ p k, p ≠ 79 → p ≠ 82 → (p ≠ 80 ∨ 8 < k) → gR S1 p k = gR S p k) ∧ To S1 0 r w ∧ (∀ j, j < 8 → gR S1 80 j = nI j) ∧ gR S1 80 8 = nI 0 ∧ gR S1 82 0 = nI 0 ∧ gR S1 82 1 = nI 0 := by
  obtain ⟨S1, e1, e2, e3, e4⟩ := m_ad2 94 0 gFU S rfl (show 94 < 5000 by omega) (fun j hj => absurd hj (Nat.not_lt_zero _))
  obtain ⟨S2, d1, d2, d3, d4⟩ := m_ad31 8 0 gFU S1 rfl (show 8 < 5000 by omega) (fun j hj => absurd hj (Nat.not_lt_zero _))
  refine ⟨S2, ?_, by rw [d2, e2], fun p k h1 h2 h3 => by rw [d3 p k h3 h2, e3 p k (by omega)], ⟨fun k hk => ?_, fun x y hx hy => ?_⟩, d4⟩
  · unfold fX11_adopts
    exact e1.trans d1
  · rw [d3 _ _ (by omega) (by omega), Nat.zero_add, e4 k (by omega)]; exact h.1 k hk
  · rw [d3 _ _ (by omega) (by omega), Nat.zero_add, e4 _ (by omega)]; exact h.2 x y hx hy
