/-! how many lie between; needs: 0800 0801 0802 0803 0804 0805 0806 0807 0808 0809 0810 0816 -/
/-- of how many parties of fn the party p of c is made -/
def pcs (fn c : Nat → Nat) (n p : Nat) : Nat := cn (fun j => an (fun g => decide (c g = p) && decide (fn g = j)) n) (pts fn n)
def pr (fn c : Nat → Nat) (n : Nat) : Nat → Int32
  | 0 => 1
  | p + 1 => pr fn c n p * gFalls (pcs fn c n p)
theorem pr_s (fn c : Nat → Nat) (n p : Nat) : pr fn c n (p + 1) = pr fn c n p * gFalls (pcs fn c n p) := rfl
theorem c_pieces {S : gSt} {n p : Nat} {fn c : Nat → Nat} (hf : St S 64 n fn) (hc : Can c n) (href : ∀ a b, a < n → b < n → fn a = fn b → c a = c b) : fX3_piecesOf (nI (mk (fun g => decide (c g = p)) n)) S = some (nI (pcs fn c n p)) := by
  have h8 := hf.2.2.2.2.2.2
  have hp8 := hf.pts
  have hC := hf.2.2.2.2.1
  have h4 := hf.2.1
  unfold fX3_piecesOf pcs
  refine forFU (fun m x j => fX3_piecesOf_L4 S m (nI (mk (fun g => decide (c g = p)) n)) x (nI j)) (fun x => x = some (nI (cn (fun j => an (fun g => decide (c g = p) && decide (fn g = j)) n) (pts fn n)))) (fun j x => x = nI (cn (fun j => an (fun g => decide (c g = p) && decide (fn g = j)) n) j)) (pts fn n) 0 (by omega) ?_ ?_ rfl
  · rintro m j x hj rfl
    right
    refine ⟨_, rfl, ?_⟩
    show fX3_piecesOf_L4 S (m + 1) _ _ (nI j) = fX3_piecesOf_L4 S m _ _ (nI (j + 1))
    have u1 := mk_lt8 (fun g => decide (fn g = j)) h8
    have u2 := and_lt8 (mk (fun g => decide (c g = p)) n ^^^ 4294967295) u1
    have hiff : mk (fun g => decide (fn g = j)) n &&& (mk (fun g => decide (c g = p)) n ^^^ 4294967295) = 0 ↔ an (fun g => decide (c g = p) && decide (fn g = j)) n = true := by
      rw [sub_iff _ u1, an_iff]
      simp only [mk_bit, Bool.and_eq_true, decide_eq_true_eq]
      constructor
      · intro h
        obtain ⟨g, hg, hv⟩ := pts_all hC j hj
        exact ⟨g, hg, (h g (by omega) ⟨hg, hv⟩).2, hv⟩
      · rintro ⟨g, hg, h1, h2⟩ e he ⟨h3, h4⟩
        exact ⟨h3, by rw [href e g h3 hg (by rw [h4, h2]), h1]⟩
    rw [fX3_piecesOf_L4, show fX7_parties 64 S = some (nI (pts fn n)) from congrArg some h4, gBp_s, c_setOf hf hj, gBp_s, cn_s, if_neg (nI_nleI hj (by omega)), show (nI (mk (fun g => decide (c g = p)) n) ^^^ (-1 : Int32)) = nI (mk (fun g => decide (c g = p)) n ^^^ 4294967295) by rw [lm1, nI_xor], nI_andI, nI_1, nI_1]
    cases hb : an (fun g => decide (c g = p) && decide (fn g = j)) n with
    | true => rw [if_pos (show nI _ = 0 by rw [hiff.mpr hb]; rfl), if_pos rfl]
    | false =>
      rw [if_neg (show ¬ nI (mk (fun g => decide (fn g = j)) n &&& (mk (fun g => decide (c g = p)) n ^^^ 4294967295)) = 0 from fun z => by
        have z := nI_inj (b := 0) (by omega) (by omega) z
        rw [hiff.mp z] at hb
        exact absurd hb (by decide)), if_neg (show ¬ false = true by decide)]
      rfl
  · rintro m x rfl
    show fX3_piecesOf_L4 S (m + 1) _ _ (nI (pts fn n)) = _
    rw [fX3_piecesOf_L4, show fX7_parties 64 S = some (nI (pts fn n)) from congrArg some h4, gBp_s, if_pos (nI_le (Nat.le_refl _) (by omega))]
theorem c_within {S : gSt} {n : Nat} {fn c : Nat → Nat} (hf : St S 64 n fn) (hc : St S 68 n c) (href : ∀ a b, a < n → b < n → fn a = fn b → c a = c b) : fX3_standingsWithin S = some (pr fn c n (pts c n)) := by
  have h8 := hf.2.2.2.2.2.2
  have hp8 := hf.pts
  have hp9 := hc.pts
  have h4 := hc.2.1
  unfold fX3_standingsWithin
  refine forFU (fun m x p => fX3_standingsWithin_L4 S m x (nI p)) (fun x => x = some (pr fn c n (pts c n))) (fun p x => x = pr fn c n p) (pts c n) 1 (by omega) ?_ ?_ rfl
  · rintro m p x hp rfl
    right
    refine ⟨_, rfl, ?_⟩
    show fX3_standingsWithin_L4 S (m + 1) _ (nI p) = fX3_standingsWithin_L4 S m _ (nI (p + 1))
    have hl : pcs fn c n p ≤ pts fn n := cn_le _ _
    rw [fX3_standingsWithin_L4, show fX7_parties 68 S = some (nI (pts c n)) from congrArg some h4, gBp_s, if_neg (nI_nleI hp (by omega)), c_setOf hc hp, gBp_s, c_pieces hf hc.2.2.2.2.1 href, gBp_s, l9, if_neg (nI_nleI (by omega) (by omega)), gC_ok (gIn_ok (by omega) (by omega)), gL_s, gN_nI (by omega), nI_1, pr_s]
  · rintro m x rfl
    show fX3_standingsWithin_L4 S (m + 1) _ (nI (pts c n)) = _
    rw [fX3_standingsWithin_L4, show fX7_parties 68 S = some (nI (pts c n)) from congrArg some h4, gBp_s, if_pos (nI_le (Nat.le_refl _) (by omega))]
theorem m_ones (S : gSt) {a : Nat} (ha : a < 256) : fX11_ones (nI a) S = some (nI (cn (fun g => a.testBit g) 8)) := by
  unfold fX11_ones
  refine forFU (fun m x k => fX11_ones_L4 S m (nI a) x (nI k)) (fun x => x = some (nI (cn (fun g => a.testBit g) 8))) (fun k x => x = nI (cn (fun g => a.testBit g) k)) 8 0 (by omega) ?_ ?_ rfl
  · rintro m k x hk rfl
    right
    refine ⟨_, rfl, ?_⟩
    show fX11_ones_L4 S (m + 1) (nI a) _ (nI k) = fX11_ones_L4 S m (nI a) _ (nI (k + 1))
    rw [fX11_ones_L4, l8, if_neg (nI_nleI hk (by omega)), gL_s, l31, nI_31 (by omega), nI_shr (by omega) (by omega), l1, nI_andI, shr1, nI_add, nI_add, cn_s]
  · rintro m x rfl
    show fX11_ones_L4 S (m + 1) (nI a) _ (nI 8) = _
    rw [fX11_ones_L4, l8, if_pos (nI_le (Nat.le_refl _) (by omega))]
theorem m_bell (S : gSt) : ∀ k : Nat, k < 9 → fX11_bell (nI k) S = some (gFalls k) := by
  have h : ∀ k : Fin 9, fX11_bell (nI k.val) (fun _ _ => 0, fun _ => 0) = some (gFalls k.val) := by decide +kernel
  intro k hk
  exact h ⟨k, hk⟩
/-- the parties of fn that the party p of c holds, as bits -/
def oq (fn c : Nat → Nat) (p : Nat) : Nat → Nat
  | 0 => 0
  | g + 1 => if c g = p then oq fn c p g ||| 2 ^ fn g else oq fn c p g
theorem oq_s (fn c : Nat → Nat) (p g : Nat) : oq fn c p (g + 1) = if c g = p then oq fn c p g ||| 2 ^ fn g else oq fn c p g := rfl
theorem oq_bit (fn c : Nat → Nat) (p j : Nat) : ∀ n, (oq fn c p n).testBit j = an (fun g => decide (c g = p) && decide (fn g = j)) n
  | 0 => by rw [show oq fn c p 0 = 0 from rfl, Nat.zero_testBit]; rfl
  | n + 1 => by
    rw [oq_s, an_s, ← oq_bit fn c p j n]
    by_cases z : c n = p
    · rw [if_pos z, Nat.testBit_or, Nat.testBit_two_pow, decide_eq_true z, Bool.true_and]
    · rw [if_neg z, decide_eq_false z, Bool.false_and, Bool.or_false]
theorem oq_lt {fn c : Nat → Nat} {p : Nat} : ∀ {n : Nat}, (∀ g, g < n → fn g < 8) → oq fn c p n < 256
  | 0, _ => show 0 < 256 by decide
  | n + 1, h => by
    have h1 := oq_lt (p := p) (c := c) (n := n) (fun g hg => h g (by omega))
    have h2 := h n (by omega)
    rw [oq_s]
    split
    · exact Nat.or_lt_two_pow (n := 8) h1 (Nat.pow_lt_pow_right (by decide) h2)
    · exact h1
theorem m_bet_in {k68 : Int32 → Int32 → gSt → Option (Int32 × gSt)} {S : gSt} {n p : Nat} {x : Int32} {fn c : Nat → Nat} (h : mN S n) (hc : rowAt S 83 n c) (ho : rowAt S 84 n fn) (hcC : Can c n) (hfC : Can fn n) (hp : p < 8) : fX11_between_L86 k68 gFU x (nI p) 0 0 S = k68 (x * gFalls (pcs fn c n p)) (nI (p + 1)) S := by
  have h8 := h.2.2
  have hf8 : ∀ g, g < n → fn g < 8 := fun g hg => hfC.lt8 h8 hg
  refine forFU (fun m y g => fX11_between_L86 k68 m x (nI p) y (nI g) S) (fun y => y = k68 (x * gFalls (pcs fn c n p)) (nI (p + 1)) S) (fun g y => y = nI (oq fn c p g)) n 0 (by omega) ?_ ?_ rfl
  · rintro m g y hg rfl
    right
    refine ⟨_, rfl, ?_⟩
    show fX11_between_L86 k68 (m + 1) x (nI p) _ (nI g) S = fX11_between_L86 k68 m x (nI p) _ (nI (g + 1)) S
    have b1 := hcC.lt8 h8 hg
    have b2 := hf8 g hg
    rw [fX11_between_L86, m_guests h, gBp_s, if_neg (nI_nleI hg (by omega)), gC_ok (gIn_ok (by omega) (by omega)), gC_ok (gIn_ok (by omega) (by omega)), gN_nI (by omega), hc g hg, ho g hg, gL_s, gL_s, nI_1, oq_s, l31, nI_31 (by omega), l1, nI_shl (by omega), nI_orI, Nat.one_mul]
    by_cases z : c g = p
    · rw [if_pos (show nI (c g) = nI p by rw [z]), if_pos z]
    · rw [if_neg (nI_neI (by omega) (by omega) z), if_neg z, l0, nI_orI, Nat.or_zero]
  · rintro m y rfl
    show fX11_between_L86 k68 (m + 1) x (nI p) _ (nI n) S = _
    have hpl := pts_leN hfC
    have e1 : cn (fun g => (oq fn c p n).testBit g) 8 = pcs fn c n p := by
      unfold pcs
      refine cn_ext (by omega) (fun j hj => ?_)
      rw [oq_bit]
      by_cases z : j < pts fn n
      · rw [decide_eq_true z, Bool.true_and]
      · rw [decide_eq_false z, Bool.false_and]
        refine an_no (fun g hg => ?_)
        have := lt_pts (f := fn) hg
        rw [decide_eq_false (show ¬ fn g = j by omega), Bool.and_false]
    have hl : pcs fn c n p ≤ pts fn n := cn_le _ _
    rw [fX11_between_L86, m_guests h, gBp_s, if_pos (nI_le (Nat.le_refl _) (by omega)), m_ones S (oq_lt hf8), gBp_s, e1, m_bell S _ (by omega), gBp_s, gL_s, nI_1]
theorem m_bet {S : gSt} {n : Nat} {fn c : Nat → Nat} (h : mN S n) (hc : rowAt S 83 n c) (ho : rowAt S 84 n fn) (hcC : Can c n) (hfC : Can fn n) : fX11_between_L68 gFU 1 0 S = some (pr fn c n (pts c n), S) := by
  have h8 := h.2.2
  have hpl := pts_leN hcC
  have hpt := m_partiesOf (r := 83) h (show n ≤ (gLay 83).2 from Nat.le_trans h8 (by decide)) (by decide) hc (fun g hg => by have := hcC.lt8 h8 hg; omega)
  refine forFU (fun m x p => fX11_between_L68 m x (nI p) S) (fun x => x = some (pr fn c n (pts c n), S)) (fun p x => x = pr fn c n p) (pts c n) 1 (by omega) ?_ ?_ rfl
  · rintro m p x hp rfl
    right
    refine ⟨_, rfl, ?_⟩
    show fX11_between_L68 (m + 1) _ (nI p) S = fX11_between_L68 m _ (nI (p + 1)) S
    rw [fX11_between_L68, hpt, gBp_s, if_neg (nI_nleI hp (by omega)), m_bet_in h hc ho hcC hfC (by omega), pr_s]
  · rintro m x rfl
    show fX11_between_L68 (m + 1) _ (nI (pts c n)) S = _
    rw [fX11_between_L68, hpt, gBp_s, if_pos (nI_le (Nat.le_refl _) (by omega))]
theorem m_other {S : gSt} {n : Nat} {x : Int32} {fn : Nat → Nat} (h : mN S n) (hc : rowAt S 83 n fn) : ∃ T, fX11_between_L33 gFU x 0 S = gBp (fX11_coarser x T) (fun S_2 => fX11_between_L68 gFU 1 0 S_2) ∧ gRw 84 n S T ∧ rowAt T 84 n fn := by
  have h8 := h.2.2
  refine forS (fun m (T : gSt) g => fX11_between_L33 m x (nI g) T) (fun y => ∃ T, y = gBp (fX11_coarser x T) (fun S_2 => fX11_between_L68 gFU 1 0 S_2) ∧ gRw 84 n S T ∧ rowAt T 84 n fn) (fun g T => gRw 84 n S T ∧ ∀ e, e < g → gR T 84 e = nI (fn e)) n ?_ ?_ (by omega) S ⟨gRw.rf, fun e h => absurd h (Nat.not_lt_zero _)⟩
  · rintro m g T hg ⟨hF, a1⟩
    refine ⟨gW T 84 g (nI (fn g)), ⟨hF.w hg, fun e he => ?_⟩, ?_⟩
    · by_cases q : e = g
      · subst q; simp (disch := omega) only [gC_d, gC_tt, gBp_s, gBd_s, gL_s, gIn_nI, gN_nI, nI_ltI, nI_leI, nI_eq, nI_add, nI_mul, nI_sub, ite_t, ite_f, gR_W2, gRL_W, if_true, if_false, true_and, and_true, false_and, and_false, and_self, Nat.add_zero, l0, l1, l2, l3, l4, l5, l6, l7, l8, l9, l10, l11, l12, l13, l14, l22, l30, l31, l32, l39, l40, l48, l50, l57, l59, l60, l94, l97, l99, l100, l122, l255, l256, l300, l488, l1000]
      · simp (disch := omega) only [gC_d, gC_tt, gBp_s, gBd_s, gL_s, gIn_nI, gN_nI, nI_ltI, nI_leI, nI_eq, nI_add, nI_mul, nI_sub, ite_t, ite_f, gR_W2, gRL_W, if_true, if_false, true_and, and_true, false_and, and_false, and_self, Nat.add_zero, l0, l1, l2, l3, l4, l5, l6, l7, l8, l9, l10, l11, l12, l13, l14, l22, l30, l31, l32, l39, l40, l48, l50, l57, l59, l60, l94, l97, l99, l100, l122, l255, l256, l300, l488, l1000, a1 e (show e < g by omega)]
    · show fX11_between_L33 (m + 1) x (nI g) T = fX11_between_L33 m x (nI (g + 1)) _
      rw [fX11_between_L33, m_guests (h.rw hF (by decide)), gBp_s, if_neg (nI_nleI hg (by omega)), gC_ok (gIn_ok (by omega) (by omega)), gC_ok (gIn_ok (by omega) (by omega)), gL_s, gN_nI (by omega), hF.2 83 g (by omega), hc g hg, nI_1]
  · rintro m T ⟨hF, a1⟩
    refine ⟨T, ?_, hF, a1⟩
    show fX11_between_L33 (m + 1) x (nI n) T = _
    rw [fX11_between_L33, m_guests (h.rw hF (by decide)), gBp_s, if_pos (nI_le (Nat.le_refl _) (by omega))]
