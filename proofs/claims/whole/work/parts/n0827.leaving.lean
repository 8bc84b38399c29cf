/-! leaving, both halves; needs: 0800 0801 0802 0803 0804 0805 0806 0807 0808 0809 0810 0811 0812 0813 0814 0815 0816 0820 0821 0822 -/
def nxt (n g : Nat) : Nat := (g + 1) % n
/-- where the rule of leaving ends: the row, and how many went -/
def lvR (w : Nat → Nat → Int) (n : Nat) : Nat → (Nat → Nat) → Nat → Nat → Nat → (Nat → Nat) × Nat
  | 0, f, go, _, _ => (f, go)
  | F + 1, f, go, st, g => if n ≤ st ∨ 60 ≤ go then (f, go) else (stp w f n g).elim (lvR w n F f go (st + 1) (nxt n g)) (fun f' => lvR w n F f' (go + 1) 0 (nxt n g))
theorem lvR_stop {w : Nat → Nat → Int} {n F go st g : Nat} {f : Nat → Nat} (h : n ≤ st ∨ 60 ≤ go) : lvR w n (F + 1) f go st g = (f, go) := if_pos h
theorem lvR_none {w : Nat → Nat → Int} {n F go st g : Nat} {f : Nat → Nat} (h : ¬ (n ≤ st ∨ 60 ≤ go)) (e : stp w f n g = none) : lvR w n (F + 1) f go st g = lvR w n F f go (st + 1) (nxt n g) := by
  rw [lvR, if_neg h, e]
  rfl
theorem lvR_some {w : Nat → Nat → Int} {n F go st g : Nat} {f f' : Nat → Nat} (h : ¬ (n ≤ st ∨ 60 ≤ go)) (e : stp w f n g = some f') : lvR w n (F + 1) f go st g = lvR w n F f' (go + 1) 0 (nxt n g) := by
  rw [lvR, if_neg h, e]
  rfl
theorem lvR_le (w : Nat → Nat → Int) (n : Nat) : ∀ F f go st g, go ≤ 60 → (lvR w n F f go st g).2 ≤ 60
  | 0, f, go, st, g, h => h
  | F + 1, f, go, st, g, h => by
    by_cases z : n ≤ st ∨ 60 ≤ go
    · rw [lvR_stop z]; exact h
    · cases e : stp w f n g with
      | none => rw [lvR_none z e]; exact lvR_le w n F _ _ _ _ h
      | some f' => rw [lvR_some z e]; exact lvR_le w n F _ _ _ _ (by omega)
theorem nxt_lt {n g : Nat} (h : 1 ≤ n) : nxt n g < n := Nat.mod_lt _ (by omega)
theorem c_runNext {k21 : Int32 → Int32 → Int32 → gSt → Option gSt} {o q g : Nat} {x4 x5 : Int32} {S : gSt} {r : Nat → Nat} {w : Nat → Nat → Int} (h : Ru S o r w) (hW : RW r w) (hg : g < r 0) : fX0_run_L75 k21 o q (nI g) x4 x5 S = k21 (nI (nxt (r 0) g)) x4 (x5 + 1) S := by
  have h8 := hW.2.1
  unfold fX0_run_L75 nxt
  rw [show fX5_guests o S = some (nI (r 0)) from congrArg some h.1, gBp_s, nI_1]
  by_cases z : g + 1 = r 0
  · rw [if_pos (nI_le (by omega) (by omega)), z, Nat.mod_self]
    rfl
  · rw [if_neg (nI_nleI (by omega) (by omega)), gL_s, Nat.mod_eq_of_lt (by omega)]
theorem c_run {o q : Nat} {r : Nat → Nat} {w : Nat → Nat → Int} (hW : RW r w) (ho : o < 58) : ∀ (F go st g t : Nat) (f : Nat → Nat) (S : gSt), Ru S o r w → St S 73 (r 0) f → gR S 72 1 = nI go → g < r 0 → go ≤ 60 → st ≤ r 0 → t ≤ r 0 * go + st → (60 - go) * 9 + (r 0 - st) < F → ∃ S1, fX0_run_L21 o q F (nI g) (nI st) (nI t) S = some S1 ∧ gFr 72 77 S S1 ∧ St S1 73 (r 0) (lvR w (r 0) F f go st g).1 ∧ gR S1 72 1 = nI (lvR w (r 0) F f go st g).2 := by
  intro F
  induction F with
  | zero => intro go st g t f S _ _ _ _ _ _ _ h; exact absurd h (Nat.not_lt_zero _)
  | succ F ih =>
    intro go st g t f S hR hs hgo hg hle hst ht hm
    have h1 := hW.1
    have h8 := hW.2.1
    have hmul : r 0 * go ≤ 8 * go := Nat.mul_le_mul_right go h8
    have gu : ∀ T, Ru T o r w → fX5_guests o T = some (nI (r 0)) := fun T hT => congrArg some hT.1
    rw [fX0_run_L21]
    by_cases z : r 0 ≤ st ∨ 60 ≤ go
    · rw [lvR_stop z]
      refine ⟨S, ?_, gFr.rf, hs, hgo⟩
      by_cases z0 : 488 ≤ t
      · rw [if_pos (show (488 : Int32) ≤ nI t from nI_le (a := 488) z0 (by omega))]
      · rw [if_neg (show ¬ (488 : Int32) ≤ nI t from nI_nleI (b := 488) (by omega) (by omega)), hgo]
        by_cases z2 : 60 ≤ go
        · rw [if_pos (show (60 : Int32) ≤ nI go from nI_le (a := 60) z2 (by omega))]
        · rw [if_neg (show ¬ (60 : Int32) ≤ nI go from nI_nleI (b := 60) (by omega) (by omega)), gu S hR, gBp_s, if_pos (nI_le (by omega) (by omega))]
    · have hg1 := nxt_lt (g := g) h1
      have hexp : r 0 * (go + 1) = r 0 * go + r 0 := Nat.mul_succ _ _
      rw [if_neg (show ¬ (488 : Int32) ≤ nI t from nI_nleI (b := 488) (by omega) (by omega)), hgo, if_neg (show ¬ (60 : Int32) ≤ nI go from nI_nleI (b := 60) (by omega) (by omega)), gu S hR, gBp_s, if_neg (nI_nleI (by omega) (by omega))]
      rcases c_takes hR hW hs hg with ⟨e, e1⟩ | ⟨f', S1, e, e1, F1, s1⟩
      · rw [lvR_none z e, e1, gBd_s, if_pos rfl, c_runNext hR hW hg, nI_1, nI_1]
        exact ih go (st + 1) (nxt (r 0) g) (t + 1) f S hR hs hgo hg1 hle (by omega) (by omega) (by omega)
      · have hgo1 : gR S1 72 1 = nI go := by rw [F1.2 72 1 (by omega)]; exact hgo
        have F2 : gFr 72 73 S1 (gW S1 72 1 (nI (go + 1))) := gFr.w0 (by omega) (by omega)
        have hR2 := (hR.fr F1 (by omega)).fr F2 (by omega)
        obtain ⟨S3, e3, F3, s3, g3⟩ := ih (go + 1) 0 (nxt (r 0) g) (t + 1) f' (gW S1 72 1 (nI (go + 1))) hR2 (s1.fr F2 (by omega)) (gR_Ws _ _ _ _) hg1 (by omega) (by omega) (by omega) (by omega)
        rw [lvR_some z e]
        refine ⟨S3, ?_, ((F1.mono (by omega) (by omega)).tr (F2.mono (by omega) (by omega))).tr F3, s3, g3⟩
        rw [e1, gBd_s, if_neg (by decide), hgo1, nI_1, gL_s, c_runNext hR2 hW hg, nI_1]
        exact e3
theorem c_runAll {S : gSt} {o : Nat} {r f σ : Nat → Nat} {w : Nat → Nat → Int} {v : Int32} {k : Nat} {Z : Rst} (h : RX S o r w f v k σ Z) (hW : RW r w) : ∃ S1, fX0_run o 36 S = some S1 ∧ gFr 72 77 S S1 ∧ St S1 73 (r 0) (lvR w (r 0) gFU f 0 0 0).1 ∧ gR S1 72 1 = nI (lvR w (r 0) gFU f 0 0 0).2 := by
  have h1 := hW.1
  have h8 := hW.2.1
  have ho := h.o18
  obtain ⟨S1, e1, F1, s1⟩ := c_standLike (o := 73) h.2.2.2.1 (by omega)
  have F2 : gFr 72 73 S1 (gW S1 72 1 0) := gFr.w0 (by omega) (by omega)
  have hR2 := (h.2.1.fr F1 (by omega)).fr F2 (by omega)
  obtain ⟨S3, e3, F3, s3, g3⟩ := c_run (q := 36) hW (by omega) gFU 0 0 0 0 f (gW S1 72 1 0) hR2 (s1.fr F2 (by omega)) (gR_Ws _ _ _ _) (by omega) (by omega) (by omega) (by omega) (show (60 - 0) * 9 + (r 0 - 0) < 5000 by omega)
  refine ⟨S3, ?_, ((F1.mono (by omega) (by omega)).tr (F2.mono (by omega) (by omega))).tr F3, s3, g3⟩
  unfold fX0_run
  rw [e1, gBp_s, gL_s]
  exact e3
/-- the sums of the reference -/
def Su (S : gSt) (n : Nat) (s : Nat → Int) : Prop := ∀ p, p < n → gR S 85 p = iI (s p)
theorem m_sum0 {S : gSt} {x1 : Int32} : ∃ S1, fX11_ratherAt_L4 gFU x1 0 S = fX11_ratherAt_L25 gFU x1 0 S1 ∧ gRw 85 8 S S1 ∧ Su S1 8 (fun _ => 0) := by
  refine forS (fun m (T : gSt) p => fX11_ratherAt_L4 m x1 (nI p) T) (fun y => ∃ S1, y = fX11_ratherAt_L25 gFU x1 0 S1 ∧ gRw 85 8 S S1 ∧ Su S1 8 (fun _ => 0)) (fun p T => gRw 85 8 S T ∧ Su T p (fun _ => 0)) 8 ?_ ?_ (by omega) S ⟨gRw.rf, fun e h => absurd h (Nat.not_lt_zero _)⟩
  · rintro m p T hp ⟨hF, a1⟩
    refine ⟨gW T 85 p 0, ⟨hF.w hp, fun e he => ?_⟩, ?_⟩
    · by_cases z : e = p
      · subst z; exact gR_Ws _ _ _ _
      · rw [gR_Wk z]; exact a1 e (by omega)
    · show fX11_ratherAt_L4 (m + 1) x1 (nI p) T = fX11_ratherAt_L4 m x1 (nI (p + 1)) _
      rw [fX11_ratherAt_L4, l8, if_neg (nI_nleI hp (by omega)), gC_ok (gIn_ok (by omega) (by omega)), gL_s, gN_nI (by omega), nI_1]
  · rintro m T ⟨hF, a1⟩
    refine ⟨T, ?_, hF, a1⟩
    show fX11_ratherAt_L4 (m + 1) x1 (nI 8) T = _
    rw [fX11_ratherAt_L4, l8, if_pos (nI_le (Nat.le_refl 8) (by omega))]
theorem m_sums {S : gSt} {g : Nat} {r f : Nat → Nat} {w : Nat → Nat → Int} (hT : To S 0 r w) (hW : RW r w) (hf : rowAt S 83 (r 0) f) (hC : Can f (r 0)) (hg : g < r 0) (h0 : Su S 8 (fun _ => 0)) : ∃ S1, fX11_ratherAt_L25 gFU (nI g) 0 S = (if 0 ≤ iI (sP w f (r 0) g (f g)) then fX11_ratherAt_L99 (nI g) (iI (sP w f (r 0) g (f g))) (-9) S1 else fX11_ratherAt_L99 (nI g) (iI (sP w f (r 0) g (f g))) (nI g) S1) ∧ gRw 85 8 S S1 ∧ Su S1 8 (sP w f (r 0) g) := by
  have h8 := hW.2.1
  refine forS (fun m (T : gSt) e => fX11_ratherAt_L25 m (nI g) (nI e) T) (fun y => ∃ S1, y = (if 0 ≤ iI (sP w f (r 0) g (f g)) then fX11_ratherAt_L99 (nI g) (iI (sP w f (r 0) g (f g))) (-9) S1 else fX11_ratherAt_L99 (nI g) (iI (sP w f (r 0) g (f g))) (nI g) S1) ∧ gRw 85 8 S S1 ∧ Su S1 8 (sP w f (r 0) g)) (fun e T => gRw 85 8 S T ∧ Su T 8 (sP w f e g)) (r 0) ?_ ?_ (by omega) S ⟨gRw.rf, h0⟩
  · rintro m e T he ⟨hF, a1⟩
    have hTT := hT.rw hF (by omega)
    have hfT : rowAt T 83 (r 0) f := fun x hx => by rw [hF.2 83 x (by omega)]; exact hf x hx
    have fe := hC.lt8 h8 he
    have hse := a1 (f e) fe
    have step : ∀ p, sP w f (e + 1) g p = sP w f e g p + (if e ≠ g ∧ decide (f e = p) = true then w g e else 0) := fun p => rfl
    refine ⟨gW T 85 (f e) (iI (sP w f (e + 1) g (f e))), ⟨hF.w fe, fun p hp => ?_⟩, ?_⟩
    · by_cases z : p = f e
      · subst z; exact gR_Ws _ _ _ _
      · rw [gR_Wk z, a1 p hp, step p, if_neg (fun y => z (of_decide_eq_true y.2).symm), Int.add_zero]
    · show fX11_ratherAt_L25 (m + 1) (nI g) (nI e) T = fX11_ratherAt_L25 m (nI g) (nI (e + 1)) _
      rw [fX11_ratherAt_L25, m_guests (hTT.mN hW), gBp_s, if_neg (nI_nleI he (by omega)), gC_ok (gIn_ok (by omega) (by omega)), gN_nI (by omega), hfT e he, gC_ok (gIn_ok (by omega) (by omega)), nI_1]
      by_cases z : e = g
      · rw [if_pos (show nI e = nI g by rw [z]), gC_ok (gIn_ok (by omega) (by omega)), gL_s, gN_nI (by omega), hse, Int32.add_zero, step (f e), if_neg (fun y => y.1 z), Int.add_zero]
      · rw [if_neg (nI_neI (by omega) (by omega) z), l30, l8, nI_mul, nI_add, nI_add, gC_ok (gIn_ok (by omega) (by omega)), gC_ok (gIn_ok (by omega) (by omega)), gL_s, gN_nI (by omega), gN_nI (by omega), hse, hTT.w (by omega) (by omega), iI_addR, step (f e), if_pos ⟨z, decide_eq_true rfl⟩]
  · rintro m T ⟨hF, a1⟩
    have hTT := hT.rw hF (by omega)
    have hfT : rowAt T 83 (r 0) f := fun x hx => by rw [hF.2 83 x (by omega)]; exact hf x hx
    have fg := hC.lt8 h8 hg
    refine ⟨T, ?_, hF, a1⟩
    show fX11_ratherAt_L25 (m + 1) (nI g) (nI (r 0)) T = _
    rw [fX11_ratherAt_L25, m_guests (hTT.mN hW), gBp_s, if_pos (nI_le (Nat.le_refl _) (by omega)), gC_ok (gIn_ok (by omega) (by omega)), gN_nI (by omega), hfT g hg, gC_ok (gIn_ok (by omega) (by omega)), gL_s, gN_nI (by omega), a1 (f g) fg]
theorem m_least {k115 : Int32 → Int32 → Int32 → Int32 → gSt → Option (Int32 × gSt)} {S : gSt} {n p : Nat} {x1 x4 : Int32} {f : Nat → Nat} (hf : rowAt S 83 n f) (hb : ∀ e, e < n → f e < 8) (hn : n ≤ 8) (hp : p < 8) : ∀ (j m : Nat) (x3 : Int32), j ≤ n → j < m → fX11_ratherAt_L168 k115 m x1 x3 x4 (nI p) (nI j - 1) S = k115 x1 (if ff (fun e => decide (f e = p)) j < j then nI (ff (fun e => decide (f e = p)) j) else x3) x4 (nI (p + 1)) S
  | 0, m, x3, _, hm => by
    obtain ⟨m, rfl⟩ : ∃ i, m = i + 1 := ⟨m - 1, by omega⟩
    rw [fX11_ratherAt_L168, if_pos (by decide), if_neg (by omega), nI_1]
  | j + 1, m, x3, hj, hm => by
    obtain ⟨m, rfl⟩ : ∃ i, m = i + 1 := ⟨m - 1, by omega⟩
    have fj := hb j (by omega)
    rw [fX11_ratherAt_L168, nI_pred, if_neg (nI_pos (by omega)), gC_ok (gIn_ok (by omega) (by omega)), gN_nI (by omega), hf j (by omega), ← Int32.sub_eq_add_neg]
    have hs := ff_s (fun e => decide (f e = p)) j
    by_cases z : f j = p
    · rw [if_pos (show nI (f j) = nI p by rw [z]), m_least hf hb hn hp j m (nI j) (by omega) (by omega)]
      rw [if_pos (decide_eq_true z)] at hs
      by_cases y : ff (fun e => decide (f e = p)) j < j
      · rw [if_pos y] at hs
        rw [if_pos y, hs, if_pos (by omega)]
      · rw [if_neg y] at hs
        rw [if_neg y, hs, if_pos (by omega)]
    · rw [if_neg (nI_neI (by omega) (by omega) z), m_least hf hb hn hp j m x3 (by omega) (by omega)]
      rw [if_neg (show ¬ decide (f j = p) = true by rw [decide_eq_true_eq]; exact z)] at hs
      by_cases y : ff (fun e => decide (f e = p)) j < j
      · rw [if_pos y] at hs
        rw [if_pos y, hs, if_pos (by omega)]
      · rw [if_neg y] at hs
        rw [if_neg y, hs, if_neg (by omega)]
def lst (f : Nat → Nat) (n p : Nat) : Nat := ff (fun e => decide (f e = p)) n
theorem lst_ok {f : Nat → Nat} {n p : Nat} (hC : Can f n) (hp : p < pts f n) : lst f n p < n ∧ f (lst f n p) = p := by
  obtain ⟨e, he, hv⟩ := pts_all hC p hp
  obtain ⟨a, b, c⟩ := ff_spec (fun e => decide (f e = p)) n
  have hlt : lst f n p < n := by
    rcases Nat.lt_or_ge (lst f n p) n with z | z
    · exact z
    · have := c e (by show e < lst f n p; omega)
      rw [decide_eq_true hv] at this
      cases this
  exact ⟨hlt, of_decide_eq_true (b hlt)⟩
theorem m_scan {S : gSt} {g : Nat} {d : Int32} {t : Int} {r f : Nat → Nat} {w : Nat → Nat → Int} (hT : To S 0 r w) (hW : RW r w) (hf : rowAt S 83 (r 0) f) (hC : Can f (r 0)) (hg : g < r 0) (hS : Su S 8 (sP w f (r 0) g)) (t0 : 0 ≤ t) (t1 : t ≤ 72) : fX11_ratherAt_L115 gFU (nI g) d (iI t) 0 S = some ((scan (sP w f (r 0) g) (f g) t (pts f (r 0))).2.elim d (fun p => nI (lst f (r 0) p)), S) := by
  have h8 := hW.2.1
  have hp8 : pts f (r 0) ≤ 8 := Nat.le_trans (pts_leN hC) h8
  have hsb : ∀ p, -72 ≤ sP w f (r 0) g p ∧ sP w f (r 0) g p ≤ 72 := fun p => ww_b hW g _ h8
  have hb8 : ∀ e, e < r 0 → f e < 8 := fun e he => hC.lt8 h8 he
  have hpar := m_partiesOf (hT.mN hW) (by have := g83.1; omega) g83.2 hf (fun g hg => by have := hb8 g hg; omega)
  refine forFU (fun m (a : Int32 × Int32) p => fX11_ratherAt_L115 m (nI g) a.1 a.2 (nI p) S) (fun y => y = some ((scan (sP w f (r 0) g) (f g) t (pts f (r 0))).2.elim d (fun p => nI (lst f (r 0) p)), S)) (fun p a => a = ((scan (sP w f (r 0) g) (f g) t p).2.elim d (fun p => nI (lst f (r 0) p)), iI (scan (sP w f (r 0) g) (f g) t p).1)) (pts f (r 0)) (d, iI t) (by omega) ?_ ?_ rfl
  · rintro m p a hp rfl
    right
    refine ⟨_, rfl, ?_⟩
    show fX11_ratherAt_L115 (m + 1) (nI g) ((scan (sP w f (r 0) g) (f g) t p).2.elim d (fun p => nI (lst f (r 0) p))) (iI (scan (sP w f (r 0) g) (f g) t p).1) (nI p) S = fX11_ratherAt_L115 m (nI g) ((scan (sP w f (r 0) g) (f g) t (p + 1)).2.elim d (fun p => nI (lst f (r 0) p))) (iI (scan (sP w f (r 0) g) (f g) t (p + 1)).1) (nI (p + 1)) S
    have hb := hsb p
    have g1 := (scan_ok (sP w f (r 0) g) (f g) t p).1
    have g2 := scan_b (home := f g) (G := t) (B := 72) (fun p => (hsb p).2) t1 p
    have fg := hb8 g hg
    rw [fX11_ratherAt_L115, hpar, gBp_s, if_neg (nI_nleI hp (by omega)), gC_ok (gIn_ok (by omega) (by omega)), gN_nI (by omega), hf g hg, scan_s]
    by_cases z0 : p = f g
    · rw [if_pos (show nI p = nI (f g) by rw [z0]), if_neg (show ¬ (p ≠ f g ∧ (scan (sP w f (r 0) g) (f g) t p).1 < sP w f (r 0) g p) from fun y => y.1 z0), nI_1]
    · rw [if_neg (nI_neI (by omega) (by omega) z0), gC_ok (gIn_ok (by omega) (by omega)), gN_nI (by omega), hS p (by omega)]
      by_cases z1 : (scan (sP w f (r 0) g) (f g) t p).1 < sP w f (r 0) g p
      · rw [if_neg (show ¬ iI (sP w f (r 0) g p) ≤ iI (scan (sP w f (r 0) g) (f g) t p).1 from fun y => by rw [iI_le (by omega) (by omega) (by omega) (by omega)] at y; omega), if_pos (show p ≠ f g ∧ (scan (sP w f (r 0) g) (f g) t p).1 < sP w f (r 0) g p from ⟨z0, z1⟩), gC_ok (gIn_ok (by omega) (by omega)), gL_s, m_guests (hT.mN hW), gBp_s, gL_s, m_least hf hb8 h8 (by omega) (r 0) gFU _ (Nat.le_refl _) (show r 0 < 5000 by omega), if_pos (show ff (fun e => decide (f e = p)) (r 0) < r 0 from (lst_ok hC hp).1)]
        rfl
      · rw [if_pos (show iI (sP w f (r 0) g p) ≤ iI (scan (sP w f (r 0) g) (f g) t p).1 from (iI_le (by omega) (by omega) (by omega) (by omega)).mpr (by omega)), if_neg (show ¬ (p ≠ f g ∧ (scan (sP w f (r 0) g) (f g) t p).1 < sP w f (r 0) g p) from fun y => z1 y.2), nI_1]
  · rintro m a rfl
    show fX11_ratherAt_L115 (m + 1) (nI g) _ _ (nI (pts f (r 0))) S = _
    rw [fX11_ratherAt_L115, hpar, gBp_s, if_pos (nI_le (Nat.le_refl _) (by omega))]
theorem sP_alone {w : Nat → Nat → Int} {f : Nat → Nat} {n g : Nat} (hg : g < n) (h : cn (fun e => decide (f e = f g)) n = 1) : sP w f n g (f g) = 0 := by
  have only : ∀ x, x < n → x ≠ g → f x ≠ f g := fun x hx hne he => by
    have h1 := cn_lt (p := fun e => decide (f e = f g)) (a := min x g) (b := n) (by omega) (by
      rcases Nat.le_total x g with y | y
      · rw [Nat.min_eq_left y]; exact decide_eq_true he
      · rw [Nat.min_eq_right y]; exact decide_eq_true rfl)
    have h2 := cn_lt (p := fun e => decide (f e = f g)) (a := min x g) (b := max x g) (by omega) (by
      rcases Nat.le_total x g with y | y
      · rw [Nat.min_eq_left y]; exact decide_eq_true he
      · rw [Nat.min_eq_right y]; exact decide_eq_true rfl)
    have h3 := cn_lt (p := fun e => decide (f e = f g)) (a := max x g) (b := n) (by omega) (by
      rcases Nat.le_total x g with y | y
      · rw [Nat.max_eq_right y]; exact decide_eq_true rfl
      · rw [Nat.max_eq_left y]; exact decide_eq_true he)
    omega
  have z : ∀ k, k ≤ n → si (fun e => if e ≠ g ∧ decide (f e = f g) = true then w g e else 0) k = 0 := by
    intro k
    induction k with
    | zero => intro _; rfl
    | succ k ih =>
      intro hk
      rw [si_s, ih (by omega), if_neg (fun y => only k (by omega) y.1 (of_decide_eq_true y.2))]
      rfl
  exact z n (Nat.le_refl n)
theorem m_rather {S : gSt} {g : Nat} {r f : Nat → Nat} {w : Nat → Nat → Int} (hT : To S 0 r w) (hW : RW r w) (hf : rowAt S 83 (r 0) f) (hC : Can f (r 0)) (hg : g < r 0) : ∃ S1, gRw 85 8 S S1 ∧ ((stp w f (r 0) g = none ∧ fX11_ratherAt (nI g) S = some (-9, S1)) ∨ ∃ t, t < r 0 ∧ fX11_ratherAt (nI g) S = some (nI t, S1) ∧ ¬ isTh f (r 0) g t ∧ stp w f (r 0) g = some (mv f g t)) := by
  have h8 := hW.2.1
  obtain ⟨S1, e1, F1, s1⟩ := m_sum0 (S := S) (x1 := nI g)
  have hT1 := hT.rw F1 (by omega)
  have hf1 : rowAt S1 83 (r 0) f := fun x hx => by rw [F1.2 83 x (by omega)]; exact hf x hx
  obtain ⟨S2, e2, F2, s2⟩ := m_sums hT1 hW hf1 hC hg s1
  have hT2 := hT1.rw F2 (by omega)
  have hf2 : rowAt S2 83 (r 0) f := fun x hx => by rw [F2.2 83 x (by omega)]; exact hf1 x hx
  have hsb : ∀ p, -72 ≤ sP w f (r 0) g p ∧ sP w f (r 0) g p ≤ 72 := fun p => ww_b hW g _ h8
  refine ⟨S2, F1.tr F2, ?_⟩
  have hu : fX11_ratherAt (nI g) S = fX11_ratherAt_L4 gFU (nI g) 0 S := rfl
  rw [hu, e1, e2]
  unfold fX11_ratherAt_L99 stp
  have hm := hsb (f g)
  obtain ⟨g1, g3, g4⟩ := scan_ok (sP w f (r 0) g) (f g) 0 (pts f (r 0))
  have yes : ∀ p, (scan (sP w f (r 0) g) (f g) 0 (pts f (r 0))).2 = some p → lst f (r 0) p < r 0 ∧ ¬ isTh f (r 0) g (lst f (r 0) p) ∧ can (upN f g ((scan (sP w f (r 0) g) (f g) 0 (pts f (r 0))).2.getD 8)) = mv f g (lst f (r 0) p) := fun p hp => by
    obtain ⟨u1, u2, -⟩ := g4 p hp
    obtain ⟨l1, l2⟩ := lst_ok hC u1
    have hne : ¬ g = lst f (r 0) p := fun y => u2 (by rw [← l2, ← y])
    refine ⟨l1, ?_, ?_⟩
    · unfold isTh
      rw [if_neg hne, l2]
      exact fun y => u2 y.symm
    · unfold mv
      rw [hp, if_neg hne, l2]
      rfl
  by_cases z : 0 ≤ sP w f (r 0) g (f g)
  · have zI : 0 ≤ iI (sP w f (r 0) g (f g)) := (iI_le (x := 0) (by omega) (by omega) (by omega) (by omega)).mpr z
    rw [if_pos zI, if_pos zI, m_scan hT2 hW hf2 hC hg s2 z (by omega)]
    obtain ⟨t1, t2, t3⟩ := scan_two (sP w f (r 0) g) (f g) (sP w f (r 0) g (f g)) z (pts f (r 0))
    by_cases y : sP w f (r 0) g (f g) < (scan (sP w f (r 0) g) (f g) 0 (pts f (r 0))).1
    · right
      rw [if_pos y, t2 y]
      cases hA : (scan (sP w f (r 0) g) (f g) 0 (pts f (r 0))).2 with
      | none => have := g3 hA; omega
      | some p =>
        obtain ⟨y1, y2, y3⟩ := yes p hA
        rw [hA] at y3
        exact ⟨lst f (r 0) p, y1, rfl, y2, by rw [y3]⟩
    · left
      rw [if_neg y, t3 (by omega)]
      exact ⟨rfl, rfl⟩
  · have zI : ¬ 0 ≤ iI (sP w f (r 0) g (f g)) := fun y => z ((iI_le (x := 0) (by omega) (by omega) (by omega) (by omega)).mp y)
    rw [if_neg zI, if_neg zI, show (0 : Int32) = iI 0 from rfl, show fX11_ratherAt_L115 gFU (nI g) (nI g) (iI 0) (iI 0) S2 = _ from m_scan (t := 0) hT2 hW hf2 hC hg s2 (by omega) (by omega)]
    right
    rw [if_pos (by omega)]
    cases hA : (scan (sP w f (r 0) g) (f g) 0 (pts f (r 0))).2 with
    | none =>
      refine ⟨g, hg, rfl, ?_, ?_⟩
      · unfold isTh
        rw [if_pos rfl]
        intro y
        have := sP_alone (w := w) hg y
        omega
      · unfold mv
        rw [if_pos rfl]
        rfl
    | some p =>
      obtain ⟨y1, y2, y3⟩ := yes p hA
      rw [hA] at y3
      exact ⟨lst f (r 0) p, y1, rfl, y2, by rw [y3]⟩
theorem stp_Can {w : Nat → Nat → Int} {f f' : Nat → Nat} {n g : Nat} (h : stp w f n g = some f') : Can f' n := by
  unfold stp at h
  split at h
  · rw [← Option.some.inj h]; exact Can_can _ _
  · cases h
theorem m_leaveNext {k53 : Int32 → Int32 → Int32 → Int32 → gSt → Option (Int32 × gSt)} {x1 x2 x3 : Int32} {n g : Nat} {S : gSt} (h : mN S n) (hg : g < n) : fX11_leaving_L108 k53 x1 x2 x3 (nI g) S = k53 x1 x2 x3 (nI (nxt n g)) S := by
  have h8 := h.2.2
  have hne : ¬ nI n = 0 := nI_neI (b := 0) (by omega) (by omega) (by omega)
  unfold fX11_leaving_L108 nxt
  rw [m_guests h, gBp_s, gC_ok (decide_eq_true hne), nI_1, gL_s, nI_div (by omega) (by omega), nI_mul, nI_sub (by rw [Nat.mul_comm]; exact Nat.mul_div_le _ _), Nat.mod_def, Nat.mul_comm n]
theorem nI_m9' {v : Nat} (h : v < 2 ^ 31) : ¬ nI v = -9 := fun z => nI_pos h (by rw [z]; decide)
theorem m_leaves {r : Nat → Nat} {w : Nat → Nat → Int} {x1 : Int32} (hW : RW r w) : ∀ (F go st g : Nat) (f : Nat → Nat) (S : gSt), To S 0 r w → rowAt S 83 (r 0) f → Can f (r 0) → g < r 0 → go ≤ 60 → st ≤ r 0 → (60 - go) * 9 + (r 0 - st) < F → ∃ S1, fX11_leaving_L53 F x1 (nI go) (nI st) (nI g) S = fX11_leaving_L122 x1 (nI (lvR w (r 0) F f go st g).2) S1 ∧ gSc S S1 ∧ rowAt S1 83 (r 0) (lvR w (r 0) F f go st g).1 := by
  intro F
  induction F with
  | zero => intro go st g f S _ _ _ _ _ _ h; exact absurd h (Nat.not_lt_zero _)
  | succ F ih =>
    intro go st g f S hT hf hC hg hle hst hm
    have h1 := hW.1
    have h8 := hW.2.1
    rw [fX11_leaving_L53, m_guests (hT.mN hW), gBp_s]
    by_cases z : r 0 ≤ st ∨ 60 ≤ go
    · rw [lvR_stop z]
      refine ⟨S, ?_, gSc.rf, hf⟩
      by_cases z2 : r 0 ≤ st
      · rw [if_pos (nI_le z2 (by omega))]
      · rw [if_neg (nI_nleI (by omega) (by omega)), if_pos (show (60 : Int32) ≤ nI go from nI_le (a := 60) (by omega) (by omega))]
    · have hg1 := nxt_lt (g := g) h1
      obtain ⟨S1, F1, e⟩ := m_rather hT hW hf hC hg
      have hT1 := hT.rw F1 (by omega)
      have hf1 : rowAt S1 83 (r 0) f := fun x hx => by rw [F1.2 83 x (by omega)]; exact hf x hx
      rw [if_neg (nI_nleI (by omega) (by omega)), if_neg (show ¬ (60 : Int32) ≤ nI go from nI_nleI (b := 60) (by omega) (by omega))]
      rcases e with ⟨e, e1⟩ | ⟨t, ht, e1, hth, e⟩
      · rw [lvR_none z e, e1, gBd_s, if_pos rfl, nI_1, m_leaveNext (hT1.mN hW) hg]
        obtain ⟨S2, e2, F2, r2⟩ := ih go (st + 1) (nxt (r 0) g) f S1 hT1 hf1 hC hg1 hle (by omega) (by omega)
        exact ⟨S2, e2, (F1.sc (by omega) (by omega)).tr F2, r2⟩
      · rcases m_moves (hT1.mN hW) (by omega) g83.1 g83.2 hf1 hC hg ht with ⟨y, -⟩ | ⟨-, S2, e3, F3, r3⟩
        · exact absurd y hth
        · have hT2 := hT1.rw F3 (by omega)
          obtain ⟨S4, e4, F4, r4⟩ := ih (go + 1) 0 (nxt (r 0) g) (mv f g t) S2 hT2 r3 (Can_can _ _) hg1 (by omega) (by omega) (by omega)
          rw [lvR_some z e, e1, gBd_s, if_neg (nI_m9' (by omega)), e3, gBd_s, if_neg (by decide), nI_1, m_leaveNext (hT2.mN hW) hg]
          exact ⟨S4, e4, ((F1.sc (by omega) (by omega)).tr (F3.sc (by omega) (by omega))).tr F4, r4⟩
theorem m_leaveCopy {S : gSt} {x1 : Int32} : ∃ S1, fX11_leaving_L22 gFU x1 0 S = fX11_leaving_L53 gFU x1 0 0 0 S1 ∧ gRw 83 8 S S1 ∧ ∀ g, g < 8 → gR S1 83 g = gR S 80 g := by
  refine forS (fun m (T : gSt) p => fX11_leaving_L22 m x1 (nI p) T) (fun y => ∃ S1, y = fX11_leaving_L53 gFU x1 0 0 0 S1 ∧ gRw 83 8 S S1 ∧ ∀ g, g < 8 → gR S1 83 g = gR S 80 g) (fun p T => gRw 83 8 S T ∧ ∀ g, g < p → gR T 83 g = gR S 80 g) 8 ?_ ?_ (by omega) S ⟨gRw.rf, fun e h => absurd h (Nat.not_lt_zero _)⟩
  · rintro m p T hp ⟨hF, a1⟩
    refine ⟨gW T 83 p (gR S 80 p), ⟨hF.w hp, fun e he => ?_⟩, ?_⟩
    · by_cases z : e = p
      · subst z; exact gR_Ws _ _ _ _
      · rw [gR_Wk z]; exact a1 e (by omega)
    · show fX11_leaving_L22 (m + 1) x1 (nI p) T = fX11_leaving_L22 m x1 (nI (p + 1)) _
      rw [fX11_leaving_L22, l8, if_neg (nI_nleI hp (by omega)), gC_ok (gIn_ok (by omega) (by omega)), gC_ok (gIn_ok (by omega) (by omega)), gL_s, gN_nI (by omega), hF.2 80 p (by omega), nI_1]
  · rintro m T ⟨hF, a1⟩
    refine ⟨T, ?_, hF, a1⟩
    show fX11_leaving_L22 (m + 1) x1 (nI 8) T = _
    rw [fX11_leaving_L22, l8, if_pos (nI_le (Nat.le_refl 8) (by omega))]
theorem t_leaving (a : Int32) : Tw (fX10_leaving a) (fX11_leaving a) := by
  rintro S ⟨o, r, w, f, v, k, σ, Z, hG, hX, hM⟩
  have hW := hG.1
  have h1 := hW.1
  have h8 := hW.2.1
  have hC := hG.2.1
  have hle := lvR_le w (r 0) gFU f 0 0 0 (by omega)
  have key : (a = -1 ∨ ∃ g, g < r 0 ∧ a = nI g) → ∃ v S1 S2, fX10_leaving a S = some (v, S1) ∧ fX11_leaving a S1 = some (v, S2) ∧ Rel S2 := fun ha => by
    obtain ⟨S1, e1, F1, s1, g1⟩ := c_runAll hX hW
    have hX1 := (hX.up F1 (by omega)).sc (gW7 S1)
    have hM1 := (hM.fr F1 (by omega)).sc (gW7 S1)
    obtain ⟨S2, e2, F2, r2⟩ := m_leaveCopy (S := gW S1 77 0 0) (x1 := a)
    have hX2 := hX1.sc (F2.sc (by omega) (by omega))
    have hM2 := hM1.sc (F2.sc (by omega) (by omega))
    obtain ⟨S3, e3, F3, r3⟩ := m_leaves (x1 := a) hW gFU 0 0 0 f S2 hM2.1 (fun g hg => by rw [r2 g (by omega)]; exact hM1.2.1 g hg) hC (by omega) (by omega) (by omega) (show (60 - 0) * 9 + (r 0 - 0) < 5000 by omega)
    have e3 : fX11_leaving_L53 gFU a 0 0 0 S2 = fX11_leaving_L122 a (nI (lvR w (r 0) gFU f 0 0 0).2) S3 := e3
    generalize lvR w (r 0) gFU f 0 0 0 = R at *
    have em : ∀ x, fX11_leaving_L122 a (nI R.2) S3 = some (x, S3) → fX11_leaving a S1 = some (x, S3) := fun x hx => by
      unfold fX11_leaving
      rw [gL_s]
      rcases ha with ha | ⟨g, hg, ha⟩
      · rw [if_pos ha, e2, e3, hx]
      · rw [if_neg (fun y => by rw [ha] at y; exact nI_pos (n := g) (by omega) (by rw [y]; decide))]
        rcases m_isGuest (hM1.mn hW) a with ⟨e5, -⟩ | ⟨-, h5⟩
        · rw [e5, gBp_s, if_neg (by decide), e2, e3, hx]
        · exact absurd ⟨g, hg, ha⟩ h5
    have ec : fX10_leaving a S = if a < 0 then (gBp (fX0_hasStopped S1) (fun v_3 => if v_3 = 0 then (some ((-9), S1)) else (gBp (fX0_goings S1) (fun v_4 => some (v_4, S1))))) else (gBp (fX0_standing S1) (fun q_5 => gC (gIsSt q_5) (gBp (fX7_partyOf q_5 a S1) (fun v_6 => some (v_6, S1))))) := by
      unfold fX10_leaving
      have a1 : ¬ a < -1 := by
        rcases ha with ha | ⟨g, hg, ha⟩
        · rw [ha]; decide
        · rw [ha]; exact fun z => nI_pos (n := g) (by omega) (Int32.lt_trans z (by decide))
      have a2 : a < nI (r 0) := by
        rcases ha with ha | ⟨g, hg, ha⟩
        · rw [ha]; exact Int32.lt_of_lt_of_le (show (-1 : Int32) < 0 by decide) (nI_pos' (by omega))
        · rw [ha]; exact nI_lt hg (by omega)
      rw [if_neg a1, hX.g0, gC_ok hX.gi, hX.gu, gBp_s, if_pos a2, gC_ok hX.gi, e1, gBp_s]
    have fin : ∀ x, fX10_leaving a S = some (x, S1) → fX11_leaving_L122 a (nI R.2) S3 = some (x, S3) → ∃ v S1 S2, fX10_leaving a S = some (v, S1) ∧ fX11_leaving a S1 = some (v, S2) ∧ Rel S2 := fun x hx hy => ⟨x, S1, S3, hx, em x hy, o, r, w, f, v, k, σ, Z, hG, hX2.sc F3, hM2.sc F3⟩
    rcases ha with ha | ⟨g, hg, ha⟩
    · have an : a < 0 := by rw [ha]; decide
      rw [if_pos an] at ec
      unfold fX0_hasStopped fX0_goings at ec
      rw [g1] at ec
      by_cases y : R.2 = 60
      · rw [if_pos (show (60 : Int32) ≤ nI R.2 from nI_le (a := 60) (by omega) (by omega)), gBp_s, if_pos rfl] at ec
        refine fin (-9) ec ?_
        unfold fX11_leaving_L122
        rw [if_pos an, if_pos (by rw [y]; rfl)]
      · rw [if_neg (show ¬ (60 : Int32) ≤ nI R.2 from nI_nleI (b := 60) (by omega) (by omega)), gBp_s, if_neg (by decide), gBp_s] at ec
        refine fin (nI R.2) ec ?_
        unfold fX11_leaving_L122
        rw [if_pos an, if_neg (show ¬ nI R.2 = 60 from nI_neI (b := 60) (by omega) (by omega) y)]
    · have an : ¬ a < 0 := by rw [ha]; exact nI_pos (by omega)
      rw [if_neg an, show fX0_standing S1 = some 73 from rfl, gBp_s, gC_ok (by decide), ha, c_partyOf s1 hg, gBp_s] at ec
      refine fin (nI (R.1 g)) (by rw [ha]; exact ec) ?_
      unfold fX11_leaving_L122
      rw [if_neg an, ha, gC_ok (gIn_ok (by omega) (by omega)), gN_nI (by omega), r3 g hg]
  by_cases z : a = -1
  · exact key (Or.inl z)
  · rcases cB a (n := r 0) (by omega) with ⟨g, hg, ha⟩ | ⟨hn, q⟩
    · exact key (Or.inr ⟨g, hg, ha⟩)
    · have hM1 := hM.sc (gW7 S)
      refine ⟨-1, S, gW S 77 0 0, ?_, ?_, o, r, w, f, v, k, σ, Z, hG, hX.sc (gW7 _), hM1⟩
      · unfold fX10_leaving
        by_cases y : a < -1
        · rw [if_pos y]
        · rw [if_neg y, hX.g0, gC_ok hX.gi, hX.gu, gBp_s]
          rcases q with q | ⟨q1, q2⟩
          · exfalso
            have h1 : ¬ a.toInt < (-1 : Int32).toInt := fun t => y (Int32.lt_iff_toInt_lt.mpr t)
            have h2 : a.toInt < (0 : Int32).toInt := Int32.lt_iff_toInt_lt.mp q
            have h3 : a.toInt ≠ (-1 : Int32).toInt := fun t => z (Int32.toInt_inj.mp t)
            rw [show (-1 : Int32).toInt = -1 from rfl] at h1 h3
            rw [show (0 : Int32).toInt = 0 from rfl] at h2
            omega
          · rw [if_neg (Int32.not_lt.mpr q2)]
      · unfold fX11_leaving
        rw [gL_s, if_neg z]
        rcases m_isGuest (hM1.mn hW) a with ⟨-, h5⟩ | ⟨e5, -⟩
        · exact absurd h5 hn
        · rw [e5, gBp_s, if_pos rfl]
