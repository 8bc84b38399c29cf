/-! what was seen, the best row: the reference; needs: 0800 0801 0802 0803 0804 0805 0806 0807 0808 0809 0810 0811 0812 0813 -/
theorem left_step {S T : gSt} {r : Nat → Nat} {w : Nat → Nat → Int} {d a b x m k : Nat} {σ : Nat → Nat} {v : Int32} {l : List Nat} (hW : RW r w) (ha : a < r 0) (hb : b < r 0) (hT : To S 0 r w) (hR : Rs S (r 0) d l) (hk : gR S 80 8 = nI k) (hσ : ∀ j, j < 3 * k → gR S 80 (9 + j) = nI (σ j)) (hg : Sg (r 0) k σ) (hn : fX11_nextRow S = some (v, T)) : fX11_leftWith_L9 (m + 1) (nI a) (nI b) (nI x) (nI 1) S = fX11_leftWith_L9 m (nI a) (nI b) (nI (x + bN (decide (dig d a = dig d b) && (lw r d && fitB σ k d)))) v T := by
  have h8 := hW.2.1
  have b1 := dig_lt d a
  have b2 := dig_lt d b
  rw [fX11_leftWith_L9]
  unfold fX11_leftWith_L42
  rw [m_fits hT hW hR.1 (hR.can h8) hk hσ hg, hn, if_neg (show ¬ nI 1 = 0 by decide), gC_ok (gIn_ok (by omega) (by omega)), gC_ok (gIn_ok (by omega) (by omega)), gN_nI (by omega), gN_nI (by omega), hR.1 a ha, hR.1 b hb, gBp_s, gL_s, gL_s, gBd_s, gBd_s, nI_1, Int32.add_zero]
  by_cases z : dig d a = dig d b
  · rw [if_pos (show nI (dig d a) = nI (dig d b) by rw [z]), decide_eq_true z, Bool.true_and]
    cases (lw r d && fitB σ k d) with
    | true => rw [if_neg (show ¬ nI (bN true) = 0 by decide)]; rfl
    | false => rw [if_pos (show nI (bN false) = 0 by decide)]; rfl
  · rw [if_neg (nI_neI (by omega) (by omega) z), decide_eq_false z, Bool.false_and]; rfl
theorem m_left_l {r : Nat → Nat} {w : Nat → Nat → Int} {a b k : Nat} {σ : Nat → Nat} (hW : RW r w) (ha : a < r 0) (hb : b < r 0) (hg : Sg (r 0) k σ) : ∀ (l : List Nat) (d m x : Nat) (S : gSt), To S 0 r w → Rs S (r 0) d l → gR S 80 8 = nI k → (∀ j, j < 3 * k → gR S 80 (9 + j) = nI (σ j)) → l.length + 1 < m → ∃ S1, fX11_leftWith_L9 m (nI a) (nI b) (nI x) (nI 1) S = some (nI (x + (d :: l).countP (fun d => decide (dig d a = dig d b) && (lw r d && fitB σ k d))), S1) ∧ gRw 83 8 S S1 := by
  have h8 := hW.2.1
  intro l
  induction l with
  | nil =>
    intro d m x S hT hR hk hσ hm
    obtain ⟨m, rfl⟩ : ∃ j, m = j + 2 := ⟨m - 2, by simp at hm; omega⟩
    refine ⟨S, ?_, gRw.rf⟩
    rw [left_step hW ha hb hT hR hk hσ hg (hR.last hT hW), fX11_leftWith_L9, if_pos rfl, List.countP_singleton]
    rfl
  | cons e l ih =>
    intro d m x S hT hR hk hσ hm
    obtain ⟨m, rfl⟩ : ∃ j, m = j + 1 := ⟨m - 1, by omega⟩
    simp only [List.length_cons] at hm
    obtain ⟨T, hn, hF, hR2⟩ := hR.step hT hW
    have hT2 := hT.rw hF (by decide)
    have hF8 : gRw 83 8 S T := hF.mono h8
    obtain ⟨S1, e1, e2⟩ := ih e m (x + bN (decide (dig d a = dig d b) && (lw r d && fitB σ k d))) T hT2 hR2 (by rw [hF.2 _ _ (by omega)]; exact hk) (fun j hj => by rw [hF.2 _ _ (by omega)]; exact hσ j hj) (by omega)
    refine ⟨S1, ?_, hF8.tr e2⟩
    rw [left_step hW ha hb hT hR hk hσ hg hn, show fX11_leftWith_L9 m (nI a) (nI b) (nI (x + bN (decide (dig d a = dig d b) && (lw r d && fitB σ k d)))) 1 T = _ from e1, List.countP_cons (a := d)]
    congr 3
    show x + bN _ + _ = x + (_ + (if _ then 1 else 0))
    rw [Nat.add_assoc, Nat.add_comm (bN _)]
    rfl
theorem m_left {S : gSt} {r : Nat → Nat} {w : Nat → Nat → Int} {a b k : Nat} {σ : Nat → Nat} (hT : To S 0 r w) (hW : RW r w) (ha : a < r 0) (hb : b < r 0) (hk : gR S 80 8 = nI k) (hσ : ∀ j, j < 3 * k → gR S 80 (9 + j) = nI (σ j)) (hg : Sg (r 0) k σ) : ∃ S1, fX11_leftWith (nI a) (nI b) S = some (nI ((rows (r 0)).countP (fun d => decide (dig d a = dig d b) && (lw r d && fitB σ k d))), S1) ∧ gRw 83 8 S S1 := by
  obtain ⟨T, l, e1, e2, e3, e4⟩ := Rs.first (S := S) hW.1 hW.2.1
  have hlen := rows_len hW.1 hW.2.1
  rw [e3, List.length_cons] at hlen
  obtain ⟨S1, f1, f2⟩ := m_left_l hW ha hb hg l 0 gFU 0 T (hT.rw e2 (by decide)) e4 (by rw [e2.2 _ _ (by omega)]; exact hk) (fun j hj => by rw [e2.2 _ _ (by omega)]; exact hσ j hj) (show l.length + 1 < 5000 by omega)
  refine ⟨S1, ?_, e2.tr f2⟩
  unfold fX11_leftWith
  rw [e1, gBp_s, show fX11_leftWith_L9 gFU (nI a) (nI b) 0 1 T = _ from f1, e3, Nat.zero_add]
/-- the reference's best so far -/
def mo (r : Nat → Nat) (w : Nat → Nat → Int) : Option Nat → Int32
  | none => -1000000
  | some b => iI (wAll w (dig b) (r 0))
def Bo (S : gSt) (r : Nat → Nat) (o : Option Nat) : Prop := ∀ b, o = some b → ∀ e, e < r 0 → gR S 84 e = nI (dig b e)
def gB2 (S S1 : gSt) : Prop := S1.2 = S.2 ∧ ∀ p k, p ≠ 83 → p ≠ 84 → gR S1 p k = gR S p k
theorem gB2.rf {S : gSt} : gB2 S S := ⟨rfl, fun _ _ _ _ => rfl⟩
theorem gB2.tr {S S1 S2 : gSt} (h : gB2 S S1) (h2 : gB2 S1 S2) : gB2 S S2 := ⟨h2.1.trans h.1, fun p k a b => (h2.2 p k a b).trans (h.2 p k a b)⟩
theorem gRw.b2 {S S1 : gSt} {n : Nat} (h : gRw 83 n S S1) : gB2 S S1 := ⟨h.1, fun p k a _ => h.2 p k (Or.inl a)⟩
theorem best_copy {k30 : Int32 → Int32 → Int32 → gSt → Option (Int32 × gSt)} (S : gSt) (x1 x2 : Int32) : ∃ T, fX11_best_L69 k30 gFU x1 x2 0 S = fX11_best_L96 k30 x1 x2 T ∧ gB2 S T ∧ (∀ e, e < 8 → gR T 84 e = gR S 83 e) ∧ ∀ e, gR T 83 e = gR S 83 e := by
  refine forS (fun m (T : gSt) g => fX11_best_L69 k30 m x1 x2 (nI g) T) (fun y => ∃ T, y = fX11_best_L96 k30 x1 x2 T ∧ gB2 S T ∧ (∀ e, e < 8 → gR T 84 e = gR S 83 e) ∧ ∀ e, gR T 83 e = gR S 83 e) (fun g T => gB2 S T ∧ (∀ e, e < g → gR T 84 e = gR S 83 e) ∧ ∀ e, gR T 83 e = gR S 83 e) 8 ?_ ?_ (by omega) S ⟨gB2.rf, fun e h => absurd h (Nat.not_lt_zero _), fun _ => rfl⟩
  · rintro m g T hg ⟨hF, a1, a2⟩
    refine ⟨gW T 84 g (gR T 83 g), ⟨⟨hF.1, fun p k h1 h2 => by rw [gR_W2, if_neg (by omega)]; exact hF.2 p k h1 h2⟩, fun e he => ?_, fun e => ?_⟩, ?_⟩
    · by_cases q : e = g
      · subst q; simp (disch := omega) only [gC_d, gC_tt, gBp_s, gBd_s, gL_s, gIn_nI, gN_nI, nI_ltI, nI_leI, nI_eq, nI_add, nI_mul, nI_sub, ite_t, ite_f, gR_W2, gRL_W, if_true, if_false, true_and, and_true, false_and, and_false, and_self, Nat.add_zero, l0, l1, l2, l3, l4, l5, l6, l7, l8, l9, l10, l11, l12, l13, l14, l22, l30, l31, l32, l39, l40, l48, l50, l57, l59, l60, l94, l97, l99, l100, l122, l255, l256, l300, l488, l1000, a2]
      · simp (disch := omega) only [gC_d, gC_tt, gBp_s, gBd_s, gL_s, gIn_nI, gN_nI, nI_ltI, nI_leI, nI_eq, nI_add, nI_mul, nI_sub, ite_t, ite_f, gR_W2, gRL_W, if_true, if_false, true_and, and_true, false_and, and_false, and_self, Nat.add_zero, l0, l1, l2, l3, l4, l5, l6, l7, l8, l9, l10, l11, l12, l13, l14, l22, l30, l31, l32, l39, l40, l48, l50, l57, l59, l60, l94, l97, l99, l100, l122, l255, l256, l300, l488, l1000, a1 e (show e < g by omega)]
    · simp (disch := omega) only [gC_d, gC_tt, gBp_s, gBd_s, gL_s, gIn_nI, gN_nI, nI_ltI, nI_leI, nI_eq, nI_add, nI_mul, nI_sub, ite_t, ite_f, gR_W2, gRL_W, if_true, if_false, true_and, and_true, false_and, and_false, and_self, Nat.add_zero, l0, l1, l2, l3, l4, l5, l6, l7, l8, l9, l10, l11, l12, l13, l14, l22, l30, l31, l32, l39, l40, l48, l50, l57, l59, l60, l94, l97, l99, l100, l122, l255, l256, l300, l488, l1000, a2]
    · show fX11_best_L69 k30 (m + 1) x1 x2 (nI g) T = fX11_best_L69 k30 m x1 x2 (nI (g + 1)) _
      rw [fX11_best_L69]
      simp (disch := omega) only [gC_d, gC_tt, gBp_s, gBd_s, gL_s, gIn_nI, gN_nI, nI_ltI, nI_leI, nI_eq, nI_add, nI_mul, nI_sub, ite_t, ite_f, gR_W2, gRL_W, if_true, if_false, true_and, and_true, false_and, and_false, and_self, Nat.add_zero, l0, l1, l2, l3, l4, l5, l6, l7, l8, l9, l10, l11, l12, l13, l14, l22, l30, l31, l32, l39, l40, l48, l50, l57, l59, l60, l94, l97, l99, l100, l122, l255, l256, l300, l488, l1000]
  · rintro m T ⟨hF, a1, a2⟩
    refine ⟨T, ?_, hF, a1, a2⟩
    show fX11_best_L69 k30 (m + 1) x1 x2 (nI 8) T = _
    rw [fX11_best_L69]
    simp (disch := omega) only [gC_d, gC_tt, gBp_s, gBd_s, gL_s, gIn_nI, gN_nI, nI_ltI, nI_leI, nI_eq, nI_add, nI_mul, nI_sub, ite_t, ite_f, gR_W2, gRL_W, if_true, if_false, true_and, and_true, false_and, and_false, and_self, Nat.add_zero, l0, l1, l2, l3, l4, l5, l6, l7, l8, l9, l10, l11, l12, l13, l14, l22, l30, l31, l32, l39, l40, l48, l50, l57, l59, l60, l94, l97, l99, l100, l122, l255, l256, l300, l488, l1000]
theorem best_step {S : gSt} {r : Nat → Nat} {w : Nat → Nat → Int} {d m : Nat} {x1 : Int32} {l : List Nat} {o : Option Nat} (hW : RW r w) (hT : To S 0 r w) (hR : Rs S (r 0) d l) (hB : Bo S r o) : ∃ T, fX11_best_L30 (m + 1) x1 (mo r w o) (nI 1) S = gBd (fX11_nextRow T) (fun v S_2 => fX11_best_L30 m x1 (mo r w (if lw r d then bs r w o d else o)) v S_2) ∧ gB2 S T ∧ To T 0 r w ∧ Rs T (r 0) d l ∧ Bo T r (if lw r d then bs r w o d else o) := by
  have h8 := hW.2.1
  have hwo := m_worthOf hT hW g83.1 g83.2 hR.1 (fun g _ => Nat.lt_trans (dig_lt d g) (by decide))
  have b1 := wAll_b hW (dig d) h8
  have hst : fX11_best_L30 (m + 1) x1 (mo r w o) (nI 1) S = if lw r d then (if iI (wAll w (dig d) (r 0)) ≤ mo r w o then fX11_best_L96 (fX11_best_L30 m) x1 (mo r w o) S else fX11_best_L69 (fX11_best_L30 m) gFU x1 (iI (wAll w (dig d) (r 0))) 0 S) else fX11_best_L96 (fX11_best_L30 m) x1 (mo r w o) S := by
    rw [fX11_best_L30, if_neg (show ¬ nI 1 = 0 by decide), hR.lawful hT hW, gBp_s, hwo, gBp_s, gBp_s]
    cases lw r d with
    | true => rw [if_neg (show ¬ nI (bN true) = 0 by decide), if_pos (show true = true from rfl)]
    | false => rw [if_pos (show nI (bN false) = 0 by decide), if_neg (show ¬ false = true by decide)]
  have hcp : ∀ y, bs r w o d = some d → y = iI (wAll w (dig d) (r 0)) → ∃ T, fX11_best_L69 (fX11_best_L30 m) gFU x1 y 0 S = gBd (fX11_nextRow T) (fun v S_2 => fX11_best_L30 m x1 (mo r w (bs r w o d)) v S_2) ∧ gB2 S T ∧ To T 0 r w ∧ Rs T (r 0) d l ∧ Bo T r (bs r w o d) := by
    intro y hy hy2
    obtain ⟨T, e1, e2, e3, e4⟩ := best_copy (k30 := fX11_best_L30 m) S x1 y
    have hT2 : To T 0 r w := ⟨fun k hk => by rw [e2.2 _ _ (by decide) (by decide)]; exact hT.1 k hk, fun x y hx hy => by rw [e2.2 _ _ (by decide) (by decide)]; exact hT.2 x y hx hy⟩
    refine ⟨T, ?_, e2, hT2, ⟨fun g hg => by rw [e4]; exact hR.1 g hg, hR.2⟩, ?_⟩
    · rw [e1, hy, hy2]; rfl
    · rw [hy]
      intro b hb e he
      have hb := Option.some.inj hb
      subst hb
      rw [e3 e (by omega)]; exact hR.1 e he
  cases hl : lw r d with
  | false =>
    rw [hl] at hst
    refine ⟨S, ?_, gB2.rf, hT, hR, hB⟩
    rw [hst]; rfl
  | true =>
    rw [hl, if_pos rfl] at hst
    rw [hst]
    simp only [if_true]
    cases o with
    | none =>
      have hn : ¬ iI (wAll w (dig d) (r 0)) ≤ mo r w none := fun z => by
        have z := Int32.le_iff_toInt_le.mp z
        rw [iI_toInt (by omega) (by omega), show (mo r w none).toInt = -1000000 from rfl] at z
        omega
      rw [if_neg hn]
      exact hcp _ rfl rfl
    | some b =>
      have b2 := wAll_b hW (dig b) h8
      by_cases z : wAll w (dig b) (r 0) < wAll w (dig d) (r 0)
      · rw [if_neg (show ¬ iI (wAll w (dig d) (r 0)) ≤ mo r w (some b) from fun y => by
          have y : iI (wAll w (dig d) (r 0)) ≤ iI (wAll w (dig b) (r 0)) := y
          rw [iI_le (by omega) (by omega) (by omega) (by omega)] at y
          omega)]
        exact hcp _ (by rw [bs_sm, if_pos z]) rfl
      · rw [if_pos (show iI (wAll w (dig d) (r 0)) ≤ mo r w (some b) from (iI_le (by omega) (by omega) (by omega) (by omega)).mpr (by omega))]
        rw [bs_sm, if_neg z]
        exact ⟨S, rfl, gB2.rf, hT, hR, hB⟩
/-- the answer: the worth, or the party of one in the best row -/
def bAns (r : Nat → Nat) (w : Nat → Nat → Int) (x : Option Nat) : Option Nat → Int32
  | none => -1000000
  | some b => match x with
    | none => iI (wAll w (dig b) (r 0))
    | some g => nI (dig b g)
def xI : Option Nat → Int32
  | none => -1
  | some g => nI g
theorem best_end {S : gSt} {r : Nat → Nat} {w : Nat → Nat → Int} {m : Nat} {x o : Option Nat} (hW : RW r w) (hB : Bo S r o) (hx : ∀ g, x = some g → g < r 0) : fX11_best_L30 (m + 1) (xI x) (mo r w o) 0 S = some (bAns r w x o, S) := by
  have h8 := hW.2.1
  rw [fX11_best_L30, if_pos rfl]
  cases o with
  | none => rw [if_pos (show mo r w none = -1000000 from rfl)]; rfl
  | some b =>
    have b2 := wAll_b hW (dig b) h8
    rw [if_neg (show ¬ mo r w (some b) = -1000000 from fun z => by
      have z : (iI (wAll w (dig b) (r 0))).toInt = (-1000000 : Int32).toInt := congrArg _ z
      rw [iI_toInt (by omega) (by omega), show (-1000000 : Int32).toInt = -1000000 from rfl] at z
      omega)]
    cases x with
    | none => rw [if_pos (show xI none = -1 from rfl)]; rfl
    | some g =>
      have hg := hx g rfl
      rw [if_neg (show ¬ xI (some g) = -1 from fun z => by
        have z : (nI g).toInt = (-1 : Int32).toInt := congrArg _ z
        rw [nI_toInt (by omega), show (-1 : Int32).toInt = -1 from rfl] at z
        omega), show gIn (xI (some g)) 8 = true from gIn_ok (by omega) (by omega), gC_tt, show gN (xI (some g)) = g from gN_nI (by omega), hB b rfl g hg]
      rfl
theorem m_best_l {r : Nat → Nat} {w : Nat → Nat → Int} {x : Option Nat} (hW : RW r w) (hx : ∀ g, x = some g → g < r 0) : ∀ (l : List Nat) (d m : Nat) (o : Option Nat) (S : gSt), To S 0 r w → Rs S (r 0) d l → Bo S r o → l.length + 1 < m → ∃ S1, fX11_best_L30 m (xI x) (mo r w o) (nI 1) S = some (bAns r w x (((d :: l).filter (lw r)).foldl (bs r w) o), S1) ∧ gB2 S S1 := by
  have h8 := hW.2.1
  intro l
  induction l with
  | nil =>
    intro d m o S hT hR hB hm
    obtain ⟨m, rfl⟩ : ∃ j, m = j + 2 := ⟨m - 2, by simp at hm; omega⟩
    obtain ⟨T, e1, e2, e3, e4, e5⟩ := best_step (m := m + 1) (x1 := xI x) hW hT hR hB
    refine ⟨T, ?_, e2⟩
    rw [e1, e4.last e3 hW, gBd_s, best_end hW e5 hx, List.filter_cons]
    cases lw r d <;> rfl
  | cons e l ih =>
    intro d m o S hT hR hB hm
    obtain ⟨m, rfl⟩ : ∃ j, m = j + 1 := ⟨m - 1, by omega⟩
    simp only [List.length_cons] at hm
    obtain ⟨T, e1, e2, e3, e4, e5⟩ := best_step (m := m) (x1 := xI x) hW hT hR hB
    obtain ⟨T1, hn, hF, hR2⟩ := e4.step e3 hW
    obtain ⟨S1, f1, f2⟩ := ih e m (if lw r d then bs r w o d else o) T1 (e3.rw hF (by decide)) hR2 (fun b hb e he => by rw [hF.2 _ _ (by omega)]; exact e5 b hb e he) (by omega)
    refine ⟨S1, ?_, (e2.tr hF.b2).tr f2⟩
    rw [e1, hn, gBd_s, show fX11_best_L30 m (xI x) (mo r w (if lw r d then bs r w o d else o)) 1 T1 = _ from f1, List.filter_cons (x := d)]
    cases lw r d <;> rfl
theorem m_best {S : gSt} {r : Nat → Nat} {w : Nat → Nat → Int} {x : Option Nat} (hT : To S 0 r w) (hW : RW r w) (hx : ∀ g, x = some g → g < r 0) : ∃ S1, fX11_best_L21 (xI x) S = some (bAns r w x (bst r w ((rows (r 0)).filter (lw r))), S1) ∧ gB2 S S1 := by
  obtain ⟨T, l, e1, e2, e3, e4⟩ := Rs.first (S := S) hW.1 hW.2.1
  have hlen := rows_len hW.1 hW.2.1
  rw [e3, List.length_cons] at hlen
  obtain ⟨S1, f1, f2⟩ := m_best_l hW hx l 0 gFU none T (hT.rw e2 (by decide)) e4 (fun b hb => absurd hb (by simp)) (show l.length + 1 < 5000 by omega)
  refine ⟨S1, ?_, e2.b2.tr f2⟩
  unfold fX11_best_L21
  rw [e1, gBp_s, show fX11_best_L30 gFU (xI x) (-1000000) 1 T = _ from f1, e3]
  rfl
