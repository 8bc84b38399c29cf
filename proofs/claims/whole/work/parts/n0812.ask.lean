/-! the reference goes through all rows; needs: 0800 0801 0802 0803 0804 0805 0806 0807 0808 0809 0810 0811 -/
theorem g83 : 8 ≤ (gLay 83).2 ∧ (gLay 83).2 ≤ 5000 := by decide
theorem g80 : 8 ≤ (gLay 80).2 ∧ (gLay 80).2 ≤ 5000 := by decide
/-- the rows that are left, the first of them standing at 83 -/
def Rs (S : gSt) (n d : Nat) (l : List Nat) : Prop := rowAt S 83 n (dig d) ∧ chk n (d :: l) = true ∧ ∀ e, e ∈ d :: l → e ∈ rows n
theorem m_next {S : gSt} {n d : Nat} {l : List Nat} (h : mN S n) (hR : Rs S n d l) : (l = [] ∧ fX11_nextRow S = some (0, S)) ∨ ∃ e l' S1, l = e :: l' ∧ fX11_nextRow S = some (1, S1) ∧ gRw 83 n S S1 ∧ Rs S1 n e l' := by
  obtain ⟨h1, h2, h3⟩ := hR
  have hC := (rows_Can h.2.2 (h3 d (List.mem_cons_self ..))).1
  rcases m_nextRow h h1 hC with ⟨a, b⟩ | ⟨e, S1, a, b, c, f⟩
  · left
    cases l with
    | nil => exact ⟨rfl, b⟩
    | cons e l' =>
      rw [(chk_two h2).1] at a
      exact absurd a (by simp)
  · right
    cases l with
    | nil => rw [chk_one h2] at a; exact absurd a (by simp)
    | cons e' l' =>
      rw [(chk_two h2).1] at a
      have a := Option.some.inj a
      subst a
      exact ⟨e', l', S1, rfl, b, c, f, chk_tail h2, fun x hx => h3 x (List.mem_cons_of_mem _ hx)⟩
theorem Rs.can {S : gSt} {n d : Nat} {l : List Nat} (hR : Rs S n d l) (h8 : n ≤ 8) : Can (dig d) n := (rows_Can h8 (hR.2.2 d (List.mem_cons_self ..))).1
theorem Rs.lawful {S : gSt} {d : Nat} {l : List Nat} {r : Nat → Nat} {w : Nat → Nat → Int} (hR : Rs S (r 0) d l) (h : To S 0 r w) (hW : RW r w) : fX11_isLawful 83 S = some (nI (bN (lw r d))) := m_isLawful h hW g83.1 g83.2 hR.1 (hR.can hW.2.1)
theorem Rs.first {S : gSt} {n : Nat} (h1 : 1 ≤ n) (h8 : n ≤ 8) : ∃ S1 l, fX11_firstRow S = some S1 ∧ gRw 83 8 S S1 ∧ rows n = 0 :: l ∧ Rs S1 n 0 l := by
  obtain ⟨S1, e1, e2, e3⟩ := m_firstRow S
  obtain ⟨l, hl⟩ := rows_head h1 h8
  refine ⟨S1, l, e1, e2, hl, fun g hg => ?_, by rw [← hl]; exact rows_chk h1 h8, fun e he => by rw [hl]; exact he⟩
  rw [e3 g (by omega)]
  unfold dig
  rw [Nat.zero_div, Nat.zero_mod]
theorem m_manyOf_l {r : Nat → Nat} {w : Nat → Nat → Int} {k : Nat} (hW : RW r w) (hk : k ≤ 8) : ∀ (l : List Nat) (d m x : Nat) (S : gSt), To S 0 r w → Rs S (r 0) d l → l.length + 1 < m → x + l.length < 100000 → ∃ S1, fX11_manyOf_L8 m (nI k) (nI x) (nI 1) S = some (nI (x + (d :: l).countP (fun d => (decide (k = 0) || decide (pts (dig d) (r 0) = k)) && lw r d)), S1) ∧ gRw 83 8 S S1 := by
  have h8 := hW.2.1
  intro l
  induction l with
  | nil =>
    intro d m x S hT hR hm hx
    obtain ⟨m, rfl⟩ : ∃ j, m = j + 2 := ⟨m - 2, by simp at hm; omega⟩
    have hn : fX11_nextRow S = some (0, S) := by
      rcases m_next (hT.mN hW) hR with ⟨-, a⟩ | ⟨e, l', S1, a, -⟩
      · exact a
      · exact absurd a (by simp)
    refine ⟨S, ?_, gRw.rf⟩
    have hp := m_partiesOf (hT.mN hW) (show r 0 ≤ (gLay 83).2 from Nat.le_trans h8 g83.1) g83.2 hR.1 (fun g _ => Nat.lt_trans (dig_lt d g) (by decide))
    have hpl := pts_leN (hR.can h8)
    rw [fX11_manyOf_L8]
    unfold fX11_manyOf_L29 fX11_manyOf_L45
    have hend : ∀ y, fX11_manyOf_L8 (m + 1) (nI k) (nI y) (nI 0) S = some (nI y, S) := fun y => by
      rw [fX11_manyOf_L8]
      simp (disch := omega) only [gC_d, gC_tt, gBp_s, gBd_s, gL_s, gIn_nI, gN_nI, nI_ltI, nI_leI, nI_eq, nI_add, nI_mul, nI_sub, ite_t, ite_f, gR_W2, gRL_W, if_true, if_false, true_and, and_true, false_and, and_false, and_self, Nat.add_zero, l0, l1, l2, l3, l4, l5, l6, l7, l8, l9, l10, l11, l12, l13, l14, l22, l30, l31, l32, l39, l40, l48, l50, l57, l59, l60, l94, l97, l99, l100, l122, l255, l256, l300, l488, l1000]
    rw [hR.lawful hT hW, hp, hn, List.countP_singleton]
    by_cases z0 : k = 0
    · rw [decide_eq_true z0]
      cases lw r d with
      | true => simp (disch := omega) only [gC_d, gC_tt, gBp_s, gBd_s, gL_s, gIn_nI, gN_nI, nI_ltI, nI_leI, nI_eq, nI_add, nI_mul, nI_sub, ite_t, ite_f, gR_W2, gRL_W, if_true, if_false, true_and, and_true, false_and, and_false, and_self, Nat.add_zero, l0, l1, l2, l3, l4, l5, l6, l7, l8, l9, l10, l11, l12, l13, l14, l22, l30, l31, l32, l39, l40, l48, l50, l57, l59, l60, l94, l97, l99, l100, l122, l255, l256, l300, l488, l1000, hend, bN_t, Bool.true_or, Bool.true_and]
      | false => simp (disch := omega) only [gC_d, gC_tt, gBp_s, gBd_s, gL_s, gIn_nI, gN_nI, nI_ltI, nI_leI, nI_eq, nI_add, nI_mul, nI_sub, ite_t, ite_f, gR_W2, gRL_W, if_true, if_false, true_and, and_true, false_and, and_false, and_self, Nat.add_zero, l0, l1, l2, l3, l4, l5, l6, l7, l8, l9, l10, l11, l12, l13, l14, l22, l30, l31, l32, l39, l40, l48, l50, l57, l59, l60, l94, l97, l99, l100, l122, l255, l256, l300, l488, l1000, hend, bN_f, Bool.and_false, Bool.false_eq_true]
    · rw [decide_eq_false z0]
      by_cases z1 : pts (dig d) (r 0) = k
      · rw [decide_eq_true z1]
        cases lw r d with
        | true => simp (disch := omega) only [gC_d, gC_tt, gBp_s, gBd_s, gL_s, gIn_nI, gN_nI, nI_ltI, nI_leI, nI_eq, nI_add, nI_mul, nI_sub, ite_t, ite_f, gR_W2, gRL_W, if_true, if_false, true_and, and_true, false_and, and_false, and_self, Nat.add_zero, l0, l1, l2, l3, l4, l5, l6, l7, l8, l9, l10, l11, l12, l13, l14, l22, l30, l31, l32, l39, l40, l48, l50, l57, l59, l60, l94, l97, l99, l100, l122, l255, l256, l300, l488, l1000, hend, bN_t, Bool.false_or, Bool.true_and]
        | false => simp (disch := omega) only [gC_d, gC_tt, gBp_s, gBd_s, gL_s, gIn_nI, gN_nI, nI_ltI, nI_leI, nI_eq, nI_add, nI_mul, nI_sub, ite_t, ite_f, gR_W2, gRL_W, if_true, if_false, true_and, and_true, false_and, and_false, and_self, Nat.add_zero, l0, l1, l2, l3, l4, l5, l6, l7, l8, l9, l10, l11, l12, l13, l14, l22, l30, l31, l32, l39, l40, l48, l50, l57, l59, l60, l94, l97, l99, l100, l122, l255, l256, l300, l488, l1000, hend, bN_f, Bool.and_false, Bool.false_eq_true]
      · rw [decide_eq_false z1]
        simp (disch := omega) only [gC_d, gC_tt, gBp_s, gBd_s, gL_s, gIn_nI, gN_nI, nI_ltI, nI_leI, nI_eq, nI_add, nI_mul, nI_sub, ite_t, ite_f, gR_W2, gRL_W, if_true, if_false, true_and, and_true, false_and, and_false, and_self, Nat.add_zero, l0, l1, l2, l3, l4, l5, l6, l7, l8, l9, l10, l11, l12, l13, l14, l22, l30, l31, l32, l39, l40, l48, l50, l57, l59, l60, l94, l97, l99, l100, l122, l255, l256, l300, l488, l1000, hend, Bool.or_false, Bool.false_and, Bool.false_eq_true]
  | cons e l ih =>
    intro d m x S hT hR hm hx
    obtain ⟨m, rfl⟩ : ∃ j, m = j + 1 := ⟨m - 1, by omega⟩
    simp only [List.length_cons] at hm hx
    obtain ⟨T, hn, hF, hR2⟩ : ∃ T, fX11_nextRow S = some (1, T) ∧ gRw 83 (r 0) S T ∧ Rs T (r 0) e l := by
      rcases m_next (hT.mN hW) hR with ⟨a, -⟩ | ⟨e', l', S1, a, b, c, f⟩
      · exact absurd a (by simp)
      · injection a with a1 a2
        subst a1; subst a2
        exact ⟨S1, b, c, f⟩
    have hT2 := hT.rw hF (by decide)
    obtain ⟨S1, e1, e2⟩ := ih e m x T hT2 hR2 (by omega) (by omega)
    obtain ⟨S2, e3, e4⟩ := ih e m (x + 1) T hT2 hR2 (by omega) (by omega)
    have hF8 : gRw 83 8 S T := hF.mono h8
    have hp := m_partiesOf (hT.mN hW) (show r 0 ≤ (gLay 83).2 from Nat.le_trans h8 g83.1) g83.2 hR.1 (fun g _ => Nat.lt_trans (dig_lt d g) (by decide))
    have hpl := pts_leN (hR.can h8)
    rw [List.countP_cons, fX11_manyOf_L8]
    unfold fX11_manyOf_L29 fX11_manyOf_L45
    rw [hR.lawful hT hW, hp, hn]
    by_cases z0 : k = 0
    · rw [decide_eq_true z0] at e1 e3 ⊢
      cases lw r d with
      | true =>
        refine ⟨S2, ?_, hF8.tr e4⟩
        simp (disch := omega) only [gC_d, gC_tt, gBp_s, gBd_s, gL_s, gIn_nI, gN_nI, nI_ltI, nI_leI, nI_eq, nI_add, nI_mul, nI_sub, ite_t, ite_f, gR_W2, gRL_W, if_true, if_false, true_and, and_true, false_and, and_false, and_self, Nat.add_zero, l0, l1, l2, l3, l4, l5, l6, l7, l8, l9, l10, l11, l12, l13, l14, l22, l30, l31, l32, l39, l40, l48, l50, l57, l59, l60, l94, l97, l99, l100, l122, l255, l256, l300, l488, l1000, bN_t, Bool.true_or, Bool.true_and]
        rw [e3]
        simp only [Bool.true_or, Bool.true_and]
        congr 3
        omega
      | false =>
        refine ⟨S1, ?_, hF8.tr e2⟩
        simp (disch := omega) only [gC_d, gC_tt, gBp_s, gBd_s, gL_s, gIn_nI, gN_nI, nI_ltI, nI_leI, nI_eq, nI_add, nI_mul, nI_sub, ite_t, ite_f, gR_W2, gRL_W, if_true, if_false, true_and, and_true, false_and, and_false, and_self, Nat.add_zero, l0, l1, l2, l3, l4, l5, l6, l7, l8, l9, l10, l11, l12, l13, l14, l22, l30, l31, l32, l39, l40, l48, l50, l57, l59, l60, l94, l97, l99, l100, l122, l255, l256, l300, l488, l1000, bN_f, Bool.and_false, Bool.false_eq_true]
        exact e1
    · rw [decide_eq_false z0] at e1 e3 ⊢
      by_cases z1 : pts (dig d) (r 0) = k
      · rw [decide_eq_true z1]
        cases lw r d with
        | true =>
          refine ⟨S2, ?_, hF8.tr e4⟩
          simp (disch := omega) only [gC_d, gC_tt, gBp_s, gBd_s, gL_s, gIn_nI, gN_nI, nI_ltI, nI_leI, nI_eq, nI_add, nI_mul, nI_sub, ite_t, ite_f, gR_W2, gRL_W, if_true, if_false, true_and, and_true, false_and, and_false, and_self, Nat.add_zero, l0, l1, l2, l3, l4, l5, l6, l7, l8, l9, l10, l11, l12, l13, l14, l22, l30, l31, l32, l39, l40, l48, l50, l57, l59, l60, l94, l97, l99, l100, l122, l255, l256, l300, l488, l1000, bN_t, Bool.false_or, Bool.true_and]
          rw [e3]
          simp only [Bool.false_or]
          congr 3
          omega
        | false =>
          refine ⟨S1, ?_, hF8.tr e2⟩
          simp (disch := omega) only [gC_d, gC_tt, gBp_s, gBd_s, gL_s, gIn_nI, gN_nI, nI_ltI, nI_leI, nI_eq, nI_add, nI_mul, nI_sub, ite_t, ite_f, gR_W2, gRL_W, if_true, if_false, true_and, and_true, false_and, and_false, and_self, Nat.add_zero, l0, l1, l2, l3, l4, l5, l6, l7, l8, l9, l10, l11, l12, l13, l14, l22, l30, l31, l32, l39, l40, l48, l50, l57, l59, l60, l94, l97, l99, l100, l122, l255, l256, l300, l488, l1000, bN_f, Bool.and_false, Bool.false_eq_true]
          exact e1
      · rw [decide_eq_false z1]
        refine ⟨S1, ?_, hF8.tr e2⟩
        simp (disch := omega) only [gC_d, gC_tt, gBp_s, gBd_s, gL_s, gIn_nI, gN_nI, nI_ltI, nI_leI, nI_eq, nI_add, nI_mul, nI_sub, ite_t, ite_f, gR_W2, gRL_W, if_true, if_false, true_and, and_true, false_and, and_false, and_self, Nat.add_zero, l0, l1, l2, l3, l4, l5, l6, l7, l8, l9, l10, l11, l12, l13, l14, l22, l30, l31, l32, l39, l40, l48, l50, l57, l59, l60, l94, l97, l99, l100, l122, l255, l256, l300, l488, l1000, Bool.or_false, Bool.false_and, Bool.false_eq_true]
        exact e1
