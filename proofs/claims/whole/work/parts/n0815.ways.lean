/-! the class's questions over the gathered rows; needs: 0800 0801 0802 0803 0804 0805 0806 0807 0808 0809 0810 0811 0812 0813 0814 -/
def FL (r : Nat → Nat) : List Nat := List.filter (lw r) (rows (r 0))
/-- Ways obeys the rules at o; if it has gathered, then their rows -/
def Wy (S : gSt) (o : Nat) (r : Nat → Nat) (w : Nat → Nat → Int) : Prop := gR S 32 3 = nI o ∧ (gR S 32 4 = nI 0 ∨ gR S 32 4 = nI 1 ∧ WS S r w (FL r))
def Wg (S : gSt) (o : Nat) (r : Nat → Nat) (w : Nat → Nat → Int) : Prop := gR S 32 3 = nI o ∧ gR S 32 4 = nI 1 ∧ WS S r w (FL r)
theorem Wg.wy {S : gSt} {o : Nat} {r : Nat → Nat} {w : Nat → Nat → Int} (h : Wg S o r w) : Wy S o r w := ⟨h.1, Or.inr h.2⟩
theorem WS.fr {S S1 : gSt} {r : Nat → Nat} {w : Nat → Nat → Int} {l : List Nat} {a b : Nat} (h : WS S r w l) (hF : gFr a b S S1) (hp : 36 ≤ a ∨ b ≤ 32) : WS S1 r w l := by
  obtain ⟨h1, h2, h3, h4⟩ := h
  exact ⟨by rw [hF.2 _ _ (by omega)]; exact h1, fun i c hi => by rw [hF.2 _ _ (by omega)]; exact h2 i c hi, fun k hk => by rw [hF.2 _ _ (by omega)]; exact h3 k hk, fun b hb => ⟨by rw [hF.2 _ _ (by omega)]; exact (h4 b hb).1, by rw [hF.2 _ _ (by omega)]; exact (h4 b hb).2⟩⟩
theorem Wy.fr {S S1 : gSt} {r : Nat → Nat} {w : Nat → Nat → Int} {o a b : Nat} (h : Wy S o r w) (hF : gFr a b S S1) (hp : 36 ≤ a ∨ b ≤ 32) : Wy S1 o r w := by
  refine ⟨by rw [hF.2 _ _ (by omega)]; exact h.1, ?_⟩
  rcases h.2 with z | ⟨z, y⟩
  · left; rw [hF.2 _ _ (by omega)]; exact z
  · right; exact ⟨by rw [hF.2 _ _ (by omega)]; exact z, y.fr hF hp⟩
theorem c_gath {S : gSt} {o : Nat} {r : Nat → Nat} {w : Nat → Nat → Int} (hR : Ru S o r w) (hW : RW r w) (ho : gIsRu o = true) (ho2 : o < 18) (h : Wy S o r w) : ∃ S1, fX9_gather S = some S1 ∧ gFr 32 36 S S1 ∧ Wg S1 o r w := c_gather hR hW ho ho2 h.1 h.2
theorem FL_len {r : Nat → Nat} {w : Nat → Nat → Int} (hW : RW r w) : (FL r).length ≤ 4140 := Nat.le_trans (List.length_filter_le _ _) (rows_len hW.1 hW.2.1)
theorem FL_mem {r : Nat → Nat} {w : Nat → Nat → Int} (hW : RW r w) {d : Nat} (h : d ∈ FL r) : Can (dig d) (r 0) ∧ d < 2 ^ 24 ∧ enc (dig d) (r 0) = d := rows_Can hW.2.1 (List.mem_filter.mp h).1
theorem c_total {S : gSt} {o : Nat} {r : Nat → Nat} {w : Nat → Nat → Int} (hR : Ru S o r w) (hW : RW r w) (ho : gIsRu o = true) (ho2 : o < 18) (h : Wy S o r w) : ∃ S1, fX9_total S = some (nI (FL r).length, S1) ∧ gFr 32 36 S S1 ∧ Wg S1 o r w := by
  obtain ⟨S1, e1, e2, e3⟩ := c_gath hR hW ho ho2 h
  refine ⟨S1, ?_, e2, e3⟩
  unfold fX9_total
  rw [e1, gBp_s, e3.2.2.1]
theorem c_totalWith {S : gSt} {o k : Nat} {r : Nat → Nat} {w : Nat → Nat → Int} (hR : Ru S o r w) (hW : RW r w) (ho : gIsRu o = true) (ho2 : o < 18) (h : Wy S o r w) (hk : k ≤ 8) : ∃ S1, fX9_totalWith (nI k) S = some (nI ((FL r).countP (fun c => decide (pts (dig c) (r 0) = k))), S1) ∧ gFr 32 36 S S1 ∧ Wg S1 o r w := by
  obtain ⟨S1, e1, e2, e3⟩ := c_gath hR hW ho ho2 h
  refine ⟨S1, ?_, e2, e3⟩
  unfold fX9_totalWith
  rw [e1, gBp_s]
  simp (disch := omega) only [gC_d, gC_tt, gBp_s, gBd_s, gL_s, gIn_nI, gN_nI, nI_ltI, nI_leI, nI_eq, nI_add, nI_mul, nI_sub, ite_t, ite_f, gR_W2, gRL_W, if_true, if_false, true_and, and_true, false_and, and_false, and_self, Nat.add_zero, l0, l1, l2, l3, l4, l5, l6, l7, l8, l9, l10, l11, l12, l13, l14, l22, l30, l31, l32, l39, l40, l48, l50, l57, l59, l60, l94, l97, l99, l100, l122, l255, l256, l300, l488, l1000, e3.2.2.2.2.1 k (by omega)]
theorem c_codeAt {S : gSt} {o i d : Nat} {r : Nat → Nat} {w : Nat → Nat → Int} (hR : Ru S o r w) (hW : RW r w) (ho : gIsRu o = true) (ho2 : o < 18) (h : Wy S o r w) (hi : (FL r)[i]? = some d) : ∃ S1, fX9_codeAt (nI i) S = some (nI d, S1) ∧ gFr 32 36 S S1 ∧ Wg S1 o r w := by
  obtain ⟨S1, e1, e2, e3⟩ := c_gath hR hW ho ho2 h
  refine ⟨S1, ?_, e2, e3⟩
  have hl : i < (FL r).length := (List.getElem?_eq_some_iff.mp hi).1
  have h4 := FL_len hW
  unfold fX9_codeAt
  rw [e1, gBp_s]
  simp (disch := omega) only [gC_d, gC_tt, gBp_s, gBd_s, gL_s, gIn_nI, gN_nI, nI_ltI, nI_leI, nI_eq, nI_add, nI_mul, nI_sub, ite_t, ite_f, gR_W2, gRL_W, if_true, if_false, true_and, and_true, false_and, and_false, and_self, Nat.add_zero, l0, l1, l2, l3, l4, l5, l6, l7, l8, l9, l10, l11, l12, l13, l14, l22, l30, l31, l32, l39, l40, l48, l50, l57, l59, l60, l94, l97, l99, l100, l122, l255, l256, l300, l488, l1000, e3.2.2.1, e3.2.2.2.1 i d hi]
theorem c_greatest {S : gSt} {o b : Nat} {r : Nat → Nat} {w : Nat → Nat → Int} (hR : Ru S o r w) (hW : RW r w) (ho : gIsRu o = true) (ho2 : o < 18) (h : Wy S o r w) (hb : bst r w (FL r) = some b) : ∃ S1, fX9_greatestWorth S = some (iI (wAll w (dig b) (r 0)), S1) ∧ gFr 32 36 S S1 ∧ Wg S1 o r w := by
  obtain ⟨S1, e1, e2, e3⟩ := c_gath hR hW ho ho2 h
  refine ⟨S1, ?_, e2, e3⟩
  unfold fX9_greatestWorth
  rw [e1, gBp_s, (e3.2.2.2.2.2 b hb).1]
theorem c_worthiest {S : gSt} {o b : Nat} {r : Nat → Nat} {w : Nat → Nat → Int} (hR : Ru S o r w) (hW : RW r w) (ho : gIsRu o = true) (ho2 : o < 18) (h : Wy S o r w) (hb : bst r w (FL r) = some b) : ∃ S1, fX9_worthiestCode S = some (nI b, S1) ∧ gFr 32 36 S S1 ∧ Wg S1 o r w := by
  obtain ⟨S1, e1, e2, e3⟩ := c_gath hR hW ho ho2 h
  refine ⟨S1, ?_, e2, e3⟩
  unfold fX9_worthiestCode
  rw [e1, gBp_s, (e3.2.2.2.2.2 b hb).2]
theorem getE_lt {l : List Nat} {i : Nat} (h : i < l.length) : ∃ d, l[i]? = some d ∧ d ∈ l := ⟨l[i], List.getElem?_eq_getElem h, List.getElem_mem h⟩
theorem c_place_yes {S : gSt} {o c : Nat} {r : Nat → Nat} {w : Nat → Nat → Int} {pre suf : List Nat} (hR : Ru S o r w) (hW : RW r w) (ho : gIsRu o = true) (ho2 : o < 18) (h : Wy S o r w) (hp : FL r = pre ++ c :: suf) (hl : ∀ d, d ∈ pre → d < c) : ∃ S1, fX9_placeOf (nI c) S = some (nI pre.length, S1) ∧ gFr 32 36 S S1 ∧ Wg S1 o r w := by
  obtain ⟨S1, e1, e2, e3⟩ := c_gath hR hW ho ho2 h
  refine ⟨S1, ?_, e2, e3⟩
  have h4 := FL_len hW
  have hlen : (FL r).length = pre.length + (suf.length + 1) := by rw [hp, List.length_append, List.length_cons]
  have hc := FL_mem hW (d := c) (by rw [hp]; exact List.mem_append_right _ (List.mem_cons_self ..))
  have h5 := e3.2.2.1
  unfold fX9_placeOf
  rw [e1, gBp_s]
  refine forFU (fun m (_ : Unit) i => fX9_placeOf_L6 m (nI c) (nI i) S1) (fun x => x = some (nI pre.length, S1)) (fun _ _ => True) pre.length () (by omega) ?_ ?_ trivial
  · intro m i _ hi _
    right
    refine ⟨(), trivial, ?_⟩
    show fX9_placeOf_L6 (m + 1) (nI c) (nI i) S1 = fX9_placeOf_L6 m (nI c) (nI (i + 1)) S1
    obtain ⟨d, d1, d2⟩ := getE_lt hi
    have hd := hl d d2
    have := e3.2.2.2.1 i d (by rw [hp, List.getElem?_append_left hi]; exact d1)
    rw [fX9_placeOf_L6]
    simp (disch := omega) only [gC_d, gC_tt, gBp_s, gBd_s, gL_s, gIn_nI, gN_nI, nI_ltI, nI_leI, nI_eq, nI_add, nI_mul, nI_sub, ite_t, ite_f, gR_W2, gRL_W, if_true, if_false, true_and, and_true, false_and, and_false, and_self, Nat.add_zero, l0, l1, l2, l3, l4, l5, l6, l7, l8, l9, l10, l11, l12, l13, l14, l22, l30, l31, l32, l39, l40, l48, l50, l57, l59, l60, l94, l97, l99, l100, l122, l255, l256, l300, l488, l1000, h5, this]
  · intro m _ _
    show fX9_placeOf_L6 (m + 1) (nI c) (nI pre.length) S1 = _
    have := e3.2.2.2.1 pre.length c (by rw [hp, List.getElem?_append_right (Nat.le_refl _), Nat.sub_self]; rfl)
    rw [fX9_placeOf_L6]
    unfold fX9_placeOf_L30
    simp (disch := omega) only [gC_d, gC_tt, gBp_s, gBd_s, gL_s, gIn_nI, gN_nI, nI_ltI, nI_leI, nI_eq, nI_add, nI_mul, nI_sub, ite_t, ite_f, gR_W2, gRL_W, if_true, if_false, true_and, and_true, false_and, and_false, and_self, Nat.add_zero, l0, l1, l2, l3, l4, l5, l6, l7, l8, l9, l10, l11, l12, l13, l14, l22, l30, l31, l32, l39, l40, l48, l50, l57, l59, l60, l94, l97, l99, l100, l122, l255, l256, l300, l488, l1000, h5, this]
theorem c_place_no {S : gSt} {o c : Nat} {r : Nat → Nat} {w : Nat → Nat → Int} (hR : Ru S o r w) (hW : RW r w) (ho : gIsRu o = true) (ho2 : o < 18) (h : Wy S o r w) (hn : c ∉ FL r) (hc : c < 2 ^ 24) : ∃ S1, fX9_placeOf (nI c) S = some (-9, S1) ∧ gFr 32 36 S S1 ∧ Wg S1 o r w := by
  obtain ⟨S1, e1, e2, e3⟩ := c_gath hR hW ho ho2 h
  refine ⟨S1, ?_, e2, e3⟩
  have h4 := FL_len hW
  have h5 := e3.2.2.1
  unfold fX9_placeOf
  rw [e1, gBp_s]
  refine forFU (fun m (_ : Unit) i => fX9_placeOf_L6 m (nI c) (nI i) S1) (fun x => x = some (-9, S1)) (fun _ _ => True) (FL r).length () (by omega) ?_ ?_ trivial
  · intro m i _ hi _
    obtain ⟨d, d1, d2⟩ := getE_lt hi
    have hd := (FL_mem hW d2).2.1
    have hne : d ≠ c := fun z => hn (by rw [← z]; exact d2)
    have := e3.2.2.2.1 i d d1
    by_cases z : d < c
    · right
      refine ⟨(), trivial, ?_⟩
      show fX9_placeOf_L6 (m + 1) (nI c) (nI i) S1 = fX9_placeOf_L6 m (nI c) (nI (i + 1)) S1
      rw [fX9_placeOf_L6]
      simp (disch := omega) only [gC_d, gC_tt, gBp_s, gBd_s, gL_s, gIn_nI, gN_nI, nI_ltI, nI_leI, nI_eq, nI_add, nI_mul, nI_sub, ite_t, ite_f, gR_W2, gRL_W, if_true, if_false, true_and, and_true, false_and, and_false, and_self, Nat.add_zero, l0, l1, l2, l3, l4, l5, l6, l7, l8, l9, l10, l11, l12, l13, l14, l22, l30, l31, l32, l39, l40, l48, l50, l57, l59, l60, l94, l97, l99, l100, l122, l255, l256, l300, l488, l1000, h5, this]
    · left
      show fX9_placeOf_L6 (m + 1) (nI c) (nI i) S1 = _
      rw [fX9_placeOf_L6]
      unfold fX9_placeOf_L30
      simp (disch := omega) only [gC_d, gC_tt, gBp_s, gBd_s, gL_s, gIn_nI, gN_nI, nI_ltI, nI_leI, nI_eq, nI_add, nI_mul, nI_sub, ite_t, ite_f, gR_W2, gRL_W, if_true, if_false, true_and, and_true, false_and, and_false, and_self, Nat.add_zero, l0, l1, l2, l3, l4, l5, l6, l7, l8, l9, l10, l11, l12, l13, l14, l22, l30, l31, l32, l39, l40, l48, l50, l57, l59, l60, l94, l97, l99, l100, l122, l255, l256, l300, l488, l1000, h5, this]
  · intro m _ _
    show fX9_placeOf_L6 (m + 1) (nI c) (nI (FL r).length) S1 = _
    rw [fX9_placeOf_L6]
    unfold fX9_placeOf_L30
    simp (disch := omega) only [gC_d, gC_tt, gBp_s, gBd_s, gL_s, gIn_nI, gN_nI, nI_ltI, nI_leI, nI_eq, nI_add, nI_mul, nI_sub, ite_t, ite_f, gR_W2, gRL_W, if_true, if_false, true_and, and_true, false_and, and_false, and_self, Nat.add_zero, l0, l1, l2, l3, l4, l5, l6, l7, l8, l9, l10, l11, l12, l13, l14, l22, l30, l31, l32, l39, l40, l48, l50, l57, l59, l60, l94, l97, l99, l100, l122, l255, l256, l300, l488, l1000, h5]
/-- the class's sights at o -/
def Si (S : gSt) (o k : Nat) (σ : Nat → Nat) : Prop := gR S o 3 = nI k ∧ ∀ j, j < k → gR S (o + 1) j = nI (σ (3 * j)) ∧ gR S (o + 2) j = nI (σ (3 * j + 1)) ∧ gR S (o + 3) j = nI (σ (3 * j + 2))
theorem Si.fr {S S1 : gSt} {o k a b : Nat} {σ : Nat → Nat} (h : Si S o k σ) (hf : gFr a b S S1) (hp : o + 3 < a ∨ b ≤ o) : Si S1 o k σ := ⟨by rw [hf.2 _ _ (by omega)]; exact h.1, fun j hj => ⟨by rw [hf.2 _ _ (by omega)]; exact (h.2 j hj).1, by rw [hf.2 _ _ (by omega)]; exact (h.2 j hj).2.1, by rw [hf.2 _ _ (by omega)]; exact (h.2 j hj).2.2⟩⟩
theorem c_fit {S : gSt} {o k d n : Nat} {σ : Nat → Nat} (h : Si S o k σ) (hg : Sg n k σ) (hn : n ≤ 8) (hd : d < 2 ^ 24) : fX6_fit o (nI d) S = some (nI (bN (fitB σ k d))) := by
  have h10 := hg.1
  have h3 := h.1
  unfold fX6_fit
  refine forFU (fun m (_ : Unit) j => fX6_fit_L2 o S m (nI d) (nI j)) (fun x => x = some (nI (bN (fitB σ k d)))) (fun j _ => an (fun j => mis σ d j) j = false) k () (by omega) ?_ ?_ rfl
  · intro m j _ hj hi
    obtain ⟨g1, g2, g3⟩ := hg.2 j hj
    obtain ⟨s0, s1, s2⟩ := h.2 j hj
    have b1 := dig_lt d (σ (3 * j))
    have b2 := dig_lt d (σ (3 * j + 1))
    have hst : fX6_fit_L2 o S (m + 1) (nI d) (nI j) = if mis σ d j then some (nI 0) else fX6_fit_L2 o S m (nI d) (nI (j + 1)) := by
      rw [fX6_fit_L2]
      unfold fX6_fit_L38
      unfold mis
      by_cases z : dig d (σ (3 * j)) = dig d (σ (3 * j + 1))
      · rw [decide_eq_true z]
        by_cases y : σ (3 * j + 2) = 1
        · rw [decide_eq_true y, show (true != true) = false from rfl]
          simp (disch := omega) only [gC_d, gC_tt, gBp_s, gBd_s, gL_s, gIn_nI, gN_nI, nI_ltI, nI_leI, nI_eq, nI_add, nI_mul, nI_sub, ite_t, ite_f, gR_W2, gRL_W, if_true, if_false, true_and, and_true, false_and, and_false, and_self, Nat.add_zero, l0, l1, l2, l3, l4, l5, l6, l7, l8, l9, l10, l11, l12, l13, l14, l22, l30, l31, l32, l39, l40, l48, l50, l57, l59, l60, l94, l97, l99, l100, l122, l255, l256, l300, l488, l1000, h3, s0, s1, s2, c_partyIn (S := S) hd (show σ (3 * j) < 8 by omega), c_partyIn (S := S) hd (show σ (3 * j + 1) < 8 by omega), Bool.false_eq_true]
        · rw [decide_eq_false y, show (true != false) = true from rfl]
          simp (disch := omega) only [gC_d, gC_tt, gBp_s, gBd_s, gL_s, gIn_nI, gN_nI, nI_ltI, nI_leI, nI_eq, nI_add, nI_mul, nI_sub, ite_t, ite_f, gR_W2, gRL_W, if_true, if_false, true_and, and_true, false_and, and_false, and_self, Nat.add_zero, l0, l1, l2, l3, l4, l5, l6, l7, l8, l9, l10, l11, l12, l13, l14, l22, l30, l31, l32, l39, l40, l48, l50, l57, l59, l60, l94, l97, l99, l100, l122, l255, l256, l300, l488, l1000, h3, s0, s1, s2, c_partyIn (S := S) hd (show σ (3 * j) < 8 by omega), c_partyIn (S := S) hd (show σ (3 * j + 1) < 8 by omega)]
      · rw [decide_eq_false z]
        by_cases y : σ (3 * j + 2) = 1
        · rw [decide_eq_true y, show (false != true) = true from rfl]
          simp (disch := omega) only [gC_d, gC_tt, gBp_s, gBd_s, gL_s, gIn_nI, gN_nI, nI_ltI, nI_leI, nI_eq, nI_add, nI_mul, nI_sub, ite_t, ite_f, gR_W2, gRL_W, if_true, if_false, true_and, and_true, false_and, and_false, and_self, Nat.add_zero, l0, l1, l2, l3, l4, l5, l6, l7, l8, l9, l10, l11, l12, l13, l14, l22, l30, l31, l32, l39, l40, l48, l50, l57, l59, l60, l94, l97, l99, l100, l122, l255, l256, l300, l488, l1000, h3, s0, s1, s2, c_partyIn (S := S) hd (show σ (3 * j) < 8 by omega), c_partyIn (S := S) hd (show σ (3 * j + 1) < 8 by omega)]
        · rw [decide_eq_false y, show (false != false) = false from rfl]
          simp (disch := omega) only [gC_d, gC_tt, gBp_s, gBd_s, gL_s, gIn_nI, gN_nI, nI_ltI, nI_leI, nI_eq, nI_add, nI_mul, nI_sub, ite_t, ite_f, gR_W2, gRL_W, if_true, if_false, true_and, and_true, false_and, and_false, and_self, Nat.add_zero, l0, l1, l2, l3, l4, l5, l6, l7, l8, l9, l10, l11, l12, l13, l14, l22, l30, l31, l32, l39, l40, l48, l50, l57, l59, l60, l94, l97, l99, l100, l122, l255, l256, l300, l488, l1000, h3, s0, s1, s2, c_partyIn (S := S) hd (show σ (3 * j) < 8 by omega), c_partyIn (S := S) hd (show σ (3 * j + 1) < 8 by omega), Bool.false_eq_true]
    cases hm : mis σ d j with
    | false =>
      right
      refine ⟨(), by rw [an_s, hi, hm]; rfl, ?_⟩
      show fX6_fit_L2 o S (m + 1) (nI d) (nI j) = fX6_fit_L2 o S m (nI d) (nI (j + 1))
      rw [hst, hm, if_neg (by decide)]
    | true =>
      left
      show fX6_fit_L2 o S (m + 1) (nI d) (nI j) = _
      have : fitB σ k d = false := by
        unfold fitB
        rw [(an_iff _ _).mpr ⟨j, hj, hm⟩]; rfl
      rw [hst, hm, this, if_pos rfl]; rfl
  · intro m _ hi
    show fX6_fit_L2 o S (m + 1) (nI d) (nI k) = _
    unfold fitB
    rw [hi, fX6_fit_L2]
    simp (disch := omega) only [gC_d, gC_tt, gBp_s, gBd_s, gL_s, gIn_nI, gN_nI, nI_ltI, nI_leI, nI_eq, nI_add, nI_mul, nI_sub, ite_t, ite_f, gR_W2, gRL_W, if_true, if_false, true_and, and_true, false_and, and_false, and_self, Nat.add_zero, l0, l1, l2, l3, l4, l5, l6, l7, l8, l9, l10, l11, l12, l13, l14, l22, l30, l31, l32, l39, l40, l48, l50, l57, l59, l60, l94, l97, l99, l100, l122, l255, l256, l300, l488, l1000, h3, Bool.not_false, bN_t]
theorem take_s {l : List Nat} {i d : Nat} (h : l[i]? = some d) : l.take (i + 1) = l.take i ++ [d] := by
  rw [List.take_add_one, h]; rfl
theorem c_fitting {S : gSt} {o k : Nat} {σ : Nat → Nat} {r : Nat → Nat} {w : Nat → Nat → Int} (hR : Ru S o r w) (hW : RW r w) (ho : gIsRu o = true) (ho2 : o < 18) (h : Wy S o r w) (hs : Si S 40 k σ) (hg : Sg (r 0) k σ) : ∃ S1, fX9_fitting 40 S = some (nI ((FL r).countP (fun d => fitB σ k d)), S1) ∧ gFr 32 36 S S1 ∧ Wg S1 o r w := by
  obtain ⟨S1, e1, e2, e3⟩ := c_gath hR hW ho ho2 h
  refine ⟨S1, ?_, e2, e3⟩
  have h4 := FL_len hW
  have h5 := e3.2.2.1
  have hs1 := hs.fr e2 (by omega)
  unfold fX9_fitting
  rw [e1, gBp_s]
  refine forFU (fun m x i => fX9_fitting_L8 40 m x (nI i) S1) (fun x => x = some (nI ((FL r).countP (fun d => fitB σ k d)), S1)) (fun i x => x = nI (((FL r).take i).countP (fun d => fitB σ k d))) (FL r).length 0 (by omega) ?_ ?_ (by rw [List.take_zero]; rfl)
  · rintro m i x hi rfl
    right
    refine ⟨_, rfl, ?_⟩
    show fX9_fitting_L8 40 (m + 1) _ (nI i) S1 = fX9_fitting_L8 40 m _ (nI (i + 1)) S1
    obtain ⟨d, d1, d2⟩ := getE_lt hi
    have hd := e3.2.2.2.1 i d d1
    rw [take_s d1, List.countP_append, List.countP_singleton, fX9_fitting_L8]
    have hf := c_fit hs1 hg hW.2.1 (FL_mem hW d2).2.1
    cases hb : fitB σ k d with
    | true =>
      rw [hb] at hf
      simp (disch := omega) only [gC_d, gC_tt, gBp_s, gBd_s, gL_s, gIn_nI, gN_nI, nI_ltI, nI_leI, nI_eq, nI_add, nI_mul, nI_sub, ite_t, ite_f, gR_W2, gRL_W, if_true, if_false, true_and, and_true, false_and, and_false, and_self, Nat.add_zero, l0, l1, l2, l3, l4, l5, l6, l7, l8, l9, l10, l11, l12, l13, l14, l22, l30, l31, l32, l39, l40, l48, l50, l57, l59, l60, l94, l97, l99, l100, l122, l255, l256, l300, l488, l1000, h5, hd, hf, bN_t]
    | false =>
      rw [hb] at hf
      simp (disch := omega) only [gC_d, gC_tt, gBp_s, gBd_s, gL_s, gIn_nI, gN_nI, nI_ltI, nI_leI, nI_eq, nI_add, nI_mul, nI_sub, ite_t, ite_f, gR_W2, gRL_W, if_true, if_false, true_and, and_true, false_and, and_false, and_self, Nat.add_zero, l0, l1, l2, l3, l4, l5, l6, l7, l8, l9, l10, l11, l12, l13, l14, l22, l30, l31, l32, l39, l40, l48, l50, l57, l59, l60, l94, l97, l99, l100, l122, l255, l256, l300, l488, l1000, h5, hd, hf, bN_f, Bool.false_eq_true]
  · rintro m x rfl
    show fX9_fitting_L8 40 (m + 1) _ (nI (FL r).length) S1 = _
    rw [fX9_fitting_L8, List.take_length]
    simp (disch := omega) only [gC_d, gC_tt, gBp_s, gBd_s, gL_s, gIn_nI, gN_nI, nI_ltI, nI_leI, nI_eq, nI_add, nI_mul, nI_sub, ite_t, ite_f, gR_W2, gRL_W, if_true, if_false, true_and, and_true, false_and, and_false, and_self, Nat.add_zero, l0, l1, l2, l3, l4, l5, l6, l7, l8, l9, l10, l11, l12, l13, l14, l22, l30, l31, l32, l39, l40, l48, l50, l57, l59, l60, l94, l97, l99, l100, l122, l255, l256, l300, l488, l1000, h5]
/-- sure: of all that fit, so many have a and b together -/
def sureV (all wi : Nat) : Int32 := if all = 0 then -9 else if wi = all then 1 else if wi = 0 then 0 else -9
theorem c_certain {S : gSt} {o k a b : Nat} {σ : Nat → Nat} {r : Nat → Nat} {w : Nat → Nat → Int} (hR : Ru S o r w) (hW : RW r w) (ho : gIsRu o = true) (ho2 : o < 18) (h : Wy S o r w) (hs : Si S 40 k σ) (hg : Sg (r 0) k σ) (ha : a < r 0) (hb : b < r 0) : ∃ S1, fX9_certain 40 (nI a) (nI b) S = some (sureV ((FL r).countP (fun d => fitB σ k d)) ((FL r).countP (fun d => decide (dig d a = dig d b) && fitB σ k d)), S1) ∧ gFr 32 36 S S1 ∧ Wg S1 o r w := by
  obtain ⟨S1, e1, e2, e3⟩ := c_gath hR hW ho ho2 h
  refine ⟨S1, ?_, e2, e3⟩
  have h4 := FL_len hW
  have h8 := hW.2.1
  have h5 := e3.2.2.1
  have hs1 := hs.fr e2 (by omega)
  unfold fX9_certain
  rw [e1, gBp_s]
  generalize hP : (fun d => fitB σ k d) = P
  generalize hQ : (fun d => decide (dig d a = dig d b) && fitB σ k d) = Q
  have hQP : ∀ l : List Nat, l.countP Q ≤ l.countP P := fun l => List.countP_mono_left (fun d _ hd => by
    rw [← hQ] at hd
    have hd : (decide (dig d a = dig d b) && fitB σ k d) = true := hd
    rw [Bool.and_eq_true] at hd
    rw [← hP]; exact hd.2)
  have hsp : ∀ i, (FL r).countP P = ((FL r).take i).countP P + ((FL r).drop i).countP P := fun i => by rw [← List.countP_append, List.take_append_drop]
  have hsq : ∀ i, (FL r).countP Q = ((FL r).take i).countP Q + ((FL r).drop i).countP Q := fun i => by rw [← List.countP_append, List.take_append_drop]
  refine forFU (fun m x i => fX9_certain_L11 40 m (nI a) (nI b) x (nI i) S1) (fun x => x = some (sureV ((FL r).countP P) ((FL r).countP Q), S1)) (fun i x => (((FL r).take i).countP P = 0 ∧ x = -9) ∨ (0 < ((FL r).take i).countP P ∧ ((FL r).take i).countP Q = ((FL r).take i).countP P ∧ x = 1) ∨ (0 < ((FL r).take i).countP P ∧ ((FL r).take i).countP Q = 0 ∧ x = 0)) (FL r).length (-9) (by omega) ?_ ?_ (Or.inl ⟨by rw [List.take_zero]; rfl, rfl⟩)
  · rintro m i x hi hx
    obtain ⟨d, d1, d2⟩ := getE_lt hi
    have hd := e3.2.2.2.1 i d d1
    have hm := FL_mem hW d2
    have hf := c_fit hs1 hg h8 hm.2.1
    have p1 := c_partyIn (S := S1) (c := d) (g := a) hm.2.1 (by omega)
    have p2 := c_partyIn (S := S1) (c := d) (g := b) hm.2.1 (by omega)
    have b1 := dig_lt d a
    have b2 := dig_lt d b
    have tp : ((FL r).take (i + 1)).countP P = ((FL r).take i).countP P + if fitB σ k d = true then 1 else 0 := by
      rw [take_s d1, List.countP_append, List.countP_singleton, ← hP]
    have tq : ((FL r).take (i + 1)).countP Q = ((FL r).take i).countP Q + if (decide (dig d a = dig d b) && fitB σ k d) = true then 1 else 0 := by
      rw [take_s d1, List.countP_append, List.countP_singleton, ← hQ]
    have hst : fX9_certain_L11 40 (m + 1) (nI a) (nI b) x (nI i) S1 = if fitB σ k d then (if x = -9 ∨ x = nI (bN (decide (dig d a = dig d b))) then fX9_certain_L11 40 m (nI a) (nI b) (nI (bN (decide (dig d a = dig d b)))) (nI (i + 1)) S1 else some (-9, S1)) else fX9_certain_L11 40 m (nI a) (nI b) x (nI (i + 1)) S1 := by
      rw [fX9_certain_L11]
      unfold fX9_certain_L64
      rw [h5, if_neg (nI_nleI hi (by omega)), gC_ok (gIn_ok (by omega) (by omega)), gC_ok (gIn_ok (by omega) (by omega)), gN_nI (by omega), hd, hf, gBp_s, p1, gBp_s, gC_ok (gIn_ok (by omega) (by omega)), p2, gBp_s, nI_1]
      cases fitB σ k d with
      | false => rw [if_pos (show nI (bN false) = 0 by decide), if_neg (show ¬ false = true by decide)]
      | true =>
        rw [if_neg (show ¬ nI (bN true) = 0 by decide), if_pos (show true = true from rfl)]
        have hg2 : ∀ v : Int32, (if x = -9 then fX9_certain_L11 40 m (nI a) (nI b) v (nI (i + 1)) S1 else if x = v then fX9_certain_L11 40 m (nI a) (nI b) v (nI (i + 1)) S1 else some (-9, S1)) = if x = -9 ∨ x = v then fX9_certain_L11 40 m (nI a) (nI b) v (nI (i + 1)) S1 else some (-9, S1) := fun v => by
          by_cases y1 : x = -9
          · rw [if_pos y1, if_pos (Or.inl y1)]
          · rw [if_neg y1]
            by_cases y2 : x = v
            · rw [if_pos y2, if_pos (Or.inr y2)]
            · rw [if_neg y2, if_neg (fun k => k.elim y1 y2)]
        by_cases z : dig d a = dig d b
        · rw [if_pos (show nI (dig d a) = nI (dig d b) by rw [z]), decide_eq_true z]
          exact hg2 1
        · rw [if_neg (nI_neI (by omega) (by omega) z), decide_eq_false z]
          exact hg2 0
    cases hfb : fitB σ k d with
    | false =>
      right
      rw [hfb, if_neg (by decide)] at hst
      rw [hfb, if_neg (by decide), Nat.add_zero] at tp
      rw [hfb, Bool.and_false, if_neg (by decide), Nat.add_zero] at tq
      refine ⟨x, ?_, hst⟩
      rw [tp, tq]; exact hx
    | true =>
      rw [hfb, if_pos rfl] at hst
      rw [hfb, if_pos rfl] at tp
      rw [hfb, Bool.and_true] at tq
      have q1 := hQP ((FL r).take i)
      have q2 := hQP ((FL r).drop (i + 1))
      have s1 := hsp (i + 1)
      have s2 := hsq (i + 1)
      by_cases z : dig d a = dig d b
      · rw [decide_eq_true z] at hst tq
        rw [if_pos rfl] at tq
        rcases hx with ⟨u1, u2⟩ | ⟨u1, u2, u3⟩ | ⟨u1, u2, u3⟩
        · right
          refine ⟨nI (bN true), Or.inr (Or.inl ⟨by omega, by omega, rfl⟩), ?_⟩
          show fX9_certain_L11 40 (m + 1) (nI a) (nI b) x (nI i) S1 = _
          rw [hst, if_pos (Or.inl u2)]
        · right
          refine ⟨nI (bN true), Or.inr (Or.inl ⟨by omega, by omega, rfl⟩), ?_⟩
          show fX9_certain_L11 40 (m + 1) (nI a) (nI b) x (nI i) S1 = _
          rw [hst, if_pos (Or.inr (show x = nI (bN true) from u3))]
        · left
          show fX9_certain_L11 40 (m + 1) (nI a) (nI b) x (nI i) S1 = _
          rw [hst, u3, if_neg (show ¬ ((0 : Int32) = -9 ∨ (0 : Int32) = nI (bN true)) by decide)]
          unfold sureV
          rw [if_neg (by omega), if_neg (by omega), if_neg (by omega)]
      · rw [decide_eq_false z] at hst tq
        rw [if_neg (by decide), Nat.add_zero] at tq
        rcases hx with ⟨u1, u2⟩ | ⟨u1, u2, u3⟩ | ⟨u1, u2, u3⟩
        · right
          refine ⟨nI (bN false), Or.inr (Or.inr ⟨by omega, by omega, rfl⟩), ?_⟩
          show fX9_certain_L11 40 (m + 1) (nI a) (nI b) x (nI i) S1 = _
          rw [hst, if_pos (Or.inl u2)]
        · left
          show fX9_certain_L11 40 (m + 1) (nI a) (nI b) x (nI i) S1 = _
          rw [hst, u3, if_neg (show ¬ ((1 : Int32) = -9 ∨ (1 : Int32) = nI (bN false)) by decide)]
          unfold sureV
          rw [if_neg (by omega), if_neg (by omega), if_neg (by omega)]
        · right
          refine ⟨nI (bN false), Or.inr (Or.inr ⟨by omega, by omega, rfl⟩), ?_⟩
          show fX9_certain_L11 40 (m + 1) (nI a) (nI b) x (nI i) S1 = _
          rw [hst, if_pos (Or.inr (show x = nI (bN false) from u3))]
  · rintro m x hx
    show fX9_certain_L11 40 (m + 1) (nI a) (nI b) x (nI (FL r).length) S1 = _
    rw [List.take_length] at hx
    rw [fX9_certain_L11, h5, if_pos (nI_le (Nat.le_refl _) (by omega))]
    unfold sureV
    rcases hx with ⟨u1, u2⟩ | ⟨u1, u2, u3⟩ | ⟨u1, u2, u3⟩
    · rw [if_pos u1, u2]
    · rw [if_neg (by omega), if_pos u2, u3]
    · rw [if_neg (by omega), if_neg (by omega), if_pos u2, u3]
