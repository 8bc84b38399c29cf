/-! the class gathers the lawful rows, all of them in order; needs: 0800 0801 0802 0803 0804 0805 0806 0807 0808 0809 0810 -/
def lw (r : Nat → Nat) (d : Nat) : Bool := lawful r (dig d)
def bs (r : Nat → Nat) (w : Nat → Nat → Int) : Option Nat → Nat → Option Nat
  | none, c => some c
  | some b, c => if wAll w (dig b) (r 0) < wAll w (dig c) (r 0) then some c else some b
theorem l4140 : (4140 : Int32) = nI 4140 := rfl
theorem bs_sm (r : Nat → Nat) (w : Nat → Nat → Int) (b c : Nat) : bs r w (some b) c = if wAll w (dig b) (r 0) < wAll w (dig c) (r 0) then some c else some b := rfl
def bst (r : Nat → Nat) (w : Nat → Nat → Int) (l : List Nat) : Option Nat := l.foldl (bs r w) none
theorem bst_app (r : Nat → Nat) (w : Nat → Nat → Int) (l : List Nat) (c : Nat) : bst r w (l ++ [c]) = bs r w (bst r w l) c := by
  unfold bst
  rw [List.foldl_append]; rfl
theorem bs_some (r : Nat → Nat) (w : Nat → Nat → Int) (o : Option Nat) (c : Nat) : ∃ b, bs r w o c = some b := by
  cases o with
  | none => exact ⟨c, rfl⟩
  | some b =>
    rw [bs_sm]
    by_cases z : wAll w (dig b) (r 0) < wAll w (dig c) (r 0)
    · exact ⟨c, if_pos z⟩
    · exact ⟨b, if_neg z⟩
theorem bst_none {r : Nat → Nat} {w : Nat → Nat → Int} {l : List Nat} (h : bst r w l = none) : l = [] := by
  rcases List.eq_nil_or_concat l with z | ⟨l', c, z⟩
  · exact z
  · rw [z, List.concat_eq_append, bst_app] at h
    obtain ⟨b, e⟩ := bs_some r w (bst r w l') c
    rw [e] at h
    exact absurd h (by simp)
/-- the class has gathered the rows l -/
def WS (S : gSt) (r : Nat → Nat) (w : Nat → Nat → Int) (l : List Nat) : Prop := gR S 32 5 = nI l.length ∧ (∀ i c, l[i]? = some c → gR S 33 i = nI c) ∧ (∀ k, k < 9 → gR S 34 k = nI (l.countP (fun c => decide (pts (dig c) (r 0) = k)))) ∧ ∀ b, bst r w l = some b → gR S 32 6 = iI (wAll w (dig b) (r 0)) ∧ gR S 32 7 = nI b
/-- only Ways has changed, and not what it obeys -/
def gWy (S S1 : gSt) : Prop := gFr 32 36 S S1 ∧ gR S1 32 3 = gR S 32 3 ∧ gR S1 32 4 = gR S 32 4 ∧ ∀ p, p < 8 → gR S1 35 p = gR S 35 p
theorem gWy.rf {S : gSt} : gWy S S := ⟨gFr.rf, rfl, rfl, fun _ _ => rfl⟩
theorem gWy.tr {S S1 S2 : gSt} (h : gWy S S1) (h2 : gWy S1 S2) : gWy S S2 := ⟨h.1.tr h2.1, h2.2.1.trans h.2.1, h2.2.2.1.trans h.2.2.1, fun p hp => (h2.2.2.2 p hp).trans (h.2.2.2 p hp)⟩
def leafB (r f : Nat → Nat) : Bool := (decide (r 9 = 0) || decide (r 9 = pts f (r 0))) && !an (fun p => decide (sz f (r 0) p < r 10)) (pts f (r 0))
theorem leafB_iff (r f : Nat → Nat) : leafB r f = true ↔ leaf r f := by
  unfold leafB leaf
  simp only [Bool.and_eq_true, Bool.or_eq_true, decide_eq_true_eq, Bool.not_eq_true', an_f, decide_eq_false_iff_not, Nat.not_lt]
theorem c_areLawful {S : gSt} {o : Nat} {r f : Nat → Nat} {w : Nat → Nat → Int} (h : Ru S o r w) (hW : RW r w) (ho : gIsRu o = true) (ho2 : o < 100) (h32 : gR S 32 3 = nI o) (hs : ∀ q, q < 8 → gR S 35 q = nI (mk (fun e => decide (f e = q)) (r 0))) (hC : Can f (r 0)) : fX9_areLawful (nI (pts f (r 0))) S = some (nI (bN (leafB r f))) := by
  have h8 := hW.2.1
  have hm := pts_leN hC
  have hgo : gN (gR S 32 3) = o := by rw [h32]; exact gN_nI (by omega)
  have l0' : fX5_lawOf o (nI 0) S = some (nI (r 9)) := c_lawOf h (show 0 < 5 by decide)
  have l1' : fX5_lawOf o (nI 1) S = some (nI (r 10)) := c_lawOf h (show 1 < 5 by decide)
  have v9 : r 9 ≤ 8 := hW.2.2.2.1 0 (by decide)
  have v10 : r 10 ≤ 8 := hW.2.2.2.1 1 (by decide)
  have key : fX9_areLawful_L22 S gFU (nI (pts f (r 0))) 0 = some (nI (bN (!an (fun p => decide (sz f (r 0) p < r 10)) (pts f (r 0))))) := by
    refine forFU (fun m (_ : Unit) p => fX9_areLawful_L22 S m (nI (pts f (r 0))) (nI p)) (fun x => x = some (nI (bN (!an (fun p => decide (sz f (r 0) p < r 10)) (pts f (r 0)))))) (fun p _ => an (fun p => decide (sz f (r 0) p < r 10)) p = false) (pts f (r 0)) () (by omega) ?_ ?_ rfl
    · intro m p _ hp hi
      have hcl : sz f (r 0) p ≤ r 0 := cn_le _ _
      have hbc : fJ6_bitCount_0f7a4 (nI (mk (fun e => decide (f e = p)) (r 0))) S = some (nI (sz f (r 0) p)) := bc_mk S _ h8
      have hsp := hs p (by omega)
      by_cases z : sz f (r 0) p < r 10
      · left
        show fX9_areLawful_L22 S (m + 1) (nI (pts f (r 0))) (nI p) = _
        have : an (fun p => decide (sz f (r 0) p < r 10)) (pts f (r 0)) = true := (an_iff _ _).mpr ⟨p, hp, decide_eq_true z⟩
        rw [this, fX9_areLawful_L22]
        simp (disch := omega) only [gC_d, gC_tt, gBp_s, gBd_s, gL_s, gIn_nI, gN_nI, nI_ltI, nI_leI, nI_eq, nI_add, nI_mul, nI_sub, ite_t, ite_f, gR_W2, gRL_W, if_true, if_false, true_and, and_true, false_and, and_false, and_self, Nat.add_zero, l0, l1, l2, l3, l4, l5, l6, l7, l8, l9, l10, l11, l12, l13, l14, l22, l30, l31, l32, l39, l40, l48, l50, l57, l59, l60, l94, l97, l99, l100, l122, l255, l256, l300, l488, l1000, hgo, ho, hsp, hbc, l1', Bool.not_true, bN_f]
      · right
        refine ⟨(), by rw [an_s, hi, decide_eq_false z]; rfl, ?_⟩
        show fX9_areLawful_L22 S (m + 1) (nI (pts f (r 0))) (nI p) = fX9_areLawful_L22 S m (nI (pts f (r 0))) (nI (p + 1))
        rw [fX9_areLawful_L22]
        simp (disch := omega) only [gC_d, gC_tt, gBp_s, gBd_s, gL_s, gIn_nI, gN_nI, nI_ltI, nI_leI, nI_eq, nI_add, nI_mul, nI_sub, ite_t, ite_f, gR_W2, gRL_W, if_true, if_false, true_and, and_true, false_and, and_false, and_self, Nat.add_zero, l0, l1, l2, l3, l4, l5, l6, l7, l8, l9, l10, l11, l12, l13, l14, l22, l30, l31, l32, l39, l40, l48, l50, l57, l59, l60, l94, l97, l99, l100, l122, l255, l256, l300, l488, l1000, hgo, ho, hsp, hbc, l1']
    · intro m _ hi
      show fX9_areLawful_L22 S (m + 1) (nI (pts f (r 0))) (nI (pts f (r 0))) = _
      rw [hi, fX9_areLawful_L22]
      simp (disch := omega) only [gC_d, gC_tt, gBp_s, gBd_s, gL_s, gIn_nI, gN_nI, nI_ltI, nI_leI, nI_eq, nI_add, nI_mul, nI_sub, ite_t, ite_f, gR_W2, gRL_W, if_true, if_false, true_and, and_true, false_and, and_false, and_self, Nat.add_zero, l0, l1, l2, l3, l4, l5, l6, l7, l8, l9, l10, l11, l12, l13, l14, l22, l30, l31, l32, l39, l40, l48, l50, l57, l59, l60, l94, l97, l99, l100, l122, l255, l256, l300, l488, l1000, Bool.not_false, bN_t]
  rw [l0] at key
  unfold fX9_areLawful leafB
  by_cases z1 : r 9 = 0
  · rw [decide_eq_true z1]
    simp (disch := omega) only [gC_d, gC_tt, gBp_s, gBd_s, gL_s, gIn_nI, gN_nI, nI_ltI, nI_leI, nI_eq, nI_add, nI_mul, nI_sub, ite_t, ite_f, gR_W2, gRL_W, if_true, if_false, true_and, and_true, false_and, and_false, and_self, Nat.add_zero, l0, l1, l2, l3, l4, l5, l6, l7, l8, l9, l10, l11, l12, l13, l14, l22, l30, l31, l32, l39, l40, l48, l50, l57, l59, l60, l94, l97, l99, l100, l122, l255, l256, l300, l488, l1000, hgo, ho, l0', key, Bool.true_or, Bool.true_and]
  · rw [decide_eq_false z1]
    by_cases z2 : r 9 = pts f (r 0)
    · rw [decide_eq_true z2]
      simp (disch := omega) only [gC_d, gC_tt, gBp_s, gBd_s, gL_s, gIn_nI, gN_nI, nI_ltI, nI_leI, nI_eq, nI_add, nI_mul, nI_sub, ite_t, ite_f, gR_W2, gRL_W, if_true, if_false, true_and, and_true, false_and, and_false, and_self, Nat.add_zero, l0, l1, l2, l3, l4, l5, l6, l7, l8, l9, l10, l11, l12, l13, l14, l22, l30, l31, l32, l39, l40, l48, l50, l57, l59, l60, l94, l97, l99, l100, l122, l255, l256, l300, l488, l1000, hgo, ho, l0', key, Bool.or_true, Bool.true_and]
    · rw [decide_eq_false z2]
      simp (disch := omega) only [gC_d, gC_tt, gBp_s, gBd_s, gL_s, gIn_nI, gN_nI, nI_ltI, nI_leI, nI_eq, nI_add, nI_mul, nI_sub, ite_t, ite_f, gR_W2, gRL_W, if_true, if_false, true_and, and_true, false_and, and_false, and_self, Nat.add_zero, l0, l1, l2, l3, l4, l5, l6, l7, l8, l9, l10, l11, l12, l13, l14, l22, l30, l31, l32, l39, l40, l48, l50, l57, l59, l60, l94, l97, l99, l100, l122, l255, l256, l300, l488, l1000, hgo, ho, l0', Bool.or_false, Bool.false_and, bN_f]
theorem c_accept {S : gSt} {o : Nat} {r f : Nat → Nat} {w : Nat → Nat → Int} {dn : List Nat} (h : Ru S o r w) (hW : RW r w) (ho : gIsRu o = true) (ho2 : o < 100) (h32 : gR S 32 3 = nI o) (hs : ∀ q, q < 8 → gR S 35 q = nI (mk (fun e => decide (f e = q)) (r 0))) (hC : Can f (r 0)) (hS : WS S r w dn) (hl : leafB r f = true → dn.length < 4140) : ∃ S1, fX9_accept (nI (pts f (r 0))) (nI (enc f (r 0))) (iI (wAll w f (r 0))) S = some S1 ∧ gWy S S1 ∧ WS S1 r w (dn ++ if leafB r f then [enc f (r 0)] else []) := by
  have h8 := hW.2.1
  have hm := pts_leN hC
  have hd := dig_Can h8 hC
  unfold fX9_accept
  rw [c_areLawful h hW ho ho2 h32 hs hC]
  cases hb : leafB r f with
  | false =>
    refine ⟨S, ?_, gWy.rf, ?_⟩
    · simp (disch := omega) only [gC_d, gC_tt, gBp_s, gBd_s, gL_s, gIn_nI, gN_nI, nI_ltI, nI_leI, nI_eq, nI_add, nI_mul, nI_sub, ite_t, ite_f, gR_W2, gRL_W, if_true, if_false, true_and, and_true, false_and, and_false, and_self, Nat.add_zero, l0, l1, l2, l3, l4, l5, l6, l7, l8, l9, l10, l11, l12, l13, l14, l22, l30, l31, l32, l39, l40, l48, l50, l57, l59, l60, l94, l97, l99, l100, l122, l255, l256, l300, l488, l1000, bN_f]
    · rw [if_neg (by decide), List.append_nil]; exact hS
  | true =>
    have hl := hl hb
    obtain ⟨h5, h33, h34, hbs⟩ := hS
    rw [if_pos rfl]
    have hwe : wAll w (dig (enc f (r 0))) (r 0) = wAll w f (r 0) := si_congr (fun a ha => si_congr (fun b hb => by rw [hd a ha, hd b (by omega)]))
    have hpe : pts (dig (enc f (r 0))) (r 0) = pts f (r 0) := pts_congr hd
    have hcl : dn.countP (fun c => decide (pts (dig c) (r 0) = pts f (r 0))) ≤ dn.length := List.countP_le_length
    -- the last part: the code, the totals
    have key : ∀ T, gFr 32 33 S T → gR T 32 3 = gR S 32 3 → gR T 32 4 = gR S 32 4 → gR T 32 5 = nI dn.length → (∀ b, bst r w (dn ++ [enc f (r 0)]) = some b → gR T 32 6 = iI (wAll w (dig b) (r 0)) ∧ gR T 32 7 = nI b) → ∃ S1, fX9_accept_L44 (nI (pts f (r 0))) (nI (enc f (r 0))) T = some S1 ∧ gWy S S1 ∧ WS S1 r w (dn ++ [enc f (r 0)]) := by
      intro T hF t3 t4 t5 t6
      refine ⟨gW (gW (gW T 33 dn.length (nI (enc f (r 0)))) 32 5 (nI (dn.length + 1))) 34 (pts f (r 0)) (nI (dn.countP (fun c => decide (pts (dig c) (r 0) = pts f (r 0))) + 1)), ?_, ⟨?_, ?_, ?_, ?_⟩, ?_, ?_, ?_, ?_⟩
      · unfold fX9_accept_L44
        have h34' := h34 (pts f (r 0)) (by omega)
        simp (disch := omega) only [gC_d, gC_tt, gBp_s, gBd_s, gL_s, gIn_nI, gN_nI, nI_ltI, nI_leI, nI_eq, nI_add, nI_mul, nI_sub, ite_t, ite_f, gR_W2, gRL_W, if_true, if_false, true_and, and_true, false_and, and_false, and_self, Nat.add_zero, l0, l1, l2, l3, l4, l5, l6, l7, l8, l9, l10, l11, l12, l13, l14, l22, l30, l31, l32, l39, l40, l48, l50, l57, l59, l60, l94, l97, l99, l100, l122, l255, l256, l300, l488, l1000, t5, hF.2, h34']
      · exact (((hF.mono (by omega) (by omega)).w (by omega) (by omega)).w (by omega) (by omega)).w (by omega) (by omega)
      · simp (disch := omega) only [gC_d, gC_tt, gBp_s, gBd_s, gL_s, gIn_nI, gN_nI, nI_ltI, nI_leI, nI_eq, nI_add, nI_mul, nI_sub, ite_t, ite_f, gR_W2, gRL_W, if_true, if_false, true_and, and_true, false_and, and_false, and_self, Nat.add_zero, l0, l1, l2, l3, l4, l5, l6, l7, l8, l9, l10, l11, l12, l13, l14, l22, l30, l31, l32, l39, l40, l48, l50, l57, l59, l60, l94, l97, l99, l100, l122, l255, l256, l300, l488, l1000, t3]
      · simp (disch := omega) only [gC_d, gC_tt, gBp_s, gBd_s, gL_s, gIn_nI, gN_nI, nI_ltI, nI_leI, nI_eq, nI_add, nI_mul, nI_sub, ite_t, ite_f, gR_W2, gRL_W, if_true, if_false, true_and, and_true, false_and, and_false, and_self, Nat.add_zero, l0, l1, l2, l3, l4, l5, l6, l7, l8, l9, l10, l11, l12, l13, l14, l22, l30, l31, l32, l39, l40, l48, l50, l57, l59, l60, l94, l97, l99, l100, l122, l255, l256, l300, l488, l1000, t4]
      · intro p hp
        simp (disch := omega) only [gC_d, gC_tt, gBp_s, gBd_s, gL_s, gIn_nI, gN_nI, nI_ltI, nI_leI, nI_eq, nI_add, nI_mul, nI_sub, ite_t, ite_f, gR_W2, gRL_W, if_true, if_false, true_and, and_true, false_and, and_false, and_self, Nat.add_zero, l0, l1, l2, l3, l4, l5, l6, l7, l8, l9, l10, l11, l12, l13, l14, l22, l30, l31, l32, l39, l40, l48, l50, l57, l59, l60, l94, l97, l99, l100, l122, l255, l256, l300, l488, l1000, hF.2]
      · rw [List.length_append]
        simp (disch := omega) only [gC_d, gC_tt, gBp_s, gBd_s, gL_s, gIn_nI, gN_nI, nI_ltI, nI_leI, nI_eq, nI_add, nI_mul, nI_sub, ite_t, ite_f, gR_W2, gRL_W, if_true, if_false, true_and, and_true, false_and, and_false, and_self, Nat.add_zero, l0, l1, l2, l3, l4, l5, l6, l7, l8, l9, l10, l11, l12, l13, l14, l22, l30, l31, l32, l39, l40, l48, l50, l57, l59, l60, l94, l97, l99, l100, l122, l255, l256, l300, l488, l1000]
        rfl
      · intro i c hi
        by_cases q : i < dn.length
        · rw [List.getElem?_append_left q] at hi
          simp (disch := omega) only [gC_d, gC_tt, gBp_s, gBd_s, gL_s, gIn_nI, gN_nI, nI_ltI, nI_leI, nI_eq, nI_add, nI_mul, nI_sub, ite_t, ite_f, gR_W2, gRL_W, if_true, if_false, true_and, and_true, false_and, and_false, and_self, Nat.add_zero, l0, l1, l2, l3, l4, l5, l6, l7, l8, l9, l10, l11, l12, l13, l14, l22, l30, l31, l32, l39, l40, l48, l50, l57, l59, l60, l94, l97, l99, l100, l122, l255, l256, l300, l488, l1000, hF.2, h33 i c hi]
        · rw [List.getElem?_append_right (by omega)] at hi
          have : i = dn.length := by
            by_cases y : i - dn.length = 0
            · omega
            · rw [List.getElem?_eq_none (by simp; omega)] at hi; exact absurd hi (by simp)
          subst this
          rw [Nat.sub_self] at hi
          have hi : enc f (r 0) = c := by simpa using hi
          simp (disch := omega) only [gC_d, gC_tt, gBp_s, gBd_s, gL_s, gIn_nI, gN_nI, nI_ltI, nI_leI, nI_eq, nI_add, nI_mul, nI_sub, ite_t, ite_f, gR_W2, gRL_W, if_true, if_false, true_and, and_true, false_and, and_false, and_self, Nat.add_zero, l0, l1, l2, l3, l4, l5, l6, l7, l8, l9, l10, l11, l12, l13, l14, l22, l30, l31, l32, l39, l40, l48, l50, l57, l59, l60, l94, l97, l99, l100, l122, l255, l256, l300, l488, l1000, hi]
      · intro k hk
        rw [List.countP_append, List.countP_singleton, hpe]
        by_cases q : k = pts f (r 0)
        · subst q
          rw [if_pos (decide_eq_true rfl)]
          simp (disch := omega) only [gC_d, gC_tt, gBp_s, gBd_s, gL_s, gIn_nI, gN_nI, nI_ltI, nI_leI, nI_eq, nI_add, nI_mul, nI_sub, ite_t, ite_f, gR_W2, gRL_W, if_true, if_false, true_and, and_true, false_and, and_false, and_self, Nat.add_zero, l0, l1, l2, l3, l4, l5, l6, l7, l8, l9, l10, l11, l12, l13, l14, l22, l30, l31, l32, l39, l40, l48, l50, l57, l59, l60, l94, l97, l99, l100, l122, l255, l256, l300, l488, l1000]
        · rw [if_neg (by rw [decide_eq_true_eq]; exact fun y => q y.symm)]
          simp (disch := omega) only [gC_d, gC_tt, gBp_s, gBd_s, gL_s, gIn_nI, gN_nI, nI_ltI, nI_leI, nI_eq, nI_add, nI_mul, nI_sub, ite_t, ite_f, gR_W2, gRL_W, if_true, if_false, true_and, and_true, false_and, and_false, and_self, Nat.add_zero, l0, l1, l2, l3, l4, l5, l6, l7, l8, l9, l10, l11, l12, l13, l14, l22, l30, l31, l32, l39, l40, l48, l50, l57, l59, l60, l94, l97, l99, l100, l122, l255, l256, l300, l488, l1000, hF.2, h34 k hk]
      · intro b hb
        have := t6 b hb
        simp (disch := omega) only [gC_d, gC_tt, gBp_s, gBd_s, gL_s, gIn_nI, gN_nI, nI_ltI, nI_leI, nI_eq, nI_add, nI_mul, nI_sub, ite_t, ite_f, gR_W2, gRL_W, if_true, if_false, true_and, and_true, false_and, and_false, and_self, Nat.add_zero, l0, l1, l2, l3, l4, l5, l6, l7, l8, l9, l10, l11, l12, l13, l14, l22, l30, l31, l32, l39, l40, l48, l50, l57, l59, l60, l94, l97, l99, l100, l122, l255, l256, l300, l488, l1000, this.1, this.2]
    by_cases z0 : dn = []
    · subst z0
      have h5 : gR S 32 5 = nI 0 := h5
      obtain ⟨S1, e1, e2⟩ := key (gW (gW S 32 6 (iI (wAll w f (r 0)))) 32 7 (nI (enc f (r 0)))) ((gFr.w0 (by omega) (by omega)).w (by omega) (by omega)) (by simp (disch := omega) only [gC_d, gC_tt, gBp_s, gBd_s, gL_s, gIn_nI, gN_nI, nI_ltI, nI_leI, nI_eq, nI_add, nI_mul, nI_sub, ite_t, ite_f, gR_W2, gRL_W, if_true, if_false, true_and, and_true, false_and, and_false, and_self, Nat.add_zero, l0, l1, l2, l3, l4, l5, l6, l7, l8, l9, l10, l11, l12, l13, l14, l22, l30, l31, l32, l39, l40, l48, l50, l57, l59, l60, l94, l97, l99, l100, l122, l255, l256, l300, l488, l1000]) (by simp (disch := omega) only [gC_d, gC_tt, gBp_s, gBd_s, gL_s, gIn_nI, gN_nI, nI_ltI, nI_leI, nI_eq, nI_add, nI_mul, nI_sub, ite_t, ite_f, gR_W2, gRL_W, if_true, if_false, true_and, and_true, false_and, and_false, and_self, Nat.add_zero, l0, l1, l2, l3, l4, l5, l6, l7, l8, l9, l10, l11, l12, l13, l14, l22, l30, l31, l32, l39, l40, l48, l50, l57, l59, l60, l94, l97, l99, l100, l122, l255, l256, l300, l488, l1000]) (by simp (disch := omega) only [gC_d, gC_tt, gBp_s, gBd_s, gL_s, gIn_nI, gN_nI, nI_ltI, nI_leI, nI_eq, nI_add, nI_mul, nI_sub, ite_t, ite_f, gR_W2, gRL_W, if_true, if_false, true_and, and_true, false_and, and_false, and_self, Nat.add_zero, l0, l1, l2, l3, l4, l5, l6, l7, l8, l9, l10, l11, l12, l13, l14, l22, l30, l31, l32, l39, l40, l48, l50, l57, l59, l60, l94, l97, l99, l100, l122, l255, l256, l300, l488, l1000, h5]; rfl) (fun b hb => by
        have hb : some (enc f (r 0)) = some b := hb
        have hb := Option.some.inj hb
        subst hb
        rw [hwe]
        exact ⟨by simp (disch := omega) only [gC_d, gC_tt, gBp_s, gBd_s, gL_s, gIn_nI, gN_nI, nI_ltI, nI_leI, nI_eq, nI_add, nI_mul, nI_sub, ite_t, ite_f, gR_W2, gRL_W, if_true, if_false, true_and, and_true, false_and, and_false, and_self, Nat.add_zero, l0, l1, l2, l3, l4, l5, l6, l7, l8, l9, l10, l11, l12, l13, l14, l22, l30, l31, l32, l39, l40, l48, l50, l57, l59, l60, l94, l97, l99, l100, l122, l255, l256, l300, l488, l1000], by simp (disch := omega) only [gC_d, gC_tt, gBp_s, gBd_s, gL_s, gIn_nI, gN_nI, nI_ltI, nI_leI, nI_eq, nI_add, nI_mul, nI_sub, ite_t, ite_f, gR_W2, gRL_W, if_true, if_false, true_and, and_true, false_and, and_false, and_self, Nat.add_zero, l0, l1, l2, l3, l4, l5, l6, l7, l8, l9, l10, l11, l12, l13, l14, l22, l30, l31, l32, l39, l40, l48, l50, l57, l59, l60, l94, l97, l99, l100, l122, l255, l256, l300, l488, l1000]⟩)
      refine ⟨S1, ?_, e2⟩
      simp (disch := omega) only [gC_d, gC_tt, gBp_s, gBd_s, gL_s, gIn_nI, gN_nI, nI_ltI, nI_leI, nI_eq, nI_add, nI_mul, nI_sub, ite_t, ite_f, gR_W2, gRL_W, if_true, if_false, true_and, and_true, false_and, and_false, and_self, Nat.add_zero, l0, l1, l2, l3, l4, l5, l6, l7, l8, l9, l10, l11, l12, l13, l14, l22, l30, l31, l32, l39, l40, l48, l50, l57, l59, l60, l94, l97, l99, l100, l122, l255, l256, l300, l488, l1000, h5, bN_t, e1, l4140]
    · have hlen : 0 < dn.length := by
        cases dn with
        | nil => exact absurd rfl z0
        | cons a l => exact Nat.succ_pos _
      cases hB : bst r w dn with
      | none => exact absurd (bst_none hB) z0
      | some b =>
        obtain ⟨h6, h7⟩ := hbs b hB
        have b1 := wAll_b hW (dig b) h8
        have b2 := wAll_b hW f h8
        by_cases z1 : wAll w (dig b) (r 0) < wAll w f (r 0)
        · obtain ⟨S1, e1, e2⟩ := key (gW (gW S 32 6 (iI (wAll w f (r 0)))) 32 7 (nI (enc f (r 0)))) ((gFr.w0 (by omega) (by omega)).w (by omega) (by omega)) (by simp (disch := omega) only [gC_d, gC_tt, gBp_s, gBd_s, gL_s, gIn_nI, gN_nI, nI_ltI, nI_leI, nI_eq, nI_add, nI_mul, nI_sub, ite_t, ite_f, gR_W2, gRL_W, if_true, if_false, true_and, and_true, false_and, and_false, and_self, Nat.add_zero, l0, l1, l2, l3, l4, l5, l6, l7, l8, l9, l10, l11, l12, l13, l14, l22, l30, l31, l32, l39, l40, l48, l50, l57, l59, l60, l94, l97, l99, l100, l122, l255, l256, l300, l488, l1000]) (by simp (disch := omega) only [gC_d, gC_tt, gBp_s, gBd_s, gL_s, gIn_nI, gN_nI, nI_ltI, nI_leI, nI_eq, nI_add, nI_mul, nI_sub, ite_t, ite_f, gR_W2, gRL_W, if_true, if_false, true_and, and_true, false_and, and_false, and_self, Nat.add_zero, l0, l1, l2, l3, l4, l5, l6, l7, l8, l9, l10, l11, l12, l13, l14, l22, l30, l31, l32, l39, l40, l48, l50, l57, l59, l60, l94, l97, l99, l100, l122, l255, l256, l300, l488, l1000]) (by simp (disch := omega) only [gC_d, gC_tt, gBp_s, gBd_s, gL_s, gIn_nI, gN_nI, nI_ltI, nI_leI, nI_eq, nI_add, nI_mul, nI_sub, ite_t, ite_f, gR_W2, gRL_W, if_true, if_false, true_and, and_true, false_and, and_false, and_self, Nat.add_zero, l0, l1, l2, l3, l4, l5, l6, l7, l8, l9, l10, l11, l12, l13, l14, l22, l30, l31, l32, l39, l40, l48, l50, l57, l59, l60, l94, l97, l99, l100, l122, l255, l256, l300, l488, l1000, h5]) (fun b' hb => by
            rw [bst_app, hB, bs_sm, hwe, if_pos z1] at hb
            have hb := Option.some.inj hb
            subst hb
            rw [hwe]
            exact ⟨by simp (disch := omega) only [gC_d, gC_tt, gBp_s, gBd_s, gL_s, gIn_nI, gN_nI, nI_ltI, nI_leI, nI_eq, nI_add, nI_mul, nI_sub, ite_t, ite_f, gR_W2, gRL_W, if_true, if_false, true_and, and_true, false_and, and_false, and_self, Nat.add_zero, l0, l1, l2, l3, l4, l5, l6, l7, l8, l9, l10, l11, l12, l13, l14, l22, l30, l31, l32, l39, l40, l48, l50, l57, l59, l60, l94, l97, l99, l100, l122, l255, l256, l300, l488, l1000], by simp (disch := omega) only [gC_d, gC_tt, gBp_s, gBd_s, gL_s, gIn_nI, gN_nI, nI_ltI, nI_leI, nI_eq, nI_add, nI_mul, nI_sub, ite_t, ite_f, gR_W2, gRL_W, if_true, if_false, true_and, and_true, false_and, and_false, and_self, Nat.add_zero, l0, l1, l2, l3, l4, l5, l6, l7, l8, l9, l10, l11, l12, l13, l14, l22, l30, l31, l32, l39, l40, l48, l50, l57, l59, l60, l94, l97, l99, l100, l122, l255, l256, l300, l488, l1000]⟩)
          refine ⟨S1, ?_, e2⟩
          simp (disch := omega) only [gC_d, gC_tt, gBp_s, gBd_s, gL_s, gIn_nI, gN_nI, nI_ltI, nI_leI, nI_eq, nI_add, nI_mul, nI_sub, ite_t, ite_f, gR_W2, gRL_W, if_true, if_false, true_and, and_true, false_and, and_false, and_self, Nat.add_zero, l0, l1, l2, l3, l4, l5, l6, l7, l8, l9, l10, l11, l12, l13, l14, l22, l30, l31, l32, l39, l40, l48, l50, l57, l59, l60, l94, l97, l99, l100, l122, l255, l256, l300, l488, l1000, h5, h6, iI_le, bN_t, e1, l4140]
        · obtain ⟨S1, e1, e2⟩ := key S gFr.rf rfl rfl h5 (fun b' hb => by
            rw [bst_app, hB, bs_sm, hwe, if_neg z1] at hb
            have hb := Option.some.inj hb
            subst hb
            exact ⟨h6, h7⟩)
          refine ⟨S1, ?_, e2⟩
          simp (disch := omega) only [gC_d, gC_tt, gBp_s, gBd_s, gL_s, gIn_nI, gN_nI, nI_ltI, nI_leI, nI_eq, nI_add, nI_mul, nI_sub, ite_t, ite_f, gR_W2, gRL_W, if_true, if_false, true_and, and_true, false_and, and_false, and_self, Nat.add_zero, l0, l1, l2, l3, l4, l5, l6, l7, l8, l9, l10, l11, l12, l13, l14, l22, l30, l31, l32, l39, l40, l48, l50, l57, l59, l60, l94, l97, l99, l100, l122, l255, l256, l300, l488, l1000, h5, h6, iI_le, bN_t, e1, l4140]
theorem lw_enc {r f : Nat → Nat} {w : Nat → Nat → Int} (hW : RW r w) (hC : Can f (r 0)) : lw r (enc f (r 0)) = lawful r f := by
  have hd := dig_Can hW.2.1 hC
  unfold lw
  exact lawful_congr hW (hC.congr (fun g hg => (hd g hg).symm)) hd
theorem lw_none {r f : Nat → Nat} {w : Nat → Nat → Int} {k g : Nat} (hW : RW r w) (hg : g + 1 + k = r 0) (hC : Can f (g + 1)) (hm : ¬ may r f g) : List.filter (lw r) (dfs k (g + 1) (pts f (g + 1)) (enc f (g + 1))) = [] := by
  rw [List.filter_eq_nil_iff]
  intro d hd hl
  obtain ⟨f', rfl, e, hC'⟩ := dfs_mem (n := r 0) k (g + 1) f d hg hC hd
  rw [lw_enc hW hC', lawful_iff hW hC'] at hl
  exact hm (may_congr (fun a ha => e a (by omega)) (hl.1 g (by omega)))
theorem flat_le (h : Nat → List Nat) (p : Nat → Bool) : ∀ {a b : Nat}, a ≤ b → (List.filter p ((List.range a).flatMap h)).length ≤ (List.filter p ((List.range b).flatMap h)).length := by
  intro a b hab
  induction b with
  | zero => rw [Nat.le_zero.mp hab]; exact Nat.le_refl _
  | succ b ih =>
    by_cases e : a = b + 1
    · rw [e]; exact Nat.le_refl _
    · have := ih (by omega)
      rw [List.range_succ, List.flatMap_append, List.filter_append, List.length_append]
      omega
theorem flat_s (h : Nat → List Nat) (p : Nat → Bool) (a : Nat) : List.filter p ((List.range (a + 1)).flatMap h) = List.filter p ((List.range a).flatMap h) ++ List.filter p (h a) := by
  rw [List.range_succ, List.flatMap_append, List.filter_append]
  congr 1
  simp
theorem wAll_upN (w : Nat → Nat → Int) {f : Nat → Nat} {g p : Nat} : wAll w (upN f g p) (g + 1) = wAll w f g + si (fun e => if f e = p then w g e else 0) g := by
  unfold wAll
  rw [si_s]
  congr 1
  · refine si_congr (fun a ha => si_congr (fun b hb => ?_))
    rw [upN_n (show a ≠ g by omega), upN_n (show b ≠ g by omega)]
  · refine si_congr (fun b hb => ?_)
    rw [upN_s, upN_n (show b ≠ g by omega)]
    by_cases e : f b = p
    · rw [if_pos e, if_pos e.symm]
    · rw [if_neg e, if_neg (fun y => e y.symm)]
theorem si_ext {p q : Nat → Int} {m : Nat} : ∀ {n : Nat}, m ≤ n → (∀ g, g < m → p g = q g) → (∀ g, m ≤ g → g < n → p g = 0) → si p n = si q m
  | 0, h, _, _ => by rw [Nat.le_zero.mp h]; rfl
  | n + 1, h, e, z => by
    by_cases hm : m = n + 1
    · subst hm; exact si_congr e
    · rw [si_s, si_ext (n := n) (by omega) e (fun g h1 h2 => z g h1 (by omega)), z n (by omega) (by omega), Int.add_zero]
theorem ww_mk {w : Nat → Nat → Int} {f : Nat → Nat} {n g p : Nat} (hg : g < n) : ww w n g (fun e => (mk (fun e => decide (f e = p)) g).testBit e) = si (fun e => if f e = p then w g e else 0) g := by
  unfold ww
  refine si_ext (by omega) (fun e he => ?_) (fun e h1 h2 => ?_)
  · show (if e ≠ g ∧ (mk (fun e => decide (f e = p)) g).testBit e = true then w g e else 0) = _
    rw [mk_bit, decide_eq_true he, Bool.true_and]
    by_cases y : f e = p
    · rw [if_pos ⟨by omega, decide_eq_true y⟩, if_pos y]
    · rw [if_neg (fun k => y (of_decide_eq_true k.2)), if_neg y]
  · show (if e ≠ g ∧ (mk (fun e => decide (f e = p)) g).testBit e = true then w g e else 0) = _
    rw [mk_bit, decide_eq_false (by omega), Bool.false_and, if_neg (fun k => absurd k.2 (by decide))]
theorem mk_upN_s {f : Nat → Nat} {g p : Nat} : mk (fun e => decide (upN f g p e = p)) (g + 1) = mk (fun e => decide (f e = p)) g + 2 ^ g := by
  rw [mk_s, if_pos (by rw [upN_s]; exact decide_eq_true rfl), mk_congr (q := fun e => decide (f e = p)) (fun e he => by rw [upN_n (show e ≠ g by omega)])]
theorem mk_upN_n {f : Nat → Nat} {g p q : Nat} (h : q ≠ p) : mk (fun e => decide (upN f g p e = q)) (g + 1) = mk (fun e => decide (f e = q)) g := by
  rw [mk_s, if_neg (by rw [upN_s, decide_eq_true_eq]; exact fun y => h y.symm), mk_congr (q := fun e => decide (f e = q)) (fun e he => by rw [upN_n (show e ≠ g by omega)]), Nat.add_zero]
theorem c_PF {r : Nat → Nat} {w : Nat → Nat → Int} {o : Nat} (hW : RW r w) (ho : gIsRu o = true) (ho2 : o < 18) : ∀ (k g : Nat) (f : Nat → Nat) (dn : List Nat) (S : gSt) (F : Nat), g + k = r 0 → k < F → Can f g → (∀ e, e < g → may r f e) → Ru S o r w → gR S 32 3 = nI o → (∀ p, p < 8 → gR S 35 p = nI (mk (fun e => decide (f e = p)) g)) → WS S r w dn → dn.length + (List.filter (lw r) (dfs k g (pts f g) (enc f g))).length ≤ 4140 → ∃ S1, fPF F (nI g) (nI (pts f g)) (nI (enc f g)) (iI (wAll w f g)) S = some S1 ∧ gWy S S1 ∧ WS S1 r w (dn ++ List.filter (lw r) (dfs k g (pts f g) (enc f g))) := by
  have h8 := hW.2.1
  intro k
  induction k with
  | zero =>
    intro g f dn S F hg hF hC hm hR h32 hs hS hlen
    obtain ⟨F, rfl⟩ : ∃ j, F = j + 1 := ⟨F - 1, by omega⟩
    have hg : g = r 0 := by omega
    subst hg
    have hgo : gN (gR S 32 3) = o := by rw [h32]; exact gN_nI (by omega)
    have hlf : lw r (enc f (r 0)) = leafB r f := by
      rw [lw_enc hW hC, Bool.eq_iff_iff, lawful_iff hW hC, leafB_iff]
      exact ⟨fun z => z.2, fun z => ⟨hm, z⟩⟩
    have hfl : List.filter (lw r) (dfs 0 (r 0) (pts f (r 0)) (enc f (r 0))) = if leafB r f then [enc f (r 0)] else [] := by
      show List.filter (lw r) [enc f (r 0)] = _
      rw [← hlf, List.filter_cons, List.filter_nil]
    rw [hfl] at hlen ⊢
    obtain ⟨S1, e1, e2, e3⟩ := c_accept hR hW ho (by omega) h32 hs hC hS (fun z => by rw [if_pos z] at hlen; simp at hlen; omega)
    refine ⟨S1, ?_, e2, e3⟩
    rw [fPF]
    unfold fX9_placeFrom fX9_placeFrom_L17
    rw [hgo, gC_ok ho, show fX5_guests o S = some (nI (r 0)) from congrArg some hR.1, gBp_s, if_pos (nI_le (Nat.le_refl _) (by omega)), e1, gBp_s]
  | succ k ih =>
    intro g f dn S F hg hF hC hm hR h32 hs hS hlen
    obtain ⟨F, rfl⟩ : ∃ j, F = j + 1 := ⟨F - 1, by omega⟩
    have hgo : gN (gR S 32 3) = o := by rw [h32]; exact gN_nI (by omega)
    have hpl := pts_leN hC
    have hdfs : dfs (k + 1) g (pts f g) (enc f g) = (List.range (pts f g + 1)).flatMap (fun p => dfs k (g + 1) (max (pts f g) (p + 1)) (enc f g + p * 8 ^ (7 - g))) := rfl
    rw [hdfs] at hlen ⊢
    generalize hch : (fun p => dfs k (g + 1) (max (pts f g) (p + 1)) (enc f g + p * 8 ^ (7 - g))) = ch at hlen ⊢
    have hch : ∀ p, ch p = dfs k (g + 1) (pts (upN f g p) (g + 1)) (enc (upN f g p) (g + 1)) := fun p => by rw [← hch, pts_upN, enc_upN]
    rw [fPF]
    unfold fX9_placeFrom
    rw [hgo, gC_ok ho, show fX5_guests o S = some (nI (r 0)) from congrArg some hR.1, gBp_s, if_neg (nI_nleI (by omega) (by omega)), if_pos (by rw [l8]; exact nI_lt (by omega) (by omega))]
    refine forFU (fun m (T : gSt) p => fX9_placeFrom_L29 (fun b1 b2 b3 b4 b5 T => fX9_place (fPF F) b1 b2 b3 b4 b5 T) m (nI g) (nI (pts f g)) (nI (enc f g)) (iI (wAll w f g)) (nI p) T) (fun x => ∃ S1, x = some S1 ∧ gWy S S1 ∧ WS S1 r w (dn ++ List.filter (lw r) ((List.range (pts f g + 1)).flatMap ch))) (fun p T => gWy S T ∧ WS T r w (dn ++ List.filter (lw r) ((List.range p).flatMap ch))) (pts f g + 1) S (by omega) ?_ ?_ ⟨gWy.rf, by simpa using hS⟩
    · rintro m p T hp ⟨hF1, hT⟩
      right
      have hRT : Ru T o r w := hR.fr hF1.1 (by omega)
      have h32T : gR T 32 3 = nI o := by rw [hF1.2.1]; exact h32
      have hgoT : gN (gR T 32 3) = o := by rw [h32T]; exact gN_nI (by omega)
      have hsT : ∀ q, q < 8 → gR T 35 q = nI (mk (fun e => decide (f e = q)) g) := fun q hq => by rw [hF1.2.2.2 q hq]; exact hs q hq
      have hms := c_mayStand hRT hW ho (by omega) h32T hsT (show g < 8 by omega) (show p < 8 by omega) (by omega)
      cases hb : mayB r f g p with
      | false =>
        have hnm : ¬ may r (upN f g p) g := fun y => by
          rw [may_upN, ← mayB_iff hW (by omega) (by omega), hb] at y
          exact absurd y (by decide)
        have hz : List.filter (lw r) (ch p) = [] := by
          rw [hch]
          exact lw_none hW (by omega) (Can_upN hC (by omega)) hnm
        refine ⟨T, ⟨hF1, by rw [flat_s, hz, List.append_nil]; exact hT⟩, ?_⟩
        show fX9_placeFrom_L29 _ (m + 1) (nI g) (nI (pts f g)) (nI (enc f g)) (iI (wAll w f g)) (nI p) T = fX9_placeFrom_L29 _ m (nI g) (nI (pts f g)) (nI (enc f g)) (iI (wAll w f g)) (nI (p + 1)) T
        rw [fX9_placeFrom_L29, hms, hb]
        simp (disch := omega) only [gC_d, gC_tt, gBp_s, gBd_s, gL_s, gIn_nI, gN_nI, nI_ltI, nI_leI, nI_eq, nI_add, nI_mul, nI_sub, ite_t, ite_f, gR_W2, gRL_W, if_true, if_false, true_and, and_true, false_and, and_false, and_self, Nat.add_zero, l0, l1, l2, l3, l4, l5, l6, l7, l8, l9, l10, l11, l12, l13, l14, l22, l30, l31, l32, l39, l40, l48, l50, l57, l59, l60, l94, l97, l99, l100, l122, l255, l256, l300, l488, l1000, bN_f]
      | true =>
        have hnm : may r (upN f g p) g := by
          rw [may_upN, ← mayB_iff hW (by omega) (by omega)]; exact hb
        have hlt := mk_lt8 (fun e => decide (f e = p)) (show g ≤ 8 by omega)
        have hsp := hsT p (by omega)
        -- the child
        have hlen2 : (dn ++ List.filter (lw r) ((List.range p).flatMap ch)).length + (List.filter (lw r) (dfs k (g + 1) (pts (upN f g p) (g + 1)) (enc (upN f g p) (g + 1)))).length ≤ 4140 := by
          have := flat_le ch (lw r) (show p + 1 ≤ pts f g + 1 by omega)
          rw [flat_s, List.length_append, hch] at this
          rw [List.length_append]
          omega
        have hT2 : WS (gW T 35 p (nI (mk (fun e => decide (upN f g p e = p)) (g + 1)))) r w (dn ++ List.filter (lw r) ((List.range p).flatMap ch)) := by
          obtain ⟨x1, x2, x3, x4⟩ := hT
          refine ⟨by simp (disch := omega) only [gC_d, gC_tt, gBp_s, gBd_s, gL_s, gIn_nI, gN_nI, nI_ltI, nI_leI, nI_eq, nI_add, nI_mul, nI_sub, ite_t, ite_f, gR_W2, gRL_W, if_true, if_false, true_and, and_true, false_and, and_false, and_self, Nat.add_zero, l0, l1, l2, l3, l4, l5, l6, l7, l8, l9, l10, l11, l12, l13, l14, l22, l30, l31, l32, l39, l40, l48, l50, l57, l59, l60, l94, l97, l99, l100, l122, l255, l256, l300, l488, l1000, x1], fun i c hi => by simp (disch := omega) only [gC_d, gC_tt, gBp_s, gBd_s, gL_s, gIn_nI, gN_nI, nI_ltI, nI_leI, nI_eq, nI_add, nI_mul, nI_sub, ite_t, ite_f, gR_W2, gRL_W, if_true, if_false, true_and, and_true, false_and, and_false, and_self, Nat.add_zero, l0, l1, l2, l3, l4, l5, l6, l7, l8, l9, l10, l11, l12, l13, l14, l22, l30, l31, l32, l39, l40, l48, l50, l57, l59, l60, l94, l97, l99, l100, l122, l255, l256, l300, l488, l1000, x2 i c hi], fun k hk => by simp (disch := omega) only [gC_d, gC_tt, gBp_s, gBd_s, gL_s, gIn_nI, gN_nI, nI_ltI, nI_leI, nI_eq, nI_add, nI_mul, nI_sub, ite_t, ite_f, gR_W2, gRL_W, if_true, if_false, true_and, and_true, false_and, and_false, and_self, Nat.add_zero, l0, l1, l2, l3, l4, l5, l6, l7, l8, l9, l10, l11, l12, l13, l14, l22, l30, l31, l32, l39, l40, l48, l50, l57, l59, l60, l94, l97, l99, l100, l122, l255, l256, l300, l488, l1000, x3 k hk], fun b hb => ?_⟩
          have := x4 b hb
          exact ⟨by simp (disch := omega) only [gC_d, gC_tt, gBp_s, gBd_s, gL_s, gIn_nI, gN_nI, nI_ltI, nI_leI, nI_eq, nI_add, nI_mul, nI_sub, ite_t, ite_f, gR_W2, gRL_W, if_true, if_false, true_and, and_true, false_and, and_false, and_self, Nat.add_zero, l0, l1, l2, l3, l4, l5, l6, l7, l8, l9, l10, l11, l12, l13, l14, l22, l30, l31, l32, l39, l40, l48, l50, l57, l59, l60, l94, l97, l99, l100, l122, l255, l256, l300, l488, l1000, this.1], by simp (disch := omega) only [gC_d, gC_tt, gBp_s, gBd_s, gL_s, gIn_nI, gN_nI, nI_ltI, nI_leI, nI_eq, nI_add, nI_mul, nI_sub, ite_t, ite_f, gR_W2, gRL_W, if_true, if_false, true_and, and_true, false_and, and_false, and_self, Nat.add_zero, l0, l1, l2, l3, l4, l5, l6, l7, l8, l9, l10, l11, l12, l13, l14, l22, l30, l31, l32, l39, l40, l48, l50, l57, l59, l60, l94, l97, l99, l100, l122, l255, l256, l300, l488, l1000, this.2]⟩
        obtain ⟨T1, e1, e2, e3⟩ := ih (g + 1) (upN f g p) (dn ++ List.filter (lw r) ((List.range p).flatMap ch)) (gW T 35 p (nI (mk (fun e => decide (upN f g p e = p)) (g + 1)))) F (by omega) (by omega) (Can_upN hC (by omega)) (fun e he => by
          by_cases q : e = g
          · subst q; exact hnm
          · exact may_congr (fun a ha => (upN_n (show a ≠ g by omega)).symm) (hm e (by omega))) (hRT.fr (gFr.w0 (a := 35) (b := 36) (by omega) (by omega)) (by omega)) (by simp (disch := omega) only [gC_d, gC_tt, gBp_s, gBd_s, gL_s, gIn_nI, gN_nI, nI_ltI, nI_leI, nI_eq, nI_add, nI_mul, nI_sub, ite_t, ite_f, gR_W2, gRL_W, if_true, if_false, true_and, and_true, false_and, and_false, and_self, Nat.add_zero, l0, l1, l2, l3, l4, l5, l6, l7, l8, l9, l10, l11, l12, l13, l14, l22, l30, l31, l32, l39, l40, l48, l50, l57, l59, l60, l94, l97, l99, l100, l122, l255, l256, l300, l488, l1000, h32T]) (fun q hq => by
          by_cases y : q = p
          · subst y; simp (disch := omega) only [gC_d, gC_tt, gBp_s, gBd_s, gL_s, gIn_nI, gN_nI, nI_ltI, nI_leI, nI_eq, nI_add, nI_mul, nI_sub, ite_t, ite_f, gR_W2, gRL_W, if_true, if_false, true_and, and_true, false_and, and_false, and_self, Nat.add_zero, l0, l1, l2, l3, l4, l5, l6, l7, l8, l9, l10, l11, l12, l13, l14, l22, l30, l31, l32, l39, l40, l48, l50, l57, l59, l60, l94, l97, l99, l100, l122, l255, l256, l300, l488, l1000]
          · rw [mk_upN_n y]; simp (disch := omega) only [gC_d, gC_tt, gBp_s, gBd_s, gL_s, gIn_nI, gN_nI, nI_ltI, nI_leI, nI_eq, nI_add, nI_mul, nI_sub, ite_t, ite_f, gR_W2, gRL_W, if_true, if_false, true_and, and_true, false_and, and_false, and_self, Nat.add_zero, l0, l1, l2, l3, l4, l5, l6, l7, l8, l9, l10, l11, l12, l13, l14, l22, l30, l31, l32, l39, l40, l48, l50, l57, l59, l60, l94, l97, l99, l100, l122, l255, l256, l300, l488, l1000, hsT q hq]) hT2 hlen2
        obtain ⟨f1, f2, f3, f4⟩ := e2
        refine ⟨gW T1 35 p (nI (mk (fun e => decide (f e = p)) g)), ⟨⟨?_, ?_, ?_, ?_⟩, ?_⟩, ?_⟩
        · exact ((hF1.1.tr (gFr.w0 (by omega) (by omega))).tr f1).w (by omega) (by omega)
        · rw [← hF1.2.1]
          have f2' : gR T1 32 3 = gR T 32 3 := by rw [f2]; simp (disch := omega) only [gC_d, gC_tt, gBp_s, gBd_s, gL_s, gIn_nI, gN_nI, nI_ltI, nI_leI, nI_eq, nI_add, nI_mul, nI_sub, ite_t, ite_f, gR_W2, gRL_W, if_true, if_false, true_and, and_true, false_and, and_false, and_self, Nat.add_zero, l0, l1, l2, l3, l4, l5, l6, l7, l8, l9, l10, l11, l12, l13, l14, l22, l30, l31, l32, l39, l40, l48, l50, l57, l59, l60, l94, l97, l99, l100, l122, l255, l256, l300, l488, l1000]
          simp (disch := omega) only [gC_d, gC_tt, gBp_s, gBd_s, gL_s, gIn_nI, gN_nI, nI_ltI, nI_leI, nI_eq, nI_add, nI_mul, nI_sub, ite_t, ite_f, gR_W2, gRL_W, if_true, if_false, true_and, and_true, false_and, and_false, and_self, Nat.add_zero, l0, l1, l2, l3, l4, l5, l6, l7, l8, l9, l10, l11, l12, l13, l14, l22, l30, l31, l32, l39, l40, l48, l50, l57, l59, l60, l94, l97, l99, l100, l122, l255, l256, l300, l488, l1000, f2']
        · rw [← hF1.2.2.1]
          have f3' : gR T1 32 4 = gR T 32 4 := by rw [f3]; simp (disch := omega) only [gC_d, gC_tt, gBp_s, gBd_s, gL_s, gIn_nI, gN_nI, nI_ltI, nI_leI, nI_eq, nI_add, nI_mul, nI_sub, ite_t, ite_f, gR_W2, gRL_W, if_true, if_false, true_and, and_true, false_and, and_false, and_self, Nat.add_zero, l0, l1, l2, l3, l4, l5, l6, l7, l8, l9, l10, l11, l12, l13, l14, l22, l30, l31, l32, l39, l40, l48, l50, l57, l59, l60, l94, l97, l99, l100, l122, l255, l256, l300, l488, l1000]
          simp (disch := omega) only [gC_d, gC_tt, gBp_s, gBd_s, gL_s, gIn_nI, gN_nI, nI_ltI, nI_leI, nI_eq, nI_add, nI_mul, nI_sub, ite_t, ite_f, gR_W2, gRL_W, if_true, if_false, true_and, and_true, false_and, and_false, and_self, Nat.add_zero, l0, l1, l2, l3, l4, l5, l6, l7, l8, l9, l10, l11, l12, l13, l14, l22, l30, l31, l32, l39, l40, l48, l50, l57, l59, l60, l94, l97, l99, l100, l122, l255, l256, l300, l488, l1000, f3']
        · intro q hq
          by_cases y : q = p
          · subst y
            simp (disch := omega) only [gC_d, gC_tt, gBp_s, gBd_s, gL_s, gIn_nI, gN_nI, nI_ltI, nI_leI, nI_eq, nI_add, nI_mul, nI_sub, ite_t, ite_f, gR_W2, gRL_W, if_true, if_false, true_and, and_true, false_and, and_false, and_self, Nat.add_zero, l0, l1, l2, l3, l4, l5, l6, l7, l8, l9, l10, l11, l12, l13, l14, l22, l30, l31, l32, l39, l40, l48, l50, l57, l59, l60, l94, l97, l99, l100, l122, l255, l256, l300, l488, l1000, hs q hq]
          · have := f4 q hq
            rw [gR_W2, if_neg (by omega)] at this
            rw [← hF1.2.2.2 q hq]
            simp (disch := omega) only [gC_d, gC_tt, gBp_s, gBd_s, gL_s, gIn_nI, gN_nI, nI_ltI, nI_leI, nI_eq, nI_add, nI_mul, nI_sub, ite_t, ite_f, gR_W2, gRL_W, if_true, if_false, true_and, and_true, false_and, and_false, and_self, Nat.add_zero, l0, l1, l2, l3, l4, l5, l6, l7, l8, l9, l10, l11, l12, l13, l14, l22, l30, l31, l32, l39, l40, l48, l50, l57, l59, l60, l94, l97, l99, l100, l122, l255, l256, l300, l488, l1000, this]
        · rw [flat_s, ← List.append_assoc, hch]
          obtain ⟨x1, x2, x3, x4⟩ := e3
          refine ⟨by simp (disch := omega) only [gC_d, gC_tt, gBp_s, gBd_s, gL_s, gIn_nI, gN_nI, nI_ltI, nI_leI, nI_eq, nI_add, nI_mul, nI_sub, ite_t, ite_f, gR_W2, gRL_W, if_true, if_false, true_and, and_true, false_and, and_false, and_self, Nat.add_zero, l0, l1, l2, l3, l4, l5, l6, l7, l8, l9, l10, l11, l12, l13, l14, l22, l30, l31, l32, l39, l40, l48, l50, l57, l59, l60, l94, l97, l99, l100, l122, l255, l256, l300, l488, l1000, x1], fun i c hi => by simp (disch := omega) only [gC_d, gC_tt, gBp_s, gBd_s, gL_s, gIn_nI, gN_nI, nI_ltI, nI_leI, nI_eq, nI_add, nI_mul, nI_sub, ite_t, ite_f, gR_W2, gRL_W, if_true, if_false, true_and, and_true, false_and, and_false, and_self, Nat.add_zero, l0, l1, l2, l3, l4, l5, l6, l7, l8, l9, l10, l11, l12, l13, l14, l22, l30, l31, l32, l39, l40, l48, l50, l57, l59, l60, l94, l97, l99, l100, l122, l255, l256, l300, l488, l1000, x2 i c hi], fun k hk => by simp (disch := omega) only [gC_d, gC_tt, gBp_s, gBd_s, gL_s, gIn_nI, gN_nI, nI_ltI, nI_leI, nI_eq, nI_add, nI_mul, nI_sub, ite_t, ite_f, gR_W2, gRL_W, if_true, if_false, true_and, and_true, false_and, and_false, and_self, Nat.add_zero, l0, l1, l2, l3, l4, l5, l6, l7, l8, l9, l10, l11, l12, l13, l14, l22, l30, l31, l32, l39, l40, l48, l50, l57, l59, l60, l94, l97, l99, l100, l122, l255, l256, l300, l488, l1000, x3 k hk], fun b hb => ?_⟩
          have := x4 b hb
          exact ⟨by simp (disch := omega) only [gC_d, gC_tt, gBp_s, gBd_s, gL_s, gIn_nI, gN_nI, nI_ltI, nI_leI, nI_eq, nI_add, nI_mul, nI_sub, ite_t, ite_f, gR_W2, gRL_W, if_true, if_false, true_and, and_true, false_and, and_false, and_self, Nat.add_zero, l0, l1, l2, l3, l4, l5, l6, l7, l8, l9, l10, l11, l12, l13, l14, l22, l30, l31, l32, l39, l40, l48, l50, l57, l59, l60, l94, l97, l99, l100, l122, l255, l256, l300, l488, l1000, this.1], by simp (disch := omega) only [gC_d, gC_tt, gBp_s, gBd_s, gL_s, gIn_nI, gN_nI, nI_ltI, nI_leI, nI_eq, nI_add, nI_mul, nI_sub, ite_t, ite_f, gR_W2, gRL_W, if_true, if_false, true_and, and_true, false_and, and_false, and_self, Nat.add_zero, l0, l1, l2, l3, l4, l5, l6, l7, l8, l9, l10, l11, l12, l13, l14, l22, l30, l31, l32, l39, l40, l48, l50, l57, l59, l60, l94, l97, l99, l100, l122, l255, l256, l300, l488, l1000, this.2]⟩
        · show fX9_placeFrom_L29 _ (m + 1) (nI g) (nI (pts f g)) (nI (enc f g)) (iI (wAll w f g)) (nI p) T = fX9_placeFrom_L29 _ m (nI g) (nI (pts f g)) (nI (enc f g)) (iI (wAll w f g)) (nI (p + 1)) _
          rw [fX9_placeFrom_L29, hms, hb]
          have hww := c_worthWith (a := mk (fun e => decide (f e = p)) g) hRT hW (show g < 8 by omega) hlt
          rw [ww_mk (by omega)] at hww
          have hor := mk_or (fun e => decide (f e = p)) g
          have heo : enc f g ||| p * 2 ^ (3 * (7 - g)) = enc (upN f g p) (g + 1) := by
            have := enc_or (f := upN f g p) (g := g) (by omega) (by rw [upN_s]; omega)
            rw [upN_s, enc_congr (k := f) (fun e he => upN_n (show e ≠ g by omega))] at this
            exact this
          have hmx : (if pts f g < p + 1 then nI (p + 1) else nI (pts f g)) = nI (pts (upN f g p) (g + 1)) := by
            rw [pts_upN]
            by_cases y : pts f g < p + 1
            · rw [if_pos y, Nat.max_eq_right (by omega)]
            · rw [if_neg y, Nat.max_eq_left (by omega)]
          have hpl2 : fX9_place (fPF F) (nI g) (nI p) (nI (pts f g)) (nI (enc f g)) (iI (wAll w f g)) T = some (gW T1 35 p (nI (mk (fun e => decide (f e = p)) g))) := by
            unfold fX9_place
            rw [gN_nI (show p < 2 ^ 31 by omega), hsp, gL_s, hgoT, hww, c_shiftOf (by omega)]
            simp (disch := omega) only [gC_d, gC_tt, gBp_s, gBd_s, gL_s, gIn_nI, gN_nI, nI_ltI, nI_leI, nI_eq, nI_add, nI_mul, nI_sub, ite_t, ite_f, gR_W2, gRL_W, if_true, if_false, true_and, and_true, false_and, and_false, and_self, Nat.add_zero, l0, l1, l2, l3, l4, l5, l6, l7, l8, l9, l10, l11, l12, l13, l14, l22, l30, l31, l32, l39, l40, l48, l50, l57, l59, l60, l94, l97, l99, l100, l122, l255, l256, l300, l488, l1000, ho, nI_31, nI_shl, Nat.one_mul, iI_addR]
            rw [nI_orI, nI_orI, heo, hor, ← mk_upN_s, hmx, ← wAll_upN, e1, gBp_s]
          simp (disch := omega) only [gC_d, gC_tt, gBp_s, gBd_s, gL_s, gIn_nI, gN_nI, nI_ltI, nI_leI, nI_eq, nI_add, nI_mul, nI_sub, ite_t, ite_f, gR_W2, gRL_W, if_true, if_false, true_and, and_true, false_and, and_false, and_self, Nat.add_zero, l0, l1, l2, l3, l4, l5, l6, l7, l8, l9, l10, l11, l12, l13, l14, l22, l30, l31, l32, l39, l40, l48, l50, l57, l59, l60, l94, l97, l99, l100, l122, l255, l256, l300, l488, l1000, bN_t, hpl2]
    · rintro m T ⟨hF1, hT⟩
      refine ⟨T, ?_, hF1, hT⟩
      show fX9_placeFrom_L29 _ (m + 1) (nI g) (nI (pts f g)) (nI (enc f g)) (iI (wAll w f g)) (nI (pts f g + 1)) T = _
      rw [fX9_placeFrom_L29]
      simp (disch := omega) only [gC_d, gC_tt, gBp_s, gBd_s, gL_s, gIn_nI, gN_nI, nI_ltI, nI_leI, nI_eq, nI_add, nI_mul, nI_sub, ite_t, ite_f, gR_W2, gRL_W, if_true, if_false, true_and, and_true, false_and, and_false, and_self, Nat.add_zero, l0, l1, l2, l3, l4, l5, l6, l7, l8, l9, l10, l11, l12, l13, l14, l22, l30, l31, l32, l39, l40, l48, l50, l57, l59, l60, l94, l97, l99, l100, l122, l255, l256, l300, l488, l1000]

theorem c_gat44 {S T : gSt} {o : Nat} {r : Nat → Nat} {w : Nat → Nat → Int} (hR : Ru S o r w) (hW : RW r w) (ho : gIsRu o = true) (ho2 : o < 18) (hF : gFr 32 36 S T) (t3 : gR T 32 3 = nI o) (t4 : gR T 32 4 = nI 1) (t5 : gR T 32 5 = nI 0) (t34 : ∀ k, k < 9 → gR T 34 k = nI 0) : ∃ S1, fX9_gather_L44 gFU 0 T = some S1 ∧ gFr 32 36 S S1 ∧ gR S1 32 3 = nI o ∧ gR S1 32 4 = nI 1 ∧ WS S1 r w (List.filter (lw r) (rows (r 0))) := by
  have h8 := hW.2.1
  refine forS (fun m (T : gSt) g => fX9_gather_L44 m (nI g) T) (fun x => ∃ S1, x = some S1 ∧ gFr 32 36 S S1 ∧ gR S1 32 3 = nI o ∧ gR S1 32 4 = nI 1 ∧ WS S1 r w (List.filter (lw r) (rows (r 0)))) (fun g T => gFr 32 36 S T ∧ gR T 32 3 = nI o ∧ gR T 32 4 = nI 1 ∧ gR T 32 5 = nI 0 ∧ (∀ k, k < 9 → gR T 34 k = nI 0) ∧ ∀ p, p < g → gR T 35 p = nI 0) 8 ?_ ?_ (by omega) T ⟨hF, t3, t4, t5, t34, fun p h => absurd h (Nat.not_lt_zero _)⟩
  · rintro m g T hg ⟨hF, t3, t4, t5, t34, t35⟩
    refine ⟨gW T 35 g (nI 0), ⟨hF.w (by omega) (by omega), by simp (disch := omega) only [gC_d, gC_tt, gBp_s, gBd_s, gL_s, gIn_nI, gN_nI, nI_ltI, nI_leI, nI_eq, nI_add, nI_mul, nI_sub, ite_t, ite_f, gR_W2, gRL_W, if_true, if_false, true_and, and_true, false_and, and_false, and_self, Nat.add_zero, l0, l1, l2, l3, l4, l5, l6, l7, l8, l9, l10, l11, l12, l13, l14, l22, l30, l31, l32, l39, l40, l48, l50, l57, l59, l60, l94, l97, l99, l100, l122, l255, l256, l300, l488, l1000, t3], by simp (disch := omega) only [gC_d, gC_tt, gBp_s, gBd_s, gL_s, gIn_nI, gN_nI, nI_ltI, nI_leI, nI_eq, nI_add, nI_mul, nI_sub, ite_t, ite_f, gR_W2, gRL_W, if_true, if_false, true_and, and_true, false_and, and_false, and_self, Nat.add_zero, l0, l1, l2, l3, l4, l5, l6, l7, l8, l9, l10, l11, l12, l13, l14, l22, l30, l31, l32, l39, l40, l48, l50, l57, l59, l60, l94, l97, l99, l100, l122, l255, l256, l300, l488, l1000, t4], by simp (disch := omega) only [gC_d, gC_tt, gBp_s, gBd_s, gL_s, gIn_nI, gN_nI, nI_ltI, nI_leI, nI_eq, nI_add, nI_mul, nI_sub, ite_t, ite_f, gR_W2, gRL_W, if_true, if_false, true_and, and_true, false_and, and_false, and_self, Nat.add_zero, l0, l1, l2, l3, l4, l5, l6, l7, l8, l9, l10, l11, l12, l13, l14, l22, l30, l31, l32, l39, l40, l48, l50, l57, l59, l60, l94, l97, l99, l100, l122, l255, l256, l300, l488, l1000, t5], fun k hk => by simp (disch := omega) only [gC_d, gC_tt, gBp_s, gBd_s, gL_s, gIn_nI, gN_nI, nI_ltI, nI_leI, nI_eq, nI_add, nI_mul, nI_sub, ite_t, ite_f, gR_W2, gRL_W, if_true, if_false, true_and, and_true, false_and, and_false, and_self, Nat.add_zero, l0, l1, l2, l3, l4, l5, l6, l7, l8, l9, l10, l11, l12, l13, l14, l22, l30, l31, l32, l39, l40, l48, l50, l57, l59, l60, l94, l97, l99, l100, l122, l255, l256, l300, l488, l1000, t34 k hk], fun p hp => ?_⟩, ?_⟩
    · by_cases q : p = g
      · subst q; simp (disch := omega) only [gC_d, gC_tt, gBp_s, gBd_s, gL_s, gIn_nI, gN_nI, nI_ltI, nI_leI, nI_eq, nI_add, nI_mul, nI_sub, ite_t, ite_f, gR_W2, gRL_W, if_true, if_false, true_and, and_true, false_and, and_false, and_self, Nat.add_zero, l0, l1, l2, l3, l4, l5, l6, l7, l8, l9, l10, l11, l12, l13, l14, l22, l30, l31, l32, l39, l40, l48, l50, l57, l59, l60, l94, l97, l99, l100, l122, l255, l256, l300, l488, l1000]
      · simp (disch := omega) only [gC_d, gC_tt, gBp_s, gBd_s, gL_s, gIn_nI, gN_nI, nI_ltI, nI_leI, nI_eq, nI_add, nI_mul, nI_sub, ite_t, ite_f, gR_W2, gRL_W, if_true, if_false, true_and, and_true, false_and, and_false, and_self, Nat.add_zero, l0, l1, l2, l3, l4, l5, l6, l7, l8, l9, l10, l11, l12, l13, l14, l22, l30, l31, l32, l39, l40, l48, l50, l57, l59, l60, l94, l97, l99, l100, l122, l255, l256, l300, l488, l1000, t35 p (show p < g by omega)]
    · show fX9_gather_L44 (m + 1) (nI g) T = fX9_gather_L44 m (nI (g + 1)) _
      rw [fX9_gather_L44]
      simp (disch := omega) only [gC_d, gC_tt, gBp_s, gBd_s, gL_s, gIn_nI, gN_nI, nI_ltI, nI_leI, nI_eq, nI_add, nI_mul, nI_sub, ite_t, ite_f, gR_W2, gRL_W, if_true, if_false, true_and, and_true, false_and, and_false, and_self, Nat.add_zero, l0, l1, l2, l3, l4, l5, l6, l7, l8, l9, l10, l11, l12, l13, l14, l22, l30, l31, l32, l39, l40, l48, l50, l57, l59, l60, l94, l97, l99, l100, l122, l255, l256, l300, l488, l1000]
  · rintro m T ⟨hF, t3, t4, t5, t34, t35⟩
    have hlen : (List.filter (lw r) (rows (r 0))).length ≤ 4140 := Nat.le_trans (List.length_filter_le _ _) (rows_len hW.1 h8)
    obtain ⟨S1, e1, e2, e3⟩ := c_PF hW ho ho2 (r 0) 0 (fun _ => 0) [] T 10 (by omega) (by omega) (fun g hg => absurd hg (Nat.not_lt_zero _)) (fun g hg => absurd hg (Nat.not_lt_zero _)) (hR.fr hF (by omega)) t3 (fun p hp => t35 p hp) ⟨t5, fun i c h => absurd h (by simp), fun k hk => t34 k hk, fun b hb => absurd hb (by simp [bst])⟩ (by rw [List.length_nil, Nat.zero_add]; exact hlen)
    refine ⟨S1, ?_, hF.tr e2.1, by rw [e2.2.1]; exact t3, by rw [e2.2.2.1]; exact t4, e3⟩
    show fX9_gather_L44 (m + 1) (nI 8) T = some S1
    rw [fX9_gather_L44]
    unfold fX9_placeFrom_c
    rw [show fPF 10 0 0 0 0 T = some S1 from e1]
    simp (disch := omega) only [gC_d, gC_tt, gBp_s, gBd_s, gL_s, gIn_nI, gN_nI, nI_ltI, nI_leI, nI_eq, nI_add, nI_mul, nI_sub, ite_t, ite_f, gR_W2, gRL_W, if_true, if_false, true_and, and_true, false_and, and_false, and_self, Nat.add_zero, l0, l1, l2, l3, l4, l5, l6, l7, l8, l9, l10, l11, l12, l13, l14, l22, l30, l31, l32, l39, l40, l48, l50, l57, l59, l60, l94, l97, l99, l100, l122, l255, l256, l300, l488, l1000]
theorem c_gather {S : gSt} {o : Nat} {r : Nat → Nat} {w : Nat → Nat → Int} (hR : Ru S o r w) (hW : RW r w) (ho : gIsRu o = true) (ho2 : o < 18) (h32 : gR S 32 3 = nI o) (hz : gR S 32 4 = nI 0 ∨ gR S 32 4 = nI 1 ∧ WS S r w (List.filter (lw r) (rows (r 0)))) : ∃ S1, fX9_gather S = some S1 ∧ gFr 32 36 S S1 ∧ gR S1 32 3 = nI o ∧ gR S1 32 4 = nI 1 ∧ WS S1 r w (List.filter (lw r) (rows (r 0))) := by
  have h8 := hW.2.1
  unfold fX9_gather
  rcases hz with h0 | ⟨h1, hS⟩
  · rw [h0, if_pos (show nI 0 = 0 from rfl), gL_s, gL_s]
    refine forS (fun m (T : gSt) g => fX9_gather_L20 m (nI g) T) (fun x => ∃ S1, x = some S1 ∧ gFr 32 36 S S1 ∧ gR S1 32 3 = nI o ∧ gR S1 32 4 = nI 1 ∧ WS S1 r w (List.filter (lw r) (rows (r 0)))) (fun g T => gFr 32 36 S T ∧ gR T 32 3 = nI o ∧ gR T 32 4 = nI 1 ∧ gR T 32 5 = nI 0 ∧ (∀ k, k < g → gR T 34 k = nI 0)) 9 ?_ ?_ (by omega) (gW (gW S 32 4 1) 32 5 0) ⟨(gFr.w0 (by omega) (by omega)).w (by omega) (by omega), by simp (disch := omega) only [gC_d, gC_tt, gBp_s, gBd_s, gL_s, gIn_nI, gN_nI, nI_ltI, nI_leI, nI_eq, nI_add, nI_mul, nI_sub, ite_t, ite_f, gR_W2, gRL_W, if_true, if_false, true_and, and_true, false_and, and_false, and_self, Nat.add_zero, l0, l1, l2, l3, l4, l5, l6, l7, l8, l9, l10, l11, l12, l13, l14, l22, l30, l31, l32, l39, l40, l48, l50, l57, l59, l60, l94, l97, l99, l100, l122, l255, l256, l300, l488, l1000, h32], by simp (disch := omega) only [gC_d, gC_tt, gBp_s, gBd_s, gL_s, gIn_nI, gN_nI, nI_ltI, nI_leI, nI_eq, nI_add, nI_mul, nI_sub, ite_t, ite_f, gR_W2, gRL_W, if_true, if_false, true_and, and_true, false_and, and_false, and_self, Nat.add_zero, l0, l1, l2, l3, l4, l5, l6, l7, l8, l9, l10, l11, l12, l13, l14, l22, l30, l31, l32, l39, l40, l48, l50, l57, l59, l60, l94, l97, l99, l100, l122, l255, l256, l300, l488, l1000], by simp (disch := omega) only [gC_d, gC_tt, gBp_s, gBd_s, gL_s, gIn_nI, gN_nI, nI_ltI, nI_leI, nI_eq, nI_add, nI_mul, nI_sub, ite_t, ite_f, gR_W2, gRL_W, if_true, if_false, true_and, and_true, false_and, and_false, and_self, Nat.add_zero, l0, l1, l2, l3, l4, l5, l6, l7, l8, l9, l10, l11, l12, l13, l14, l22, l30, l31, l32, l39, l40, l48, l50, l57, l59, l60, l94, l97, l99, l100, l122, l255, l256, l300, l488, l1000], fun p h => absurd h (Nat.not_lt_zero _)⟩
    · rintro m g T hg ⟨hF, t3, t4, t5, t34⟩
      refine ⟨gW T 34 g (nI 0), ⟨hF.w (by omega) (by omega), by simp (disch := omega) only [gC_d, gC_tt, gBp_s, gBd_s, gL_s, gIn_nI, gN_nI, nI_ltI, nI_leI, nI_eq, nI_add, nI_mul, nI_sub, ite_t, ite_f, gR_W2, gRL_W, if_true, if_false, true_and, and_true, false_and, and_false, and_self, Nat.add_zero, l0, l1, l2, l3, l4, l5, l6, l7, l8, l9, l10, l11, l12, l13, l14, l22, l30, l31, l32, l39, l40, l48, l50, l57, l59, l60, l94, l97, l99, l100, l122, l255, l256, l300, l488, l1000, t3], by simp (disch := omega) only [gC_d, gC_tt, gBp_s, gBd_s, gL_s, gIn_nI, gN_nI, nI_ltI, nI_leI, nI_eq, nI_add, nI_mul, nI_sub, ite_t, ite_f, gR_W2, gRL_W, if_true, if_false, true_and, and_true, false_and, and_false, and_self, Nat.add_zero, l0, l1, l2, l3, l4, l5, l6, l7, l8, l9, l10, l11, l12, l13, l14, l22, l30, l31, l32, l39, l40, l48, l50, l57, l59, l60, l94, l97, l99, l100, l122, l255, l256, l300, l488, l1000, t4], by simp (disch := omega) only [gC_d, gC_tt, gBp_s, gBd_s, gL_s, gIn_nI, gN_nI, nI_ltI, nI_leI, nI_eq, nI_add, nI_mul, nI_sub, ite_t, ite_f, gR_W2, gRL_W, if_true, if_false, true_and, and_true, false_and, and_false, and_self, Nat.add_zero, l0, l1, l2, l3, l4, l5, l6, l7, l8, l9, l10, l11, l12, l13, l14, l22, l30, l31, l32, l39, l40, l48, l50, l57, l59, l60, l94, l97, l99, l100, l122, l255, l256, l300, l488, l1000, t5], fun p hp => ?_⟩, ?_⟩
      · by_cases q : p = g
        · subst q; simp (disch := omega) only [gC_d, gC_tt, gBp_s, gBd_s, gL_s, gIn_nI, gN_nI, nI_ltI, nI_leI, nI_eq, nI_add, nI_mul, nI_sub, ite_t, ite_f, gR_W2, gRL_W, if_true, if_false, true_and, and_true, false_and, and_false, and_self, Nat.add_zero, l0, l1, l2, l3, l4, l5, l6, l7, l8, l9, l10, l11, l12, l13, l14, l22, l30, l31, l32, l39, l40, l48, l50, l57, l59, l60, l94, l97, l99, l100, l122, l255, l256, l300, l488, l1000]
        · simp (disch := omega) only [gC_d, gC_tt, gBp_s, gBd_s, gL_s, gIn_nI, gN_nI, nI_ltI, nI_leI, nI_eq, nI_add, nI_mul, nI_sub, ite_t, ite_f, gR_W2, gRL_W, if_true, if_false, true_and, and_true, false_and, and_false, and_self, Nat.add_zero, l0, l1, l2, l3, l4, l5, l6, l7, l8, l9, l10, l11, l12, l13, l14, l22, l30, l31, l32, l39, l40, l48, l50, l57, l59, l60, l94, l97, l99, l100, l122, l255, l256, l300, l488, l1000, t34 p (show p < g by omega)]
      · show fX9_gather_L20 (m + 1) (nI g) T = fX9_gather_L20 m (nI (g + 1)) _
        rw [fX9_gather_L20]
        simp (disch := omega) only [gC_d, gC_tt, gBp_s, gBd_s, gL_s, gIn_nI, gN_nI, nI_ltI, nI_leI, nI_eq, nI_add, nI_mul, nI_sub, ite_t, ite_f, gR_W2, gRL_W, if_true, if_false, true_and, and_true, false_and, and_false, and_self, Nat.add_zero, l0, l1, l2, l3, l4, l5, l6, l7, l8, l9, l10, l11, l12, l13, l14, l22, l30, l31, l32, l39, l40, l48, l50, l57, l59, l60, l94, l97, l99, l100, l122, l255, l256, l300, l488, l1000]
    · rintro m T ⟨hF, t3, t4, t5, t34⟩
      obtain ⟨S1, e1, e2⟩ := c_gat44 hR hW ho ho2 hF t3 t4 t5 t34
      refine ⟨S1, ?_, e2⟩
      show fX9_gather_L20 (m + 1) (nI 9) T = _
      rw [fX9_gather_L20, e1]
      simp (disch := omega) only [gC_d, gC_tt, gBp_s, gBd_s, gL_s, gIn_nI, gN_nI, nI_ltI, nI_leI, nI_eq, nI_add, nI_mul, nI_sub, ite_t, ite_f, gR_W2, gRL_W, if_true, if_false, true_and, and_true, false_and, and_false, and_self, Nat.add_zero, l0, l1, l2, l3, l4, l5, l6, l7, l8, l9, l10, l11, l12, l13, l14, l22, l30, l31, l32, l39, l40, l48, l50, l57, l59, l60, l94, l97, l99, l100, l122, l255, l256, l300, l488, l1000]
  · refine ⟨S, ?_, gFr.rf, h32, h1, hS⟩
    rw [h1, if_neg (by decide)]
