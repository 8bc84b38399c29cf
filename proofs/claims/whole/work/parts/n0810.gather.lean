/-! the class gathers the lawful rows; needs: 0800 0801 0802 0803 0804 0805 0806 0807 0808 0809 -/
theorem lm1n : -nI 1 = nI 4294967295 := by decide +kernel
theorem c_meets {S : gSt} {o g a : Nat} {r : Nat → Nat} {w : Nat → Nat → Int} (h : Ru S o r w) (hW : RW r w) (hg : g < 8) (ha : a < 256) : fX5_meetsItsHat o (nI g) (nI a) S = some (nI (bN (!decide (r 12 = 0) && an (fun e => a.testBit e && decide (r (1 + e) = r (1 + g))) g))) := by
  unfold fX5_meetsItsHat
  have h3 := h.2.2.1 3 (by omega)
  have v12 := hW.2.2.2.2.1
  rw [show gR S (o + 2) (gN 3) = nI (r 12) from h3, gC_ok (show gIn 3 5 = true by decide)]
  by_cases z : r 12 = 0
  · rw [decide_eq_true z]
    simp (disch := omega) only [gC_d, gC_tt, gBp_s, gBd_s, gL_s, gIn_nI, gN_nI, nI_ltI, nI_leI, nI_eq, nI_add, nI_mul, nI_sub, ite_t, ite_f, gR_W2, gRL_W, if_true, if_false, true_and, and_true, false_and, and_false, and_self, Nat.add_zero, l0, l1, l2, l3, l4, l5, l6, l7, l8, l9, l10, l11, l12, l13, l14, l22, l30, l31, l32, l39, l40, l48, l50, l57, l59, l60, l94, l97, l99, l100, l122, l255, l256, l300, l488, l1000, Bool.not_true, Bool.false_and, bN_f]
  · rw [decide_eq_false z, Bool.not_false, Bool.true_and, if_neg (by rw [l0]; exact nI_neI (by omega) (by omega) z)]
    refine forFU (fun m (_ : Unit) e => fX5_meetsItsHat_L13 o S m (nI g) (nI a) (nI e)) (fun x => x = some (nI (bN (an (fun e => a.testBit e && decide (r (1 + e) = r (1 + g))) g)))) (fun e _ => an (fun e => a.testBit e && decide (r (1 + e) = r (1 + g))) e = false) g () (by omega) ?_ ?_ rfl
    · intro m e _ he hi
      have v1 := hW.2.2.1 g hg
      have v2 := hW.2.2.1 e (by omega)
      cases hb : a.testBit e with
      | false =>
        right
        refine ⟨(), by rw [an_s, hi, hb]; rfl, ?_⟩
        show fX5_meetsItsHat_L13 o S (m + 1) (nI g) (nI a) (nI e) = fX5_meetsItsHat_L13 o S m (nI g) (nI a) (nI (e + 1))
        rw [fX5_meetsItsHat_L13]
        simp (disch := omega) only [gC_d, gC_tt, gBp_s, gBd_s, gL_s, gIn_nI, gN_nI, nI_ltI, nI_leI, nI_eq, nI_add, nI_mul, nI_sub, ite_t, ite_f, gR_W2, gRL_W, if_true, if_false, true_and, and_true, false_and, and_false, and_self, Nat.add_zero, l0, l1, l2, l3, l4, l5, l6, l7, l8, l9, l10, l11, l12, l13, l14, l22, l30, l31, l32, l39, l40, l48, l50, l57, l59, l60, l94, l97, l99, l100, l122, l255, l256, l300, l488, l1000, nI_31, nI_shl, Nat.one_mul]
        simp (disch := omega) only [nI_andI, bit_f hb, if_true]
      | true =>
        by_cases q : r (1 + e) = r (1 + g)
        · left
          show fX5_meetsItsHat_L13 o S (m + 1) (nI g) (nI a) (nI e) = _
          have : an (fun e => a.testBit e && decide (r (1 + e) = r (1 + g))) g = true := (an_iff _ _).mpr ⟨e, he, by rw [hb, decide_eq_true q]; rfl⟩
          have he1 := h.2.1 e (by omega)
          have he2 := h.2.1 g hg
          rw [this, fX5_meetsItsHat_L13]
          simp (disch := omega) only [gC_d, gC_tt, gBp_s, gBd_s, gL_s, gIn_nI, gN_nI, nI_ltI, nI_leI, nI_eq, nI_add, nI_mul, nI_sub, ite_t, ite_f, gR_W2, gRL_W, if_true, if_false, true_and, and_true, false_and, and_false, and_self, Nat.add_zero, l0, l1, l2, l3, l4, l5, l6, l7, l8, l9, l10, l11, l12, l13, l14, l22, l30, l31, l32, l39, l40, l48, l50, l57, l59, l60, l94, l97, l99, l100, l122, l255, l256, l300, l488, l1000, nI_31, nI_shl, Nat.one_mul, he1, he2]
          simp (disch := omega) only [nI_andI, if_neg (bit_t ha hb), bN_t]
        · right
          refine ⟨(), by rw [an_s, hi, hb, decide_eq_false q]; rfl, ?_⟩
          show fX5_meetsItsHat_L13 o S (m + 1) (nI g) (nI a) (nI e) = fX5_meetsItsHat_L13 o S m (nI g) (nI a) (nI (e + 1))
          have he1 := h.2.1 e (by omega)
          have he2 := h.2.1 g hg
          rw [fX5_meetsItsHat_L13]
          simp (disch := omega) only [gC_d, gC_tt, gBp_s, gBd_s, gL_s, gIn_nI, gN_nI, nI_ltI, nI_leI, nI_eq, nI_add, nI_mul, nI_sub, ite_t, ite_f, gR_W2, gRL_W, if_true, if_false, true_and, and_true, false_and, and_false, and_self, Nat.add_zero, l0, l1, l2, l3, l4, l5, l6, l7, l8, l9, l10, l11, l12, l13, l14, l22, l30, l31, l32, l39, l40, l48, l50, l57, l59, l60, l94, l97, l99, l100, l122, l255, l256, l300, l488, l1000, nI_31, nI_shl, Nat.one_mul, he1, he2]
          simp (disch := omega) only [nI_andI, if_neg (bit_t ha hb)]
    · intro m _ hi
      show fX5_meetsItsHat_L13 o S (m + 1) (nI g) (nI a) (nI g) = _
      rw [hi, fX5_meetsItsHat_L13]
      simp (disch := omega) only [gC_d, gC_tt, gBp_s, gBd_s, gL_s, gIn_nI, gN_nI, nI_ltI, nI_leI, nI_eq, nI_add, nI_mul, nI_sub, ite_t, ite_f, gR_W2, gRL_W, if_true, if_false, true_and, and_true, false_and, and_false, and_self, Nat.add_zero, l0, l1, l2, l3, l4, l5, l6, l7, l8, l9, l10, l11, l12, l13, l14, l22, l30, l31, l32, l39, l40, l48, l50, l57, l59, l60, l94, l97, l99, l100, l122, l255, l256, l300, l488, l1000, bN_f]
theorem and_lt8 {x : Nat} (y : Nat) (hx : x < 256) : x &&& y < 256 := Nat.lt_of_le_of_lt Nat.and_le_left hx
/-- the class's test, as it stands there -/
def mayCo (r : Nat → Nat) (g a : Nat) : Bool := decide (r (14 + g) &&& (2 ^ g - 1) &&& (a ^^^ 4294967295) = 0) && decide (r (22 + g) &&& a = 0) && !(!decide (r 12 = 0) && an (fun e => a.testBit e && decide (r (1 + e) = r (1 + g))) g)
theorem c_mayCome {S : gSt} {o g a : Nat} {r : Nat → Nat} {w : Nat → Nat → Int} (h : Ru S o r w) (hW : RW r w) (hg : g < 8) (ha : a < 256) : fX5_mayCome o (nI g) (nI a) S = some (nI (bN (mayCo r g a))) := by
  unfold fX5_mayCome fX5_mayCome_L35
  have t14 := h.2.2.2.1 g hg
  have t22 := h.2.2.2.2.1 g hg
  have v14 := hW.2.2.2.2.2.2.1 g hg
  have v22 := hW.2.2.2.2.2.2.2.1 g hg
  have p2 := Nat.two_pow_pos g
  have u1 := and_lt8 (2 ^ g - 1) v14
  have u2 := and_lt8 (a ^^^ 4294967295) u1
  have u3 := and_lt8 a v22
  rw [c_isOne S hg, c_meets h hW hg ha]
  simp (disch := omega) only [gC_d, gC_tt, gBp_s, gBd_s, gL_s, gIn_nI, gN_nI, nI_ltI, nI_leI, nI_eq, nI_add, nI_mul, nI_sub, ite_t, ite_f, gR_W2, gRL_W, if_true, if_false, true_and, and_true, false_and, and_false, and_self, Nat.add_zero, l0, l1, l2, l3, l4, l5, l6, l7, l8, l9, l10, l11, l12, l13, l14, l22, l30, l31, l32, l39, l40, l48, l50, l57, l59, l60, l94, l97, l99, l100, l122, l255, l256, l300, l488, l1000, t14, t22, nI_31, nI_shl, Nat.one_mul, lm1n]
  simp (disch := omega) only [nI_andI, nI_xor, nI_eq]
  unfold mayCo
  by_cases z1 : r (14 + g) &&& (2 ^ g - 1) &&& (a ^^^ 4294967295) = 0
  · rw [decide_eq_true z1, Bool.true_and]
    by_cases z2 : r (22 + g) &&& a = 0
    · rw [decide_eq_true z2, Bool.true_and]
      cases (!decide (r 12 = 0) && an (fun e => a.testBit e && decide (r (1 + e) = r (1 + g))) g) with
      | true => simp (disch := omega) only [gC_d, gC_tt, gBp_s, gBd_s, gL_s, gIn_nI, gN_nI, nI_ltI, nI_leI, nI_eq, nI_add, nI_mul, nI_sub, ite_t, ite_f, gR_W2, gRL_W, if_true, if_false, true_and, and_true, false_and, and_false, and_self, Nat.add_zero, l0, l1, l2, l3, l4, l5, l6, l7, l8, l9, l10, l11, l12, l13, l14, l22, l30, l31, l32, l39, l40, l48, l50, l57, l59, l60, l94, l97, l99, l100, l122, l255, l256, l300, l488, l1000, z1, z2, bN_t, bN_f, Bool.not_true]
      | false => simp (disch := omega) only [gC_d, gC_tt, gBp_s, gBd_s, gL_s, gIn_nI, gN_nI, nI_ltI, nI_leI, nI_eq, nI_add, nI_mul, nI_sub, ite_t, ite_f, gR_W2, gRL_W, if_true, if_false, true_and, and_true, false_and, and_false, and_self, Nat.add_zero, l0, l1, l2, l3, l4, l5, l6, l7, l8, l9, l10, l11, l12, l13, l14, l22, l30, l31, l32, l39, l40, l48, l50, l57, l59, l60, l94, l97, l99, l100, l122, l255, l256, l300, l488, l1000, z1, z2, bN_t, bN_f, Bool.not_false]
    · rw [decide_eq_false z2, Bool.false_and]
      simp (disch := omega) only [gC_d, gC_tt, gBp_s, gBd_s, gL_s, gIn_nI, gN_nI, nI_ltI, nI_leI, nI_eq, nI_add, nI_mul, nI_sub, ite_t, ite_f, gR_W2, gRL_W, if_true, if_false, true_and, and_true, false_and, and_false, and_self, Nat.add_zero, l0, l1, l2, l3, l4, l5, l6, l7, l8, l9, l10, l11, l12, l13, l14, l22, l30, l31, l32, l39, l40, l48, l50, l57, l59, l60, l94, l97, l99, l100, l122, l255, l256, l300, l488, l1000, z1, z2, bN_f]
  · rw [decide_eq_false z1, Bool.false_and, Bool.false_and]
    simp (disch := omega) only [gC_d, gC_tt, gBp_s, gBd_s, gL_s, gIn_nI, gN_nI, nI_ltI, nI_leI, nI_eq, nI_add, nI_mul, nI_sub, ite_t, ite_f, gR_W2, gRL_W, if_true, if_false, true_and, and_true, false_and, and_false, and_self, Nat.add_zero, l0, l1, l2, l3, l4, l5, l6, l7, l8, l9, l10, l11, l12, l13, l14, l22, l30, l31, l32, l39, l40, l48, l50, l57, l59, l60, l94, l97, l99, l100, l122, l255, l256, l300, l488, l1000, z1, bN_f]
def surr (s : Nat → Nat) (m b p : Nat) : Bool := an (fun q => !decide (q = p) && (!decide (s q &&& (2 ^ b - 1) = 0) && !decide (s q &&& ((2 ^ b - 1) ^^^ 4294967295) = 0))) m
theorem c_surr {S : gSt} {m b p : Nat} {s : Nat → Nat} (hs : ∀ q, q < 8 → gR S 35 q = nI (s q)) (hl : ∀ q, s q < 256) (hm : m ≤ 8) (hb : b < 8) (hp : p < 8) : fX9_isSurrounded (nI b) (nI p) (nI m) S = some (nI (bN (surr s m b p))) := by
  unfold fX9_isSurrounded
  have p2 := Nat.two_pow_pos b
  have e1 : ((1 : Int32) <<< (nI b &&& 31)) - 1 = nI (2 ^ b - 1) := by simp (disch := omega) only [gC_d, gC_tt, gBp_s, gBd_s, gL_s, gIn_nI, gN_nI, nI_ltI, nI_leI, nI_eq, nI_add, nI_mul, nI_sub, ite_t, ite_f, gR_W2, gRL_W, if_true, if_false, true_and, and_true, false_and, and_false, and_self, Nat.add_zero, l0, l1, l2, l3, l4, l5, l6, l7, l8, l9, l10, l11, l12, l13, l14, l22, l30, l31, l32, l39, l40, l48, l50, l57, l59, l60, l94, l97, l99, l100, l122, l255, l256, l300, l488, l1000, nI_31, nI_shl, Nat.one_mul]
  rw [e1, gL_s]
  refine forFU (fun k (_ : Unit) q => fX9_isSurrounded_L10 S k (nI p) (nI m) (nI (2 ^ b - 1)) (nI q)) (fun x => x = some (nI (bN (surr s m b p)))) (fun q _ => an (fun q => !decide (q = p) && (!decide (s q &&& (2 ^ b - 1) = 0) && !decide (s q &&& ((2 ^ b - 1) ^^^ 4294967295) = 0))) q = false) m () (by omega) ?_ ?_ rfl
  · intro k q _ hq hi
    have u0 := hl q
    have u1 := and_lt8 (2 ^ b - 1) u0
    have u2 := and_lt8 ((2 ^ b - 1) ^^^ 4294967295) u0
    by_cases z0 : q = p
    · right
      refine ⟨(), by rw [an_s, hi, decide_eq_true z0]; rfl, ?_⟩
      show fX9_isSurrounded_L10 S (k + 1) (nI p) (nI m) (nI (2 ^ b - 1)) (nI q) = fX9_isSurrounded_L10 S k (nI p) (nI m) (nI (2 ^ b - 1)) (nI (q + 1))
      rw [fX9_isSurrounded_L10]
      simp (disch := omega) only [gC_d, gC_tt, gBp_s, gBd_s, gL_s, gIn_nI, gN_nI, nI_ltI, nI_leI, nI_eq, nI_add, nI_mul, nI_sub, ite_t, ite_f, gR_W2, gRL_W, if_true, if_false, true_and, and_true, false_and, and_false, and_self, Nat.add_zero, l0, l1, l2, l3, l4, l5, l6, l7, l8, l9, l10, l11, l12, l13, l14, l22, l30, l31, l32, l39, l40, l48, l50, l57, l59, l60, l94, l97, l99, l100, l122, l255, l256, l300, l488, l1000]
    · by_cases z1 : s q &&& (2 ^ b - 1) = 0
      · right
        refine ⟨(), by rw [an_s, hi, decide_eq_true z1, Bool.not_true, Bool.false_and, Bool.and_false]; rfl, ?_⟩
        show fX9_isSurrounded_L10 S (k + 1) (nI p) (nI m) (nI (2 ^ b - 1)) (nI q) = fX9_isSurrounded_L10 S k (nI p) (nI m) (nI (2 ^ b - 1)) (nI (q + 1))
        rw [fX9_isSurrounded_L10]
        simp (disch := omega) only [gC_d, gC_tt, gBp_s, gBd_s, gL_s, gIn_nI, gN_nI, nI_ltI, nI_leI, nI_eq, nI_add, nI_mul, nI_sub, ite_t, ite_f, gR_W2, gRL_W, if_true, if_false, true_and, and_true, false_and, and_false, and_self, Nat.add_zero, l0, l1, l2, l3, l4, l5, l6, l7, l8, l9, l10, l11, l12, l13, l14, l22, l30, l31, l32, l39, l40, l48, l50, l57, l59, l60, l94, l97, l99, l100, l122, l255, l256, l300, l488, l1000, hs, nI_andI, z1]
      · by_cases z2 : s q &&& ((2 ^ b - 1) ^^^ 4294967295) = 0
        · right
          refine ⟨(), by rw [an_s, hi, decide_eq_true z2, Bool.not_true, Bool.and_false, Bool.and_false]; rfl, ?_⟩
          show fX9_isSurrounded_L10 S (k + 1) (nI p) (nI m) (nI (2 ^ b - 1)) (nI q) = fX9_isSurrounded_L10 S k (nI p) (nI m) (nI (2 ^ b - 1)) (nI (q + 1))
          rw [fX9_isSurrounded_L10]
          simp (disch := omega) only [gC_d, gC_tt, gBp_s, gBd_s, gL_s, gIn_nI, gN_nI, nI_ltI, nI_leI, nI_eq, nI_add, nI_mul, nI_sub, ite_t, ite_f, gR_W2, gRL_W, if_true, if_false, true_and, and_true, false_and, and_false, and_self, Nat.add_zero, l0, l1, l2, l3, l4, l5, l6, l7, l8, l9, l10, l11, l12, l13, l14, l22, l30, l31, l32, l39, l40, l48, l50, l57, l59, l60, l94, l97, l99, l100, l122, l255, l256, l300, l488, l1000, hs, nI_andI, nI_xor, lm1n, z2]
        · left
          show fX9_isSurrounded_L10 S (k + 1) (nI p) (nI m) (nI (2 ^ b - 1)) (nI q) = _
          have : surr s m b p = true := (an_iff _ _).mpr ⟨q, hq, by rw [decide_eq_false z0, decide_eq_false z1, decide_eq_false z2]; rfl⟩
          rw [this, fX9_isSurrounded_L10]
          simp (disch := omega) only [gC_d, gC_tt, gBp_s, gBd_s, gL_s, gIn_nI, gN_nI, nI_ltI, nI_leI, nI_eq, nI_add, nI_mul, nI_sub, ite_t, ite_f, gR_W2, gRL_W, if_true, if_false, true_and, and_true, false_and, and_false, and_self, Nat.add_zero, l0, l1, l2, l3, l4, l5, l6, l7, l8, l9, l10, l11, l12, l13, l14, l22, l30, l31, l32, l39, l40, l48, l50, l57, l59, l60, l94, l97, l99, l100, l122, l255, l256, l300, l488, l1000, hs, nI_andI, nI_xor, lm1n, bN_t]
  · intro k _ hi
    show fX9_isSurrounded_L10 S (k + 1) (nI p) (nI m) (nI (2 ^ b - 1)) (nI m) = _
    unfold surr
    rw [hi, fX9_isSurrounded_L10]
    simp (disch := omega) only [gC_d, gC_tt, gBp_s, gBd_s, gL_s, gIn_nI, gN_nI, nI_ltI, nI_leI, nI_eq, nI_add, nI_mul, nI_sub, ite_t, ite_f, gR_W2, gRL_W, if_true, if_false, true_and, and_true, false_and, and_false, and_self, Nat.add_zero, l0, l1, l2, l3, l4, l5, l6, l7, l8, l9, l10, l11, l12, l13, l14, l22, l30, l31, l32, l39, l40, l48, l50, l57, l59, l60, l94, l97, l99, l100, l122, l255, l256, l300, l488, l1000, bN_f]
def acro (s : Nat → Nat) (m p : Nat) : Bool := an (fun b => (s p).testBit b && surr s m b p) 8
theorem c_acro {S : gSt} {m p : Nat} {s : Nat → Nat} (hs : ∀ q, q < 8 → gR S 35 q = nI (s q)) (hl : ∀ q, s q < 256) (hm : m ≤ 8) (hp : p < 8) : fX9_comesAcross (nI p) (nI m) S = some (nI (bN (acro s m p))) := by
  unfold fX9_comesAcross
  have hsp := hs p hp
  refine forFU (fun k (_ : Unit) b => fX9_comesAcross_L2 S k (nI p) (nI m) (nI b)) (fun x => x = some (nI (bN (acro s m p)))) (fun b _ => an (fun b => (s p).testBit b && surr s m b p) b = false) 8 () (by omega) ?_ ?_ rfl
  · intro k b _ hb hi
    cases hB : (s p).testBit b with
    | false =>
      right
      refine ⟨(), by rw [an_s, hi, hB]; rfl, ?_⟩
      show fX9_comesAcross_L2 S (k + 1) (nI p) (nI m) (nI b) = fX9_comesAcross_L2 S k (nI p) (nI m) (nI (b + 1))
      rw [fX9_comesAcross_L2]
      simp (disch := omega) only [gC_d, gC_tt, gBp_s, gBd_s, gL_s, gIn_nI, gN_nI, nI_ltI, nI_leI, nI_eq, nI_add, nI_mul, nI_sub, ite_t, ite_f, gR_W2, gRL_W, if_true, if_false, true_and, and_true, false_and, and_false, and_self, Nat.add_zero, l0, l1, l2, l3, l4, l5, l6, l7, l8, l9, l10, l11, l12, l13, l14, l22, l30, l31, l32, l39, l40, l48, l50, l57, l59, l60, l94, l97, l99, l100, l122, l255, l256, l300, l488, l1000, hsp, nI_31, nI_shl, Nat.one_mul]
      simp (disch := omega) only [nI_andI, bit_f hB, if_true]
    | true =>
      cases hS : surr s m b p with
      | false =>
        right
        refine ⟨(), by rw [an_s, hi, hB, hS]; rfl, ?_⟩
        show fX9_comesAcross_L2 S (k + 1) (nI p) (nI m) (nI b) = fX9_comesAcross_L2 S k (nI p) (nI m) (nI (b + 1))
        rw [fX9_comesAcross_L2, c_surr hs hl hm hb hp, hS]
        simp (disch := omega) only [gC_d, gC_tt, gBp_s, gBd_s, gL_s, gIn_nI, gN_nI, nI_ltI, nI_leI, nI_eq, nI_add, nI_mul, nI_sub, ite_t, ite_f, gR_W2, gRL_W, if_true, if_false, true_and, and_true, false_and, and_false, and_self, Nat.add_zero, l0, l1, l2, l3, l4, l5, l6, l7, l8, l9, l10, l11, l12, l13, l14, l22, l30, l31, l32, l39, l40, l48, l50, l57, l59, l60, l94, l97, l99, l100, l122, l255, l256, l300, l488, l1000, hsp, nI_31, nI_shl, Nat.one_mul, bN_f]
        simp (disch := omega) only [nI_andI, if_neg (bit_t (hl p) hB)]
      | true =>
        left
        show fX9_comesAcross_L2 S (k + 1) (nI p) (nI m) (nI b) = _
        have : acro s m p = true := (an_iff _ _).mpr ⟨b, hb, by rw [hB, hS]; rfl⟩
        rw [this, fX9_comesAcross_L2, c_surr hs hl hm hb hp, hS]
        simp (disch := omega) only [gC_d, gC_tt, gBp_s, gBd_s, gL_s, gIn_nI, gN_nI, nI_ltI, nI_leI, nI_eq, nI_add, nI_mul, nI_sub, ite_t, ite_f, gR_W2, gRL_W, if_true, if_false, true_and, and_true, false_and, and_false, and_self, Nat.add_zero, l0, l1, l2, l3, l4, l5, l6, l7, l8, l9, l10, l11, l12, l13, l14, l22, l30, l31, l32, l39, l40, l48, l50, l57, l59, l60, l94, l97, l99, l100, l122, l255, l256, l300, l488, l1000, hsp, nI_31, nI_shl, Nat.one_mul, bN_t]
        simp (disch := omega) only [nI_andI, if_neg (bit_t (hl p) hB)]
  · intro k _ hi
    show fX9_comesAcross_L2 S (k + 1) (nI p) (nI m) (nI 8) = _
    unfold acro
    rw [hi, fX9_comesAcross_L2]
    simp (disch := omega) only [gC_d, gC_tt, gBp_s, gBd_s, gL_s, gIn_nI, gN_nI, nI_ltI, nI_leI, nI_eq, nI_add, nI_mul, nI_sub, ite_t, ite_f, gR_W2, gRL_W, if_true, if_false, true_and, and_true, false_and, and_false, and_self, Nat.add_zero, l0, l1, l2, l3, l4, l5, l6, l7, l8, l9, l10, l11, l12, l13, l14, l22, l30, l31, l32, l39, l40, l48, l50, l57, l59, l60, l94, l97, l99, l100, l122, l255, l256, l300, l488, l1000, bN_f]
/-- whether g may stand in p behind the beginning f -/
def mayP (r f : Nat → Nat) (g p : Nat) : Prop := (r 11 = 0 ∨ cn (fun e => decide (f e = p)) g < r 11) ∧ (∀ e, e < g → (r (14 + g)).testBit e = true → f e = p) ∧ (∀ e, e < g → f e = p → (r (22 + g)).testBit e = false) ∧ (r 12 = 0 ∨ ∀ e, e < g → f e = p → r (1 + e) ≠ r (1 + g)) ∧ (r 13 = 0 ∨ ∀ a b c, a < b → b < c → c < g → f a = f c → f b = p → f a = f b)
theorem may_upN (r f : Nat → Nat) (g p : Nat) : may r (upN f g p) g ↔ mayP r f g p := by
  unfold may mayP
  rw [upN_s]
  have e : ∀ a, a < g → upN f g p a = f a := fun a ha => upN_n (by omega)
  rw [cn_congr (p := fun e => decide (upN f g p e = p)) (q := fun e => decide (f e = p)) (fun a ha => by rw [e a ha])]
  constructor
  · rintro ⟨h1, h2, h3, h4, h5⟩
    refine ⟨h1, fun a ha ht => by rw [← e a ha]; exact h2 a ha ht, fun a ha ht => h3 a ha (by rw [e a ha]; exact ht), ?_, ?_⟩
    · exact h4.imp id (fun z a ha ht => z a ha (by rw [e a ha]; exact ht))
    · exact h5.imp id (fun z a b c k1 k2 k3 k4 k5 => by
        have := z a b c k1 k2 k3 (by rw [e a (by omega), e c k3]; exact k4) (by rw [e b (by omega)]; exact k5)
        rw [e a (by omega), e b (by omega)] at this; exact this)
  · rintro ⟨h1, h2, h3, h4, h5⟩
    refine ⟨h1, fun a ha ht => by rw [e a ha]; exact h2 a ha ht, fun a ha ht => h3 a ha (by rw [← e a ha]; exact ht), ?_, ?_⟩
    · exact h4.imp id (fun z a ha ht => z a ha (by rw [← e a ha]; exact ht))
    · exact h5.imp id (fun z a b c k1 k2 k3 k4 k5 => by
        rw [e a (by omega), e b (by omega)]
        exact z a b c k1 k2 k3 (by rw [← e a (by omega), ← e c k3]; exact k4) (by rw [← e b (by omega)]; exact k5))
def mayB (r f : Nat → Nat) (g p : Nat) : Bool := (decide (r 11 = 0) || decide (cn (fun e => decide (f e = p)) g < r 11)) && mayCo r g (mk (fun e => decide (f e = p)) g) && (decide (r 13 = 0) || !acro (fun q => mk (fun e => decide (f e = q)) g) (pts f g) p)
theorem mayB_iff {r f : Nat → Nat} {w : Nat → Nat → Int} {g p : Nat} (hW : RW r w) (hg : g < 8) (hp : p < 8) : mayB r f g p = true ↔ mayP r f g p := by
  unfold mayB mayP mayCo
  have v14 := hW.2.2.2.2.2.2.1 g hg
  have v22 := hW.2.2.2.2.2.2.2.1 g hg
  simp only [Bool.and_eq_true, Bool.or_eq_true, decide_eq_true_eq, Bool.not_eq_true', Bool.and_eq_false_iff, Bool.not_eq_false']
  rw [sub_iff _ (and_lt8 (2 ^ g - 1) v14), dis_iff _ v22, an_f]
  have hbit : ∀ q e, (mk (fun e => decide (f e = q)) g).testBit e = true ↔ e < g ∧ f e = q := fun q e => by
    rw [mk_bit, Bool.and_eq_true, decide_eq_true_eq, decide_eq_true_eq]
  have hbitf : ∀ q e, (mk (fun e => decide (f e = q)) g).testBit e = false ↔ ¬ (e < g ∧ f e = q) := fun q e => by
    rw [← hbit, Bool.not_eq_true]
  have hac : acro (fun q => mk (fun e => decide (f e = q)) g) (pts f g) p = false ↔ ∀ a b c, a < b → b < c → c < g → f a = f c → f b = p → f a = f b := by
    unfold acro surr
    constructor
    · intro h a b c h1 h2 h3 h4 h5
      have h := (an_f _ _).mp h b (by omega)
      rw [Bool.and_eq_false_iff, hbitf] at h
      rcases h with h | h
      · exact absurd ⟨by omega, h5⟩ h
      · have h := (an_f _ _).mp h (f a) (lt_pts (by omega))
        simp only [Bool.and_eq_false_iff, Bool.not_eq_false', decide_eq_true_eq] at h
        rcases h with h | h | h
        · rw [h, h5]
        · have := (dis_iff (2 ^ b - 1) (mk_lt8 _ (by omega))).mp h a (by omega) ((hbit _ _).mpr ⟨by omega, rfl⟩)
          rw [Nat.testBit_two_pow_sub_one] at this
          exact absurd (of_decide_eq_false this) (by omega)
        · have := (sub_iff (2 ^ b - 1) (mk_lt8 _ (by omega))).mp h c (by omega) ((hbit _ _).mpr ⟨by omega, h4.symm⟩)
          rw [Nat.testBit_two_pow_sub_one] at this
          exact absurd (of_decide_eq_true this) (by omega)
    · intro h
      refine an_no (fun b hb => ?_)
      rw [Bool.and_eq_false_iff, hbitf]
      by_cases q : b < g ∧ f b = p
      · right
        refine an_no (fun q' hq' => ?_)
        simp only [Bool.and_eq_false_iff, Bool.not_eq_false', decide_eq_true_eq]
        by_cases y0 : q' = p
        · left; exact y0
        · right
          by_cases y1 : ∃ a, a < b ∧ f a = q'
          · right
            obtain ⟨a, a1, a2⟩ := y1
            refine (sub_iff (2 ^ b - 1) (mk_lt8 _ (by omega))).mpr (fun c hc hbc => ?_)
            rw [hbit] at hbc
            rw [Nat.testBit_two_pow_sub_one, decide_eq_true_eq]
            rcases Nat.lt_trichotomy c b with y | y | y
            · exact y
            · exfalso; rw [y, q.2] at hbc; exact y0 hbc.2.symm
            · exfalso
              have := h a b c a1 y hbc.1 (by rw [a2, hbc.2]) q.2
              rw [a2, q.2] at this
              exact y0 this
          · left
            refine (dis_iff (2 ^ b - 1) (mk_lt8 _ (by omega))).mpr (fun a ha hba => ?_)
            rw [hbit] at hba
            rw [Nat.testBit_two_pow_sub_one, decide_eq_false_iff_not]
            exact fun y => y1 ⟨a, y, hba.2⟩
      · left; exact q
  constructor
  · rintro ⟨⟨h1, ⟨h2, h3⟩, h4⟩, h5⟩
    refine ⟨h1, fun e he ht => ?_, fun e he ht => ?_, ?_, ?_⟩
    · exact ((hbit p e).mp (h2 e (by omega) (by rw [Nat.testBit_and, Nat.testBit_two_pow_sub_one, ht, decide_eq_true he]; rfl))).2
    · cases q : (r (22 + g)).testBit e with
      | false => rfl
      | true => exact absurd ⟨he, ht⟩ ((hbitf p e).mp (h3 e (by omega) q))
    · refine h4.imp id (fun z e he ht hh => ?_)
      have := z e he
      rw [(hbit p e).mpr ⟨he, ht⟩, decide_eq_true hh] at this
      exact absurd this (by decide)
    · exact h5.imp id (fun z => hac.mp z)
  · rintro ⟨h1, h2, h3, h4, h5⟩
    refine ⟨⟨h1, ⟨fun e he ht => ?_, fun e he ht => ?_⟩, ?_⟩, h5.imp id (fun z => hac.mpr z)⟩
    · rw [Nat.testBit_and, Nat.testBit_two_pow_sub_one, Bool.and_eq_true, decide_eq_true_eq] at ht
      exact (hbit p e).mpr ⟨ht.2, h2 e ht.2 ht.1⟩
    · rw [hbitf]
      rintro ⟨y1, y2⟩
      rw [h3 e y1 y2] at ht
      exact absurd ht (by decide)
    · refine h4.imp id (fun z e he => ?_)
      rw [Bool.and_eq_false_iff, hbitf, decide_eq_false_iff_not]
      by_cases y : f e = p
      · right; exact z e he y
      · left; exact fun k => y k.2
theorem c_mayStand {S : gSt} {o g p : Nat} {r f : Nat → Nat} {w : Nat → Nat → Int} (h : Ru S o r w) (hW : RW r w) (ho : gIsRu o = true) (ho2 : o < 100) (h32 : gR S 32 3 = nI o) (hs : ∀ q, q < 8 → gR S 35 q = nI (mk (fun e => decide (f e = q)) g)) (hg : g < 8) (hp : p < 8) (hm : pts f g ≤ 8) : fX9_mayStand (nI g) (nI p) (nI (pts f g)) S = some (nI (bN (mayB r f g p))) := by
  unfold fX9_mayStand fX9_mayStand_L31 mayB
  have hl : ∀ q, mk (fun e => decide (f e = q)) g < 256 := fun q => mk_lt8 _ (by omega)
  have hsp := hs p hp
  have hgo : gN (gR S 32 3) = o := by rw [h32]; exact gN_nI (by omega)
  have l2' := c_lawOf h (show 2 < 5 by decide)
  have l4' := c_lawOf h (show 4 < 5 by decide)
  have e2 : r (9 + 2) = r 11 := rfl
  have e4 : r (9 + 4) = r 13 := rfl
  rw [e2] at l2'
  rw [e4] at l4'
  have v11 : r 11 ≤ 8 := hW.2.2.2.1 2 (by decide)
  have v13 := hW.2.2.2.2.2.1
  have hcl := cn_le (fun e => decide (f e = p)) g
  have hin : ∀ X : Bool, (if nI (bN (mayCo r g (mk (fun e => decide (f e = p)) g))) = nI 0 then some (nI 0) else if nI (r 13) = nI 0 then some (nI 1) else if nI (bN X) = nI 0 then some (nI 1) else some (nI 0)) = some (nI (bN (mayCo r g (mk (fun e => decide (f e = p)) g) && (decide (r 13 = 0) || !X)))) := fun X => by
    cases mayCo r g (mk (fun e => decide (f e = p)) g) with
    | false => simp (disch := omega) only [gC_d, gC_tt, gBp_s, gBd_s, gL_s, gIn_nI, gN_nI, nI_ltI, nI_leI, nI_eq, nI_add, nI_mul, nI_sub, ite_t, ite_f, gR_W2, gRL_W, if_true, if_false, true_and, and_true, false_and, and_false, and_self, Nat.add_zero, l0, l1, l2, l3, l4, l5, l6, l7, l8, l9, l10, l11, l12, l13, l14, l22, l30, l31, l32, l39, l40, l48, l50, l57, l59, l60, l94, l97, l99, l100, l122, l255, l256, l300, l488, l1000, bN_f, Bool.false_and]
    | true =>
      by_cases z : r 13 = 0
      · rw [decide_eq_true z]
        simp (disch := omega) only [gC_d, gC_tt, gBp_s, gBd_s, gL_s, gIn_nI, gN_nI, nI_ltI, nI_leI, nI_eq, nI_add, nI_mul, nI_sub, ite_t, ite_f, gR_W2, gRL_W, if_true, if_false, true_and, and_true, false_and, and_false, and_self, Nat.add_zero, l0, l1, l2, l3, l4, l5, l6, l7, l8, l9, l10, l11, l12, l13, l14, l22, l30, l31, l32, l39, l40, l48, l50, l57, l59, l60, l94, l97, l99, l100, l122, l255, l256, l300, l488, l1000, bN_t, Bool.true_and, Bool.true_or]
      · rw [decide_eq_false z]
        cases X with
        | true => simp (disch := omega) only [gC_d, gC_tt, gBp_s, gBd_s, gL_s, gIn_nI, gN_nI, nI_ltI, nI_leI, nI_eq, nI_add, nI_mul, nI_sub, ite_t, ite_f, gR_W2, gRL_W, if_true, if_false, true_and, and_true, false_and, and_false, and_self, Nat.add_zero, l0, l1, l2, l3, l4, l5, l6, l7, l8, l9, l10, l11, l12, l13, l14, l22, l30, l31, l32, l39, l40, l48, l50, l57, l59, l60, l94, l97, l99, l100, l122, l255, l256, l300, l488, l1000, bN_t, bN_f, Bool.true_and, Bool.false_or, Bool.not_true]
        | false => simp (disch := omega) only [gC_d, gC_tt, gBp_s, gBd_s, gL_s, gIn_nI, gN_nI, nI_ltI, nI_leI, nI_eq, nI_add, nI_mul, nI_sub, ite_t, ite_f, gR_W2, gRL_W, if_true, if_false, true_and, and_true, false_and, and_false, and_self, Nat.add_zero, l0, l1, l2, l3, l4, l5, l6, l7, l8, l9, l10, l11, l12, l13, l14, l22, l30, l31, l32, l39, l40, l48, l50, l57, l59, l60, l94, l97, l99, l100, l122, l255, l256, l300, l488, l1000, bN_t, bN_f, Bool.true_and, Bool.false_or, Bool.not_false]
  by_cases z1 : r 11 = 0
  · rw [decide_eq_true z1, Bool.true_or, Bool.true_and, ← hin]
    simp (disch := omega) only [gC_d, gC_tt, gBp_s, gBd_s, gL_s, gIn_nI, gN_nI, nI_ltI, nI_leI, nI_eq, nI_add, nI_mul, nI_sub, ite_t, ite_f, gR_W2, gRL_W, if_true, if_false, true_and, and_true, false_and, and_false, and_self, Nat.add_zero, l0, l1, l2, l3, l4, l5, l6, l7, l8, l9, l10, l11, l12, l13, l14, l22, l30, l31, l32, l39, l40, l48, l50, l57, l59, l60, l94, l97, l99, l100, l122, l255, l256, l300, l488, l1000, hgo, ho, l2', l4', hsp, c_mayCome h hW hg (hl p), c_acro hs hl hm hp]
    congr
  · rw [decide_eq_false z1, Bool.false_or]
    by_cases z2 : cn (fun e => decide (f e = p)) g < r 11
    · rw [decide_eq_true z2, Bool.true_and, ← hin]
      simp (disch := omega) only [gC_d, gC_tt, gBp_s, gBd_s, gL_s, gIn_nI, gN_nI, nI_ltI, nI_leI, nI_eq, nI_add, nI_mul, nI_sub, ite_t, ite_f, gR_W2, gRL_W, if_true, if_false, true_and, and_true, false_and, and_false, and_self, Nat.add_zero, l0, l1, l2, l3, l4, l5, l6, l7, l8, l9, l10, l11, l12, l13, l14, l22, l30, l31, l32, l39, l40, l48, l50, l57, l59, l60, l94, l97, l99, l100, l122, l255, l256, l300, l488, l1000, hgo, ho, l2', l4', hsp, bc_mk S (fun e => decide (f e = p)) (show g ≤ 8 by omega), c_mayCome h hW hg (hl p), c_acro hs hl hm hp]
      congr
    · rw [decide_eq_false z2, Bool.false_and, Bool.false_and]
      simp (disch := omega) only [gC_d, gC_tt, gBp_s, gBd_s, gL_s, gIn_nI, gN_nI, nI_ltI, nI_leI, nI_eq, nI_add, nI_mul, nI_sub, ite_t, ite_f, gR_W2, gRL_W, if_true, if_false, true_and, and_true, false_and, and_false, and_self, Nat.add_zero, l0, l1, l2, l3, l4, l5, l6, l7, l8, l9, l10, l11, l12, l13, l14, l22, l30, l31, l32, l39, l40, l48, l50, l57, l59, l60, l94, l97, l99, l100, l122, l255, l256, l300, l488, l1000, hgo, ho, l2', l4', hsp, bc_mk S (fun e => decide (f e = p)) (show g ≤ 8 by omega), bN_f]
