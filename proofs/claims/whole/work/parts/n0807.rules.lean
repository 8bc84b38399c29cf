/-! the rules of the class and what the reference was told; needs: 0800 0801 0802 0803 0804 0805 0806 -/
def si (p : Nat → Int) : Nat → Int
  | 0 => 0
  | g + 1 => si p g + p g
theorem si_s (p : Nat → Int) (g : Nat) : si p (g + 1) = si p g + p g := rfl
theorem si_congr {p q : Nat → Int} : ∀ {n : Nat}, (∀ g, g < n → p g = q g) → si p n = si q n
  | 0, _ => rfl
  | n + 1, h => by rw [si_s, si_s, si_congr (n := n) (fun g hg => h g (by omega)), h n (by omega)]
theorem si_add (p q : Nat → Int) : ∀ n, si (fun g => p g + q g) n = si p n + si q n
  | 0 => rfl
  | n + 1 => by rw [si_s, si_s, si_s, si_add p q n]; omega
theorem si_b {p : Nat → Int} {B : Int} : ∀ {n : Nat}, (∀ g, g < n → -B ≤ p g ∧ p g ≤ B) → -(B * n) ≤ si p n ∧ si p n ≤ B * n
  | 0, _ => by simp [si]
  | n + 1, h => by
    have h1 := si_b (n := n) (fun g hg => h g (by omega))
    have h2 := h n (by omega)
    rw [si_s, show B * ((n + 1 : Nat) : Int) = B * n + B by rw [Int.natCast_succ, Int.mul_add, Int.mul_one]]
    omega
theorem iI_addR (x y : Int) : iI x + iI y = iI (x + y) := (iI_add x y).symm
theorem iI_n (n : Nat) : nI n = iI (n : Int) := rfl
theorem nI_xor (a b : Nat) : nI a ^^^ nI b = nI (a ^^^ b) := by
  apply Int32.toBitVec_inj.mp
  show (BitVec.ofNat 32 a) ^^^ (BitVec.ofNat 32 b) = BitVec.ofNat 32 (a ^^^ b)
  rw [BitVec.ofNat_xor]
theorem lm1 : (-1 : Int32) = nI 4294967295 := by decide +kernel
theorem bit8 {x e : Nat} (hx : x < 256) (he : 8 ≤ e) : x.testBit e = false := Nat.testBit_lt_two_pow (Nat.lt_of_lt_of_le hx (Nat.pow_le_pow_right (n := 2) (i := 8) (by decide) he))
theorem sub_iff {x : Nat} (a : Nat) (hx : x < 256) : x &&& (a ^^^ 4294967295) = 0 ↔ ∀ e, e < 8 → x.testBit e = true → a.testBit e = true := by
  have ht : ∀ e, e < 8 → (4294967295 : Nat).testBit e = true := by decide
  constructor
  · intro h e he hb
    have : (x &&& (a ^^^ 4294967295)).testBit e = false := by rw [h, Nat.zero_testBit]
    rw [Nat.testBit_and, Nat.testBit_xor, ht e he, hb] at this
    cases hc : a.testBit e with
    | true => rfl
    | false => rw [hc] at this; exact absurd this (by decide)
  · intro h
    apply Nat.eq_of_testBit_eq
    intro e
    rw [Nat.testBit_and, Nat.testBit_xor, Nat.zero_testBit]
    by_cases he : e < 8
    · cases hb : x.testBit e with
      | false => rfl
      | true => rw [h e he hb, ht e he]; rfl
    · rw [bit8 hx (by omega)]; rfl
theorem dis_iff {x : Nat} (a : Nat) (hx : x < 256) : x &&& a = 0 ↔ ∀ e, e < 8 → x.testBit e = true → a.testBit e = false := by
  constructor
  · intro h e he hb
    have : (x &&& a).testBit e = false := by rw [h, Nat.zero_testBit]
    rw [Nat.testBit_and, hb, Bool.true_and] at this
    exact this
  · intro h
    apply Nat.eq_of_testBit_eq
    intro e
    rw [Nat.testBit_and, Nat.zero_testBit]
    by_cases he : e < 8
    · cases hb : x.testBit e with
      | false => rfl
      | true => rw [h e he hb]; rfl
    · rw [bit8 hx (by omega)]; rfl
theorem shr1 (a g : Nat) : a / 2 ^ g &&& 1 = if a.testBit g then 1 else 0 := by
  rw [Nat.and_one_is_mod, Nat.testBit_eq_decide_div_mod_eq]
  by_cases h : a / 2 ^ g % 2 = 1
  · rw [if_pos (decide_eq_true h), h]
  · rw [if_neg (by rw [decide_eq_true_eq]; exact h)]; omega
/-- what a text may tell: r: guests 0, hats 1.., laws 9.., together 14.., apart 22..; w: worths -/
def RW (r : Nat → Nat) (w : Nat → Nat → Int) : Prop := 1 ≤ r 0 ∧ r 0 ≤ 8 ∧ (∀ g, g < 8 → r (1 + g) ≤ 5) ∧ (∀ k, k < 5 → r (9 + k) ≤ 8) ∧ r 12 ≤ 1 ∧ r 13 ≤ 1 ∧ (∀ g, g < 8 → r (14 + g) < 256) ∧ (∀ g, g < 8 → r (22 + g) < 256) ∧ (∀ g, r 0 ≤ g → g < 8 → r (14 + g) = 0 ∧ r (22 + g) = 0) ∧ (∀ a b, -9 ≤ w a b ∧ w a b ≤ 9) ∧ ∀ a b, w a b = w b a
/-- the class's rules at o -/
def Ru (S : gSt) (o : Nat) (r : Nat → Nat) (w : Nat → Nat → Int) : Prop := gR S o 5 = nI (r 0) ∧ (∀ g, g < 8 → gR S (o + 1) g = nI (r (1 + g))) ∧ (∀ k, k < 5 → gR S (o + 2) k = nI (r (9 + k))) ∧ (∀ g, g < 8 → gR S (o + 3) g = nI (r (14 + g))) ∧ (∀ g, g < 8 → gR S (o + 4) g = nI (r (22 + g))) ∧ ∀ a b, a < 8 → b < 8 → gR S (o + 6 + a) b = iI (w a b)
/-- what the reference was told, from b on -/
def To (S : gSt) (b : Nat) (r : Nat → Nat) (w : Nat → Nat → Int) : Prop := (∀ k, k < 30 → gR S 79 (b + k) = nI (r k)) ∧ ∀ x y, x < 8 → y < 8 → gR S 79 (b + (30 + 8 * x + y)) = iI (w x y)
theorem Ru.fr {S S1 : gSt} {o a b : Nat} {r : Nat → Nat} {w : Nat → Nat → Int} (h : Ru S o r w) (hf : gFr a b S S1) (hp : o + 14 ≤ a ∨ b ≤ o) : Ru S1 o r w := by
  obtain ⟨h1, h2, h3, h4, h5, h6⟩ := h
  refine ⟨?_, fun g hg => ?_, fun g hg => ?_, fun g hg => ?_, fun g hg => ?_, fun a b ha hb => ?_⟩
  · rw [hf.2 _ _ (by omega)]; exact h1
  · rw [hf.2 _ _ (by omega)]; exact h2 g hg
  · rw [hf.2 _ _ (by omega)]; exact h3 g hg
  · rw [hf.2 _ _ (by omega)]; exact h4 g hg
  · rw [hf.2 _ _ (by omega)]; exact h5 g hg
  · rw [hf.2 _ _ (by omega)]; exact h6 a b ha hb
theorem To.fr {S S1 : gSt} {c a b : Nat} {r : Nat → Nat} {w : Nat → Nat → Int} (h : To S c r w) (hf : gFr a b S S1) (hp : 79 < a ∨ b ≤ 79) : To S1 c r w := ⟨fun k hk => by rw [hf.2 _ _ (by omega)]; exact h.1 k hk, fun x y hx hy => by rw [hf.2 _ _ (by omega)]; exact h.2 x y hx hy⟩
theorem To.rw {S S1 : gSt} {c p n : Nat} {r : Nat → Nat} {w : Nat → Nat → Int} (h : To S c r w) (hf : gRw p n S S1) (hp : p ≠ 79) : To S1 c r w := ⟨fun k hk => by rw [hf.2 _ _ (by omega)]; exact h.1 k hk, fun x y hx hy => by rw [hf.2 _ _ (by omega)]; exact h.2 x y hx hy⟩
theorem To.mN {S : gSt} {r : Nat → Nat} {w : Nat → Nat → Int} (h : To S 0 r w) (hW : RW r w) : mN S (r 0) := ⟨h.1 0 (by decide), hW.1, hW.2.1⟩
theorem c_isOne (S : gSt) {g : Nat} (hg : g < 8) : fX5_isOne (nI g) S = some (nI 1) := by
  unfold fX5_isOne
  simp (disch := omega) only [gC_d, gC_tt, gBp_s, gBd_s, gL_s, gIn_nI, gN_nI, nI_ltI, nI_leI, nI_eq, nI_add, nI_mul, nI_sub, ite_t, ite_f, gR_W2, gRL_W, if_true, if_false, true_and, and_true, false_and, and_false, and_self, Nat.add_zero, l0, l1, l2, l3, l4, l5, l6, l7, l8, l9, l10, l11, l12, l13, l14, l22, l30, l31, l32, l39, l40, l48, l50, l57, l59, l60, l94, l97, l99, l100, l122, l255, l256, l300, l488, l1000]
theorem c_lawOf {S : gSt} {o k : Nat} {r : Nat → Nat} {w : Nat → Nat → Int} (h : Ru S o r w) (hk : k < 5) : fX5_lawOf o (nI k) S = some (nI (r (9 + k))) := by
  unfold fX5_lawOf
  simp (disch := omega) only [gC_d, gC_tt, gBp_s, gBd_s, gL_s, gIn_nI, gN_nI, nI_ltI, nI_leI, nI_eq, nI_add, nI_mul, nI_sub, ite_t, ite_f, gR_W2, gRL_W, if_true, if_false, true_and, and_true, false_and, and_false, and_self, Nat.add_zero, l0, l1, l2, l3, l4, l5, l6, l7, l8, l9, l10, l11, l12, l13, l14, l22, l30, l31, l32, l39, l40, l48, l50, l57, l59, l60, l94, l97, l99, l100, l122, l255, l256, l300, l488, l1000, h.2.2.1]
theorem c_hatOf {S : gSt} {o g : Nat} {r : Nat → Nat} {w : Nat → Nat → Int} (h : Ru S o r w) (hg : g < 8) : fX5_hatOf o (nI g) S = some (nI (r (1 + g))) := by
  unfold fX5_hatOf
  simp (disch := omega) only [gC_d, gC_tt, gBp_s, gBd_s, gL_s, gIn_nI, gN_nI, nI_ltI, nI_leI, nI_eq, nI_add, nI_mul, nI_sub, ite_t, ite_f, gR_W2, gRL_W, if_true, if_false, true_and, and_true, false_and, and_false, and_self, Nat.add_zero, l0, l1, l2, l3, l4, l5, l6, l7, l8, l9, l10, l11, l12, l13, l14, l22, l30, l31, l32, l39, l40, l48, l50, l57, l59, l60, l94, l97, l99, l100, l122, l255, l256, l300, l488, l1000, c_isOne S hg, h.2.1]
theorem c_worthOf {S : gSt} {o a b : Nat} {r : Nat → Nat} {w : Nat → Nat → Int} (h : Ru S o r w) (ha : a < 8) (hb : b < 8) : fX5_worthOf o (nI a) (nI b) S = some (iI (w a b)) := by
  unfold fX5_worthOf
  have := h.2.2.2.2.2 a b ha hb
  rw [show o + 6 + a = o + 5 + 1 + a by omega] at this
  simp (disch := omega) only [gC_d, gC_tt, gBp_s, gBd_s, gL_s, gIn_nI, gN_nI, nI_ltI, nI_leI, nI_eq, nI_add, nI_mul, nI_sub, ite_t, ite_f, gR_W2, gRL_W, if_true, if_false, true_and, and_true, false_and, and_false, and_self, Nat.add_zero, l0, l1, l2, l3, l4, l5, l6, l7, l8, l9, l10, l11, l12, l13, l14, l22, l30, l31, l32, l39, l40, l48, l50, l57, l59, l60, l94, l97, l99, l100, l122, l255, l256, l300, l488, l1000, c_isOne S ha, c_isOne S hb, this]
theorem bit_t {a e : Nat} (ha : a < 256) (h : a.testBit e = true) : ¬ nI (a &&& 2 ^ e) = nI 0 := fun z => by
  have h1 := and_le2 a e
  have := nI_inj (by omega) (by omega) z
  rw [(and_bit a e).mp this] at h
  exact absurd h (by decide)
theorem bit_f {a e : Nat} (h : a.testBit e = false) : nI (a &&& 2 ^ e) = nI 0 := by rw [(and_bit a e).mpr h]
/-- the worths of g with those others who are so -/
def ww (w : Nat → Nat → Int) (n g : Nat) (p : Nat → Bool) : Int := si (fun e => if e ≠ g ∧ p e = true then w g e else 0) n
theorem ww_b {r : Nat → Nat} {w : Nat → Nat → Int} (hW : RW r w) (g : Nat) (p : Nat → Bool) {n : Nat} (hn : n ≤ 8) : -72 ≤ ww w n g p ∧ ww w n g p ≤ 72 := by
  have := si_b (p := fun e => if e ≠ g ∧ p e = true then w g e else 0) (B := 9) (n := n) (fun e _ => by
    have := hW.2.2.2.2.2.2.2.2.2.1 g e
    split <;> omega)
  unfold ww
  omega
theorem c_worthWith {S : gSt} {o g a : Nat} {r : Nat → Nat} {w : Nat → Nat → Int} (h : Ru S o r w) (hW : RW r w) (hg : g < 8) (ha : a < 256) : fX5_worthWith o (nI g) (nI a) S = some (iI (ww w (r 0) g (fun e => a.testBit e))) := by
  unfold fX5_worthWith
  rw [c_isOne S hg, gBp_s, if_neg (show ¬ nI 1 = 0 by decide)]
  have h8 := hW.2.1
  have h0 := h.1
  refine forFU (fun m x e => fX5_worthWith_L14 o S m (nI g) (nI a) x (nI e)) (fun x => x = some (iI (ww w (r 0) g (fun e => a.testBit e)))) (fun e x => x = iI (ww w e g (fun e => a.testBit e))) (r 0) 0 (by omega) ?_ ?_ rfl
  · rintro m e x he rfl
    right
    refine ⟨_, rfl, ?_⟩
    show fX5_worthWith_L14 o S (m + 1) (nI g) (nI a) (iI (ww w e g _)) (nI e) = fX5_worthWith_L14 o S m (nI g) (nI a) (iI (ww w (e + 1) g _)) (nI (e + 1))
    rw [fX5_worthWith_L14]
    have e1 : ww w (e + 1) g (fun e => a.testBit e) = ww w e g (fun e => a.testBit e) + (if e ≠ g ∧ a.testBit e = true then w g e else 0) := rfl
    by_cases q : e = g
    · rw [if_neg (fun z => z.1 q), Int.add_zero] at e1
      rw [e1]
      simp (disch := omega) only [gC_d, gC_tt, gBp_s, gBd_s, gL_s, gIn_nI, gN_nI, nI_ltI, nI_leI, nI_eq, nI_add, nI_mul, nI_sub, ite_t, ite_f, gR_W2, gRL_W, if_true, if_false, true_and, and_true, false_and, and_false, and_self, Nat.add_zero, l0, l1, l2, l3, l4, l5, l6, l7, l8, l9, l10, l11, l12, l13, l14, l22, l30, l31, l32, l39, l40, l48, l50, l57, l59, l60, l94, l97, l99, l100, l122, l255, l256, l300, l488, l1000, h0]
    · cases hb : a.testBit e with
      | false =>
        rw [if_neg (fun z => by rw [hb] at z; exact absurd z.2 (by decide)), Int.add_zero] at e1
        rw [e1]
        simp (disch := omega) only [gC_d, gC_tt, gBp_s, gBd_s, gL_s, gIn_nI, gN_nI, nI_ltI, nI_leI, nI_eq, nI_add, nI_mul, nI_sub, ite_t, ite_f, gR_W2, gRL_W, if_true, if_false, true_and, and_true, false_and, and_false, and_self, Nat.add_zero, l0, l1, l2, l3, l4, l5, l6, l7, l8, l9, l10, l11, l12, l13, l14, l22, l30, l31, l32, l39, l40, l48, l50, l57, l59, l60, l94, l97, l99, l100, l122, l255, l256, l300, l488, l1000, h0, nI_31, nI_shl, Nat.one_mul]
        simp (disch := omega) only [nI_andI, bit_f hb, if_true]
      | true =>
        rw [if_pos ⟨q, hb⟩] at e1
        rw [e1]
        have hwe := h.2.2.2.2.2 g e hg (by omega)
        rw [show o + 6 + g = o + 5 + 1 + g by omega] at hwe
        simp (disch := omega) only [gC_d, gC_tt, gBp_s, gBd_s, gL_s, gIn_nI, gN_nI, nI_ltI, nI_leI, nI_eq, nI_add, nI_mul, nI_sub, ite_t, ite_f, gR_W2, gRL_W, if_true, if_false, true_and, and_true, false_and, and_false, and_self, Nat.add_zero, l0, l1, l2, l3, l4, l5, l6, l7, l8, l9, l10, l11, l12, l13, l14, l22, l30, l31, l32, l39, l40, l48, l50, l57, l59, l60, l94, l97, l99, l100, l122, l255, l256, l300, l488, l1000, h0, nI_31, nI_shl, Nat.one_mul, hwe]
        simp (disch := omega) only [nI_andI, if_neg (bit_t ha hb), iI_addR]
  · rintro m x rfl
    show fX5_worthWith_L14 o S (m + 1) (nI g) (nI a) _ (nI (r 0)) = _
    rw [fX5_worthWith_L14]
    simp (disch := omega) only [gC_d, gC_tt, gBp_s, gBd_s, gL_s, gIn_nI, gN_nI, nI_ltI, nI_leI, nI_eq, nI_add, nI_mul, nI_sub, ite_t, ite_f, gR_W2, gRL_W, if_true, if_false, true_and, and_true, false_and, and_false, and_self, Nat.add_zero, l0, l1, l2, l3, l4, l5, l6, l7, l8, l9, l10, l11, l12, l13, l14, l22, l30, l31, l32, l39, l40, l48, l50, l57, l59, l60, l94, l97, l99, l100, l122, l255, l256, l300, l488, l1000, h0]
/-- the worth of a row -/
def wAll (w : Nat → Nat → Int) (f : Nat → Nat) (n : Nat) : Int := si (fun a => si (fun b => if f a = f b then w a b else 0) a) n
theorem wAll_b {r : Nat → Nat} {w : Nat → Nat → Int} (hW : RW r w) (f : Nat → Nat) {n : Nat} (hn : n ≤ 8) : -648 ≤ wAll w f n ∧ wAll w f n ≤ 648 := by
  have := si_b (p := fun a => si (fun b => if f a = f b then w a b else 0) a) (B := 81) (n := n) (fun a ha => by
    have := si_b (p := fun b => if f a = f b then w a b else 0) (B := 9) (n := a) (fun b _ => by
      have := hW.2.2.2.2.2.2.2.2.2.1 a b
      split <;> omega)
    omega)
  unfold wAll
  omega
theorem si_twice {s : Nat → Nat → Int} (hs : ∀ a b, s a b = s b a) : ∀ n, si (fun g => si (fun e => if e ≠ g then s g e else 0) n) n = 2 * si (fun a => si (fun b => s a b) a) n
  | 0 => rfl
  | n + 1 => by
    have h1 : si (fun g => si (fun e => if e ≠ g then s g e else 0) (n + 1)) n = si (fun g => si (fun e => if e ≠ g then s g e else 0) n) n + si (fun g => s n g) n := by
      rw [← si_add]
      refine si_congr (fun g hg => ?_)
      rw [si_s, if_pos (by omega), hs g n]
    have h2 : si (fun e => if e ≠ n then s n e else 0) (n + 1) = si (fun b => s n b) n := by
      rw [si_s, if_neg (fun z => z rfl), Int.add_zero]
      exact si_congr (fun e he => by rw [if_pos (by omega)])
    rw [si_s (fun g => si (fun e => if e ≠ g then s g e else 0) (n + 1)) n, si_s (fun a => si (fun b => s a b) a) n, h1, h2, si_twice hs n]
    omega
theorem iI_div2 {x : Int} (h1 : -1000 ≤ x) (h2 : x ≤ 1000) : iI (2 * x) / 2 = iI x := by
  apply Int32.toInt_inj.mp
  rw [Int32.toInt_div, iI_toInt (by omega) (by omega), iI_toInt (by omega) (by omega), show (2 : Int32).toInt = 2 from rfl, Int.mul_tdiv_cancel_left _ (by decide)]
  apply Int.bmod_eq_of_le <;> omega
theorem c_worthOfAll {S : gSt} {o q : Nat} {f : Nat → Nat} {r : Nat → Nat} {w : Nat → Nat → Int} (h : Ru S o r w) (hW : RW r w) (hs : St S q (r 0) f) : fX5_worthOfAll o q S = some (iI (wAll w f (r 0))) := by
  unfold fX5_worthOfAll
  have h8 := hW.2.1
  have h0 := h.1
  have key : si (fun g => ww w (r 0) g (fun e => decide (f e = f g))) (r 0) = 2 * wAll w f (r 0) := by
    have := si_twice (s := fun a b => if f a = f b then w a b else 0) (fun a b => by
      by_cases z : f a = f b
      · rw [if_pos z, if_pos z.symm, hW.2.2.2.2.2.2.2.2.2.2 a b]
      · rw [if_neg z, if_neg (fun y => z y.symm)]) (r 0)
    unfold wAll
    rw [← this]
    refine si_congr (fun g _ => si_congr (fun e _ => ?_))
    by_cases z : e = g
    · rw [if_neg (fun y => y.1 z), if_neg (fun y => y z)]
    · rw [if_pos z]
      by_cases y : f e = f g
      · rw [if_pos ⟨z, decide_eq_true y⟩, if_pos y.symm]
      · rw [if_neg (fun v => y (of_decide_eq_true v.2)), if_neg (fun v => y v.symm)]
  refine forFU (fun m x g => fX5_worthOfAll_L4 o q S m x (nI g)) (fun x => x = some (iI (wAll w f (r 0)))) (fun g x => x = iI (si (fun g => ww w (r 0) g (fun e => decide (f e = f g))) g)) (r 0) 0 (by omega) ?_ ?_ rfl
  · rintro m g x hg rfl
    right
    refine ⟨_, rfl, ?_⟩
    show fX5_worthOfAll_L4 o q S (m + 1) _ (nI g) = fX5_worthOfAll_L4 o q S m _ (nI (g + 1))
    have hl := mk_lt8 (fun e => decide (f e = f g)) h8
    rw [fX5_worthOfAll_L4, c_partyOf hs hg, gBp_s, c_setOf hs (lt_pts hg), gBp_s, c_worthWith h hW (by omega) hl, gBp_s, si_s]
    have e1 : ww w (r 0) g (fun e => (mk (fun e => decide (f e = f g)) (r 0)).testBit e) = ww w (r 0) g (fun e => decide (f e = f g)) := by
      refine si_congr (fun e he => ?_)
      show (if e ≠ g ∧ (mk (fun e => decide (f e = f g)) (r 0)).testBit e = true then w g e else 0) = if e ≠ g ∧ decide (f e = f g) = true then w g e else 0
      rw [mk_bit, decide_eq_true he, Bool.true_and]
    rw [e1]
    simp (disch := omega) only [gC_d, gC_tt, gBp_s, gBd_s, gL_s, gIn_nI, gN_nI, nI_ltI, nI_leI, nI_eq, nI_add, nI_mul, nI_sub, ite_t, ite_f, gR_W2, gRL_W, if_true, if_false, true_and, and_true, false_and, and_false, and_self, Nat.add_zero, l0, l1, l2, l3, l4, l5, l6, l7, l8, l9, l10, l11, l12, l13, l14, l22, l30, l31, l32, l39, l40, l48, l50, l57, l59, l60, l94, l97, l99, l100, l122, l255, l256, l300, l488, l1000, h0, iI_addR]
  · rintro m x rfl
    show fX5_worthOfAll_L4 o q S (m + 1) _ (nI (r 0)) = _
    have hb := wAll_b hW f h8
    rw [fX5_worthOfAll_L4, key, iI_div2 (by omega) (by omega)]
    simp (disch := omega) only [gC_d, gC_tt, gBp_s, gBd_s, gL_s, gIn_nI, gN_nI, nI_ltI, nI_leI, nI_eq, nI_add, nI_mul, nI_sub, ite_t, ite_f, gR_W2, gRL_W, if_true, if_false, true_and, and_true, false_and, and_false, and_self, Nat.add_zero, l0, l1, l2, l3, l4, l5, l6, l7, l8, l9, l10, l11, l12, l13, l14, l22, l30, l31, l32, l39, l40, l48, l50, l57, l59, l60, l94, l97, l99, l100, l122, l255, l256, l300, l488, l1000, h0]
theorem m_worthOf_in {k4 : Int32 → Int32 → Option Int32} {S : gSt} {p n a : Nat} {f : Nat → Nat} {r : Nat → Nat} {w : Nat → Nat → Int} {x : Int} (h : To S 0 r w) (hr : 8 ≤ (gLay p).2) (hr2 : (gLay p).2 ≤ 5000) (hf : rowAt S p n f) (hb : ∀ g, g < n → f g < 1000000) (hn : n ≤ 8) (ha : a < n) : fX11_worthOf_L15 k4 p S gFU (iI x) (nI a) 0 = k4 (iI (x + si (fun b => if f a = f b then w a b else 0) a)) (nI (a + 1)) := by
  refine forFU (fun m y b => fX11_worthOf_L15 k4 p S m y (nI a) (nI b)) (fun y => y = k4 (iI (x + si (fun b => if f a = f b then w a b else 0) a)) (nI (a + 1))) (fun b y => y = iI (x + si (fun b => if f a = f b then w a b else 0) b)) a (iI x) (by omega) ?_ ?_ (by rw [show si (fun b => if f a = f b then w a b else 0) 0 = 0 from rfl, Int.add_zero])
  · rintro m b y hb' rfl
    right
    refine ⟨_, rfl, ?_⟩
    show fX11_worthOf_L15 k4 p S (m + 1) _ (nI a) (nI b) = fX11_worthOf_L15 k4 p S m _ (nI a) (nI (b + 1))
    have b1 := hb a ha
    have b2 := hb b (by omega)
    have ht := h.2 a b (by omega) (by omega)
    rw [Nat.zero_add] at ht
    rw [fX11_worthOf_L15, si_s, ← Int.add_assoc]
    by_cases z : f a = f b
    · rw [if_pos z]
      simp (disch := omega) only [gC_d, gC_tt, gBp_s, gBd_s, gL_s, gIn_nI, gN_nI, nI_ltI, nI_leI, nI_eq, nI_add, nI_mul, nI_sub, ite_t, ite_f, gR_W2, gRL_W, if_true, if_false, true_and, and_true, false_and, and_false, and_self, Nat.add_zero, l0, l1, l2, l3, l4, l5, l6, l7, l8, l9, l10, l11, l12, l13, l14, l22, l30, l31, l32, l39, l40, l48, l50, l57, l59, l60, l94, l97, l99, l100, l122, l255, l256, l300, l488, l1000, hf a ha, hf b (show b < n by omega), ht, iI_addR]
    · rw [if_neg z, Int.add_zero]
      simp (disch := omega) only [gC_d, gC_tt, gBp_s, gBd_s, gL_s, gIn_nI, gN_nI, nI_ltI, nI_leI, nI_eq, nI_add, nI_mul, nI_sub, ite_t, ite_f, gR_W2, gRL_W, if_true, if_false, true_and, and_true, false_and, and_false, and_self, Nat.add_zero, l0, l1, l2, l3, l4, l5, l6, l7, l8, l9, l10, l11, l12, l13, l14, l22, l30, l31, l32, l39, l40, l48, l50, l57, l59, l60, l94, l97, l99, l100, l122, l255, l256, l300, l488, l1000, hf a ha, hf b (show b < n by omega)]
      rw [show iI (x + si (fun b => if f a = f b then w a b else 0) b) + nI 0 = iI (x + si (fun b => if f a = f b then w a b else 0) b) from Int32.add_zero _]
  · rintro m y rfl
    show fX11_worthOf_L15 k4 p S (m + 1) _ (nI a) (nI a) = _
    rw [fX11_worthOf_L15]
    simp (disch := omega) only [gC_d, gC_tt, gBp_s, gBd_s, gL_s, gIn_nI, gN_nI, nI_ltI, nI_leI, nI_eq, nI_add, nI_mul, nI_sub, ite_t, ite_f, gR_W2, gRL_W, if_true, if_false, true_and, and_true, false_and, and_false, and_self, Nat.add_zero, l0, l1, l2, l3, l4, l5, l6, l7, l8, l9, l10, l11, l12, l13, l14, l22, l30, l31, l32, l39, l40, l48, l50, l57, l59, l60, l94, l97, l99, l100, l122, l255, l256, l300, l488, l1000]
theorem m_worthOf {S : gSt} {p : Nat} {f : Nat → Nat} {r : Nat → Nat} {w : Nat → Nat → Int} (h : To S 0 r w) (hW : RW r w) (hr : 8 ≤ (gLay p).2) (hr2 : (gLay p).2 ≤ 5000) (hf : rowAt S p (r 0) f) (hb : ∀ g, g < r 0 → f g < 1000000) : fX11_worthOf p S = some (iI (wAll w f (r 0))) := by
  have h8 := hW.2.1
  unfold fX11_worthOf
  refine forFU (fun m y a => fX11_worthOf_L4 p S m y (nI a)) (fun y => y = some (iI (wAll w f (r 0)))) (fun a y => y = iI (wAll w f a)) (r 0) 0 (by omega) ?_ ?_ rfl
  · rintro m a y ha rfl
    right
    refine ⟨_, rfl, ?_⟩
    show fX11_worthOf_L4 p S (m + 1) _ (nI a) = fX11_worthOf_L4 p S m _ (nI (a + 1))
    rw [fX11_worthOf_L4, m_guests (h.mN hW), gBp_s, if_neg (nI_nleI ha (by omega)), m_worthOf_in h hr hr2 hf hb h8 ha]
    rfl
  · rintro m y rfl
    show fX11_worthOf_L4 p S (m + 1) _ (nI (r 0)) = _
    rw [fX11_worthOf_L4, m_guests (h.mN hW)]
    simp (disch := omega) only [gC_d, gC_tt, gBp_s, gBd_s, gL_s, gIn_nI, gN_nI, nI_ltI, nI_leI, nI_eq, nI_add, nI_mul, nI_sub, ite_t, ite_f, gR_W2, gRL_W, if_true, if_false, true_and, and_true, false_and, and_false, and_self, Nat.add_zero, l0, l1, l2, l3, l4, l5, l6, l7, l8, l9, l10, l11, l12, l13, l14, l22, l30, l31, l32, l39, l40, l48, l50, l57, l59, l60, l94, l97, l99, l100, l122, l255, l256, l300, l488, l1000]
