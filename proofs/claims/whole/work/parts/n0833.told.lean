/-! what a text tells, both halves; needs: 0800 0801 0802 0803 0804 0805 0806 0807 0808 0809 0810 0811 0812 0813 0814 0815 0816 0821 0822 -/
theorem to_r {S : gSt} {b k v : Nat} {r : Nat → Nat} {w : Nat → Nat → Int} (h : To S b r w) (hk : k < 30) : To (gW S 79 (b + k) (nI v)) b (upN r k v) w := by
  refine ⟨fun j hj => ?_, fun x y hx hy => ?_⟩
  · by_cases z : j = k
    · rw [z, upN_s]; exact gR_Ws _ _ _ _
    · rw [upN_n z, gR_Wk (by omega)]; exact h.1 j hj
  · rw [gR_Wk (by omega)]; exact h.2 x y hx hy
def wU (w : Nat → Nat → Int) (x y : Nat) (v : Int) : Nat → Nat → Int := fun a b => if a = x ∧ b = y then v else w a b
theorem to_w {S : gSt} {b x y : Nat} {v : Int} {r : Nat → Nat} {w : Nat → Nat → Int} (h : To S b r w) (hx : x < 8) (hy : y < 8) : To (gW S 79 (b + (30 + 8 * x + y)) (iI v)) b r (wU w x y v) := by
  refine ⟨fun j hj => ?_, fun a c ha hc => ?_⟩
  · rw [gR_Wk (by omega)]; exact h.1 j hj
  · unfold wU
    by_cases z : a = x ∧ c = y
    · rw [if_pos z, z.1, z.2]; exact gR_Ws _ _ _ _
    · rw [if_neg z, gR_Wk (by omega)]; exact h.2 a c ha hc
theorem ru_0 {S : gSt} {q v : Nat} {r : Nat → Nat} {w : Nat → Nat → Int} (h : Ru S q r w) : Ru (gW S q 5 (nI v)) q (upN r 0 v) w := by
  obtain ⟨h0, h1, h2, h3, h4, h5⟩ := h
  refine ⟨by rw [upN_s]; exact gR_Ws _ _ _ _, fun g hg => ?_, fun g hg => ?_, fun g hg => ?_, fun g hg => ?_, fun a b ha hb => ?_⟩
  · rw [gR_Wp (by omega), upN_n (by omega)]; exact h1 g hg
  · rw [gR_Wp (by omega), upN_n (by omega)]; exact h2 g hg
  · rw [gR_Wp (by omega), upN_n (by omega)]; exact h3 g hg
  · rw [gR_Wp (by omega), upN_n (by omega)]; exact h4 g hg
  · rw [gR_Wp (by omega)]; exact h5 a b ha hb
theorem ru_1 {S : gSt} {q g v : Nat} {r : Nat → Nat} {w : Nat → Nat → Int} (h : Ru S q r w) (hg : g < 8) : Ru (gW S (q + 1) g (nI v)) q (upN r (1 + g) v) w := by
  obtain ⟨h0, h1, h2, h3, h4, h5⟩ := h
  refine ⟨by rw [gR_Wp (by omega), upN_n (by omega)]; exact h0, fun e he => ?_, fun e he => ?_, fun e he => ?_, fun e he => ?_, fun a b ha hb => ?_⟩
  · by_cases z : e = g
    · rw [z, upN_s]; exact gR_Ws _ _ _ _
    · rw [upN_n (by omega), gR_Wk z]; exact h1 e he
  · rw [gR_Wp (by omega), upN_n (by omega)]; exact h2 e he
  · rw [gR_Wp (by omega), upN_n (by omega)]; exact h3 e he
  · rw [gR_Wp (by omega), upN_n (by omega)]; exact h4 e he
  · rw [gR_Wp (by omega)]; exact h5 a b ha hb
theorem ru_2 {S : gSt} {q g v : Nat} {r : Nat → Nat} {w : Nat → Nat → Int} (h : Ru S q r w) (hg : g < 5) : Ru (gW S (q + 2) g (nI v)) q (upN r (9 + g) v) w := by
  obtain ⟨h0, h1, h2, h3, h4, h5⟩ := h
  refine ⟨by rw [gR_Wp (by omega), upN_n (by omega)]; exact h0, fun e he => ?_, fun e he => ?_, fun e he => ?_, fun e he => ?_, fun a b ha hb => ?_⟩
  · rw [gR_Wp (by omega), upN_n (by omega)]; exact h1 e he
  · by_cases z : e = g
    · rw [z, upN_s]; exact gR_Ws _ _ _ _
    · rw [upN_n (by omega), gR_Wk z]; exact h2 e he
  · rw [gR_Wp (by omega), upN_n (by omega)]; exact h3 e he
  · rw [gR_Wp (by omega), upN_n (by omega)]; exact h4 e he
  · rw [gR_Wp (by omega)]; exact h5 a b ha hb
theorem ru_3 {S : gSt} {q g v : Nat} {r : Nat → Nat} {w : Nat → Nat → Int} (h : Ru S q r w) (hg : g < 8) : Ru (gW S (q + 3) g (nI v)) q (upN r (14 + g) v) w := by
  obtain ⟨h0, h1, h2, h3, h4, h5⟩ := h
  refine ⟨by rw [gR_Wp (by omega), upN_n (by omega)]; exact h0, fun e he => ?_, fun e he => ?_, fun e he => ?_, fun e he => ?_, fun a b ha hb => ?_⟩
  · rw [gR_Wp (by omega), upN_n (by omega)]; exact h1 e he
  · rw [gR_Wp (by omega), upN_n (by omega)]; exact h2 e he
  · by_cases z : e = g
    · rw [z, upN_s]; exact gR_Ws _ _ _ _
    · rw [upN_n (by omega), gR_Wk z]; exact h3 e he
  · rw [gR_Wp (by omega), upN_n (by omega)]; exact h4 e he
  · rw [gR_Wp (by omega)]; exact h5 a b ha hb
theorem ru_4 {S : gSt} {q g v : Nat} {r : Nat → Nat} {w : Nat → Nat → Int} (h : Ru S q r w) (hg : g < 8) : Ru (gW S (q + 4) g (nI v)) q (upN r (22 + g) v) w := by
  obtain ⟨h0, h1, h2, h3, h4, h5⟩ := h
  refine ⟨by rw [gR_Wp (by omega), upN_n (by omega)]; exact h0, fun e he => ?_, fun e he => ?_, fun e he => ?_, fun e he => ?_, fun a b ha hb => ?_⟩
  · rw [gR_Wp (by omega), upN_n (by omega)]; exact h1 e he
  · rw [gR_Wp (by omega), upN_n (by omega)]; exact h2 e he
  · rw [gR_Wp (by omega), upN_n (by omega)]; exact h3 e he
  · by_cases z : e = g
    · rw [z, upN_s]; exact gR_Ws _ _ _ _
    · rw [upN_n (by omega), gR_Wk z]; exact h4 e he
  · rw [gR_Wp (by omega)]; exact h5 a b ha hb
theorem ru_w {S : gSt} {q x y : Nat} {v : Int} {r : Nat → Nat} {w : Nat → Nat → Int} (h : Ru S q r w) (hx : x < 8) (hy : y < 8) : Ru (gW S (q + 5 + 1 + x) y (iI v)) q r (wU w x y v) := by
  obtain ⟨h0, h1, h2, h3, h4, h5⟩ := h
  refine ⟨by rw [gR_Wp (by omega)]; exact h0, fun e he => ?_, fun e he => ?_, fun e he => ?_, fun e he => ?_, fun a b ha hb => ?_⟩
  · rw [gR_Wp (by omega)]; exact h1 e he
  · rw [gR_Wp (by omega)]; exact h2 e he
  · rw [gR_Wp (by omega)]; exact h3 e he
  · rw [gR_Wp (by omega)]; exact h4 e he
  · unfold wU
    by_cases z : a = x ∧ b = y
    · rw [if_pos z, z.1, z.2, show q + 6 + x = q + 5 + 1 + x by omega]; exact gR_Ws _ _ _ _
    · rw [if_neg z, gR_W2, if_neg (by omega)]; exact h5 a b ha hb
/-- the rules before a text is read -/
def rI : Nat → Nat := fun k => if k = 0 then 4 else 0
def wI : Nat → Nat → Int := fun _ _ => 0
theorem rI_n {k : Nat} (h : k ≠ 0) : rI k = 0 := if_neg h
theorem RW_I {n : Nat} (h1 : 1 ≤ n) (h8 : n ≤ 8) : RW (upN rI 0 n) wI := by
  have e : ∀ k, k ≠ 0 → upN rI 0 n k = 0 := fun k hk => by rw [upN_n hk, rI_n hk]
  refine ⟨by rw [upN_s]; exact h1, by rw [upN_s]; exact h8, fun g _ => by rw [e _ (by omega)]; omega, fun g _ => by rw [e _ (by omega)]; omega, by rw [e _ (by omega)]; omega, by rw [e _ (by omega)]; omega, fun g _ => by rw [e _ (by omega)]; omega, fun g _ => by rw [e _ (by omega)]; omega, fun g _ _ => ⟨by rw [e _ (by omega)], by rw [e _ (by omega)]⟩, fun _ _ => ⟨by show (-9 : Int) ≤ 0; omega, by show (0 : Int) ≤ 9; omega⟩, fun _ _ => rfl⟩
theorem RW_rI : RW rI wI := by
  have h := RW_I (n := 4) (by omega) (by omega)
  have e : upN rI 0 4 = rI := by
    funext k
    unfold upN rI
    split <;> rfl
  rw [e] at h
  exact h
theorem RW_hat {r : Nat → Nat} {w : Nat → Nat → Int} {g v : Nat} (h : RW r w) (hg : g < r 0) (hv : v ≤ 5) : RW (upN r (1 + g) v) w := by
  obtain ⟨h1, h2, h3, h4, h5, h6, h7, h8, h9, h10⟩ := h
  have e : ∀ k, k ≠ 1 + g → upN r (1 + g) v k = r k := fun k hk => upN_n hk
  refine ⟨by rw [e 0 (by omega)]; exact h1, by rw [e 0 (by omega)]; exact h2, fun x hx => ?_, fun x hx => by rw [e _ (by omega)]; exact h4 x hx, by rw [e _ (by omega)]; exact h5, by rw [e _ (by omega)]; exact h6, fun x hx => by rw [e _ (by omega)]; exact h7 x hx, fun x hx => by rw [e _ (by omega)]; exact h8 x hx, fun x hx hy => by rw [e 0 (by omega)] at hx; rw [e _ (by omega), e _ (by omega)]; exact h9 x hx hy, h10⟩
  by_cases z : x = g
  · rw [z, upN_s]; exact hv
  · rw [e _ (by omega)]; exact h3 x hx
theorem RW_law {r : Nat → Nat} {w : Nat → Nat → Int} {k v : Nat} (h : RW r w) (hk : k < 5) (hv : v ≤ 8) (hv2 : 3 ≤ k → v ≤ 1) : RW (upN r (9 + k) v) w := by
  obtain ⟨h1, h2, h3, h4, h5, h6, h7, h8, h9, h10⟩ := h
  have e : ∀ j, j ≠ 9 + k → upN r (9 + k) v j = r j := fun j hj => upN_n hj
  refine ⟨by rw [e 0 (by omega)]; exact h1, by rw [e 0 (by omega)]; exact h2, fun x hx => by rw [e _ (by omega)]; exact h3 x hx, fun x hx => ?_, ?_, ?_, fun x hx => by rw [e _ (by omega)]; exact h7 x hx, fun x hx => by rw [e _ (by omega)]; exact h8 x hx, fun x hx hy => by rw [e 0 (by omega)] at hx; rw [e _ (by omega), e _ (by omega)]; exact h9 x hx hy, h10⟩
  · by_cases z : x = k
    · rw [z, upN_s]; exact hv
    · rw [e _ (by omega)]; exact h4 x hx
  · by_cases z : k = 3
    · rw [z, show 9 + 3 = 12 from rfl, upN_s]; exact hv2 (by omega)
    · rw [e _ (by omega)]; exact h5
  · by_cases z : k = 4
    · rw [z, show 9 + 4 = 13 from rfl, upN_s]; exact hv2 (by omega)
    · rw [e _ (by omega)]; exact h6
theorem or_lt8 {a x : Nat} (ha : a < 256) (hx : x < 8) : a ||| 2 ^ x < 256 := by
  have h : 2 ^ x < 2 ^ 8 := Nat.pow_lt_pow_right (by omega) hx
  exact Nat.or_lt_two_pow (n := 8) ha h
def tog (r : Nat → Nat) (b x y : Nat) : Nat → Nat := upN (upN r (b + x) (r (b + x) ||| 2 ^ y)) (b + y) (r (b + y) ||| 2 ^ x)
theorem tog_n {r : Nat → Nat} {b x y k : Nat} (h1 : k ≠ b + x) (h2 : k ≠ b + y) : tog r b x y k = r k := by
  unfold tog
  rw [upN_n h2, upN_n h1]
theorem tog_x {r : Nat → Nat} {b x y : Nat} (h : x ≠ y) : tog r b x y (b + x) = r (b + x) ||| 2 ^ y := by
  unfold tog
  rw [upN_n (by omega), upN_s]
theorem tog_y (r : Nat → Nat) (b x y : Nat) : tog r b x y (b + y) = r (b + y) ||| 2 ^ x := by
  unfold tog
  rw [upN_s]
theorem RW_tog {r : Nat → Nat} {w : Nat → Nat → Int} {b x y : Nat} (h : RW r w) (hb : b = 14 ∨ b = 22) (hx : x < r 0) (hy : y < r 0) (hxy : x ≠ y) : RW (tog r b x y) w := by
  obtain ⟨h1, h2, h3, h4, h5, h6, h7, h8, h9, h10⟩ := h
  have e : ∀ k, k < 14 → tog r b x y k = r k := fun k hk => tog_n (by omega) (by omega)
  have m7 : ∀ g, g < 8 → tog r b x y (14 + g) < 256 := fun g hg => by
    by_cases z1 : 14 + g = b + x
    · rw [z1, tog_x hxy]; exact or_lt8 (by rw [← z1]; exact h7 g hg) (by omega)
    · by_cases z2 : 14 + g = b + y
      · rw [z2, tog_y]; exact or_lt8 (by rw [← z2]; exact h7 g hg) (by omega)
      · rw [tog_n z1 z2]; exact h7 g hg
  have m8 : ∀ g, g < 8 → tog r b x y (22 + g) < 256 := fun g hg => by
    by_cases z1 : 22 + g = b + x
    · rw [z1, tog_x hxy]; exact or_lt8 (by rw [← z1]; exact h8 g hg) (by omega)
    · by_cases z2 : 22 + g = b + y
      · rw [z2, tog_y]; exact or_lt8 (by rw [← z2]; exact h8 g hg) (by omega)
      · rw [tog_n z1 z2]; exact h8 g hg
  refine ⟨by rw [e 0 (by omega)]; exact h1, by rw [e 0 (by omega)]; exact h2, fun g hg => by rw [e _ (by omega)]; exact h3 g hg, fun g hg => by rw [e _ (by omega)]; exact h4 g hg, by rw [e _ (by omega)]; exact h5, by rw [e _ (by omega)]; exact h6, m7, m8, fun g hg hg8 => ?_, h10⟩
  rw [e 0 (by omega)] at hg
  rw [tog_n (by omega) (by omega), tog_n (by omega) (by omega)]
  exact h9 g hg hg8
theorem RW_wor {r : Nat → Nat} {w : Nat → Nat → Int} {x y : Nat} {v : Int} (h : RW r w) (h1 : -9 ≤ v) (h2 : v ≤ 9) : RW r (wU (wU w x y v) y x v) := by
  obtain ⟨a1, a2, a3, a4, a5, a6, a7, a8, a9, a10, a11⟩ := h
  refine ⟨a1, a2, a3, a4, a5, a6, a7, a8, a9, fun a b => ?_, fun a b => ?_⟩
  · unfold wU
    split
    · exact ⟨h1, h2⟩
    · split
      · exact ⟨h1, h2⟩
      · exact a10 a b
  · unfold wU
    by_cases z1 : a = y ∧ b = x
    · rw [if_pos z1]
      by_cases z2 : b = y ∧ a = x
      · rw [if_pos z2]
      · rw [if_neg z2, if_pos ⟨z1.2, z1.1⟩]
    · rw [if_neg z1]
      by_cases z3 : a = x ∧ b = y
      · rw [if_pos z3, if_pos ⟨z3.2, z3.1⟩]
      · rw [if_neg z3, if_neg (fun q => z3 ⟨q.2, q.1⟩), if_neg (fun q => z1 ⟨q.2, q.1⟩)]
        exact a11 a b
/-- the class puts two together, or apart -/
theorem c_tog {S : gSt} {q x y : Nat} {r : Nat → Nat} {w : Nat → Nat → Int} (h : Ru S q r w) (hW : RW r w) (hx : x < r 0) (hy : y < r 0) (hxy : x ≠ y) : ∃ S1, fX5_putTogether q (nI x) (nI y) S = some S1 ∧ gFr q (q + 14) S S1 ∧ Ru S1 q (tog r 14 x y) w := by
  have h8 := hW.2.1
  have hr2 := ru_3 (g := y) (v := r (14 + y) ||| 2 ^ x) (ru_3 (g := x) (v := r (14 + x) ||| 2 ^ y) h (by omega)) (by omega)
  refine ⟨_, ?_, (gFr.w0 (by omega) (by omega)).w (by omega) (by omega), hr2⟩
  unfold fX5_putTogether
  rw [c_isOne S (by omega), gBp_s, if_neg (by decide), c_isOne S (by omega), gBp_s, if_neg (by decide), gC_ok (gIn_ok (by omega) (by omega)), gC_ok (gIn_ok (by omega) (by omega)), gN_nI (by omega), h.2.2.2.1 x (by omega), l31, nI_31 (by omega), l1, nI_shl (by omega), Nat.one_mul, nI_orI, gL_s, gC_ok (gIn_ok (by omega) (by omega)), gC_ok (gIn_ok (by omega) (by omega)), gN_nI (by omega), gR_Wk (fun z => hxy z.symm), h.2.2.2.1 y (by omega), nI_31 (by omega), nI_shl (by omega), Nat.one_mul, nI_orI, gL_s]
theorem c_apa {S : gSt} {q x y : Nat} {r : Nat → Nat} {w : Nat → Nat → Int} (h : Ru S q r w) (hW : RW r w) (hx : x < r 0) (hy : y < r 0) (hxy : x ≠ y) : ∃ S1, fX5_putApart q (nI x) (nI y) S = some S1 ∧ gFr q (q + 14) S S1 ∧ Ru S1 q (tog r 22 x y) w := by
  have h8 := hW.2.1
  have hr2 := ru_4 (g := y) (v := r (22 + y) ||| 2 ^ x) (ru_4 (g := x) (v := r (22 + x) ||| 2 ^ y) h (by omega)) (by omega)
  refine ⟨_, ?_, (gFr.w0 (by omega) (by omega)).w (by omega) (by omega), hr2⟩
  unfold fX5_putApart
  rw [c_isOne S (by omega), gBp_s, if_neg (by decide), c_isOne S (by omega), gBp_s, if_neg (by decide), gC_ok (gIn_ok (by omega) (by omega)), gC_ok (gIn_ok (by omega) (by omega)), gN_nI (by omega), h.2.2.2.2.1 x (by omega), l31, nI_31 (by omega), l1, nI_shl (by omega), Nat.one_mul, nI_orI, gL_s, gC_ok (gIn_ok (by omega) (by omega)), gC_ok (gIn_ok (by omega) (by omega)), gN_nI (by omega), gR_Wk (fun z => hxy z.symm), h.2.2.2.2.1 y (by omega), nI_31 (by omega), nI_shl (by omega), Nat.one_mul, nI_orI, gL_s]
theorem c_wor {S : gSt} {q x y : Nat} {v : Int} {r : Nat → Nat} {w : Nat → Nat → Int} (h : Ru S q r w) (hx : x < 8) (hy : y < 8) : ∃ S1, fX5_setWorth q (nI x) (nI y) (iI v) S = some S1 ∧ gFr q (q + 14) S S1 ∧ Ru S1 q r (wU (wU w x y v) y x v) := by
  have hr2 := ru_w (x := y) (y := x) (v := v) (ru_w (x := x) (y := y) (v := v) h hx hy) hy hx
  refine ⟨_, ?_, (gFr.w0 (by omega) (by omega)).w (by omega) (by omega), hr2⟩
  unfold fX5_setWorth
  rw [c_isOne S hx, gBp_s, if_neg (by decide), c_isOne S hy, gBp_s, if_neg (by decide), gC_ok (gIn_ok (by omega) (by omega)), gC_ok (gIn_ok (by omega) (by omega)), gL_s, gC_ok (gIn_ok (by omega) (by omega)), gC_ok (gIn_ok (by omega) (by omega)), gL_s, gN_nI (by omega), gN_nI (by omega)]
/-- the reference's two masks -/
theorem m_tog {S : gSt} {x y b : Nat} {s0 s1 : Int32} {r : Nat → Nat} {w : Nat → Nat → Int} (h : To S 94 r w) (hW : RW r w) (hb : b = 14 ∨ b = 22) (hs : s0 + s1 = nI (94 + b)) (hx : x < r 0) (hy : y < r 0) (hxy : x ≠ y) : ∃ S1, fX11_readsTwo_L121 (nI x) (nI y) s0 s1 S = some S1 ∧ (S1.2 = S.2 ∧ ∀ p k, p ≠ 79 ∨ k < 94 → gR S1 p k = gR S p k) ∧ To S1 94 (tog r b x y) w := by
  have h8 := hW.2.1
  have ht1 := to_r (k := b + x) (v := r (b + x) ||| 2 ^ y) h (by omega)
  have ht2 := to_r (k := b + y) (v := r (b + y) ||| 2 ^ x) ht1 (by omega)
  refine ⟨gW (gW S 79 (94 + (b + x)) (nI (r (b + x) ||| 2 ^ y))) 79 (94 + (b + y)) (nI (r (b + y) ||| 2 ^ x)), ?_, ⟨rfl, fun p k hp => ?_⟩, ht2⟩
  · unfold fX11_readsTwo_L121
    rw [hs, gL_s, nI_add, nI_add, gC_ok (gIn_ok (by omega) (by omega)), gC_ok (gIn_ok (by omega) (by omega)), gN_nI (by omega), show 94 + b + x = 94 + (b + x) by omega, h.1 (b + x) (by omega), l31, nI_31 (by omega), l1, nI_shl (by omega), Nat.one_mul, nI_orI, gL_s, gC_ok (gIn_ok (by omega) (by omega)), gC_ok (gIn_ok (by omega) (by omega)), gN_nI (by omega), show 94 + b + y = 94 + (b + y) by omega, gR_Wk (by omega), h.1 (b + y) (by omega), nI_31 (by omega), nI_shl (by omega), Nat.one_mul, nI_orI, gL_s]
  · rw [gR_W2, if_neg (by omega), gR_W2, if_neg (by omega)]
