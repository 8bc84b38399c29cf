/-! rate, trace, count; needs: 0800 0801 0802 0803 0804 0805 0806 0807 0808 0809 0810 0811 0812 0813 0814 0815 0816 0817 0820 0821 0822 -/
def zt (Z : Rst) (t : Int64) : Rst := (Z.1, Z.2.1, Z.2.2.1, Z.2.2.2.1, t)
theorem RX.wl {S : gSt} {o : Nat} {r f σ : Nat → Nat} {w : Nat → Nat → Int} {v : Int32} {k : Nat} {Z : Rst} (h : RX S o r w f v k σ Z) (t : Int64) : RX (gWL S 0 t) o r w f v k σ (zt Z t) := by
  obtain ⟨h1, h2, h3, h4, h5, h6, h7, h8, h9, -⟩ := h
  exact ⟨h1, h2, h3, h4, h5, h6, h7, h8, h9, show (if (0 : Nat) = 0 then t else S.2 0) = t from if_pos rfl⟩
theorem RX.wlM {S : gSt} {o : Nat} {r f σ : Nat → Nat} {w : Nat → Nat → Int} {v : Int32} {k : Nat} {Z : Rst} (h : RX S o r w f v k σ Z) (t : Int64) : RX (gWL S 77 t) o r w f v k σ Z := by
  obtain ⟨h1, h2, h3, h4, h5, h6, h7, h8, h9, h10⟩ := h
  exact ⟨h1, h2, h3, h4, h5, h6, h7, h8, h9, h10⟩
theorem RM.wl {S : gSt} {r f σ : Nat → Nat} {w : Nat → Nat → Int} {v : Int32} {k : Nat} {Z : Rst} (h : RM S r w f v k σ Z) (t : Int64) : RM (gWL S 77 t) r w f v k σ (zt Z t) := by
  obtain ⟨h1, h2, h3, h4, h5, h6, h7, -⟩ := h
  exact ⟨h1, h2, h3, h4, h5, h6, h7, show (if (77 : Nat) = 77 then t else S.2 77) = t from if_pos rfl⟩
theorem RM.wlX {S : gSt} {r f σ : Nat → Nat} {w : Nat → Nat → Int} {v : Int32} {k : Nat} {Z : Rst} (h : RM S r w f v k σ Z) (t : Int64) : RM (gWL S 0 t) r w f v k σ Z := by
  obtain ⟨h1, h2, h3, h4, h5, h6, h7, h8⟩ := h
  exact ⟨h1, h2, h3, h4, h5, h6, h7, h8⟩
theorem RG.zt {r f σ : Nat → Nat} {w : Nat → Nat → Int} {k : Nat} {Z : Rst} (h : RG r w f k σ Z) (t : Int64) : RG r w f k σ (zt Z t) := h
theorem zt_zt (Z : Rst) (t u : Int64) : zt (zt Z t) u = zt Z u := rfl
def szg (f : Nat → Nat) (n g : Nat) : Nat := cn (fun e => decide (f e = f g)) n
theorem c_rG {S : gSt} {o g : Nat} {r f σ : Nat → Nat} {w : Nat → Nat → Int} {v : Int32} {k : Nat} {Z : Rst} (h : RX S o r w f v k σ Z) (hW : RW r w) (hg : g < r 0) : fX10_rateAsGuest (nI g) S = some (nI (szg f (r 0) g), gWL S 0 (Z.2.2.2.2 + 1)) := by
  have h' := h.wl (Z.2.2.2.2 + 1)
  unfold fX10_rateAsGuest
  rw [gL_s, h.2.2.2.2.2.2.2.2.2, c_partyOf h'.2.2.2.1 hg, gBp_s, c_setOf h'.2.2.2.1 (lt_pts hg), gBp_s, bc_mk _ _ hW.2.1, gBp_s]
  rfl
theorem c_rT {S : gSt} {o g : Nat} {r f σ : Nat → Nat} {w : Nat → Nat → Int} {v : Int32} {k : Nat} {Z : Rst} (h : RX S o r w f v k σ Z) (hW : RW r w) (hg : g < r 0) : ∃ S1, fX10_rateAsTalker (nI g) S = some (nI (szg f (r 0) g) + iI (sP w f (r 0) g (f g)), S1) ∧ RX S1 o r w f v k σ (zt Z (Z.2.2.2.2 + 10 + 1)) ∧ S1 = gWL (gWL S 0 (Z.2.2.2.2 + 10)) 0 (Z.2.2.2.2 + 10 + 1) := by
  have h1 := h.wl (Z.2.2.2.2 + 10)
  have h2 := h1.wl (Z.2.2.2.2 + 10 + 1)
  have e : fX10_rateAsGuest (nI g) (gWL S 0 (Z.2.2.2.2 + 10)) = some (nI (szg f (r 0) g), gWL (gWL S 0 (Z.2.2.2.2 + 10)) 0 (Z.2.2.2.2 + 10 + 1)) := c_rG h1 hW hg
  refine ⟨_, ?_, h2, rfl⟩
  obtain ⟨e1, e2⟩ := c_worthSet h2.2.1 hW h2.2.2.2.1 hg (lt_pts hg)
  unfold fX10_rateAsTalker
  rw [gL_s, h.2.2.2.2.2.2.2.2.2, e, gBd_s, h2.g0, gC_ok h2.gi, c_partyOf h2.2.2.2.1 hg, gBp_s, e1, gBp_s, e2, gBp_s]
theorem c_rL {S : gSt} {o g : Nat} {r f σ : Nat → Nat} {w : Nat → Nat → Int} {v : Int32} {k : Nat} {Z : Rst} (h : RX S o r w f v k σ Z) (hW : RW r w) (hg : g < r 0) : ∃ S1, fX10_rateAsListener (nI g) S = some (nI (szg f (r 0) g) - nI (r (1 + g)), S1) ∧ RX S1 o r w f v k σ (zt Z (Z.2.2.2.2 + 100 + 1)) ∧ S1 = gWL (gWL S 0 (Z.2.2.2.2 + 100)) 0 (Z.2.2.2.2 + 100 + 1) := by
  have h8 := hW.2.1
  have h1 := h.wl (Z.2.2.2.2 + 100)
  have h2 := h1.wl (Z.2.2.2.2 + 100 + 1)
  have e : fX10_rateAsGuest (nI g) (gWL S 0 (Z.2.2.2.2 + 100)) = some (nI (szg f (r 0) g), gWL (gWL S 0 (Z.2.2.2.2 + 100)) 0 (Z.2.2.2.2 + 100 + 1)) := c_rG h1 hW hg
  refine ⟨_, ?_, h2, rfl⟩
  unfold fX10_rateAsListener
  rw [gL_s, h.2.2.2.2.2.2.2.2.2, e, gBd_s, h2.g0, gC_ok h2.gi, c_hatOf h2.2.1 (by omega), gBp_s]
/-- the answer of rate and what it adds -/
def rV (r : Nat → Nat) (w : Nat → Nat → Int) (f : Nat → Nat) (g a : Nat) : Int32 :=
  if a = 0 then nI (szg f (r 0) g) else if a = 1 then nI (szg f (r 0) g) + iI (sP w f (r 0) g (f g)) else if a = 2 then nI (szg f (r 0) g) - nI (r (1 + g)) else if a = 3 then 2 * (nI (szg f (r 0) g) + iI (sP w f (r 0) g (f g))) else if a = 4 then nI (szg f (r 0) g) - nI (r (1 + g)) + nI (f g) else nI (szg f (r 0) g) + nI (pts f (r 0))
def rA (a : Nat) : Int64 := if a = 0 then 1 else if a = 1 then 11 else if a = 2 then 101 else if a = 3 then 1011 else if a = 4 then 10101 else 100001
theorem rA1 : (10 + 1 : Int64) = rA 1 := by decide
theorem rA2 : (100 + 1 : Int64) = rA 2 := by decide
theorem rA3 : (1000 + (10 + 1) : Int64) = rA 3 := by decide
theorem rA4 : (10000 + (100 + 1) : Int64) = rA 4 := by decide
theorem rA5 : (100000 + 1 : Int64) = rA 5 := by decide
theorem a64 (t a b : Int64) : t + a + b = t + (a + b) := Int64.add_assoc t a b
theorem c_rate {S : gSt} {o g a : Nat} {r f σ : Nat → Nat} {w : Nat → Nat → Int} {v : Int32} {k : Nat} {Z : Rst} (h : RX S o r w f v k σ Z) (hW : RW r w) (hg : g < r 0) (ha : a < 6) : ∃ S1 t, fX10_rate (nI a) (nI g) S = some (rV r w f g a, S1) ∧ RX S1 o r w f v k σ (zt Z (Z.2.2.2.2 + rA a)) ∧ S1.1 = S.1 ∧ S1.2 = fun q => if q = 0 then t else S.2 q := by
  have h8 := hW.2.1
  have ig : fX10_isGuest (nI g) S = some 1 := by
    rcases c_isGuest h hW (nI g) with ⟨e, -⟩ | ⟨-, hn⟩
    · exact e
    · exact absurd ⟨g, hg, rfl⟩ hn
  unfold fX10_rate
  rw [ig, gBp_s, if_neg (by decide)]
  have : a = 0 ∨ a = 1 ∨ a = 2 ∨ a = 3 ∨ a = 4 ∨ a = 5 := by omega
  rcases this with rfl | rfl | rfl | rfl | rfl | rfl
  · refine ⟨_, _, ?_, h.wl (Z.2.2.2.2 + 1), rfl, rfl⟩
    rw [if_pos (by decide), c_rG h hW hg, gBd_s]
    rfl
  · obtain ⟨S1, e1, h1, q1⟩ := c_rT h hW hg
    refine ⟨S1, Z.2.2.2.2 + 10 + 1, ?_, by rw [a64, rA1] at h1; exact h1, by rw [q1]; rfl, ?_⟩
    · rw [if_neg (by decide), if_pos (by decide), e1, gBd_s]
      rfl
    · rw [q1]
      funext q
      show (if q = 0 then _ else if q = 0 then _ else S.2 q) = _
      split <;> rfl
  · obtain ⟨S1, e1, h1, q1⟩ := c_rL h hW hg
    refine ⟨S1, Z.2.2.2.2 + 100 + 1, ?_, by rw [a64, rA2] at h1; exact h1, by rw [q1]; rfl, ?_⟩
    · rw [if_neg (by decide), if_neg (by decide), if_pos (by decide), e1, gBd_s]
      rfl
    · rw [q1]
      funext q
      show (if q = 0 then _ else if q = 0 then _ else S.2 q) = _
      split <;> rfl
  · obtain ⟨S1, e1, h1, q1⟩ := c_rT (h.wl (Z.2.2.2.2 + 1000)) hW hg
    have e2 : (zt Z (Z.2.2.2.2 + 1000)).2.2.2.2 + 10 + 1 = Z.2.2.2.2 + rA 3 := by
      show Z.2.2.2.2 + 1000 + 10 + 1 = _
      rw [a64, a64, rA3]
    rw [e2, zt_zt] at h1
    refine ⟨S1, Z.2.2.2.2 + 1000 + 10 + 1, ?_, h1, by rw [q1]; rfl, ?_⟩
    · rw [if_neg (by decide), if_neg (by decide), if_neg (by decide), if_pos (by decide)]
      unfold fX10_rateAsSinger
      rw [gL_s, h.2.2.2.2.2.2.2.2.2, e1, gBd_s, gBd_s]
      rfl
    · rw [q1]
      funext q
      show (if q = 0 then _ else if q = 0 then _ else if q = 0 then _ else S.2 q) = _
      by_cases z : q = 0
      · rw [if_pos z, if_pos z]; rfl
      · rw [if_neg z, if_neg z, if_neg z, if_neg z]
  · obtain ⟨S1, e1, h1, q1⟩ := c_rL (h.wl (Z.2.2.2.2 + 10000)) hW hg
    have e2 : (zt Z (Z.2.2.2.2 + 10000)).2.2.2.2 + 100 + 1 = Z.2.2.2.2 + rA 4 := by
      show Z.2.2.2.2 + 10000 + 100 + 1 = _
      rw [a64, a64, rA4]
    rw [e2, zt_zt] at h1
    refine ⟨S1, Z.2.2.2.2 + 10000 + 100 + 1, ?_, h1, by rw [q1]; rfl, ?_⟩
    · rw [if_neg (by decide), if_neg (by decide), if_neg (by decide), if_neg (by decide), if_pos (by decide)]
      unfold fX10_rateAsDog
      rw [gL_s, h.2.2.2.2.2.2.2.2.2, e1, gBd_s, c_partyOf h1.2.2.2.1 hg, gBp_s, gBd_s]
      rfl
    · rw [q1]
      funext q
      show (if q = 0 then _ else if q = 0 then _ else if q = 0 then _ else S.2 q) = _
      by_cases z : q = 0
      · rw [if_pos z, if_pos z]; rfl
      · rw [if_neg z, if_neg z, if_neg z, if_neg z]
  · have h1 := h.wl (Z.2.2.2.2 + 100000)
    have h2 := h1.wl (Z.2.2.2.2 + 100000 + 1)
    have e := c_rG h1 hW hg
    rw [a64, rA5, zt_zt] at h2
    refine ⟨_, Z.2.2.2.2 + rA 5, ?_, h2, rfl, ?_⟩
    · rw [if_neg (by decide), if_neg (by decide), if_neg (by decide), if_neg (by decide), if_neg (by decide), if_pos (by decide)]
      unfold fX10_rateAsHostess
      rw [gL_s, h.2.2.2.2.2.2.2.2.2, e, gBd_s, show (zt Z (Z.2.2.2.2 + 100000)).2.2.2.2 + 1 = Z.2.2.2.2 + rA 5 from by rw [← rA5]; exact a64 _ _ _, show fX7_parties 36 (gWL (gWL S 0 (Z.2.2.2.2 + 100000)) 0 (Z.2.2.2.2 + rA 5)) = some (nI (pts f (r 0))) from congrArg some h2.2.2.2.1.2.1, gBp_s, gBd_s]
      rfl
    · funext q
      show (if q = 0 then _ else if q = 0 then _ else S.2 q) = _
      by_cases z : q = 0
      · rw [if_pos z, if_pos z]
      · rw [if_neg z, if_neg z, if_neg z]
theorem m_rateL {S : gSt} {g z : Nat} {x1 : Int32} {r f : Nat → Nat} {w : Nat → Nat → Int} (hT : To S 0 r w) (hW : RW r w) (hf : rowAt S 80 (r 0) f) (hC : Can f (r 0)) (hg : g < r 0) : fX11_rate_L46 gFU x1 (nI g) (nI z) (nI z) 0 S = (if x1 = 0 then (fX11_rate_L179 x1 (nI g) (nI z) (nI z + iI (sP w f (r 0) g (f g))) (nI z - nI (r (1 + g))) (gRL S 77) 1 S) else (if x1 = 1 then (fX11_rate_L179 x1 (nI g) (nI z) (nI z + iI (sP w f (r 0) g (f g))) (nI z - nI (r (1 + g))) (gRL S 77) 11 S) else (if x1 = 2 then (fX11_rate_L179 x1 (nI g) (nI z) (nI z + iI (sP w f (r 0) g (f g))) (nI z - nI (r (1 + g))) (gRL S 77) 101 S) else (if x1 = 3 then (fX11_rate_L179 x1 (nI g) (nI z) (nI z + iI (sP w f (r 0) g (f g))) (nI z - nI (r (1 + g))) (gRL S 77) 1011 S) else (if x1 = 4 then (fX11_rate_L179 x1 (nI g) (nI z) (nI z + iI (sP w f (r 0) g (f g))) (nI z - nI (r (1 + g))) (gRL S 77) 10101 S) else (fX11_rate_L179 x1 (nI g) (nI z) (nI z + iI (sP w f (r 0) g (f g))) (nI z - nI (r (1 + g))) (gRL S 77) 100001 S)))))) := by
  have h8 := hW.2.1
  refine forFU (fun m x4 e => fX11_rate_L46 m x1 (nI g) (nI z) x4 (nI e) S) (fun y => y = _) (fun e x4 => x4 = nI z + iI (sP w f e g (f g))) (r 0) (nI z) (by omega) ?_ ?_ (by show nI z = nI z + iI 0; rw [iI_0, Int32.add_zero])
  · rintro m e x4 he rfl
    right
    refine ⟨_, rfl, ?_⟩
    show fX11_rate_L46 (m + 1) x1 (nI g) (nI z) _ (nI e) S = fX11_rate_L46 m x1 (nI g) (nI z) _ (nI (e + 1)) S
    have fe := hC.lt8 h8 he
    have fg := hC.lt8 h8 hg
    have step : sP w f (e + 1) g (f g) = sP w f e g (f g) + (if e ≠ g ∧ decide (f e = f g) = true then w g e else 0) := rfl
    rw [fX11_rate_L46, m_guests (hT.mN hW), gBp_s, if_neg (nI_nleI he (by omega)), nI_1, step]
    by_cases q : e = g
    · rw [if_pos (show nI e = nI g by rw [q]), gL_s, if_neg (fun y => y.1 q), Int.add_zero, Int32.add_zero]
    · rw [if_neg (nI_neI (by omega) (by omega) q), gC_ok (gIn_ok (by omega) (by omega)), gC_ok (gIn_ok (by omega) (by omega)), gN_nI (by omega), gN_nI (by omega), hf e he, hf g hg]
      by_cases y : f e = f g
      · rw [if_pos (show nI (f e) = nI (f g) by rw [y]), l30, l8, nI_mul, nI_add, nI_add, gC_ok (gIn_ok (by omega) (by omega)), gL_s, gN_nI (by omega), hT.w (by omega) (by omega), if_pos ⟨q, decide_eq_true y⟩, Int32.add_assoc, iI_addR]
      · rw [if_neg (nI_neI (by omega) (by omega) y), gL_s, if_neg (fun x => y (of_decide_eq_true x.2)), Int.add_zero, Int32.add_zero]
  · rintro m x4 rfl
    show fX11_rate_L46 (m + 1) x1 (nI g) (nI z) _ (nI (r 0)) S = _
    rw [fX11_rate_L46, m_guests (hT.mN hW), gBp_s, if_pos (nI_le (Nat.le_refl _) (by omega)), l1, nI_add, gC_ok (gIn_ok (by omega) (by omega)), gN_nI (by omega), hT.k (by omega), gL_s]
theorem m_rate {S : gSt} {g a : Nat} {r f σ : Nat → Nat} {w : Nat → Nat → Int} {v : Int32} {k : Nat} {Z : Rst} (h : RM S r w f v k σ Z) (hW : RW r w) (hC : Can f (r 0)) (hg : g < r 0) (ha : a < 6) : fX11_rate (nI a) (nI g) S = some (rV r w f g a, gWL (gW S 77 0 0) 77 (Z.2.2.2.2 + rA a)) := by
  have h8 := hW.2.1
  have h' := h.sc (gW7 S)
  have fg := hC.lt8 h8 hg
  have ig : fX11_isGuest (nI g) (gW S 77 0 0) = some 1 := by
    rcases m_isGuest (h'.mn hW) (nI g) with ⟨e, -⟩ | ⟨-, hn⟩
    · exact e
    · exact absurd ⟨g, hg, rfl⟩ hn
  have hb8 : ∀ e, e < r 0 → f e < 1000000 := fun e he => by have := hC.lt8 h8 he; omega
  have hs := m_sizeOf (q := f g) (h'.mn hW) (by have := g80.1; omega) g80.2 h'.2.1 hb8 (by omega)
  unfold fX11_rate
  rw [gL_s, in_t (n := 6) (by decide) (by omega) (by omega) ⟨a, ha, rfl⟩, gBp_s, if_neg (by decide), ig, gBp_s, if_neg (by decide), gC_ok (gIn_ok (by omega) (by omega)), gN_nI (by omega), h'.2.1 g hg, hs, gBp_s, m_rateL h'.1 hW h'.2.1 hC hg, h'.2.2.2.2.2.2.2]
  unfold fX11_rate_L179 fX11_rate_L250
  have : a = 0 ∨ a = 1 ∨ a = 2 ∨ a = 3 ∨ a = 4 ∨ a = 5 := by omega
  rcases this with rfl | rfl | rfl | rfl | rfl | rfl
  · rw [if_pos (by decide), gL_s, if_pos (by decide)]
    rfl
  · rw [if_neg (by decide), if_pos (by decide), gL_s, if_neg (by decide), if_pos (by decide)]
    rfl
  · rw [if_neg (by decide), if_neg (by decide), if_pos (by decide), gL_s, if_neg (by decide), if_neg (by decide), if_pos (by decide)]
    rfl
  · rw [if_neg (by decide), if_neg (by decide), if_neg (by decide), if_pos (by decide), gL_s, if_neg (by decide), if_neg (by decide), if_neg (by decide), if_pos (by decide)]
    rfl
  · rw [if_neg (by decide), if_neg (by decide), if_neg (by decide), if_neg (by decide), if_pos (by decide), gL_s, if_neg (by decide), if_neg (by decide), if_neg (by decide), if_neg (by decide), if_pos (by decide), gC_ok (gIn_ok (by omega) (by omega)), gN_nI (by omega), show gR (gWL (gW S 77 0 0) 77 (Z.2.2.2.2 + 10101)) 80 g = nI (f g) from h'.2.1 g hg]
    rfl
  · rw [if_neg (by decide), if_neg (by decide), if_neg (by decide), if_neg (by decide), if_neg (by decide), gL_s, if_neg (by decide), if_neg (by decide), if_neg (by decide), if_neg (by decide), if_neg (by decide), m_partiesOf ((h'.wl (Z.2.2.2.2 + 100001)).mn hW) (by have := g80.1; omega) g80.2 (h'.wl (Z.2.2.2.2 + 100001)).2.1 hb8, gBp_s]
    rfl
theorem t_rate (a b : Int32) : Tw (fX10_rate a b) (fX11_rate a b) := by
  rintro S ⟨o, r, w, f, v, k, σ, Z, hG, hX, hM⟩
  have hW := hG.1
  have h8 := hW.2.1
  have hC := hG.2.1
  have hM' := hM.sc (gW7 S)
  have hX' := hX.sc (gW7 S)
  have bad : fX10_rate a b S = some (-1000000, S) → fX11_rate a b S = some (-1000000, gW S 77 0 0) → ∃ v S1 S2, fX10_rate a b S = some (v, S1) ∧ fX11_rate a b S1 = some (v, S2) ∧ Rel S2 := fun e1 e2 => ⟨-1000000, S, _, e1, e2, o, r, w, f, v, k, σ, Z, hG, hX', hM'⟩
  rcases c_isGuest hX hW b with ⟨e1, g, hg, rfl⟩ | ⟨e1, hn⟩
  · rcases cB a (n := 6) (by omega) with ⟨x, hx, rfl⟩ | ⟨hx, -⟩
    · obtain ⟨S1, t, e2, hX1, q1, q2⟩ := c_rate hX hW hg hx
      have hS1 : S1 = gWL S 0 t := by
        show (S1.1, S1.2) = _
        rw [q1, q2]
        rfl
      have hM1 : RM S1 r w f v k σ Z := by rw [hS1]; exact hM.wlX t
      refine ⟨_, S1, _, e2, m_rate hM1 hW hC hg hx, o, r, w, f, v, k, σ, zt Z (Z.2.2.2.2 + rA x), hG.zt _, (hX1.sc (gW7 S1)).wlM _, ?_⟩
      exact (hM1.sc (gW7 S1)).wl _
    · refine bad ?_ ?_
      · unfold fX10_rate
        have ne : ∀ i, i < 6 → ¬ a = nI i := fun i hi y => hx ⟨i, hi, y⟩
        rw [e1, gBp_s, if_neg (by decide), if_neg (show ¬ a = 0 from ne 0 (by omega)), if_neg (show ¬ a = 1 from ne 1 (by omega)), if_neg (show ¬ a = 2 from ne 2 (by omega)), if_neg (show ¬ a = 3 from ne 3 (by omega)), if_neg (show ¬ a = 4 from ne 4 (by omega)), if_neg (show ¬ a = 5 from ne 5 (by omega))]
      · unfold fX11_rate
        rw [gL_s, in_f (n := 6) (by decide) (by omega) (by omega) hx, gBp_s, if_pos rfl]
  · rcases m_isGuest (hM'.mn hW) b with ⟨-, h2⟩ | ⟨m1, -⟩
    · exact absurd h2 hn
    · refine bad ?_ ?_
      · unfold fX10_rate
        rw [e1, gBp_s, if_pos rfl]
      · unfold fX11_rate
        rw [gL_s, m1]
        rcases cB a (n := 6) (by omega) with ⟨x, hx, rfl⟩ | ⟨hx, -⟩
        · rw [in_t (n := 6) (by decide) (by omega) (by omega) ⟨x, hx, rfl⟩, gBp_s, if_neg (by decide), gBp_s, if_pos rfl]
        · rw [in_f (n := 6) (by decide) (by omega) (by omega) hx, gBp_s, if_pos rfl]
theorem t_trace {S : gSt} (h : Rel S) : ∃ t S2, fX10_trace S = some t ∧ fX11_trace S = some (t, S2) ∧ Rel S2 := by
  obtain ⟨o, r, w, f, v, k, σ, Z, hG, hX, hM⟩ := h
  have hM' := hM.sc (gW7 S)
  refine ⟨Z.2.2.2.2, gW S 77 0 0, ?_, ?_, o, r, w, f, v, k, σ, Z, hG, hX.sc (gW7 S), hM'⟩
  · unfold fX10_trace
    rw [hX.2.2.2.2.2.2.2.2.2]
  · unfold fX11_trace
    rw [gL_s, hM'.2.2.2.2.2.2.2]
/-- pairs: the bits of all masks -/
def pb (q : Nat → Nat) (n : Nat) : Nat := sm (fun g => cn (fun e => (q g).testBit e) 8) n
theorem pb_le (q : Nat → Nat) : ∀ n, pb q n ≤ 8 * n
  | 0 => Nat.le_refl _
  | n + 1 => by
    have h1 := pb_le q n
    have h2 := cn_le (fun e => (q n).testBit e) 8
    show pb q n + cn (fun e => (q n).testBit e) 8 ≤ _
    omega
theorem pb_8 {q : Nat → Nat} {n : Nat} : ∀ m, n ≤ m → (∀ g, n ≤ g → g < m → q g = 0) → pb q m = pb q n
  | 0, h, _ => by rw [Nat.le_zero.mp h]
  | m + 1, h, hz => by
    by_cases e : n = m + 1
    · rw [e]
    · show pb q m + cn (fun e => (q m).testBit e) 8 = _
      rw [pb_8 m (by omega) (fun g h1 h2 => hz g h1 (by omega)), hz m (by omega) (by omega)]
      have : cn (fun e => (0 : Nat).testBit e) 8 = 0 := by decide
      rw [this, Nat.add_zero]
theorem c_pairs {S : gSt} {p : Nat} {q : Nat → Nat} (hp : (gLay p).2 = 8) (h : ∀ g, g < 8 → gR S p g = nI (q g)) (hq : ∀ g, g < 8 → q g < 256) : fX5_pairsIn p S = some (nI (pb q 8 / 2)) := by
  unfold fX5_pairsIn
  rw [hp, gL_s]
  have hb := pb_le q
  refine forFU (fun m x g => fX5_pairsIn_L10 p S m x (Int32.ofNat 8) (nI g)) (fun y => y = some (nI (pb q 8 / 2))) (fun g x => x = nI (pb q g)) 8 0 (by omega) ?_ ?_ rfl
  · rintro m g x hg rfl
    right
    refine ⟨_, rfl, ?_⟩
    show fX5_pairsIn_L10 p S (m + 1) (nI (pb q g)) (nI 8) (nI g) = fX5_pairsIn_L10 p S m (nI (pb q (g + 1))) (nI 8) (nI (g + 1))
    rw [fX5_pairsIn_L10, if_neg (nI_nleI hg (by omega)), hp, gC_ok (gIn_ok (by omega) (by omega)), gL_s, gN_nI (by omega), h g hg, bc_ok S (hq g hg), gBp_s, gL_s, nI_add, nI_1]
    rfl
  · rintro m x rfl
    show fX5_pairsIn_L10 p S (m + 1) (nI (pb q 8)) (nI 8) (nI 8) = _
    have := hb 8
    rw [fX5_pairsIn_L10, if_pos (nI_le (Nat.le_refl 8) (by omega)), gC_ok (by decide), l2, nI_div (by omega) (by omega)]
theorem m_countL {S : gSt} {x1 : Int32} {r q : Nat → Nat} {w : Nat → Nat → Int} (hT : To S 0 r w) (hW : RW r w) (hq : ∀ g, g < 8 → q g < 256) (hs : ∀ m x g, g < r 0 → fX11_count_L9 (m + 1) x1 x (nI g) S = fX11_count_L9 m x1 (x + nI (cn (fun e => (q g).testBit e) 8)) (nI (g + 1)) S) : ∃ m, fX11_count_L9 gFU x1 0 0 S = fX11_count_L9 (m + 1) x1 (nI (pb q (r 0))) (nI (r 0)) S := by
  have h8 := hW.2.1
  refine forFU (fun m x g => fX11_count_L9 m x1 x (nI g) S) (fun y => ∃ m, y = fX11_count_L9 (m + 1) x1 (nI (pb q (r 0))) (nI (r 0)) S) (fun g x => x = nI (pb q g)) (r 0) 0 (by omega) ?_ ?_ rfl
  · rintro m g x hg rfl
    right
    refine ⟨_, rfl, ?_⟩
    show fX11_count_L9 (m + 1) x1 (nI (pb q g)) (nI g) S = fX11_count_L9 m x1 (nI (pb q (g + 1))) (nI (g + 1)) S
    rw [hs m _ g hg, nI_add]
    rfl
  · rintro m x rfl
    exact ⟨m, rfl⟩
theorem lay34 {o : Nat} (h : o = 1 ∨ o = 15) : (gLay (o + 3)).2 = 8 ∧ (gLay (o + 4)).2 = 8 := by
  rcases h with rfl | rfl <;> decide
theorem t_count (a : Int32) : Tp (fX10_count a) (fX11_count a) := by
  rintro S ⟨o, r, w, f, v, k, σ, Z, hG, hX, hM⟩
  have hW := hG.1
  have h8 := hW.2.1
  have hM' := hM.sc (gW7 S)
  have hX' := hX.sc (gW7 S)
  have hT := hM'.1
  have mg := m_guests (hT.mN hW)
  have fin : ∀ x, fX10_count a S = some x → fX11_count_L9 gFU a 0 0 (gW S 77 0 0) = some (x, gW S 77 0 0) → ∃ v S2, fX10_count a S = some v ∧ fX11_count a S = some (v, S2) ∧ Rel S2 := fun x e1 e2 => ⟨x, gW S 77 0 0, e1, by unfold fX11_count; rw [gL_s, e2], o, r, w, f, v, k, σ, Z, hG, hX', hM'⟩
  generalize hTe : gW S 77 0 0 = T at *
  have zero : ¬ a = 2 → ¬ a = 3 → ∃ m, fX11_count_L9 gFU a 0 0 T = fX11_count_L9 (m + 1) a (nI (pb (fun _ => 0) (r 0))) (nI (r 0)) T := fun z2 z3 => m_countL (q := fun _ => 0) hT hW (fun _ _ => by omega) (fun m x g hg => by
    rw [fX11_count_L9, mg, gBp_s, if_neg (nI_nleI hg (by omega)), if_neg z2, if_neg z3, gL_s, nI_1]
    rfl)
  by_cases z0 : a = 0
  · obtain ⟨m, e⟩ := zero (by rw [z0]; decide) (by rw [z0]; decide)
    refine fin (nI (r 0)) ?_ ?_
    · unfold fX10_count
      rw [if_pos z0, hX.g0, gC_ok hX.gi, hX.gu, gBp_s]
    · rw [e, fX11_count_L9, mg, gBp_s, if_pos (nI_le (Nat.le_refl _) (by omega)), if_pos z0, gBp_s]
      rfl
  by_cases z1 : a = 1
  · obtain ⟨m, e⟩ := zero (by rw [z1]; decide) (by rw [z1]; decide)
    refine fin (nI k) ?_ ?_
    · unfold fX10_count
      rw [if_neg z0, if_pos z1, show fX6_size 40 S = some (nI k) from congrArg some hX.2.2.2.2.1.1, gBp_s]
    · rw [e, fX11_count_L9, mg, gBp_s, if_pos (nI_le (Nat.le_refl _) (by omega)), if_neg z0, if_pos z1, gC_ok (by decide), show gN 8 = 8 from rfl, hM'.2.2.1.1]
      rfl
  by_cases z2 : a = 2
  · have hq := hW.2.2.2.2.2.2.1
    have e5 : pb (fun g => r (14 + g)) 8 = pb (fun g => r (14 + g)) (r 0) := pb_8 8 h8 (fun g h1 h2 => (hW.2.2.2.2.2.2.2.2.1 g h1 h2).1)
    obtain ⟨m, e⟩ := m_countL (x1 := a) (q := fun g => r (14 + g)) hT hW hq (fun m x g hg => by
      rw [fX11_count_L9, mg, gBp_s, if_neg (nI_nleI hg (by omega)), if_pos z2, l14, nI_add, gC_ok (gIn_ok (by omega) (by omega)), gN_nI (by omega), hT.k (by omega), m_ones T (hq g (by omega)), gBp_s, gL_s, nI_1])
    refine fin (nI (pb (fun g => r (14 + g)) (r 0) / 2)) ?_ ?_
    · unfold fX10_count fX5_pairsTogether
      rw [if_neg z0, if_neg z1, if_pos z2, hX.g0, gC_ok hX.gi, c_pairs (q := fun g => r (14 + g)) (lay34 hX.1.2.2).1 hX.2.1.2.2.2.1 hq, gBp_s, gBp_s, e5]
    · have := pb_le (fun g => r (14 + g)) (r 0)
      rw [e, fX11_count_L9, mg, gBp_s, if_pos (nI_le (Nat.le_refl _) (by omega)), if_neg z0, if_neg z1, m_in, if_pos (by rw [z2]; decide), gBp_s, if_neg (by decide), gC_ok (by decide), l2, nI_div (by omega) (by omega)]
      rfl
  by_cases z3 : a = 3
  · have hq := hW.2.2.2.2.2.2.2.1
    have e5 : pb (fun g => r (22 + g)) 8 = pb (fun g => r (22 + g)) (r 0) := pb_8 8 h8 (fun g h1 h2 => (hW.2.2.2.2.2.2.2.2.1 g h1 h2).2)
    obtain ⟨m, e⟩ := m_countL (x1 := a) (q := fun g => r (22 + g)) hT hW hq (fun m x g hg => by
      rw [fX11_count_L9, mg, gBp_s, if_neg (nI_nleI hg (by omega)), if_neg z2, if_pos z3, l22, nI_add, gC_ok (gIn_ok (by omega) (by omega)), gN_nI (by omega), hT.k (by omega), m_ones T (hq g (by omega)), gBp_s, gL_s, nI_1])
    refine fin (nI (pb (fun g => r (22 + g)) (r 0) / 2)) ?_ ?_
    · unfold fX10_count fX5_pairsApart
      rw [if_neg z0, if_neg z1, if_neg z2, if_pos z3, hX.g0, gC_ok hX.gi, c_pairs (q := fun g => r (22 + g)) (lay34 hX.1.2.2).2 hX.2.1.2.2.2.2.1 hq, gBp_s, gBp_s, e5]
    · have := pb_le (fun g => r (22 + g)) (r 0)
      rw [e, fX11_count_L9, mg, gBp_s, if_pos (nI_le (Nat.le_refl _) (by omega)), if_neg z0, if_neg z1, m_in, if_pos (by rw [z3]; decide), gBp_s, if_neg (by decide), gC_ok (by decide), l2, nI_div (by omega) (by omega)]
      rfl
  have nin : ¬ (2 ≤ a ∧ a ≤ 3) := fun y => by
    obtain ⟨i, hi, e⟩ := nI_of2 (M := 3) (n := 3) rfl (fun q => absurd (Int32.lt_of_le_of_lt y.1 q) (by decide)) y.2
    have : i = 0 ∨ i = 1 ∨ i = 2 ∨ i = 3 := by omega
    rcases this with rfl | rfl | rfl | rfl
    · exact z0 e
    · exact z1 e
    · exact z2 e
    · exact z3 e
  obtain ⟨m, e⟩ := zero z2 z3
  by_cases z4 : a = 4
  · refine fin (nI Z.2.2.1) ?_ ?_
    · unfold fX10_count
      rw [if_neg z0, if_neg z1, if_neg z2, if_neg z3, if_pos z4, show fX8_length S = some (nI Z.2.2.1) from congrArg some hX.2.2.2.2.2.2.2.2.1.1, gBp_s]
    · rw [e, fX11_count_L9, mg, gBp_s, if_pos (nI_le (Nat.le_refl _) (by omega)), if_neg z0, if_neg z1, m_in, if_neg nin, gBp_s, if_pos rfl, if_pos z4, hM'.2.2.2.2.2.2.1.1]
      rfl
  · refine fin (-1) ?_ ?_
    · unfold fX10_count
      rw [if_neg z0, if_neg z1, if_neg z2, if_neg z3, if_neg z4]
    · rw [e, fX11_count_L9, mg, gBp_s, if_pos (nI_le (Nat.le_refl _) (by omega)), if_neg z0, if_neg z1, m_in, if_neg nin, gBp_s, if_pos rfl, if_neg z4]
      rfl
