/-! the items of two guests, in step; needs: 0800 0801 0802 0803 0804 0805 0806 0807 0808 0809 0810 0811 0812 0813 0814 0815 0816 0821 0822 0829 0830 0831 0832 0833 0834 0835 08352 -/
theorem gBp_some {τ : Type} (f : Option gSt) (K : gSt → Option τ) : gBp (gBp f (fun S => some S)) K = gBp f K := by
  cases f with
  | none => rfl
  | some S => rfl
theorem iI_negN (v : Nat) : iI (-(v : Int)) = -nI v := by
  show Int32.ofInt (-(v : Int)) = -Int32.ofNat v
  rw [Int32.ofInt_neg]
  rfl
theorem it_tog {Sx Sm : gSt} {q tl : Nat} {tx r : Nat → Nat} {w : Nat → Nat → Int} {t : Nat × Nat × Nat × Nat} {k26 : Int32 → gSt → Option (Int32 × gSt)} {x1 : Int32} (hX : Txt tl tx) (hq : gIsRu q = true) (hW : RW r w) (h : AtX Sx q tl tx r w t) (hm : AtM Sm tl tx r w (tk tl tx t.2.2.2)) (h4 : t.1 ≠ 4) (he : t.2.2.2 ≤ tl) : Out q tl tx Sx Sm (fun S => k26 (x1 + 1) S) t.2.2.2 (fX4_readTogether Sx) (gBp (fX11_readsItem 7 Sm) (fun S => fX11_room_L141 k26 x1 S)) := by
  unfold fX4_readTogether fX11_readsItem fX11_readsItem_L129
  rw [if_neg (by decide), if_neg (by decide), if_pos (by decide), if_pos (by decide), gBp_some]
  refine it_two hX hq hW h hm h4 he (fun S1 S2 x y t' hx hy hxy h1 h14 h1e h6 h7 h2 => ?_)
  obtain ⟨S3, e3, F3, r3⟩ := c_tog h1.2.2.1 hW hx hy hxy
  obtain ⟨S4, e4, F4, r4⟩ := m_tog (b := 14) (s0 := 94) (s1 := 14) h2.2.2.1 hW (by omega) rfl hx hy hxy
  have em : M57 7 (nI x) (nI y) S2 = some S4 := by
    unfold M57 fX11_readsTwo_L84 fX11_readsTwo_L106
    rw [if_neg (by decide), if_neg (by decide), m_well_t h2.1, gBp_s, if_neg (by decide), if_pos rfl, if_pos rfl, e4]
  rw [em, gBp_s, h1.q1 hq, gC_ok hq, h6, h7, e3, gBp_s]
  exact (semi hX hq (RW_tog hW (by omega) hx hy hxy) (h1.set hq F3 r3) (h2.set F4 r4) h14 h1e).tr F3.rd (gMd.of9 F4) (Nat.le_refl _)
theorem it_apa {Sx Sm : gSt} {q tl : Nat} {tx r : Nat → Nat} {w : Nat → Nat → Int} {t : Nat × Nat × Nat × Nat} {k26 : Int32 → gSt → Option (Int32 × gSt)} {x1 : Int32} (hX : Txt tl tx) (hq : gIsRu q = true) (hW : RW r w) (h : AtX Sx q tl tx r w t) (hm : AtM Sm tl tx r w (tk tl tx t.2.2.2)) (h4 : t.1 ≠ 4) (he : t.2.2.2 ≤ tl) : Out q tl tx Sx Sm (fun S => k26 (x1 + 1) S) t.2.2.2 (fX4_readApart Sx) (gBp (fX11_readsItem 8 Sm) (fun S => fX11_room_L141 k26 x1 S)) := by
  unfold fX4_readApart fX11_readsItem fX11_readsItem_L129
  rw [if_neg (by decide), if_neg (by decide), if_pos (by decide), if_pos (by decide), gBp_some]
  refine it_two hX hq hW h hm h4 he (fun S1 S2 x y t' hx hy hxy h1 h14 h1e h6 h7 h2 => ?_)
  obtain ⟨S3, e3, F3, r3⟩ := c_apa h1.2.2.1 hW hx hy hxy
  obtain ⟨S4, e4, F4, r4⟩ := m_tog (b := 22) (s0 := 94) (s1 := 22) h2.2.2.1 hW (by omega) rfl hx hy hxy
  have em : M57 8 (nI x) (nI y) S2 = some S4 := by
    unfold M57 fX11_readsTwo_L84 fX11_readsTwo_L106
    rw [if_neg (by decide), if_neg (by decide), m_well_t h2.1, gBp_s, if_neg (by decide), if_neg (by decide), if_pos rfl, if_neg (by decide), e4]
  rw [em, gBp_s, h1.q1 hq, gC_ok hq, h6, h7, e3, gBp_s]
  exact (semi hX hq (RW_tog hW (by omega) hx hy hxy) (h1.set hq F3 r3) (h2.set F4 r4) h14 h1e).tr F3.rd (gMd.of9 F4) (Nat.le_refl _)
theorem it_wor {Sx Sm : gSt} {q tl : Nat} {tx r : Nat → Nat} {w : Nat → Nat → Int} {t : Nat × Nat × Nat × Nat} {k26 : Int32 → gSt → Option (Int32 × gSt)} {x1 : Int32} (hX : Txt tl tx) (hq : gIsRu q = true) (hW : RW r w) (h : AtX Sx q tl tx r w t) (hm : AtM Sm tl tx r w (tk tl tx t.2.2.2)) (h4 : t.1 ≠ 4) (he : t.2.2.2 ≤ tl) : Out q tl tx Sx Sm (fun S => k26 (x1 + 1) S) t.2.2.2 (fX4_readWorth 1 Sx) (gBp (fX11_readsItem 9 Sm) (fun S => fX11_room_L141 k26 x1 S)) := by
  have h8W := hW.2.1
  unfold fX4_readWorth fX11_readsItem fX11_readsItem_L129
  rw [if_neg (by decide), if_neg (by decide), if_pos (by decide), if_pos (by decide), gBp_some]
  refine it_two hX hq hW h hm h4 he (fun S1 S2 x y t' hx hy hxy h1 h14 h1e h6 h7 h2 => ?_)
  have e57 : gBp (M57 9 (nI x) (nI y) S2) (fun S => fX11_room_L141 k26 x1 S) = gBd (fX11_number 0 9 S2) (fun v_1 S_2 => gBp (fX11_readsTwo_L84 9 (nI x) (nI y) v_1 S_2) (fun S => fX11_room_L141 k26 x1 S)) := by
    unfold M57 fX11_readsTwo_L73
    rw [if_pos rfl, gBp_Bd]
  rw [e57]
  have ok := tk_ok (tx := tx) h1e
  refine numb (a := 0) (b := 9) hX hq h1 h2 h14 h1e rfl rfl (by omega) (by omega) (fun S s hs hf => ⟨S, ?_, gMd.rf, hf⟩) (fun S3 S4 on F3 F4 h3 h35 h34 => ?_)
  · unfold fX11_readsTwo_L84
    rw [m_well_f hf hs, gBp_s, if_pos rfl, gBp_s, L141_f hf hs]
  · generalize tk tl tx t'.2.2.2 = u at *
    obtain ⟨o1, o2, o3⟩ := on
    have hok3 := ok.2.2.1
    have g6 : gR S3 31 6 = nI x := by rw [F3.2 31 6 (by omega)]; exact h6
    have g7 : gR S3 31 7 = nI y := by rw [F3.2 31 7 (by omega)]; exact h7
    obtain ⟨S5, e5, F5, r5⟩ := c_wor (q := q) (x := x) (y := y) (v := (u.2.1 : Int)) h3.2.2.1 (by omega) (by omega)
    have hv : 1 * nI u.2.1 = iI ((u.2.1 : Int)) := by rw [Int32.one_mul]; rfl
    have ix : (124 : Int32) + 8 * nI x + nI y = nI (94 + (30 + 8 * x + y)) := by
      rw [show (124 : Int32) = nI 124 from rfl, l8, nI_mul, nI_add, nI_add]
      congr 1
      omega
    have iy : (124 : Int32) + 8 * nI y + nI x = nI (94 + (30 + 8 * y + x)) := by
      rw [show (124 : Int32) = nI 124 from rfl, l8, nI_mul, nI_add, nI_add]
      congr 1
      omega
    have hmv : nI u.2.1 = iI ((u.2.1 : Int)) := rfl
    have em : fX11_readsTwo_L84 9 (nI x) (nI y) (nI u.2.1) S4 = some (gW (gW S4 79 (94 + (30 + 8 * x + y)) (iI ((u.2.1 : Int)))) 79 (94 + (30 + 8 * y + x)) (iI ((u.2.1 : Int)))) := by
      unfold fX11_readsTwo_L84 fX11_readsTwo_L184
      rw [m_well_t h34.1, gBp_s, if_neg (by decide), if_neg (by decide), if_neg (by decide), if_pos rfl, ix, gC_ok (gIn_ok (by omega) (by omega)), gN_nI (by omega), gL_s, if_pos rfl, iy, gC_ok (gIn_ok (by omega) (by omega)), gN_nI (by omega), gL_s, hmv]
    rw [em, gBp_s, h3.q1 hq, gC_ok hq, g6, g7, h35, hv, e5, gBp_s]
    have hxx := h3.set hq F5 r5
    have t1 := to_w (x := x) (y := y) (v := (u.2.1 : Int)) h34.2.2.1 (by omega) (by omega)
    have t2 := to_w (x := y) (y := x) (v := (u.2.1 : Int)) t1 (by omega) (by omega)
    have hmm := (h34.set (w9 S4 (by omega)) t1).set (w9 _ (by omega)) t2
    exact (semi hX hq (RW_wor hW (by omega) (by omega)) hxx hmm (by omega) hok3).tr F5.rd ((gMd.rf.w9 (by omega)).w9 (by omega)) (Nat.le_refl _)
theorem it_cost {Sx Sm : gSt} {q tl : Nat} {tx r : Nat → Nat} {w : Nat → Nat → Int} {t : Nat × Nat × Nat × Nat} {k26 : Int32 → gSt → Option (Int32 × gSt)} {x1 : Int32} (hX : Txt tl tx) (hq : gIsRu q = true) (hW : RW r w) (h : AtX Sx q tl tx r w t) (hm : AtM Sm tl tx r w (tk tl tx t.2.2.2)) (h4 : t.1 ≠ 4) (he : t.2.2.2 ≤ tl) : Out q tl tx Sx Sm (fun S => k26 (x1 + 1) S) t.2.2.2 (fX4_readWorth (-1) Sx) (gBp (fX11_readsItem 10 Sm) (fun S => fX11_room_L141 k26 x1 S)) := by
  have h8W := hW.2.1
  unfold fX4_readWorth fX11_readsItem fX11_readsItem_L129
  rw [if_neg (by decide), if_neg (by decide), if_pos (by decide), if_pos (by decide), gBp_some]
  refine it_two hX hq hW h hm h4 he (fun S1 S2 x y t' hx hy hxy h1 h14 h1e h6 h7 h2 => ?_)
  have e57 : gBp (M57 10 (nI x) (nI y) S2) (fun S => fX11_room_L141 k26 x1 S) = gBd (fX11_number 0 9 S2) (fun v_1 S_2 => gBp (fX11_readsTwo_L84 10 (nI x) (nI y) v_1 S_2) (fun S => fX11_room_L141 k26 x1 S)) := by
    unfold M57 fX11_readsTwo_L73
    rw [if_neg (by decide), if_pos rfl, gBp_Bd]
  rw [e57]
  have ok := tk_ok (tx := tx) h1e
  refine numb (a := 0) (b := 9) hX hq h1 h2 h14 h1e rfl rfl (by omega) (by omega) (fun S s hs hf => ⟨S, ?_, gMd.rf, hf⟩) (fun S3 S4 on F3 F4 h3 h35 h34 => ?_)
  · unfold fX11_readsTwo_L84
    rw [m_well_f hf hs, gBp_s, if_pos rfl, gBp_s, L141_f hf hs]
  · generalize tk tl tx t'.2.2.2 = u at *
    obtain ⟨o1, o2, o3⟩ := on
    have hok3 := ok.2.2.1
    have g6 : gR S3 31 6 = nI x := by rw [F3.2 31 6 (by omega)]; exact h6
    have g7 : gR S3 31 7 = nI y := by rw [F3.2 31 7 (by omega)]; exact h7
    obtain ⟨S5, e5, F5, r5⟩ := c_wor (q := q) (x := x) (y := y) (v := -(u.2.1 : Int)) h3.2.2.1 (by omega) (by omega)
    have hv : (-1) * nI u.2.1 = iI (-(u.2.1 : Int)) := by rw [iI_negN, show (-1 : Int32) = -(1 : Int32) from rfl, Int32.neg_mul, Int32.one_mul]
    have ix : (124 : Int32) + 8 * nI x + nI y = nI (94 + (30 + 8 * x + y)) := by
      rw [show (124 : Int32) = nI 124 from rfl, l8, nI_mul, nI_add, nI_add]
      congr 1
      omega
    have iy : (124 : Int32) + 8 * nI y + nI x = nI (94 + (30 + 8 * y + x)) := by
      rw [show (124 : Int32) = nI 124 from rfl, l8, nI_mul, nI_add, nI_add]
      congr 1
      omega
    have hmv : -nI u.2.1 = iI (-(u.2.1 : Int)) := (iI_negN u.2.1).symm
    have em : fX11_readsTwo_L84 10 (nI x) (nI y) (nI u.2.1) S4 = some (gW (gW S4 79 (94 + (30 + 8 * x + y)) (iI (-(u.2.1 : Int)))) 79 (94 + (30 + 8 * y + x)) (iI (-(u.2.1 : Int)))) := by
      unfold fX11_readsTwo_L84 fX11_readsTwo_L184
      rw [m_well_t h34.1, gBp_s, if_neg (by decide), if_neg (by decide), if_neg (by decide), if_neg (by decide), ix, gC_ok (gIn_ok (by omega) (by omega)), gN_nI (by omega), gL_s, if_neg (by decide), iy, gC_ok (gIn_ok (by omega) (by omega)), gN_nI (by omega), gL_s, hmv]
    rw [em, gBp_s, h3.q1 hq, gC_ok hq, g6, g7, h35, hv, e5, gBp_s]
    have hxx := h3.set hq F5 r5
    have t1 := to_w (x := x) (y := y) (v := -(u.2.1 : Int)) h34.2.2.1 (by omega) (by omega)
    have t2 := to_w (x := y) (y := x) (v := -(u.2.1 : Int)) t1 (by omega) (by omega)
    have hmm := (h34.set (w9 S4 (by omega)) t1).set (w9 _ (by omega)) t2
    exact (semi hX hq (RW_wor hW (by omega) (by omega)) hxx hmm (by omega) hok3).tr F5.rd ((gMd.rf.w9 (by omega)).w9 (by omega)) (Nat.le_refl _)
