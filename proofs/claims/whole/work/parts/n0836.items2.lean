/-! the items of two guests, in step; needs: 0800 0801 0802 0803 0804 0805 0806 0807 0808 0809 0810 0811 0812 0813 0814 0815 0816 0821 0822 0829 0830 0831 0832 0833 0834 0835 08352 -/
theorem gBp_some {τ : Type} (f : Option gSt) (K : gSt → Option τ) : gBp (gBp f (fun S => some S)) K = gBp f K := by
  cases f with
  | none => rfl
  | some S => rfl
theorem iI_negN (v : Nat) : iI (-(v : Int)) = -nI v := by
  show Int32.ofInt (-(v : Int)) = -Int32.ofNat v
  rw [Int32.ofInt_neg]
  rfl
theorem it_tog {Sx Sm : gSt} {q tl : Nat} {tx r : Nat → Nat} {w : Nat → Nat → Int} {t : Nat × Nat × Nat × Nat} {k26 : Int32 → gSt → Option (Int32 × gSt)} {x1 : Int32} (hX : Txt tl tx) (hq : gIsRu q = true) (hW : RW r w) (h : AtX Sx q tl tx r w t) (hm : AtM Sm tl tx r w (tk tl tx t.2.2.2)) (h4 : t.1 ≠ 4) (he : t.2.2.2 ≤ tl) : Out q tl tx Sx Sm (fun S => k26 (x1 + 1) S) t.2.2.2 (cRest (nI 7) Sx) (gBp (fX11_readsItem 7 Sm) (fun S => fX11_room_L141 k26 x1 S)) := by
  obtain ⟨n, en⟩ := cRest_go (V := nI 7) (d := nI 2) (S := Sx) (c_numbersOf Sx (by omega))
  unfold fX11_readsItem fX11_readsItem_L129
  rw [if_neg (by decide), if_neg (by decide), if_pos (by decide), if_pos (by decide), gBp_some, en]
  refine it_two (v := 7) hX hq hW (by omega) (by omega) (show ¬ nI 2 ≤ nI 0 by decide) (show ¬ nI 2 ≤ nI 1 by decide) h hm h4 he (fun S1 S2 x y t' hx hy hxy h1 h14 h1e h6 h7 h2 => ?_)
  obtain ⟨S4, e4, F4, r4⟩ := m_tog (b := 14) (s0 := 94) (s1 := 14) h2.2.2.1 hW (by omega) rfl hx hy hxy
  have em : M57 7 (nI x) (nI y) S2 = some S4 := by
    unfold M57 fX11_readsTwo_L84 fX11_readsTwo_L106
    rw [if_neg (by decide), if_neg (by decide), m_well_t h2.1, gBp_s, if_neg (by decide), if_pos rfl, if_pos rfl, e4]
  rw [em, gBp_s, cL_e (show nI 2 ≤ nI 2 by decide)]
  refine (semi hX hq (RW_tog hW (by omega) hx hy hxy) h1 (h2.set F4 r4) h14 h1e (fun S6 F6 g6 => ?_)).tr gRd.rf (gMd.of9 F4) (Nat.le_refl _)
  obtain ⟨S3, e3, F3, r3⟩ := c_tog g6.2.2.1 hW hx hy hxy
  refine ⟨S3, ?_, F3, r3⟩
  rw [tell_7 (g6.q1 hq) hq, F6.2 87 0 (by omega), F6.2 87 1 (by omega), h6, h7, e3]
theorem it_apa {Sx Sm : gSt} {q tl : Nat} {tx r : Nat → Nat} {w : Nat → Nat → Int} {t : Nat × Nat × Nat × Nat} {k26 : Int32 → gSt → Option (Int32 × gSt)} {x1 : Int32} (hX : Txt tl tx) (hq : gIsRu q = true) (hW : RW r w) (h : AtX Sx q tl tx r w t) (hm : AtM Sm tl tx r w (tk tl tx t.2.2.2)) (h4 : t.1 ≠ 4) (he : t.2.2.2 ≤ tl) : Out q tl tx Sx Sm (fun S => k26 (x1 + 1) S) t.2.2.2 (cRest (nI 8) Sx) (gBp (fX11_readsItem 8 Sm) (fun S => fX11_room_L141 k26 x1 S)) := by
  obtain ⟨n, en⟩ := cRest_go (V := nI 8) (d := nI 2) (S := Sx) (c_numbersOf Sx (by omega))
  unfold fX11_readsItem fX11_readsItem_L129
  rw [if_neg (by decide), if_neg (by decide), if_pos (by decide), if_pos (by decide), gBp_some, en]
  refine it_two (v := 8) hX hq hW (by omega) (by omega) (show ¬ nI 2 ≤ nI 0 by decide) (show ¬ nI 2 ≤ nI 1 by decide) h hm h4 he (fun S1 S2 x y t' hx hy hxy h1 h14 h1e h6 h7 h2 => ?_)
  obtain ⟨S4, e4, F4, r4⟩ := m_tog (b := 22) (s0 := 94) (s1 := 22) h2.2.2.1 hW (by omega) rfl hx hy hxy
  have em : M57 8 (nI x) (nI y) S2 = some S4 := by
    unfold M57 fX11_readsTwo_L84 fX11_readsTwo_L106
    rw [if_neg (by decide), if_neg (by decide), m_well_t h2.1, gBp_s, if_neg (by decide), if_neg (by decide), if_pos rfl, if_neg (by decide), e4]
  rw [em, gBp_s, cL_e (show nI 2 ≤ nI 2 by decide)]
  refine (semi hX hq (RW_tog hW (by omega) hx hy hxy) h1 (h2.set F4 r4) h14 h1e (fun S6 F6 g6 => ?_)).tr gRd.rf (gMd.of9 F4) (Nat.le_refl _)
  obtain ⟨S3, e3, F3, r3⟩ := c_apa g6.2.2.1 hW hx hy hxy
  refine ⟨S3, ?_, F3, r3⟩
  rw [tell_8 (g6.q1 hq) hq, F6.2 87 0 (by omega), F6.2 87 1 (by omega), h6, h7, e3]
theorem it_wor {Sx Sm : gSt} {q tl : Nat} {tx r : Nat → Nat} {w : Nat → Nat → Int} {t : Nat × Nat × Nat × Nat} {k26 : Int32 → gSt → Option (Int32 × gSt)} {x1 : Int32} (hX : Txt tl tx) (hq : gIsRu q = true) (hW : RW r w) (h : AtX Sx q tl tx r w t) (hm : AtM Sm tl tx r w (tk tl tx t.2.2.2)) (h4 : t.1 ≠ 4) (he : t.2.2.2 ≤ tl) : Out q tl tx Sx Sm (fun S => k26 (x1 + 1) S) t.2.2.2 (cRest (nI 9) Sx) (gBp (fX11_readsItem 9 Sm) (fun S => fX11_room_L141 k26 x1 S)) := by
  have h8W := hW.2.1
  obtain ⟨n, en⟩ := cRest_go (V := nI 9) (d := nI 3) (S := Sx) (c_numbersOf Sx (by omega))
  unfold fX11_readsItem fX11_readsItem_L129
  rw [if_neg (by decide), if_neg (by decide), if_pos (by decide), if_pos (by decide), gBp_some, en]
  refine it_two (v := 9) hX hq hW (by omega) (by omega) (show ¬ nI 3 ≤ nI 0 by decide) (show ¬ nI 3 ≤ nI 1 by decide) h hm h4 he (fun S1 S2 x y t' hx hy hxy h1 h14 h1e h6 h7 h2 => ?_)
  have e57 : gBp (M57 9 (nI x) (nI y) S2) (fun S => fX11_room_L141 k26 x1 S) = gBd (fX11_number 0 9 S2) (fun v_1 S_2 => gBp (fX11_readsTwo_L84 9 (nI x) (nI y) v_1 S_2) (fun S => fX11_room_L141 k26 x1 S)) := by
    unfold M57 fX11_readsTwo_L73
    rw [if_pos rfl, gBp_Bd]
  rw [e57, cL_go (show ¬ nI 3 ≤ nI 2 by decide) (show ¬ (3 : Int32) ≤ nI 2 by decide)]
  have ok := tk_ok (tx := tx) h1e
  refine numb (a := 0) (b := 9) (V := nI 9) (I := nI 2) hX hq h1 h2 h14 h1e rfl rfl (by omega) (by omega) (fun S => c_lowest S (by omega)) (fun S t hS => c_highest hS hq hW (by omega) (by omega)) (fun S s hs hf => ⟨S, ?_, gMd.rf, hf⟩) (fun S3 S4 on F3 F4 h3 h35 h34 => ?_)
  · unfold fX11_readsTwo_L84
    rw [m_well_f hf hs, gBp_s, if_pos rfl, gBp_s, L141_f hf hs]
  · generalize tk tl tx t'.2.2.2 = u at *
    obtain ⟨o1, o2, o3⟩ := on
    have hok3 := ok.2.2.1
    have ix : (124 : Int32) + 8 * nI x + nI y = nI (94 + (30 + 8 * x + y)) := by
      rw [show (124 : Int32) = nI 124 from rfl, l8, nI_mul, nI_add, nI_add]
      congr 1
      omega
    have iy : (124 : Int32) + 8 * nI y + nI x = nI (94 + (30 + 8 * y + x)) := by
      rw [show (124 : Int32) = nI 124 from rfl, l8, nI_mul, nI_add, nI_add]
      congr 1
      omega
    have hmv : nI u.2.1 = iI ((u.2.1 : Int)) := rfl
    have em : fX11_readsTwo_L84 9 (nI x) (nI y) (nI u.2.1) S4 = some (gW (gW S4 79 (94 + (30 + 8 * x + y)) (iI ((u.2.1 : Int)))) 79 (94 + (30 + 8 * y + x)) (iI ((u.2.1 : Int)))) := by
      unfold fX11_readsTwo_L84 fX11_readsTwo_L184
      rw [m_well_t h34.1, gBp_s, if_neg (by decide), if_neg (by decide), if_neg (by decide), if_pos rfl, ix, gC_ok (gIn_ok (by omega) (by omega)), gN_nI (by omega), gL_s, if_pos rfl, iy, gC_ok (gIn_ok (by omega) (by omega)), gN_nI (by omega), gL_s, hmv]
    rw [em, gBp_s, cC_2, h35, cL_e (show nI 3 ≤ nI 3 by decide)]
    have t1 := to_w (x := x) (y := y) (v := (u.2.1 : Int)) h34.2.2.1 (by omega) (by omega)
    have t2 := to_w (x := y) (y := x) (v := (u.2.1 : Int)) t1 (by omega) (by omega)
    have hmm := (h34.set (w9 S4 (by omega)) t1).set (w9 _ (by omega)) t2
    refine (semi hX hq (RW_wor hW (by omega) (by omega)) (h3.w87 (k := 2) (v := nI u.2.1) hq) hmm (by omega) hok3 (fun S6 F6 h6' => ?_)).tr gRd.rf.w87 ((gMd.rf.w9 (by omega)).w9 (by omega)) (Nat.le_refl _)
    have g0 : gR S6 87 0 = nI x := by rw [F6.2 87 0 (by omega), gR_Wk (by omega), F3.2 87 0 (by omega)]; exact h6
    have g1 : gR S6 87 1 = nI y := by rw [F6.2 87 1 (by omega), gR_Wk (by omega), F3.2 87 1 (by omega)]; exact h7
    have g2 : gR S6 87 2 = nI u.2.1 := by rw [F6.2 87 2 (by omega)]; exact gR_Ws _ _ _ _
    obtain ⟨S5, e5, F5, r5⟩ := c_wor (q := q) (x := x) (y := y) (v := (u.2.1 : Int)) h6'.2.2.1 (by omega) (by omega)
    refine ⟨S5, ?_, F5, r5⟩
    rw [tell_9 (h6'.q1 hq) hq, g0, g1, g2, hmv, e5]
theorem it_cost {Sx Sm : gSt} {q tl : Nat} {tx r : Nat → Nat} {w : Nat → Nat → Int} {t : Nat × Nat × Nat × Nat} {k26 : Int32 → gSt → Option (Int32 × gSt)} {x1 : Int32} (hX : Txt tl tx) (hq : gIsRu q = true) (hW : RW r w) (h : AtX Sx q tl tx r w t) (hm : AtM Sm tl tx r w (tk tl tx t.2.2.2)) (h4 : t.1 ≠ 4) (he : t.2.2.2 ≤ tl) : Out q tl tx Sx Sm (fun S => k26 (x1 + 1) S) t.2.2.2 (cRest (nI 10) Sx) (gBp (fX11_readsItem 10 Sm) (fun S => fX11_room_L141 k26 x1 S)) := by
  have h8W := hW.2.1
  obtain ⟨n, en⟩ := cRest_go (V := nI 10) (d := nI 3) (S := Sx) (c_numbersOf Sx (by omega))
  unfold fX11_readsItem fX11_readsItem_L129
  rw [if_neg (by decide), if_neg (by decide), if_pos (by decide), if_pos (by decide), gBp_some, en]
  refine it_two (v := 10) hX hq hW (by omega) (by omega) (show ¬ nI 3 ≤ nI 0 by decide) (show ¬ nI 3 ≤ nI 1 by decide) h hm h4 he (fun S1 S2 x y t' hx hy hxy h1 h14 h1e h6 h7 h2 => ?_)
  have e57 : gBp (M57 10 (nI x) (nI y) S2) (fun S => fX11_room_L141 k26 x1 S) = gBd (fX11_number 0 9 S2) (fun v_1 S_2 => gBp (fX11_readsTwo_L84 10 (nI x) (nI y) v_1 S_2) (fun S => fX11_room_L141 k26 x1 S)) := by
    unfold M57 fX11_readsTwo_L73
    rw [if_neg (by decide), if_pos rfl, gBp_Bd]
  rw [e57, cL_go (show ¬ nI 3 ≤ nI 2 by decide) (show ¬ (3 : Int32) ≤ nI 2 by decide)]
  have ok := tk_ok (tx := tx) h1e
  refine numb (a := 0) (b := 9) (V := nI 10) (I := nI 2) hX hq h1 h2 h14 h1e rfl rfl (by omega) (by omega) (fun S => c_lowest S (by omega)) (fun S t hS => c_highest hS hq hW (by omega) (by omega)) (fun S s hs hf => ⟨S, ?_, gMd.rf, hf⟩) (fun S3 S4 on F3 F4 h3 h35 h34 => ?_)
  · unfold fX11_readsTwo_L84
    rw [m_well_f hf hs, gBp_s, if_pos rfl, gBp_s, L141_f hf hs]
  · generalize tk tl tx t'.2.2.2 = u at *
    obtain ⟨o1, o2, o3⟩ := on
    have hok3 := ok.2.2.1
    have ix : (124 : Int32) + 8 * nI x + nI y = nI (94 + (30 + 8 * x + y)) := by
      rw [show (124 : Int32) = nI 124 from rfl, l8, nI_mul, nI_add, nI_add]
      congr 1
      omega
    have iy : (124 : Int32) + 8 * nI y + nI x = nI (94 + (30 + 8 * y + x)) := by
      rw [show (124 : Int32) = nI 124 from rfl, l8, nI_mul, nI_add, nI_add]
      congr 1
      omega
    have hmv : -nI u.2.1 = iI (-(u.2.1 : Int)) := (iI_negN u.2.1).symm
    have em : fX11_readsTwo_L84 10 (nI x) (nI y) (nI u.2.1) S4 = some (gW (gW S4 79 (94 + (30 + 8 * x + y)) (iI (-(u.2.1 : Int)))) 79 (94 + (30 + 8 * y + x)) (iI (-(u.2.1 : Int)))) := by
      unfold fX11_readsTwo_L84 fX11_readsTwo_L184
      rw [m_well_t h34.1, gBp_s, if_neg (by decide), if_neg (by decide), if_neg (by decide), if_neg (by decide), ix, gC_ok (gIn_ok (by omega) (by omega)), gN_nI (by omega), gL_s, if_neg (by decide), iy, gC_ok (gIn_ok (by omega) (by omega)), gN_nI (by omega), gL_s, hmv]
    rw [em, gBp_s, cC_2, h35, cL_e (show nI 3 ≤ nI 3 by decide)]
    have t1 := to_w (x := x) (y := y) (v := -(u.2.1 : Int)) h34.2.2.1 (by omega) (by omega)
    have t2 := to_w (x := y) (y := x) (v := -(u.2.1 : Int)) t1 (by omega) (by omega)
    have hmm := (h34.set (w9 S4 (by omega)) t1).set (w9 _ (by omega)) t2
    refine (semi hX hq (RW_wor hW (by omega) (by omega)) (h3.w87 (k := 2) (v := nI u.2.1) hq) hmm (by omega) hok3 (fun S6 F6 h6' => ?_)).tr gRd.rf.w87 ((gMd.rf.w9 (by omega)).w9 (by omega)) (Nat.le_refl _)
    have g0 : gR S6 87 0 = nI x := by rw [F6.2 87 0 (by omega), gR_Wk (by omega), F3.2 87 0 (by omega)]; exact h6
    have g1 : gR S6 87 1 = nI y := by rw [F6.2 87 1 (by omega), gR_Wk (by omega), F3.2 87 1 (by omega)]; exact h7
    have g2 : gR S6 87 2 = nI u.2.1 := by rw [F6.2 87 2 (by omega)]; exact gR_Ws _ _ _ _
    obtain ⟨S5, e5, F5, r5⟩ := c_wor (q := q) (x := x) (y := y) (v := -(u.2.1 : Int)) h6'.2.2.1 (by omega) (by omega)
    refine ⟨S5, ?_, F5, r5⟩
    rw [tell_10 (h6'.q1 hq) hq, g0, g1, g2, hmv, e5]
