/-! the items of a text, in step; needs: 0800 0801 0802 0803 0804 0805 0806 0807 0808 0809 0810 0811 0812 0813 0814 0815 0816 0821 0822 0829 0830 0831 0832 0833 0834 -/
theorem Out.cast {q tl e0 : Nat} {tx : Nat → Nat} {Sx Sm : gSt} {k : gSt → Option (Int32 × gSt)} {F F' G : Option (Int32 × gSt)} (e : F = F') (h : Out q tl tx Sx Sm k e0 F' G) : Out q tl tx Sx Sm k e0 F G := by
  rw [e]
  exact h
theorem it_guests {Sx Sm : gSt} {q tl : Nat} {tx : Nat → Nat} {t : Nat × Nat × Nat × Nat} {k26 : Int32 → gSt → Option (Int32 × gSt)} {x1 : Int32} (hX : Txt tl tx) (hq : gIsRu q = true) (h : AtX Sx q tl tx rI wI t) (hm : AtM Sm tl tx rI wI (tk tl tx t.2.2.2)) (h4 : t.1 ≠ 4) (he : t.2.2.2 ≤ tl) : Out q tl tx Sx Sm (fun S => k26 (x1 + 1) S) t.2.2.2 (cRest (nI 0) Sx) (gBp (fX11_readsItem 0 Sm) (fun S => fX11_room_L141 k26 x1 S)) := by
  obtain ⟨n, en⟩ := cRest_go (V := nI 0) (d := nI 1) (S := Sx) (c_numbersOf Sx (by omega))
  unfold fX11_readsItem fX11_readsItem_L129
  rw [if_pos rfl, gBp_Bd, en, cL_go (show ¬ nI 1 ≤ nI 0 by decide) (show ¬ (3 : Int32) ≤ nI 0 by decide)]
  have ok := tk_ok (tx := tx) he
  refine numb (a := 1) (b := 8) (V := nI 0) (I := nI 0) hX hq h hm h4 he rfl rfl (by omega) (by omega) (fun S => c_lowest S (by omega)) (fun S t hS => c_highest hS hq RW_rI (by omega) (by omega)) (fun S s hs hf => ⟨S, ?_, gMd.rf, hf⟩) (fun S1 S2 on F1 F2 h1 h5 h2 => ?_)
  · rw [m_well_f hf hs, gBp_s, if_pos rfl, gBp_s, L141_f hf hs]
  · generalize tk tl tx t.2.2.2 = u at *
    obtain ⟨o1, o2, o3⟩ := on
    have hok3 := ok.2.2.1
    rw [cC_0, h5, cL_e (show nI 1 ≤ nI 1 by decide), m_well_t h2.1, gBp_s, if_neg (by decide), gC_ok (by decide), show gN 94 = 94 + 0 from rfl, gL_s, gBp_s]
    have hmm := h2.set (w9 S2 (k := 94 + 0) (v := nI u.2.1) (by omega)) (to_r (v := u.2.1) h2.2.2.1 (by omega))
    refine (semi hX hq (RW_I o2 o3) (h1.w87 (k := 0) (v := nI u.2.1) hq) hmm (by omega) hok3 (fun S6 F6 h6 => ?_)).tr gRd.rf.w87 (gMd.rf.w9 (by omega)) (Nat.le_refl _)
    have g0 : gR S6 87 0 = nI u.2.1 := by rw [F6.2 87 0 (by omega)]; exact gR_Ws _ _ _ _
    refine ⟨gW S6 q 5 (nI u.2.1), ?_, gFr.w0 (by omega) (by omega), ru_0 (v := u.2.1) h6.2.2.1⟩
    rw [tell_0 (h6.q1 hq) hq, g0]
    unfold fX5_setGuests
    rw [if_neg (Int32.not_lt.mpr (show (1 : Int32) ≤ nI u.2.1 from nI_le (a := 1) o2 (by omega))), if_neg (Int32.not_lt.mpr (show nI u.2.1 ≤ (8 : Int32) from nI_le (b := 8) o3 (by omega))), gL_s]
theorem it_hat {Sx Sm : gSt} {q tl : Nat} {tx r : Nat → Nat} {w : Nat → Nat → Int} {t : Nat × Nat × Nat × Nat} {k26 : Int32 → gSt → Option (Int32 × gSt)} {x1 : Int32} (hX : Txt tl tx) (hq : gIsRu q = true) (hW : RW r w) (h : AtX Sx q tl tx r w t) (hm : AtM Sm tl tx r w (tk tl tx t.2.2.2)) (h4 : t.1 ≠ 4) (he : t.2.2.2 ≤ tl) : Out q tl tx Sx Sm (fun S => k26 (x1 + 1) S) t.2.2.2 (cRest (nI 1) Sx) (gBp (fX11_readsItem 1 Sm) (fun S => fX11_room_L141 k26 x1 S)) := by
  have h1W := hW.1
  have h8W := hW.2.1
  obtain ⟨n, en⟩ := cRest_go (V := nI 1) (d := nI 2) (S := Sx) (c_numbersOf Sx (by omega))
  unfold fX11_readsItem fX11_readsItem_L129
  rw [if_neg (by decide), if_pos rfl, gC_ok (show gIn 94 188 = true by decide), gBp_Bd, show gN 94 = 94 + 0 from rfl, hm.2.2.1.1 0 (by omega), en, cL_go (show ¬ nI 2 ≤ nI 0 by decide) (show ¬ (3 : Int32) ≤ nI 0 by decide)]
  have ok := tk_ok (tx := tx) he
  refine numb (a := 0) (b := r 0 - 1) (V := nI 1) (I := nI 0) hX hq h hm h4 he rfl (lm1s h1W) (by omega) (by omega) (fun S => c_lowest S (by omega)) (fun S t hS => c_highest hS hq hW (by omega) (by omega)) (fun S s hs hf => ⟨S, ?_, gMd.rf, hf⟩) (fun S1 S2 on F1 F2 h1 h5 h2 => ?_)
  · rw [m_number_f hf hs, gBd_s, m_well_f hf hs, gBp_s, if_pos rfl, gBp_s, L141_f hf hs]
  · generalize tk tl tx t.2.2.2 = u at *
    obtain ⟨o1, o2, o3⟩ := on
    have hok3 := ok.2.2.1
    have ok2 := tk_ok (tx := tx) hok3
    rw [cC_0, h5, gBp_Bd, cL_go (show ¬ nI 2 ≤ nI 1 by decide) (show ¬ (3 : Int32) ≤ nI 1 by decide)]
    have hx := h1.w87 (k := 0) (v := nI u.2.1) hq
    refine (numb (a := 0) (b := 5) (V := nI 1) (I := nI 1) hX hq hx h2 (by omega) hok3 rfl rfl (by omega) (by omega) (fun S => c_lowest S (by omega)) (fun S t hS => c_highest hS hq hW (by omega) (by omega)) (fun S s hs hf => ⟨S, ?_, gMd.rf, hf⟩) (fun S3 S4 on4 F3 F4 h3 h35 h34 => ?_)).tr (gRd.rf.w87) gMd.rf (Nat.le_refl _)
    · rw [m_well_f hf hs, gBp_s, if_pos rfl, gBp_s, L141_f hf hs]
    · generalize tk tl tx u.2.2.2 = u2 at *
      obtain ⟨p1, p2, p3⟩ := on4
      have hok4 := ok2.2.2.1
      rw [cC_1 (show nI 1 = 1 from rfl), h35, cL_e (show nI 2 ≤ nI 2 by decide), m_well_t h34.1, gBp_s, if_neg (by decide), show (95 : Int32) = nI 95 from rfl, nI_add, gC_ok (gIn_ok (by omega) (by omega)), gN_nI (by omega), gL_s, gBp_s, show 95 + u.2.1 = 94 + (1 + u.2.1) by omega]
      have hmm := h34.set (w9 S4 (k := 94 + (1 + u.2.1)) (v := nI u2.2.1) (by omega)) (to_r (v := u2.2.1) h34.2.2.1 (by omega))
      refine (semi hX hq (RW_hat hW (by omega) p3) (h3.w87 (k := 1) (v := nI u2.2.1) hq) hmm (by omega) hok4 (fun S6 F6 h6 => ?_)).tr gRd.rf.w87 (gMd.rf.w9 (by omega)) (Nat.le_refl _)
      have g0 : gR S6 87 0 = nI u.2.1 := by rw [F6.2 87 0 (by omega), gR_Wk (by omega), F3.2 87 0 (by omega)]; exact gR_Ws _ _ _ _
      have g1 : gR S6 87 1 = nI u2.2.1 := by rw [F6.2 87 1 (by omega)]; exact gR_Ws _ _ _ _
      refine ⟨gW S6 (q + 1) u.2.1 (nI u2.2.1), ?_, gFr.w0 (by omega) (by omega), ru_1 (g := u.2.1) (v := u2.2.1) h6.2.2.1 (by omega)⟩
      rw [tell_1 (h6.q1 hq) hq, g0, g1]
      unfold fX5_setHat
      rw [c_isOne S6 (by omega), gBp_s, if_neg (by decide), gC_ok (gIn_ok (by omega) (by omega)), gL_s, gN_nI (by omega)]
theorem tell_law {S : gSt} {q c : Nat} (hc : c < 3) (h : gN (gR S 31 2) = q) (hq : gIsRu q = true) : fX4_tell (nI (c + 2)) S = fX5_setLaw q (nI c) (gR S 87 0) S := by
  have : c = 0 ∨ c = 1 ∨ c = 2 := by omega
  rcases this with rfl | rfl | rfl
  · exact tell_2 h hq
  · exact tell_3 h hq
  · exact tell_4 h hq
theorem tell_plain {S : gSt} {q c : Nat} (hc3 : 3 ≤ c) (hc : c < 5) (h : gN (gR S 31 2) = q) (hq : gIsRu q = true) : fX4_tell (nI (c + 2)) S = fX5_setLaw q (nI c) 1 S := by
  have : c = 3 ∨ c = 4 := by omega
  rcases this with rfl | rfl
  · exact tell_5 h hq
  · exact tell_6 h hq
theorem it_law {Sx Sm : gSt} {q tl c : Nat} {tx r : Nat → Nat} {w : Nat → Nat → Int} {t : Nat × Nat × Nat × Nat} {k26 : Int32 → gSt → Option (Int32 × gSt)} {x1 : Int32} (hX : Txt tl tx) (hq : gIsRu q = true) (hW : RW r w) (hc : c < 3) (h : AtX Sx q tl tx r w t) (hm : AtM Sm tl tx r w (tk tl tx t.2.2.2)) (h4 : t.1 ≠ 4) (he : t.2.2.2 ≤ tl) : Out q tl tx Sx Sm (fun S => k26 (x1 + 1) S) t.2.2.2 (cRest (nI (c + 2)) Sx) (gBp (fX11_readsItem (nI (c + 2)) Sm) (fun S => fX11_room_L141 k26 x1 S)) := by
  have ix : (103 : Int32) + nI (c + 2) - 2 = nI (94 + (9 + c)) := by
    rw [show (103 : Int32) = nI 103 from rfl, nI_add, l2, nI_sub (by omega)]
    congr 1
    omega
  have hnu : nuN (c + 2) = 1 := by unfold nuN; rw [if_neg (by omega), if_pos (by omega)]
  have hlw : lwN (c + 2) = 1 := if_pos (by omega)
  have hhn : hiN (r 0) (c + 2) 0 = 8 := if_pos (by omega)
  obtain ⟨n, en⟩ := cRest_go (V := nI (c + 2)) (d := nI 1) (S := Sx) (by rw [c_numbersOf Sx (by omega), hnu])
  unfold fX11_readsItem fX11_readsItem_L129
  rw [if_neg (show ¬ nI (c + 2) = 0 from nI_neI (b := 0) (by omega) (by omega) (by omega)), if_neg (show ¬ nI (c + 2) = 1 from nI_neI (b := 1) (by omega) (by omega) (by omega)), if_neg (show ¬ (5 : Int32) ≤ nI (c + 2) from nI_nleI (b := 5) (by omega) (by omega)), gBp_Bd, en, cL_go (show ¬ nI 1 ≤ nI 0 by decide) (show ¬ (3 : Int32) ≤ nI 0 by decide)]
  have ok := tk_ok (tx := tx) he
  refine numb (a := 1) (b := 8) (V := nI (c + 2)) (I := nI 0) hX hq h hm h4 he rfl rfl (by omega) (by omega) (fun S => by rw [c_lowest S (by omega), hlw]) (fun S t hS => by rw [c_highest hS hq hW (by omega) (by omega), hhn]) (fun S s hs hf => ?_) (fun S1 S2 on F1 F2 h1 h5 h2 => ?_)
  · have hf' : gR (gW S 79 (94 + (9 + c)) 0) 77 8 = nI s := by rw [gR_Wp (by omega)]; exact hf
    refine ⟨gW S 79 (94 + (9 + c)) 0, ?_, gMd.rf.w9 (by omega), hf'⟩
    rw [ix, gC_ok (gIn_ok (by omega) (by omega)), gN_nI (by omega), gL_s, gBp_s, L141_f hf' hs]
  · generalize tk tl tx t.2.2.2 = u at *
    obtain ⟨o1, o2, o3⟩ := on
    have hok3 := ok.2.2.1
    rw [cC_0, h5, cL_e (show nI 1 ≤ nI 1 by decide), ix, gC_ok (gIn_ok (by omega) (by omega)), gN_nI (by omega), gL_s, gBp_s]
    have hmm := h2.set (w9 S2 (k := 94 + (9 + c)) (v := nI u.2.1) (by omega)) (to_r (v := u.2.1) h2.2.2.1 (by omega))
    refine (semi hX hq (RW_law hW (by omega) o3 (by omega)) (h1.w87 (k := 0) (v := nI u.2.1) hq) hmm (by omega) hok3 (fun S6 F6 h6 => ?_)).tr gRd.rf.w87 (gMd.rf.w9 (by omega)) (Nat.le_refl _)
    have g0 : gR S6 87 0 = nI u.2.1 := by rw [F6.2 87 0 (by omega)]; exact gR_Ws _ _ _ _
    refine ⟨gW S6 (q + 2) c (nI u.2.1), ?_, gFr.w0 (by omega) (by omega), ru_2 (g := c) (v := u.2.1) h6.2.2.1 (by omega)⟩
    rw [tell_law hc (h6.q1 hq) hq, g0]
    unfold fX5_setLaw
    rw [if_neg (nI_pos (by omega)), if_neg (show ¬ (5 : Int32) ≤ nI c from nI_nleI (b := 5) (by omega) (by omega)), gC_ok (gIn_ok (by omega) (by omega)), gL_s, gN_nI (by omega)]
theorem it_plain {Sx Sm : gSt} {q tl c : Nat} {tx r : Nat → Nat} {w : Nat → Nat → Int} {t : Nat × Nat × Nat × Nat} {k26 : Int32 → gSt → Option (Int32 × gSt)} {x1 : Int32} (hX : Txt tl tx) (hq : gIsRu q = true) (hW : RW r w) (hc3 : 3 ≤ c) (hc : c < 5) (h : AtX Sx q tl tx r w t) (hm : AtM Sm tl tx r w (tk tl tx t.2.2.2)) (h4 : t.1 ≠ 4) (he : t.2.2.2 ≤ tl) : Out q tl tx Sx Sm (fun S => k26 (x1 + 1) S) t.2.2.2 (cRest (nI (c + 2)) Sx) (gBp (fX11_readsItem (nI (c + 2)) Sm) (fun S => fX11_room_L141 k26 x1 S)) := by
  have ix : (103 : Int32) + nI (c + 2) - 2 = nI (94 + (9 + c)) := by
    rw [show (103 : Int32) = nI 103 from rfl, nI_add, l2, nI_sub (by omega)]
    congr 1
    omega
  have hnu : nuN (c + 2) = 0 := if_pos (by omega)
  obtain ⟨n, en⟩ := cRest_go (V := nI (c + 2)) (d := nI 0) (S := Sx) (by rw [c_numbersOf Sx (by omega), hnu])
  unfold fX11_readsItem fX11_readsItem_L129
  rw [en, cL_e (show nI 0 ≤ nI 0 by decide), if_neg (show ¬ nI (c + 2) = 0 from nI_neI (b := 0) (by omega) (by omega) (by omega)), if_neg (show ¬ nI (c + 2) = 1 from nI_neI (b := 1) (by omega) (by omega) (by omega)), if_pos (show (5 : Int32) ≤ nI (c + 2) from nI_le (a := 5) (by omega) (by omega)), if_neg (show ¬ (7 : Int32) ≤ nI (c + 2) from nI_nleI (b := 7) (by omega) (by omega)), ix, gC_ok (gIn_ok (by omega) (by omega)), gN_nI (by omega), gL_s, gBp_s]
  have hmm := hm.set (w9 Sm (k := 94 + (9 + c)) (v := 1) (by omega)) (to_r (v := 1) hm.2.2.1 (by omega))
  refine (semi hX hq (RW_law hW (by omega) (by omega) (by omega)) h hmm h4 he (fun S6 F6 h6 => ?_)).tr gRd.rf (gMd.rf.w9 (by omega)) (Nat.le_refl _)
  refine ⟨gW S6 (q + 2) c 1, ?_, gFr.w0 (by omega) (by omega), ru_2 (g := c) (v := 1) h6.2.2.1 (by omega)⟩
  rw [tell_plain hc3 hc (h6.q1 hq) hq]
  unfold fX5_setLaw
  rw [if_neg (nI_pos (by omega)), if_neg (show ¬ (5 : Int32) ≤ nI c from nI_nleI (b := 5) (by omega) (by omega)), gC_ok (gIn_ok (by omega) (by omega)), gL_s, gN_nI (by omega)]
/-- the reference behind two guests -/
def M57 (a x v : Int32) (S : gSt) : Option gSt := if a = 9 then fX11_readsTwo_L73 a x v S else if a = 10 then fX11_readsTwo_L73 a x v S else fX11_readsTwo_L84 a x v 0 S
theorem M57_f {a x v : Int32} {S : gSt} {s : Nat} (h : gR S 77 8 = nI s) (hs : s ≤ 300) : M57 a x v S = some S := by
  have e84 : ∀ y, fX11_readsTwo_L84 a x v y S = some S := fun y => by
    unfold fX11_readsTwo_L84
    rw [m_well_f h hs, gBp_s, if_pos rfl]
  unfold M57 fX11_readsTwo_L73
  rw [m_number_f h hs, gBd_s, e84]
  split
  · rfl
  · split <;> rfl
theorem L57_eq (a x b : Int32) (S : gSt) : fX11_readsTwo_L57 a x b S = gBd (fX11_takes b S) (fun v S_2 => M57 a x v S_2) := rfl
theorem L57_f {a x b : Int32} {S : gSt} {s : Nat} (h : gR S 77 8 = nI s) (hs : s ≤ 300) : fX11_readsTwo_L57 a x b S = some S := by
  rw [L57_eq, m_takes_f h hs, gBd_s, M57_f h hs]
