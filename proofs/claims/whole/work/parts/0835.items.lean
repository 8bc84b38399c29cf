/-! the items of a text, in step; needs: 0800 0801 0802 0803 0804 0805 0806 0807 0808 0809 0810 0811 0812 0813 0814 0815 0816 0821 0822 0829 0830 0831 0832 0833 0834 -/
theorem gBp_Bd {α β τ : Type} (f : Option (α × gSt)) (g : α → gSt → Option β) (k : β → Option τ) : gBp (gBd f g) k = gBd f (fun v S => gBp (g v S) k) := by
  cases f with
  | none => rfl
  | some p => rfl
theorem gBd_Bd {α β τ : Type} (f : Option (α × gSt)) (g : α → gSt → Option (β × gSt)) (k : β → gSt → Option τ) : gBd (gBd f g) k = gBd f (fun v S => gBd (g v S) k) := by
  cases f with
  | none => rfl
  | some p => rfl
theorem gBd_fun {α τ : Type} (f : Option (α × gSt)) {g h : α → gSt → Option τ} (e : ∀ v S, g v S = h v S) : gBd f g = gBd f h := by
  cases f with
  | none => rfl
  | some p => exact e p.1 p.2
theorem Out.cast {q tl e0 : Nat} {tx : Nat → Nat} {Sx Sm : gSt} {k : gSt → Option (Int32 × gSt)} {F F' G : Option (Int32 × gSt)} (e : F = F') (h : Out q tl tx Sx Sm k e0 F' G) : Out q tl tx Sx Sm k e0 F G := by
  rw [e]
  exact h
theorem ru_q {q : Nat} (h : gIsRu q = true) : q = 1 ∨ q = 15 := by
  unfold gIsRu at h
  rw [Bool.or_eq_true, beq_iff_eq, beq_iff_eq] at h
  exact h
theorem AtX.w6 {S : gSt} {q tl k : Nat} {tx r : Nat → Nat} {w : Nat → Nat → Int} {t : Nat × Nat × Nat × Nat} {v : Int32} (h : AtX S q tl tx r w t) (hq : gIsRu q = true) (hk : 6 ≤ k) : AtX (gW S 31 k v) q tl tx r w t := by
  have hq2 := ru_q hq
  obtain ⟨h1, h2, h3, k1, k2, k3, k4⟩ := h
  refine ⟨by rw [gR_Wk (by omega)]; exact h1, h2.w31, h3.fr (gFr.w0 (a := 31) (b := 32) (by omega) (by omega)) (by omega), by rw [gR_Wk (by omega)]; exact k1, by rw [gR_Wk (by omega)]; exact k2, fun z => by rw [gR_Wk (by omega)]; exact k3 z, fun z => by rw [gR_Wk (by omega)]; exact k4 z⟩
theorem AtX.set {S S1 : gSt} {q tl : Nat} {tx r r' : Nat → Nat} {w w' : Nat → Nat → Int} {t : Nat × Nat × Nat × Nat} (h : AtX S q tl tx r w t) (hq : gIsRu q = true) (hF : gFr q (q + 14) S S1) (hR : Ru S1 q r' w') : AtX S1 q tl tx r' w' t := by
  have hq2 := ru_q hq
  obtain ⟨h1, h2, h3, k1, k2, k3, k4⟩ := h
  refine ⟨by rw [hF.2 _ _ (by omega)]; exact h1, ⟨by rw [hF.2 _ _ (by omega)]; exact h2.1, fun i hi => by rw [hF.2 _ _ (by omega)]; exact h2.2 i hi⟩, hR, by rw [hF.2 _ _ (by omega)]; exact k1, by rw [hF.2 _ _ (by omega)]; exact k2, fun z => by rw [hF.2 _ _ (by omega)]; exact k3 z, fun z => by rw [hF.2 _ _ (by omega)]; exact k4 z⟩
theorem AtM.set {S S1 : gSt} {tl : Nat} {tx r r' : Nat → Nat} {w w' : Nat → Nat → Int} {t : Nat × Nat × Nat × Nat} (h : AtM S tl tx r w t) (hF : S1.2 = S.2 ∧ ∀ p k, p ≠ 79 ∨ k < 94 → gR S1 p k = gR S p k) (hR : To S1 94 r' w') : AtM S1 tl tx r' w' t := by
  obtain ⟨h1, h2, h3, k1, k2, k3, k4⟩ := h
  refine ⟨by rw [hF.2 _ _ (by omega)]; exact h1, ⟨by rw [hF.2 _ _ (by omega)]; exact h2.1, fun i hi => by rw [hF.2 _ _ (by omega)]; exact h2.2 i hi⟩, hR, by rw [hF.2 _ _ (by omega)]; exact k1, by rw [hF.2 _ _ (by omega)]; exact k2, fun z => by rw [hF.2 _ _ (by omega)]; exact k3 z, fun z => by rw [hF.2 _ _ (by omega)]; exact k4 z⟩
theorem AtX.q1 {S : gSt} {q tl : Nat} {tx r : Nat → Nat} {w : Nat → Nat → Int} {t : Nat × Nat × Nat × Nat} (h : AtX S q tl tx r w t) (hq : gIsRu q = true) : gN (gR S 31 1) = q := by
  have hq2 := ru_q hq
  rw [h.1, gN_nI (by omega)]
theorem w9 (S : gSt) {k : Nat} {v : Int32} (hk : 94 ≤ k) : (gW S 79 k v).2 = S.2 ∧ ∀ p j, p ≠ 79 ∨ j < 94 → gR (gW S 79 k v) p j = gR S p j := ⟨rfl, fun p j h => by rw [gR_W2, if_neg (by omega)]⟩
theorem it_guests {Sx Sm : gSt} {q tl : Nat} {tx : Nat → Nat} {t : Nat × Nat × Nat × Nat} {k26 : Int32 → gSt → Option (Int32 × gSt)} {x1 : Int32} (hX : Txt tl tx) (hq : gIsRu q = true) (h : AtX Sx q tl tx rI wI t) (hm : AtM Sm tl tx rI wI (tk tl tx t.2.2.2)) (h4 : t.1 ≠ 4) (he : t.2.2.2 ≤ tl) : Out q tl tx Sx Sm (fun S => k26 (x1 + 1) S) t.2.2.2 (fX4_readGuests Sx) (gBp (fX11_readsItem 0 Sm) (fun S => fX11_room_L141 k26 x1 S)) := by
  unfold fX4_readGuests fX11_readsItem fX11_readsItem_L129
  rw [if_pos rfl, gBp_Bd]
  have ok := tk_ok (tx := tx) he
  refine numb (a := 1) (b := 8) hX hq h hm h4 he rfl rfl (by omega) (by omega) (fun S s hs hf => ⟨S, ?_, gMd.rf, hf⟩) (fun S1 S2 on F1 F2 h1 h5 h2 => ?_)
  · rw [m_well_f hf hs, gBp_s, if_pos rfl, gBp_s, L141_f hf hs]
  · generalize tk tl tx t.2.2.2 = u at *
    obtain ⟨o1, o2, o3⟩ := on
    have hok3 := ok.2.2.1
    rw [h1.q1 hq, gC_ok hq, h5]
    unfold fX5_setGuests
    rw [if_neg (Int32.not_lt.mpr (show (1 : Int32) ≤ nI u.2.1 from nI_le (a := 1) o2 (by omega))), if_neg (Int32.not_lt.mpr (show nI u.2.1 ≤ (8 : Int32) from nI_le (b := 8) o3 (by omega))), gL_s, gBp_s, m_well_t h2.1, gBp_s, if_neg (by decide), gC_ok (by decide), show gN 94 = 94 + 0 from rfl, gL_s, gBp_s]
    have hFx : gFr q (q + 14) S1 (gW S1 q 5 (nI u.2.1)) := gFr.w0 (by omega) (by omega)
    have hx := h1.set hq hFx (ru_0 (v := u.2.1) h1.2.2.1)
    have hmm := h2.set (w9 S2 (k := 94 + 0) (v := nI u.2.1) (by omega)) (to_r (v := u.2.1) h2.2.2.1 (by omega))
    exact (semi hX hq (RW_I o2 o3) hx hmm (by omega) hok3).tr hFx.rd (gMd.rf.w9 (by omega)) (Nat.le_refl _)
theorem lm1s {n : Nat} (h : 1 ≤ n) : nI n - 1 = nI (n - 1) := by
  obtain ⟨m, rfl⟩ : ∃ m, n = m + 1 := ⟨n - 1, by omega⟩
  rw [nI_pred, Nat.add_sub_cancel]
theorem it_hat {Sx Sm : gSt} {q tl : Nat} {tx r : Nat → Nat} {w : Nat → Nat → Int} {t : Nat × Nat × Nat × Nat} {k26 : Int32 → gSt → Option (Int32 × gSt)} {x1 : Int32} (hX : Txt tl tx) (hq : gIsRu q = true) (hW : RW r w) (h : AtX Sx q tl tx r w t) (hm : AtM Sm tl tx r w (tk tl tx t.2.2.2)) (h4 : t.1 ≠ 4) (he : t.2.2.2 ≤ tl) : Out q tl tx Sx Sm (fun S => k26 (x1 + 1) S) t.2.2.2 (fX4_readHat Sx) (gBp (fX11_readsItem 1 Sm) (fun S => fX11_room_L141 k26 x1 S)) := by
  have h1W := hW.1
  have h8W := hW.2.1
  unfold fX4_readHat fX11_readsItem fX11_readsItem_L129
  rw [if_neg (by decide), if_pos rfl, gC_ok (show gIn 94 188 = true by decide), gBp_Bd, h.q1 hq, gC_ok hq, show fX5_guests q Sx = some (nI (r 0)) from congrArg some h.2.2.1.1, gBp_s, show gN 94 = 94 + 0 from rfl, hm.2.2.1.1 0 (by omega)]
  have ok := tk_ok (tx := tx) he
  refine numb (a := 0) (b := r 0 - 1) hX hq h hm h4 he rfl (lm1s h1W) (by omega) (by omega) (fun S s hs hf => ⟨S, ?_, gMd.rf, hf⟩) (fun S1 S2 on F1 F2 h1 h5 h2 => ?_)
  · rw [m_number_f hf hs, gBd_s, m_well_f hf hs, gBp_s, if_pos rfl, gBp_s, L141_f hf hs]
  · generalize tk tl tx t.2.2.2 = u at *
    obtain ⟨o1, o2, o3⟩ := on
    have hok3 := ok.2.2.1
    have ok2 := tk_ok (tx := tx) hok3
    rw [gL_s, h5, gBp_Bd]
    have hx := h1.w6 (k := 6) (v := nI u.2.1) hq (by omega)
    refine (numb (a := 0) (b := 5) hX hq hx h2 (by omega) hok3 rfl rfl (by omega) (by omega) (fun S s hs hf => ⟨S, ?_, gMd.rf, hf⟩) (fun S3 S4 on4 F3 F4 h3 h35 h34 => ?_)).tr (gRd.rf.w) gMd.rf (Nat.le_refl _)
    · rw [m_well_f hf hs, gBp_s, if_pos rfl, gBp_s, L141_f hf hs]
    · generalize tk tl tx u.2.2.2 = u2 at *
      obtain ⟨p1, p2, p3⟩ := on4
      have hok4 := ok2.2.2.1
      have h6 : gR S3 31 6 = nI u.2.1 := by rw [F3.2 31 6 (by omega)]; exact gR_Ws _ _ _ _
      rw [h3.q1 hq, gC_ok hq, h6, h35]
      unfold fX5_setHat
      rw [c_isOne S3 (by omega), gBp_s, if_neg (by decide), gC_ok (gIn_ok (by omega) (by omega)), gL_s, gN_nI (by omega), gBp_s, m_well_t h34.1, gBp_s, if_neg (by decide), show (95 : Int32) = nI 95 from rfl, nI_add, gC_ok (gIn_ok (by omega) (by omega)), gN_nI (by omega), gL_s, gBp_s, show 95 + u.2.1 = 94 + (1 + u.2.1) by omega]
      have hFx : gFr q (q + 14) S3 (gW S3 (q + 1) u.2.1 (nI u2.2.1)) := gFr.w0 (by omega) (by omega)
      have hxx := h3.set hq hFx (ru_1 (g := u.2.1) (v := u2.2.1) h3.2.2.1 (by omega))
      have hmm := h34.set (w9 S4 (k := 94 + (1 + u.2.1)) (v := nI u2.2.1) (by omega)) (to_r (v := u2.2.1) h34.2.2.1 (by omega))
      exact (semi hX hq (RW_hat hW (by omega) p3) hxx hmm (by omega) hok4).tr hFx.rd (gMd.rf.w9 (by omega)) (Nat.le_refl _)
theorem it_law {Sx Sm : gSt} {q tl c : Nat} {tx r : Nat → Nat} {w : Nat → Nat → Int} {t : Nat × Nat × Nat × Nat} {k26 : Int32 → gSt → Option (Int32 × gSt)} {x1 : Int32} (hX : Txt tl tx) (hq : gIsRu q = true) (hW : RW r w) (hc : c < 3) (hz : r (9 + c) = 0) (h : AtX Sx q tl tx r w t) (hm : AtM Sm tl tx r w (tk tl tx t.2.2.2)) (h4 : t.1 ≠ 4) (he : t.2.2.2 ≤ tl) : Out q tl tx Sx Sm (fun S => k26 (x1 + 1) S) t.2.2.2 (fX4_readNumberLaw (nI c) Sx) (gBp (fX11_readsItem (nI (c + 2)) Sm) (fun S => fX11_room_L141 k26 x1 S)) := by
  have ix : (103 : Int32) + nI (c + 2) - 2 = nI (94 + (9 + c)) := by
    rw [show (103 : Int32) = nI 103 from rfl, nI_add, l2, nI_sub (by omega)]
    congr 1
    omega
  unfold fX4_readNumberLaw fX11_readsItem fX11_readsItem_L129
  rw [h.q1 hq, gC_ok hq, c_lawOf h.2.2.1 (by omega), hz, gBp_s, if_pos (show nI 0 = 0 from rfl), if_neg (show ¬ nI (c + 2) = 0 from nI_neI (b := 0) (by omega) (by omega) (by omega)), if_neg (show ¬ nI (c + 2) = 1 from nI_neI (b := 1) (by omega) (by omega) (by omega)), if_neg (show ¬ (5 : Int32) ≤ nI (c + 2) from nI_nleI (b := 5) (by omega) (by omega)), gBp_Bd]
  have ok := tk_ok (tx := tx) he
  refine numb (a := 1) (b := 8) hX hq h hm h4 he rfl rfl (by omega) (by omega) (fun S s hs hf => ?_) (fun S1 S2 on F1 F2 h1 h5 h2 => ?_)
  · have hf' : gR (gW S 79 (94 + (9 + c)) 0) 77 8 = nI s := by rw [gR_Wp (by omega)]; exact hf
    refine ⟨gW S 79 (94 + (9 + c)) 0, ?_, gMd.rf.w9 (by omega), hf'⟩
    rw [ix, gC_ok (gIn_ok (by omega) (by omega)), gN_nI (by omega), gL_s, gBp_s, L141_f hf' hs]
  · generalize tk tl tx t.2.2.2 = u at *
    obtain ⟨o1, o2, o3⟩ := on
    have hok3 := ok.2.2.1
    rw [h1.q1 hq, gC_ok hq, h5]
    unfold fX5_setLaw
    rw [if_neg (nI_pos (by omega)), if_neg (show ¬ (5 : Int32) ≤ nI c from nI_nleI (b := 5) (by omega) (by omega)), gC_ok (gIn_ok (by omega) (by omega)), gL_s, gN_nI (by omega), gBp_s, ix, gC_ok (gIn_ok (by omega) (by omega)), gN_nI (by omega), gL_s, gBp_s]
    have hFx : gFr q (q + 14) S1 (gW S1 (q + 2) c (nI u.2.1)) := gFr.w0 (by omega) (by omega)
    have hxx := h1.set hq hFx (ru_2 (g := c) (v := u.2.1) h1.2.2.1 (by omega))
    have hmm := h2.set (w9 S2 (k := 94 + (9 + c)) (v := nI u.2.1) (by omega)) (to_r (v := u.2.1) h2.2.2.1 (by omega))
    exact (semi hX hq (RW_law hW (by omega) o3 (by omega)) hxx hmm (by omega) hok3).tr hFx.rd (gMd.rf.w9 (by omega)) (Nat.le_refl _)
theorem it_plain {Sx Sm : gSt} {q tl c : Nat} {tx r : Nat → Nat} {w : Nat → Nat → Int} {t : Nat × Nat × Nat × Nat} {k26 : Int32 → gSt → Option (Int32 × gSt)} {x1 : Int32} (hX : Txt tl tx) (hq : gIsRu q = true) (hW : RW r w) (hc3 : 3 ≤ c) (hc : c < 5) (hz : r (9 + c) = 0) (h : AtX Sx q tl tx r w t) (hm : AtM Sm tl tx r w (tk tl tx t.2.2.2)) (h4 : t.1 ≠ 4) (he : t.2.2.2 ≤ tl) : Out q tl tx Sx Sm (fun S => k26 (x1 + 1) S) t.2.2.2 (fX4_readPlainLaw (nI c) Sx) (gBp (fX11_readsItem (nI (c + 2)) Sm) (fun S => fX11_room_L141 k26 x1 S)) := by
  have ix : (103 : Int32) + nI (c + 2) - 2 = nI (94 + (9 + c)) := by
    rw [show (103 : Int32) = nI 103 from rfl, nI_add, l2, nI_sub (by omega)]
    congr 1
    omega
  unfold fX4_readPlainLaw fX11_readsItem fX11_readsItem_L129 fX5_setLaw
  rw [h.q1 hq, gC_ok hq, c_lawOf h.2.2.1 (by omega), hz, gBp_s, if_pos (show nI 0 = 0 from rfl), gC_ok hq, if_neg (nI_pos (by omega)), if_neg (show ¬ (5 : Int32) ≤ nI c from nI_nleI (b := 5) (by omega) (by omega)), gC_ok (gIn_ok (by omega) (by omega)), gL_s, gN_nI (by omega), gBp_s, if_neg (show ¬ nI (c + 2) = 0 from nI_neI (b := 0) (by omega) (by omega) (by omega)), if_neg (show ¬ nI (c + 2) = 1 from nI_neI (b := 1) (by omega) (by omega) (by omega)), if_pos (show (5 : Int32) ≤ nI (c + 2) from nI_le (a := 5) (by omega) (by omega)), if_neg (show ¬ (7 : Int32) ≤ nI (c + 2) from nI_nleI (b := 7) (by omega) (by omega)), ix, gC_ok (gIn_ok (by omega) (by omega)), gN_nI (by omega), gL_s, gBp_s]
  have hFx : gFr q (q + 14) Sx (gW Sx (q + 2) c 1) := gFr.w0 (by omega) (by omega)
  have hxx := h.set hq hFx (ru_2 (g := c) (v := 1) h.2.2.1 (by omega))
  have hmm := hm.set (w9 Sm (k := 94 + (9 + c)) (v := 1) (by omega)) (to_r (v := 1) hm.2.2.1 (by omega))
  exact (semi hX hq (RW_law hW (by omega) (by omega) (by omega)) hxx hmm h4 he).tr hFx.rd (gMd.rf.w9 (by omega)) (Nat.le_refl _)
/-- the reference behind two guests -/
def M57 (a x v : Int32) (S : gSt) : Option gSt := if a = 9 then fX11_readsTwo_L73 a x v S else if a = 10 then fX11_readsTwo_L73 a x v S else fX11_readsTwo_L84 a x v 0 S
theorem M57_f {a x v : Int32} {S : gSt} {s : Nat} (h : gR S 77 8 = nI s) (hs : s ≤ 300) : M57 a x v S = some S := by
  have e84 : ∀ y, fX11_readsTwo_L84 a x v y S = some S := fun y => by
    unfold fX11_readsTwo_L84
    rw [m_well_f h hs, gBp_s, if_pos rfl]
  unfold M57 fX11_readsTwo_L73
  rw [m_number_f h hs, gBd_s, e84]
  split
  · rfl
  · split <;> rfl
theorem L57_eq (a x b : Int32) (S : gSt) : fX11_readsTwo_L57 a x b S = gBd (fX11_takes b S) (fun v S_2 => M57 a x v S_2) := rfl
theorem L57_f {a x b : Int32} {S : gSt} {s : Nat} (h : gR S 77 8 = nI s) (hs : s ≤ 300) : fX11_readsTwo_L57 a x b S = some S := by
  rw [L57_eq, m_takes_f h hs, gBd_s, M57_f h hs]
