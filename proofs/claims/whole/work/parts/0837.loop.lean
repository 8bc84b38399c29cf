/-! the whole text, in step; needs: 0800 0801 0802 0803 0804 0805 0806 0807 0808 0809 0810 0811 0812 0813 0814 0815 0816 0821 0822 0829 0830 0831 0832 0833 0834 0835 08352 0836 -/
theorem Out.wr {q tl e0 : Nat} {tx : Nat → Nat} {Sx Sm : gSt} {k : gSt → Option (Int32 × gSt)} {F G : Option (Int32 × gSt)} (W : Int32 → gSt → Option (Int32 × gSt)) (h0 : ∀ S, W 0 S = some (0, S)) (h1 : ∀ S, W 1 S = some (1, S)) (h : Out q tl tx Sx Sm k e0 F G) : Out q tl tx Sx Sm k e0 (gBd F W) G := by
  rcases h with ⟨s, Sx1, Sm1, a, b, c⟩ | ⟨r, w, t, Sx1, Sm1, a, b, c, d⟩
  · exact Or.inl ⟨s, Sx1, Sm1, a, by rw [b, gBd_s, h0], c⟩
  · exact Or.inr ⟨r, w, t, Sx1, Sm1, a, b, by rw [c, gBd_s, h1], d⟩
theorem L120_0 {k26 : Int32 → gSt → Option (Int32 × gSt)} {x1 : Int32} {S : gSt} {tl : Nat} {tx r : Nat → Nat} {w : Nat → Nat → Int} {t : Nat × Nat × Nat × Nat} (h : AtM S tl tx r w t) (hs : t.2.2.1 ≤ 300) : fX11_room_L120 k26 x1 0 S = k26 (x1 + 1) (gW S 77 8 (nI t.2.2.1)) := by
  unfold fX11_room_L120
  rw [m_takes_0 h, gBd_s, m_well_f (gR_Ws _ _ _ _) hs, gBp_s, if_pos rfl, L141_f (gR_Ws _ _ _ _) hs]
theorem L120_1 {k26 : Int32 → gSt → Option (Int32 × gSt)} {x1 : Int32} {S : gSt} {tl : Nat} {tx r : Nat → Nat} {w : Nat → Nat → Int} {t : Nat × Nat × Nat × Nat} (hX : Txt tl tx) (h : AtM S tl tx r w t) (h1 : t.1 = 1) (he : t.2.2.2 ≤ tl) : ∃ S1, fX11_room_L120 k26 x1 1 S = gBp (fX11_readsItem (nI t.2.1) S1) (fun S => fX11_room_L141 k26 x1 S) ∧ gMd S S1 ∧ AtM S1 tl tx r w (tk tl tx t.2.2.2) := by
  obtain ⟨S1, e1, F1, m1⟩ := m_tok hX h (by omega) he
  refine ⟨S1, ?_, F1.md, m1⟩
  unfold fX11_room_L120
  rw [e1, gBd_s, m_well_t m1.1, gBp_s, if_neg (by decide), h.2.2.2.2.2.1 (Or.inl h1)]
theorem neg10 {s : Nat} (h : s ≤ 300) : ¬ (0 : Int32) ≤ -10 - nI s := by
  have : ∀ s : Fin 301, ¬ (0 : Int32) ≤ -10 - nI s.val := by decide +kernel
  exact this ⟨s, by omega⟩
theorem rdWord {q tl x : Nat} {tx r : Nat → Nat} {w : Nat → Nat → Int} {Sx Sm : gSt} {t : Nat × Nat × Nat × Nat} {k26 : Int32 → gSt → Option (Int32 × gSt)} (hX : Txt tl tx) (hq : gIsRu q = true) (hW : RW r w) (h : AtX Sx q tl tx r w t) (hm : AtM Sm tl tx r w t) (h1 : t.1 = 1) (hv : t.2.1 < 11) (he : t.2.2.2 ≤ tl) (hst : t.2.2.1 ≤ tl) (hx : x < 300) (h0 : x = 0 → r = rI ∧ w = wI) : Out q tl tx Sx Sm (fun S => k26 (nI x + 1) S) t.2.2.2 (fX4_readItem (if nI x = 0 then 1 else 0) Sx) (gBp (fX11_in (gR Sm 77 7) 2 6 Sm) (fun v_2 => if v_2 = 0 then fX11_room_L66 k26 (nI x) 0 Sm else fX11_room_L66 k26 (nI x) 1 Sm)) := by
  have h3 := hX.1
  have hck : gR Sx 31 3 = nI t.2.1 := by
    rw [h.2.2.2.1]
    unfold ck
    rw [if_neg (by omega), if_pos h1]
  have h7 := hm.2.2.2.2.2.1 (Or.inl h1)
  have h5 : gR Sm 77 5 = 1 := by rw [hm.2.2.2.1, h1]; rfl
  have bad : ∀ F G, F = some (0, Sx) → G = fX11_room_L120 k26 (nI x) 0 Sm → Out q tl tx Sx Sm (fun S => k26 (nI x + 1) S) t.2.2.2 F G := fun F G e1 e2 => Or.inl ⟨t.2.2.1, Sx, gW Sm 77 8 (nI t.2.2.1), by omega, e1, gRd.rf, h.2.2.2.2.1, by rw [e2, L120_0 hm (by omega)], gMd.rf.w7 (by omega), gR_Ws _ _ _ _⟩
  obtain ⟨S1, e1, F1, m1⟩ := L120_1 (k26 := k26) (x1 := nI x) hX hm h1 he
  have go : ∀ F, Out q tl tx Sx S1 (fun S => k26 (nI x + 1) S) t.2.2.2 F (gBp (fX11_readsItem (nI t.2.1) S1) (fun S => fX11_room_L141 k26 (nI x) S)) → Out q tl tx Sx Sm (fun S => k26 (nI x + 1) S) t.2.2.2 F (fX11_room_L120 k26 (nI x) 1 Sm) := fun F o => by
    rw [e1]
    exact o.tr gRd.rf F1 (Nat.le_refl _)
  have gW0 : ∀ S, (fun (v : Int32) (S : gSt) => gC (gBo v) (some (v, S))) 0 S = some (0, S) := fun S => gC_ok (by decide)
  have gW1 : ∀ S, (fun (v : Int32) (S : gSt) => gC (gBo v) (some (v, S))) 1 S = some (1, S) := fun S => gC_ok (by decide)
  have nine : ∀ c, c < 5 → gR Sm 79 (94 + (9 + c)) = nI (r (9 + c)) := fun c hc => hm.2.2.1.1 (9 + c) (by omega)
  unfold fX4_readItem
  rw [hck, h7, m_in, gBp_s]
  unfold fX11_room_L66 fX11_room_L86 fX11_room_L110
  rw [h5, h7]
  generalize hvv : t.2.1 = v at *
  have law : ∀ c, c < 5 → v = c + 2 → ∀ F, (r (9 + c) = 0 → Out q tl tx Sx S1 (fun S => k26 (nI x + 1) S) t.2.2.2 F (gBp (fX11_readsItem (nI (c + 2)) S1) (fun S => fX11_room_L141 k26 (nI x) S))) → (¬ r (9 + c) = 0 → F = some (0, Sx)) → Out q tl tx Sx Sm (fun S => k26 (nI x + 1) S) t.2.2.2 F (gC (gIn (103 + (nI v - 2)) 188) (if gR Sm 79 (gN (103 + (nI v - 2))) = 0 then fX11_room_L120 k26 (nI x) 1 Sm else fX11_room_L120 k26 (nI x) 0 Sm)) := fun c hc hvc F hF1 hF2 => by
    have e : (103 : Int32) + (nI v - 2) = nI (94 + (9 + c)) := by
      rw [l2, nI_sub (by omega), show (103 : Int32) = nI 103 from rfl, nI_add]
      congr 1
      omega
    have hr8 := hW.2.2.2.1 c hc
    rw [e, gC_ok (gIn_ok (by omega) (by omega)), gN_nI (by omega), nine c hc]
    by_cases z : r (9 + c) = 0
    · rw [if_pos (by rw [z]; rfl)]
      refine go F ?_
      rw [hvc]
      exact hF1 z
    · rw [if_neg (show ¬ nI (r (9 + c)) = 0 from nI_neI (b := 0) (by omega) (by omega) z)]
      exact bad _ _ (hF2 z) rfl
  have nz : ∀ c, c < 5 → ¬ r (9 + c) = 0 → ¬ nI (r (9 + c)) = 0 := fun c hc z => nI_neI (b := 0) (by have := hW.2.2.2.1 c hc; omega) (by omega) z
  have lawC : ∀ c, c < 5 → ¬ r (9 + c) = 0 → fX4_readNumberLaw (nI c) Sx = some (0, Sx) ∧ fX4_readPlainLaw (nI c) Sx = some (0, Sx) := fun c hc z => by
    unfold fX4_readNumberLaw fX4_readPlainLaw
    rw [h.q1 hq, gC_ok hq, gC_ok hq, c_lawOf h.2.2.1 hc, gBp_s, gBp_s, if_neg (nz c hc z), if_neg (nz c hc z)]
    exact ⟨rfl, rfl⟩
  have : v = 0 ∨ v = 1 ∨ v = 2 ∨ v = 3 ∨ v = 4 ∨ v = 5 ∨ v = 6 ∨ v = 7 ∨ v = 8 ∨ v = 9 ∨ v = 10 := by omega
  rcases this with rfl | rfl | rfl | rfl | rfl | rfl | rfl | rfl | rfl | rfl | rfl
  · rw [if_pos (show nI 0 = 0 from rfl), if_neg (show ¬ ((2 : Int32) ≤ nI 0 ∧ nI 0 ≤ 6) by decide), if_pos rfl, if_pos rfl, if_pos (show nI 0 = 0 from rfl)]
    by_cases z : x = 0
    · obtain ⟨rfl, rfl⟩ := h0 z
      subst z
      rw [if_pos (show nI 0 = 0 from rfl), if_pos (show nI 0 = 0 from rfl), if_neg (by decide), if_pos rfl]
      exact go _ (Out.wr (fun v S => if v = 0 then some (0, S) else some (1, S)) (fun S => if_pos rfl) (fun S => if_neg (by decide)) (it_guests hX hq h m1 (by omega) he))
    · rw [if_neg (show ¬ nI x = 0 from nI_neI (b := 0) (by omega) (by omega) z), if_neg (show ¬ nI x = 0 from nI_neI (b := 0) (by omega) (by omega) z), if_pos rfl]
      exact bad _ _ rfl rfl
  · rw [if_neg (show ¬ nI 1 = 0 by decide), if_pos (show nI 1 = 1 from rfl), if_neg (show ¬ ((2 : Int32) ≤ nI 1 ∧ nI 1 ≤ 6) by decide), if_pos rfl, if_pos rfl, if_neg (show ¬ nI 1 = 0 by decide), if_pos rfl]
    exact go _ (Out.wr _ gW0 gW1 (it_hat hX hq hW h m1 (by omega) he))
  · rw [if_neg (show ¬ nI 2 = 0 by decide), if_neg (show ¬ nI 2 = 1 by decide), if_pos (show nI 2 = 2 from rfl), if_pos (show ((2 : Int32) ≤ nI 2 ∧ nI 2 ≤ 6) by decide), if_neg (show ¬ (1 : Int32) = 0 by decide), if_pos rfl, if_neg (show ¬ nI 2 = 0 by decide), if_neg (show ¬ (1 : Int32) = 0 by decide), if_neg (show ¬ (1 : Int32) = 0 by decide)]
    exact law 0 (by omega) rfl _ (fun z => Out.wr _ gW0 gW1 (it_law (c := 0) hX hq hW (by omega) z h m1 (by omega) he)) (fun z => by rw [show fX4_readNumberLaw 0 Sx = some (0, Sx) from (lawC 0 (by omega) z).1, gBd_s]; exact gC_ok (by decide))
  · rw [if_neg (show ¬ nI 3 = 0 by decide), if_neg (show ¬ nI 3 = 1 by decide), if_neg (show ¬ nI 3 = 2 by decide), if_pos (show nI 3 = 3 from rfl), if_pos (show ((2 : Int32) ≤ nI 3 ∧ nI 3 ≤ 6) by decide), if_neg (show ¬ (1 : Int32) = 0 by decide), if_pos rfl, if_neg (show ¬ nI 3 = 0 by decide), if_neg (show ¬ (1 : Int32) = 0 by decide), if_neg (show ¬ (1 : Int32) = 0 by decide)]
    exact law 1 (by omega) rfl _ (fun z => Out.wr _ gW0 gW1 (it_law (c := 1) hX hq hW (by omega) z h m1 (by omega) he)) (fun z => by rw [show fX4_readNumberLaw 1 Sx = some (0, Sx) from (lawC 1 (by omega) z).1, gBd_s]; exact gC_ok (by decide))
  · rw [if_neg (show ¬ nI 4 = 0 by decide), if_neg (show ¬ nI 4 = 1 by decide), if_neg (show ¬ nI 4 = 2 by decide), if_neg (show ¬ nI 4 = 3 by decide), if_pos (show nI 4 = 4 from rfl), if_pos (show ((2 : Int32) ≤ nI 4 ∧ nI 4 ≤ 6) by decide), if_neg (show ¬ (1 : Int32) = 0 by decide), if_pos rfl, if_neg (show ¬ nI 4 = 0 by decide), if_neg (show ¬ (1 : Int32) = 0 by decide), if_neg (show ¬ (1 : Int32) = 0 by decide)]
    exact law 2 (by omega) rfl _ (fun z => Out.wr _ gW0 gW1 (it_law (c := 2) hX hq hW (by omega) z h m1 (by omega) he)) (fun z => by rw [show fX4_readNumberLaw 2 Sx = some (0, Sx) from (lawC 2 (by omega) z).1, gBd_s]; exact gC_ok (by decide))
  · rw [if_neg (show ¬ nI 5 = 0 by decide), if_neg (show ¬ nI 5 = 1 by decide), if_neg (show ¬ nI 5 = 2 by decide), if_neg (show ¬ nI 5 = 3 by decide), if_neg (show ¬ nI 5 = 4 by decide), if_pos (show nI 5 = 5 from rfl), if_pos (show ((2 : Int32) ≤ nI 5 ∧ nI 5 ≤ 6) by decide), if_neg (show ¬ (1 : Int32) = 0 by decide), if_pos rfl, if_neg (show ¬ nI 5 = 0 by decide), if_neg (show ¬ (1 : Int32) = 0 by decide), if_neg (show ¬ (1 : Int32) = 0 by decide)]
    exact law 3 (by omega) rfl _ (fun z => Out.wr _ gW0 gW1 (it_plain (c := 3) hX hq hW (by omega) (by omega) z h m1 (by omega) he)) (fun z => by rw [show fX4_readPlainLaw 3 Sx = some (0, Sx) from (lawC 3 (by omega) z).2, gBd_s]; exact gC_ok (by decide))
  · rw [if_neg (show ¬ nI 6 = 0 by decide), if_neg (show ¬ nI 6 = 1 by decide), if_neg (show ¬ nI 6 = 2 by decide), if_neg (show ¬ nI 6 = 3 by decide), if_neg (show ¬ nI 6 = 4 by decide), if_neg (show ¬ nI 6 = 5 by decide), if_pos (show nI 6 = 6 from rfl), if_pos (show ((2 : Int32) ≤ nI 6 ∧ nI 6 ≤ 6) by decide), if_neg (show ¬ (1 : Int32) = 0 by decide), if_pos rfl, if_neg (show ¬ nI 6 = 0 by decide), if_neg (show ¬ (1 : Int32) = 0 by decide), if_neg (show ¬ (1 : Int32) = 0 by decide)]
    exact law 4 (by omega) rfl _ (fun z => Out.wr _ gW0 gW1 (it_plain (c := 4) hX hq hW (by omega) (by omega) z h m1 (by omega) he)) (fun z => by rw [show fX4_readPlainLaw 4 Sx = some (0, Sx) from (lawC 4 (by omega) z).2, gBd_s]; exact gC_ok (by decide))
  · rw [if_neg (show ¬ nI 7 = 0 by decide), if_neg (show ¬ nI 7 = 1 by decide), if_neg (show ¬ nI 7 = 2 by decide), if_neg (show ¬ nI 7 = 3 by decide), if_neg (show ¬ nI 7 = 4 by decide), if_neg (show ¬ nI 7 = 5 by decide), if_neg (show ¬ nI 7 = 6 by decide), if_pos (show nI 7 = 7 from rfl), if_neg (show ¬ ((2 : Int32) ≤ nI 7 ∧ nI 7 ≤ 6) by decide), if_pos rfl, if_pos rfl, if_neg (show ¬ nI 7 = 0 by decide), if_pos rfl]
    exact go _ (Out.wr _ gW0 gW1 (it_tog hX hq hW h m1 (by omega) he))
  · rw [if_neg (show ¬ nI 8 = 0 by decide), if_neg (show ¬ nI 8 = 1 by decide), if_neg (show ¬ nI 8 = 2 by decide), if_neg (show ¬ nI 8 = 3 by decide), if_neg (show ¬ nI 8 = 4 by decide), if_neg (show ¬ nI 8 = 5 by decide), if_neg (show ¬ nI 8 = 6 by decide), if_neg (show ¬ nI 8 = 7 by decide), if_pos (show nI 8 = 8 from rfl), if_neg (show ¬ ((2 : Int32) ≤ nI 8 ∧ nI 8 ≤ 6) by decide), if_pos rfl, if_pos rfl, if_neg (show ¬ nI 8 = 0 by decide), if_pos rfl]
    exact go _ (Out.wr _ gW0 gW1 (it_apa hX hq hW h m1 (by omega) he))
  · rw [if_neg (show ¬ nI 9 = 0 by decide), if_neg (show ¬ nI 9 = 1 by decide), if_neg (show ¬ nI 9 = 2 by decide), if_neg (show ¬ nI 9 = 3 by decide), if_neg (show ¬ nI 9 = 4 by decide), if_neg (show ¬ nI 9 = 5 by decide), if_neg (show ¬ nI 9 = 6 by decide), if_neg (show ¬ nI 9 = 7 by decide), if_neg (show ¬ nI 9 = 8 by decide), if_pos (show nI 9 = 9 from rfl), if_neg (show ¬ ((2 : Int32) ≤ nI 9 ∧ nI 9 ≤ 6) by decide), if_pos rfl, if_pos rfl, if_neg (show ¬ nI 9 = 0 by decide), if_pos rfl]
    exact go _ (Out.wr _ gW0 gW1 (it_wor hX hq hW h m1 (by omega) he))
  · rw [if_neg (show ¬ nI 10 = 0 by decide), if_neg (show ¬ nI 10 = 1 by decide), if_neg (show ¬ nI 10 = 2 by decide), if_neg (show ¬ nI 10 = 3 by decide), if_neg (show ¬ nI 10 = 4 by decide), if_neg (show ¬ nI 10 = 5 by decide), if_neg (show ¬ nI 10 = 6 by decide), if_neg (show ¬ nI 10 = 7 by decide), if_neg (show ¬ nI 10 = 8 by decide), if_neg (show ¬ nI 10 = 9 by decide), if_pos (show nI 10 = 10 from rfl), if_neg (show ¬ ((2 : Int32) ≤ nI 10 ∧ nI 10 ≤ 6) by decide), if_pos rfl, if_pos rfl, if_neg (show ¬ nI 10 = 0 by decide), if_pos rfl]
    exact go _ (Out.wr _ gW0 gW1 (it_cost hX hq hW h m1 (by omega) he))
theorem rdOther {q tl x e0 : Nat} {tx r : Nat → Nat} {w : Nat → Nat → Int} {Sx Sm : gSt} {t : Nat × Nat × Nat × Nat} {k26 : Int32 → gSt → Option (Int32 × gSt)} {s1 : Int32} (hX : Txt tl tx) (h : AtX Sx q tl tx r w t) (hm : AtM Sm tl tx r w t) (h0 : t.1 ≠ 0) (h1 : t.1 ≠ 1) (h4 : t.1 ≤ 4) (hst : t.2.2.1 ≤ tl) : Out q tl tx Sx Sm (fun S => k26 (nI x + 1) S) e0 (fX4_readItem s1 Sx) (fX11_room_L66 k26 (nI x) 0 Sm) := by
  have h3 := hX.1
  obtain ⟨c, hc, hc1, hc2⟩ : ∃ c, ck t = c ∧ 11 ≤ c ∧ c ≤ 14 := by
    refine ⟨_, rfl, ?_⟩
    unfold ck
    rw [if_neg h0, if_neg h1]
    split
    · omega
    · split <;> omega
  have hck : gR Sx 31 3 = nI c := by rw [h.2.2.2.1, hc]
  have ne : ∀ i, i < 11 → ¬ nI c = nI i := fun i hi => nI_neI (by omega) (by omega) (by omega)
  refine Or.inl ⟨t.2.2.1, Sx, gW Sm 77 8 (nI t.2.2.1), by omega, ?_, gRd.rf, h.2.2.2.2.1, ?_, gMd.rf.w7 (by omega), gR_Ws _ _ _ _⟩
  · unfold fX4_readItem
    rw [hck, if_neg (show ¬ nI c = 0 from ne 0 (by omega)), if_neg (show ¬ nI c = 1 from ne 1 (by omega)), if_neg (show ¬ nI c = 2 from ne 2 (by omega)), if_neg (show ¬ nI c = 3 from ne 3 (by omega)), if_neg (show ¬ nI c = 4 from ne 4 (by omega)), if_neg (show ¬ nI c = 5 from ne 5 (by omega)), if_neg (show ¬ nI c = 6 from ne 6 (by omega)), if_neg (show ¬ nI c = 7 from ne 7 (by omega)), if_neg (show ¬ nI c = 8 from ne 8 (by omega)), if_neg (show ¬ nI c = 9 from ne 9 (by omega)), if_neg (show ¬ nI c = 10 from ne 10 (by omega))]
  · unfold fX11_room_L66
    rw [hm.2.2.2.1, if_neg (show ¬ nI t.1 = 1 from nI_neI (b := 1) (by omega) (by omega) h1), L120_0 hm (by omega)]
theorem lock {q tl : Nat} {tx : Nat → Nat} (hX : Txt tl tx) (hq : gIsRu q = true) : ∀ (F x p : Nat) (r : Nat → Nat) (w : Nat → Nat → Int) (Sx Sm : gSt), RW r w → AtX Sx q tl tx r w (tk tl tx p) → AtM Sm tl tx r w (tk tl tx p) → p ≤ tl → x ≤ p → (x = 0 → r = rI ∧ w = wI) → tl - p < F →
    (∃ s Sx1 Sm1, s ≤ 300 ∧ fX4_readInto_L23 q F (nI x) Sx = some (-10 - nI s, Sx1) ∧ gRd q Sx Sx1 ∧ fX11_room_L26 F (nI x) Sm = some (-10 - nI s, Sm1) ∧ gMd Sm Sm1) ∨
    (∃ x' r' w' Sx1 Sm1, x' ≤ 300 ∧ RW r' w' ∧ fX4_readInto_L23 q F (nI x) Sx = some (nI x', Sx1) ∧ gRd q Sx Sx1 ∧ Ru Sx1 q r' w' ∧ fX11_room_L26 F (nI x) Sm = fX11_room_L165 (nI x') Sm1 ∧ gMd Sm Sm1 ∧ To Sm1 94 r' w' ∧ gR Sm1 77 8 = -1) := by
  intro F
  induction F with
  | zero => intro x p r w Sx Sm _ _ _ _ _ _ h; exact absurd h (Nat.not_lt_zero _)
  | succ F ih =>
    intro x p r w Sx Sm hW h hm hp hxp h0 hF
    have h3 := hX.1
    have ok := tk_ok (tx := tx) hp
    generalize ht : tk tl tx p = t at *
    obtain ⟨o1, o2, o3, o4, o5, o6, o7, o8⟩ := ok
    rw [fX4_readInto_L23, fX11_room_L26, m_well_t hm.1, gBp_s, if_neg (show ¬ (1 : Int32) = 0 by decide), hm.2.2.2.1, h.2.2.2.1]
    by_cases z0 : t.1 = 0
    · right
      have hck : ck t = 13 := by unfold ck; rw [if_pos z0]
      exact ⟨x, r, w, Sx, Sm, by omega, hW, by rw [hck, if_pos (show nI 13 = 13 from rfl)], gRd.rf, h.2.2.1, by rw [z0, if_pos (show nI 0 = 0 from rfl)], gMd.rf, hm.2.2.1, hm.1⟩
    have hst := o8 z0
    have hx300 : x < 300 := by omega
    have hck : ¬ nI (ck t) = 13 := by
      have : ck t ≠ 13 ∧ ck t < 20 := by
        unfold ck
        rw [if_neg z0]
        split
        · have := o5 (by assumption); omega
        · split
          · omega
          · split <;> omega
      exact nI_neI (b := 13) (by omega) (by omega) this.1
    have t0 : ¬ nI t.1 = 0 := nI_neI (b := 0) (by omega) (by omega) z0
    rw [if_neg hck, l300, if_neg (nI_nleI hx300 (by omega)), if_neg t0]
    have e49 : (if nI x = 0 then fX4_readInto_L49 (fX4_readInto_L23 q F) q (nI x) 1 Sx else fX4_readInto_L49 (fX4_readInto_L23 q F) q (nI x) 0 Sx) = fX4_readInto_L49 (fX4_readInto_L23 q F) q (nI x) (if nI x = 0 then 1 else 0) Sx := by split <;> rfl
    rw [e49]
    obtain ⟨F', rfl⟩ : ∃ F', F = F' + 1 := ⟨F - 1, by omega⟩
    have fin : ∀ G, Out q tl tx Sx Sm (fun S => fX11_room_L26 (F' + 1) (nI x + 1) S) p (fX4_readItem (if nI x = 0 then 1 else 0) Sx) G → (∃ s Sx1 Sm1, s ≤ 300 ∧ fX4_readInto_L49 (fX4_readInto_L23 q (F' + 1)) q (nI x) (if nI x = 0 then 1 else 0) Sx = some (-10 - nI s, Sx1) ∧ gRd q Sx Sx1 ∧ G = some (-10 - nI s, Sm1) ∧ gMd Sm Sm1) ∨ (∃ x' r' w' Sx1 Sm1, x' ≤ 300 ∧ RW r' w' ∧ fX4_readInto_L49 (fX4_readInto_L23 q (F' + 1)) q (nI x) (if nI x = 0 then 1 else 0) Sx = some (nI x', Sx1) ∧ gRd q Sx Sx1 ∧ Ru Sx1 q r' w' ∧ G = fX11_room_L165 (nI x') Sm1 ∧ gMd Sm Sm1 ∧ To Sm1 94 r' w' ∧ gR Sm1 77 8 = -1) := fun G o => by
      unfold fX4_readInto_L49
      rcases o with ⟨s, Sx1, Sm1, a, b, c, d, e, f, g⟩ | ⟨r', w', t', Sx1, Sm1, a, ⟨b1, b2, b3⟩, c, d, e, f, g, i⟩
      · left
        refine ⟨s, Sx1, Sm1, a, by rw [b, gBd_s, if_pos rfl, d], c, ?_, f⟩
        rw [e]
        show fX11_room_L26 (F' + 1) (nI x + 1) Sm1 = _
        rw [fX11_room_L26, m_well_f g a, gBp_s, if_pos rfl]
        unfold fX11_room_L165
        rw [m_well_f g a, gBp_s, if_pos rfl, g]
      · obtain ⟨S3, e3, F3, h33⟩ := c_tok hX hq e b1 b2
        rw [c, gBd_s, if_neg (by decide), e3, gBp_s, f]
        show (∃ s Sx1 Sm1, s ≤ 300 ∧ fX4_readInto_L23 q (F' + 1) (nI x + 1) S3 = some (-10 - nI s, Sx1) ∧ gRd q Sx Sx1 ∧ fX11_room_L26 (F' + 1) (nI x + 1) _ = some (-10 - nI s, Sm1) ∧ gMd Sm Sm1) ∨ (∃ x' r' w' Sx1 Sm1', x' ≤ 300 ∧ RW r' w' ∧ fX4_readInto_L23 q (F' + 1) (nI x + 1) S3 = some (nI x', Sx1) ∧ gRd q Sx Sx1 ∧ Ru Sx1 q r' w' ∧ fX11_room_L26 (F' + 1) (nI x + 1) Sm1 = fX11_room_L165 (nI x') Sm1' ∧ gMd Sm Sm1' ∧ To Sm1' 94 r' w' ∧ gR Sm1' 77 8 = -1)
        rw [nI_1]
        rcases ih (x + 1) t'.2.2.2 r' w' S3 Sm1 a h33 i b2 (by omega) (fun y => absurd y (by omega)) (by omega) with ⟨s, X1, M1, q1, q2, q3, q4, q5⟩ | ⟨x', r2, w2, X1, M1, q1, q2, q3, q4, q5, q6, q7, q8⟩
        · exact Or.inl ⟨s, X1, M1, q1, q2, (d.tr F3.rd).tr q3, q4, g.tr q5⟩
        · exact Or.inr ⟨x', r2, w2, X1, M1, q1, q2, q3, (d.tr F3.rd).tr q4, q5, q6, g.tr q7, q8⟩
    by_cases z1 : t.1 = 1
    · rw [if_pos (show nI t.1 = 1 by rw [z1]; rfl)]
      exact fin _ ((rdWord hX hq hW h hm z1 (o5 z1) o3 o1 hx300 h0).tr gRd.rf gMd.rf (by have := o7 z0 (by omega); omega))
    · rw [if_neg (show ¬ nI t.1 = 1 from nI_neI (b := 1) (by omega) (by omega) z1)]
      exact fin _ (rdOther hX h hm z0 z1 o4 o1)
