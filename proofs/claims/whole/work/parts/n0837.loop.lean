/-! the whole text, in step; needs: 0800 0801 0802 0803 0804 0805 0806 0807 0808 0809 0810 0811 0812 0813 0814 0815 0816 0821 0822 0829 0830 0831 0832 0833 0834 0835 08352 0836 -/
theorem L120_0 {k26 : Int32 → gSt → Option (Int32 × gSt)} {x1 : Int32} {S : gSt} {tl : Nat} {tx r : Nat → Nat} {w : Nat → Nat → Int} {t : Nat × Nat × Nat × Nat} (h : AtM S tl tx r w t) (hs : t.2.2.1 ≤ 300) : fX11_room_L120 k26 x1 0 S = k26 (x1 + 1) (gW S 77 8 (nI t.2.2.1)) := by
  unfold fX11_room_L120
  rw [m_takes_0 h, gBd_s, m_well_f (gR_Ws _ _ _ _) hs, gBp_s, if_pos rfl, L141_f (gR_Ws _ _ _ _) hs]
theorem L120_1 {k26 : Int32 → gSt → Option (Int32 × gSt)} {x1 : Int32} {S : gSt} {tl : Nat} {tx r : Nat → Nat} {w : Nat → Nat → Int} {t : Nat × Nat × Nat × Nat} (hX : Txt tl tx) (h : AtM S tl tx r w t) (h1 : t.1 = 1) (he : t.2.2.2 ≤ tl) : ∃ S1, fX11_room_L120 k26 x1 1 S = gBp (fX11_readsItem (nI t.2.1) S1) (fun S => fX11_room_L141 k26 x1 S) ∧ gMd S S1 ∧ AtM S1 tl tx r w (tk tl tx t.2.2.2) := by
  obtain ⟨S1, e1, F1, m1⟩ := m_tok hX h (by omega) he
  refine ⟨S1, ?_, F1.md, m1⟩
  unfold fX11_room_L120
  rw [e1, gBd_s, m_well_t m1.1, gBp_s, if_neg (by decide), h.2.2.2.2.2.1 (Or.inl h1)]
theorem neg10 {s : Nat} (h : s ≤ 300) : ¬ (0 : Int32) ≤ -10 - nI s := by
  have : ∀ s : Fin 301, ¬ (0 : Int32) ≤ -10 - nI s.val := by decide +kernel
  exact this ⟨s, by omega⟩
theorem rdWord {q tl x : Nat} {tx r : Nat → Nat} {w : Nat → Nat → Int} {Sx Sm : gSt} {t : Nat × Nat × Nat × Nat} {k26 : Int32 → gSt → Option (Int32 × gSt)} (hX : Txt tl tx) (hq : gIsRu q = true) (hW : RW r w) (h : AtX Sx q tl tx r w t) (hm : AtM Sm tl tx r w t) (h1 : t.1 = 1) (hv : t.2.1 < 11) (he : t.2.2.2 ≤ tl) (hst : t.2.2.1 ≤ tl) (hx : x < 300) (h0 : x = 0 → r = rI ∧ w = wI) : Out q tl tx Sx Sm (fun S => k26 (nI x + 1) S) t.2.2.2 (cItem (nI t.2.1) (nI x) Sx) (gBp (fX11_in (gR Sm 77 7) 2 6 Sm) (fun v_2 => if v_2 = 0 then fX11_room_L66 k26 (nI x) 0 Sm else fX11_room_L66 k26 (nI x) 1 Sm)) := by
  have h3 := hX.1
  have h7 := hm.2.2.2.2.2.1 (Or.inl h1)
  have h5 : gR Sm 77 5 = 1 := by rw [hm.2.2.2.1, h1]; rfl
  have bad : ∀ F G, F = some (0, Sx) → G = fX11_room_L120 k26 (nI x) 0 Sm → Out q tl tx Sx Sm (fun S => k26 (nI x + 1) S) t.2.2.2 F G := fun F G e1 e2 => Or.inl ⟨t.2.2.1, Sx, gW Sm 77 8 (nI t.2.2.1), by omega, e1, gRd.rf, h.2.2.2.2.1, by rw [e2, L120_0 hm (by omega)], gMd.rf.w7 (by omega), gR_Ws _ _ _ _⟩
  obtain ⟨S1, e1, F1, m1⟩ := L120_1 (k26 := k26) (x1 := nI x) hX hm h1 he
  have go : ∀ F, Out q tl tx Sx S1 (fun S => k26 (nI x + 1) S) t.2.2.2 F (gBp (fX11_readsItem (nI t.2.1) S1) (fun S => fX11_room_L141 k26 (nI x) S)) → Out q tl tx Sx Sm (fun S => k26 (nI x + 1) S) t.2.2.2 F (fX11_room_L120 k26 (nI x) 1 Sm) := fun F o => by
    rw [e1]
    exact o.tr gRd.rf F1 (Nat.le_refl _)
  have nine : ∀ c, c < 5 → gR Sm 79 (94 + (9 + c)) = nI (r (9 + c)) := fun c hc => hm.2.2.1.1 (9 + c) (by omega)
  rw [h7, m_in, gBp_s]
  unfold fX11_room_L66 fX11_room_L86 fX11_room_L110
  rw [h5, h7]
  generalize hvv : t.2.1 = v at *
  have law : ∀ c, c < 5 → v = c + 2 → ∀ F, (r (9 + c) = 0 → Out q tl tx Sx S1 (fun S => k26 (nI x + 1) S) t.2.2.2 F (gBp (fX11_readsItem (nI (c + 2)) S1) (fun S => fX11_room_L141 k26 (nI x) S))) → (¬ r (9 + c) = 0 → F = some (0, Sx)) → Out q tl tx Sx Sm (fun S => k26 (nI x + 1) S) t.2.2.2 F (gC (gIn (103 + (nI v - 2)) 188) (if gR Sm 79 (gN (103 + (nI v - 2))) = 0 then fX11_room_L120 k26 (nI x) 1 Sm else fX11_room_L120 k26 (nI x) 0 Sm)) := fun c hc hvc F hF1 hF2 => by
    have e : (103 : Int32) + (nI v - 2) = nI (94 + (9 + c)) := by
      rw [l2, nI_sub (by omega), show (103 : Int32) = nI 103 from rfl, nI_add]
      congr 1
      omega
    have hr8 := hW.2.2.2.1 c hc
    rw [e, gC_ok (gIn_ok (by omega) (by omega)), gN_nI (by omega), nine c hc]
    by_cases z : r (9 + c) = 0
    · rw [if_pos (by rw [z]; rfl)]
      refine go F ?_
      rw [hvc]
      exact hF1 z
    · rw [if_neg (show ¬ nI (r (9 + c)) = 0 from nI_neI (b := 0) (by omega) (by omega) z)]
      exact bad _ _ (hF2 z) rfl
  have nz : ∀ c, c < 5 → ¬ r (9 + c) = 0 → ¬ nI (r (9 + c)) = 0 := fun c hc z => nI_neI (b := 0) (by have := hW.2.2.2.1 c hc; omega) (by omega) z
  have lw : ∀ c, c < 5 → fX5_lawOf q (nI c) Sx = some (nI (r (9 + c))) := fun c hc => c_lawOf h.2.2.1 hc
  have hq1 := h.q1 hq
  have : v = 0 ∨ v = 1 ∨ v = 2 ∨ v = 3 ∨ v = 4 ∨ v = 5 ∨ v = 6 ∨ v = 7 ∨ v = 8 ∨ v = 9 ∨ v = 10 := by omega
  rcases this with rfl | rfl | rfl | rfl | rfl | rfl | rfl | rfl | rfl | rfl | rfl
  · rw [if_neg (show ¬ ((2 : Int32) ≤ nI 0 ∧ nI 0 ≤ 6) by decide), if_pos rfl, if_pos rfl, if_pos (show nI 0 = 0 from rfl)]
    by_cases z : x = 0
    · obtain ⟨rfl, rfl⟩ := h0 z
      subst z
      rw [if_pos (show nI 0 = 0 from rfl), cI_1 (show fX4_mayBegin (nI 0) (nI 0) Sx = some 1 by unfold fX4_mayBegin; rw [if_pos (show nI 0 = 0 from rfl), if_pos (show nI 0 = 0 from rfl)])]
      exact go _ (it_guests hX hq h m1 (by omega) he)
    · have zx : ¬ nI x = 0 := nI_neI (b := 0) (by omega) (by omega) z
      rw [if_neg zx]
      exact bad _ _ (cI_0 (by unfold fX4_mayBegin; rw [if_pos (show nI 0 = 0 from rfl), if_neg zx])) rfl
  · rw [if_neg (show ¬ ((2 : Int32) ≤ nI 1 ∧ nI 1 ≤ 6) by decide), if_pos rfl, if_pos rfl, if_neg (show ¬ nI 1 = 0 by decide), if_pos rfl, cI_1 (mayB_1 _ Sx)]
    exact go _ (it_hat hX hq hW h m1 (by omega) he)
  · rw [if_pos (show ((2 : Int32) ≤ nI 2 ∧ nI 2 ≤ 6) by decide), if_neg (show ¬ (1 : Int32) = 0 by decide), if_pos rfl, if_neg (show ¬ nI 2 = 0 by decide), if_neg (show ¬ (1 : Int32) = 0 by decide), if_neg (show ¬ (1 : Int32) = 0 by decide)]
    refine law 0 (by omega) rfl _ (fun z => ?_) (fun z => ?_)
    · rw [cI_1 (show fX4_mayBegin (nI 2) (nI x) Sx = some 1 by rw [mayB_2 _ hq1 hq, lw 0 (by omega), gBp_s, z]; exact if_pos rfl)]
      exact it_law (c := 0) hX hq hW (by omega) h m1 (by omega) he
    · exact cI_0 (by rw [mayB_2 _ hq1 hq, lw 0 (by omega), gBp_s]; exact if_neg (nz 0 (by omega) z))
  · rw [if_pos (show ((2 : Int32) ≤ nI 3 ∧ nI 3 ≤ 6) by decide), if_neg (show ¬ (1 : Int32) = 0 by decide), if_pos rfl, if_neg (show ¬ nI 3 = 0 by decide), if_neg (show ¬ (1 : Int32) = 0 by decide), if_neg (show ¬ (1 : Int32) = 0 by decide)]
    refine law 1 (by omega) rfl _ (fun z => ?_) (fun z => ?_)
    · rw [cI_1 (show fX4_mayBegin (nI 3) (nI x) Sx = some 1 by rw [mayB_3 _ hq1 hq, lw 1 (by omega), gBp_s, z]; exact if_pos rfl)]
      exact it_law (c := 1) hX hq hW (by omega) h m1 (by omega) he
    · exact cI_0 (by rw [mayB_3 _ hq1 hq, lw 1 (by omega), gBp_s]; exact if_neg (nz 1 (by omega) z))
  · rw [if_pos (show ((2 : Int32) ≤ nI 4 ∧ nI 4 ≤ 6) by decide), if_neg (show ¬ (1 : Int32) = 0 by decide), if_pos rfl, if_neg (show ¬ nI 4 = 0 by decide), if_neg (show ¬ (1 : Int32) = 0 by decide), if_neg (show ¬ (1 : Int32) = 0 by decide)]
    refine law 2 (by omega) rfl _ (fun z => ?_) (fun z => ?_)
    · rw [cI_1 (show fX4_mayBegin (nI 4) (nI x) Sx = some 1 by rw [mayB_4 _ hq1 hq, lw 2 (by omega), gBp_s, z]; exact if_pos rfl)]
      exact it_law (c := 2) hX hq hW (by omega) h m1 (by omega) he
    · exact cI_0 (by rw [mayB_4 _ hq1 hq, lw 2 (by omega), gBp_s]; exact if_neg (nz 2 (by omega) z))
  · rw [if_pos (show ((2 : Int32) ≤ nI 5 ∧ nI 5 ≤ 6) by decide), if_neg (show ¬ (1 : Int32) = 0 by decide), if_pos rfl, if_neg (show ¬ nI 5 = 0 by decide), if_neg (show ¬ (1 : Int32) = 0 by decide), if_neg (show ¬ (1 : Int32) = 0 by decide)]
    refine law 3 (by omega) rfl _ (fun z => ?_) (fun z => ?_)
    · rw [cI_1 (show fX4_mayBegin (nI 5) (nI x) Sx = some 1 by rw [mayB_5 _ hq1 hq, lw 3 (by omega), gBp_s, z]; exact if_pos rfl)]
      exact it_plain (c := 3) hX hq hW (by omega) (by omega) h m1 (by omega) he
    · exact cI_0 (by rw [mayB_5 _ hq1 hq, lw 3 (by omega), gBp_s]; exact if_neg (nz 3 (by omega) z))
  · rw [if_pos (show ((2 : Int32) ≤ nI 6 ∧ nI 6 ≤ 6) by decide), if_neg (show ¬ (1 : Int32) = 0 by decide), if_pos rfl, if_neg (show ¬ nI 6 = 0 by decide), if_neg (show ¬ (1 : Int32) = 0 by decide), if_neg (show ¬ (1 : Int32) = 0 by decide)]
    refine law 4 (by omega) rfl _ (fun z => ?_) (fun z => ?_)
    · rw [cI_1 (show fX4_mayBegin (nI 6) (nI x) Sx = some 1 by rw [mayB_6 _ hq1 hq, lw 4 (by omega), gBp_s, z]; exact if_pos rfl)]
      exact it_plain (c := 4) hX hq hW (by omega) (by omega) h m1 (by omega) he
    · exact cI_0 (by rw [mayB_6 _ hq1 hq, lw 4 (by omega), gBp_s]; exact if_neg (nz 4 (by omega) z))
  · rw [if_neg (show ¬ ((2 : Int32) ≤ nI 7 ∧ nI 7 ≤ 6) by decide), if_pos rfl, if_pos rfl, if_neg (show ¬ nI 7 = 0 by decide), if_pos rfl, cI_1 (mayB_7 _ Sx)]
    exact go _ (it_tog hX hq hW h m1 (by omega) he)
  · rw [if_neg (show ¬ ((2 : Int32) ≤ nI 8 ∧ nI 8 ≤ 6) by decide), if_pos rfl, if_pos rfl, if_neg (show ¬ nI 8 = 0 by decide), if_pos rfl, cI_1 (mayB_8 _ Sx)]
    exact go _ (it_apa hX hq hW h m1 (by omega) he)
  · rw [if_neg (show ¬ ((2 : Int32) ≤ nI 9 ∧ nI 9 ≤ 6) by decide), if_pos rfl, if_pos rfl, if_neg (show ¬ nI 9 = 0 by decide), if_pos rfl, cI_1 (mayB_9 _ Sx)]
    exact go _ (it_wor hX hq hW h m1 (by omega) he)
  · rw [if_neg (show ¬ ((2 : Int32) ≤ nI 10 ∧ nI 10 ≤ 6) by decide), if_pos rfl, if_pos rfl, if_neg (show ¬ nI 10 = 0 by decide), if_pos rfl, cI_1 (mayB_10 _ Sx)]
    exact go _ (it_cost hX hq hW h m1 (by omega) he)
theorem rdOther {q tl x e0 : Nat} {tx r : Nat → Nat} {w : Nat → Nat → Int} {Sx Sm : gSt} {t : Nat × Nat × Nat × Nat} {k26 : Int32 → gSt → Option (Int32 × gSt)} (hX : Txt tl tx) (h : AtX Sx q tl tx r w t) (hm : AtM Sm tl tx r w t) (h0 : t.1 ≠ 0) (h1 : t.1 ≠ 1) (h4 : t.1 ≤ 4) (hst : t.2.2.1 ≤ tl) : Out q tl tx Sx Sm (fun S => k26 (nI x + 1) S) e0 (cItem (nI (ck t)) (nI x) Sx) (fX11_room_L66 k26 (nI x) 0 Sm) := by
  have h3 := hX.1
  obtain ⟨c, hc, hc1, hc2⟩ : ∃ c, ck t = c ∧ 11 ≤ c ∧ c ≤ 14 := by
    refine ⟨_, rfl, ?_⟩
    unfold ck
    rw [if_neg h0, if_neg h1]
    split
    · omega
    · split <;> omega
  have ne : ∀ i, i < 11 → ¬ nI c = nI i := fun i hi => nI_neI (by omega) (by omega) (by omega)
  refine Or.inl ⟨t.2.2.1, Sx, gW Sm 77 8 (nI t.2.2.1), by omega, ?_, gRd.rf, h.2.2.2.2.1, ?_, gMd.rf.w7 (by omega), gR_Ws _ _ _ _⟩
  · rw [hc]
    refine cI_0 ?_
    unfold fX4_mayBegin
    rw [if_neg (show ¬ nI c = 0 from ne 0 (by omega)), if_neg (show ¬ nI c = 2 from ne 2 (by omega)), if_neg (show ¬ nI c = 3 from ne 3 (by omega)), if_neg (show ¬ nI c = 4 from ne 4 (by omega)), if_neg (show ¬ nI c = 5 from ne 5 (by omega)), if_neg (show ¬ nI c = 6 from ne 6 (by omega)), if_pos (show (11 : Int32) ≤ nI c from nI_le (a := 11) hc1 (by omega))]
  · unfold fX11_room_L66
    rw [hm.2.2.2.1, if_neg (show ¬ nI t.1 = 1 from nI_neI (b := 1) (by omega) (by omega) h1), L120_0 hm (by omega)]
theorem L23_eq {q n : Nat} {V x : Int32} {S : gSt} (hV : gR S 31 4 = V) (h13 : ¬ V = 13) (hx : ¬ 300 ≤ x) : fX4_readInto_L23 q (n + 1) x S = gBd (cItem V x S) (fun c S1 => if c = 0 then some (-10 - gR S1 31 5, S1) else gBp (fX4_advance S1) (fun S8 => fX4_readInto_L23 q n (x + 1) S8)) := by
  rw [fX4_readInto_L23, hV, if_neg h13, if_neg hx, gL_s]
  unfold cItem cRest cK cFin
  cases fX4_mayBegin V x S with
  | none => rfl
  | some b =>
    rw [gBp_s, gBp_s]
    by_cases z : b = 0
    · rw [if_pos z, if_pos z, gBd_s, if_pos rfl]
    · rw [if_neg z, if_neg z]
      cases fX4_readNumbers V S with
      | none => rfl
      | some p =>
        obtain ⟨c, S4⟩ := p
        rw [gBd_s, gBd_s]
        by_cases y : c = 0
        · rw [if_pos y, if_pos y, gBd_s, if_pos rfl]
        · rw [if_neg y, if_neg y]
          cases fX4_readSemicolon S4 with
          | none => rfl
          | some p =>
            obtain ⟨e, S6⟩ := p
            rw [gBd_s, gBd_s]
            by_cases u : e = 0
            · rw [if_pos u, if_pos u, gBd_s, if_pos rfl]
            · rw [if_neg u, if_neg u]
              cases fX4_tell V S6 with
              | none => rfl
              | some S7 => rw [gBp_s, gBp_s, gBd_s, if_neg (show ¬ (1 : Int32) = 0 by decide)]
theorem lock {q tl : Nat} {tx : Nat → Nat} (hX : Txt tl tx) (hq : gIsRu q = true) : ∀ (F x p : Nat) (r : Nat → Nat) (w : Nat → Nat → Int) (Sx Sm : gSt), RW r w → AtX Sx q tl tx r w (tk tl tx p) → AtM Sm tl tx r w (tk tl tx p) → p ≤ tl → x ≤ p → (x = 0 → r = rI ∧ w = wI) → tl - p < F →
    (∃ s Sx1 Sm1, s ≤ 300 ∧ fX4_readInto_L23 q F (nI x) Sx = some (-10 - nI s, Sx1) ∧ gRd q Sx Sx1 ∧ fX11_room_L26 F (nI x) Sm = some (-10 - nI s, Sm1) ∧ gMd Sm Sm1) ∨
    (∃ x' r' w' Sx1 Sm1, x' ≤ 300 ∧ RW r' w' ∧ fX4_readInto_L23 q F (nI x) Sx = some (nI x', Sx1) ∧ gRd q Sx Sx1 ∧ Ru Sx1 q r' w' ∧ fX11_room_L26 F (nI x) Sm = fX11_room_L165 (nI x') Sm1 ∧ gMd Sm Sm1 ∧ To Sm1 94 r' w' ∧ gR Sm1 77 8 = -1) := by
  intro F
  induction F with
  | zero => intro x p r w Sx Sm _ _ _ _ _ _ h; exact absurd h (Nat.not_lt_zero _)
  | succ F ih =>
    intro x p r w Sx Sm hW h hm hp hxp h0 hF
    have h3 := hX.1
    have ok := tk_ok (tx := tx) hp
    generalize ht : tk tl tx p = t at *
    obtain ⟨o1, o2, o3, o4, o5, o6, o7, o8⟩ := ok
    rw [fX11_room_L26, m_well_t hm.1, gBp_s, if_neg (show ¬ (1 : Int32) = 0 by decide), hm.2.2.2.1]
    by_cases z0 : t.1 = 0
    · right
      have hck : ck t = 13 := by unfold ck; rw [if_pos z0]
      exact ⟨x, r, w, Sx, Sm, by omega, hW, by rw [fX4_readInto_L23, h.2.2.2.1, hck, if_pos (show nI 13 = 13 from rfl)], gRd.rf, h.2.2.1, by rw [z0, if_pos (show nI 0 = 0 from rfl)], gMd.rf, hm.2.2.1, hm.1⟩
    have hst := o8 z0
    have hx300 : x < 300 := by omega
    have hck : ¬ nI (ck t) = 13 := by
      have : ck t ≠ 13 ∧ ck t < 20 := by
        unfold ck
        rw [if_neg z0]
        split
        · have := o5 (by assumption); omega
        · split
          · omega
          · split <;> omega
      exact nI_neI (b := 13) (by omega) (by omega) this.1
    have t0 : ¬ nI t.1 = 0 := nI_neI (b := 0) (by omega) (by omega) z0
    rw [L23_eq h.2.2.2.1 hck (show ¬ (300 : Int32) ≤ nI x from nI_nleI (b := 300) hx300 (by omega)), if_neg t0]
    obtain ⟨F', rfl⟩ : ∃ F', F = F' + 1 := ⟨F - 1, by omega⟩
    have fin : ∀ G, Out q tl tx Sx Sm (fun S => fX11_room_L26 (F' + 1) (nI x + 1) S) p (cItem (nI (ck t)) (nI x) Sx) G → (∃ s Sx1 Sm1, s ≤ 300 ∧ gBd (cItem (nI (ck t)) (nI x) Sx) (fun c S1 => if c = 0 then some (-10 - gR S1 31 5, S1) else gBp (fX4_advance S1) (fun S8 => fX4_readInto_L23 q (F' + 1) (nI x + 1) S8)) = some (-10 - nI s, Sx1) ∧ gRd q Sx Sx1 ∧ G = some (-10 - nI s, Sm1) ∧ gMd Sm Sm1) ∨ (∃ x' r' w' Sx1 Sm1, x' ≤ 300 ∧ RW r' w' ∧ gBd (cItem (nI (ck t)) (nI x) Sx) (fun c S1 => if c = 0 then some (-10 - gR S1 31 5, S1) else gBp (fX4_advance S1) (fun S8 => fX4_readInto_L23 q (F' + 1) (nI x + 1) S8)) = some (nI x', Sx1) ∧ gRd q Sx Sx1 ∧ Ru Sx1 q r' w' ∧ G = fX11_room_L165 (nI x') Sm1 ∧ gMd Sm Sm1 ∧ To Sm1 94 r' w' ∧ gR Sm1 77 8 = -1) := fun G o => by
      rcases o with ⟨s, Sx1, Sm1, a, b, c, d, e, f, g⟩ | ⟨r', w', t', Sx1, Sm1, a, ⟨b1, b2, b3⟩, c, d, e, f, g, i⟩
      · left
        refine ⟨s, Sx1, Sm1, a, by rw [b, gBd_s, if_pos rfl, d], c, ?_, f⟩
        rw [e]
        show fX11_room_L26 (F' + 1) (nI x + 1) Sm1 = _
        rw [fX11_room_L26, m_well_f g a, gBp_s, if_pos rfl]
        unfold fX11_room_L165
        rw [m_well_f g a, gBp_s, if_pos rfl, g]
      · obtain ⟨S3, e3, F3, h33⟩ := c_tok hX hq e b1 b2
        rw [c, gBd_s, if_neg (by decide), e3, gBp_s, f]
        show (∃ s Sx1 Sm1, s ≤ 300 ∧ fX4_readInto_L23 q (F' + 1) (nI x + 1) S3 = some (-10 - nI s, Sx1) ∧ gRd q Sx Sx1 ∧ fX11_room_L26 (F' + 1) (nI x + 1) _ = some (-10 - nI s, Sm1) ∧ gMd Sm Sm1) ∨ (∃ x' r' w' Sx1 Sm1', x' ≤ 300 ∧ RW r' w' ∧ fX4_readInto_L23 q (F' + 1) (nI x + 1) S3 = some (nI x', Sx1) ∧ gRd q Sx Sx1 ∧ Ru Sx1 q r' w' ∧ fX11_room_L26 (F' + 1) (nI x + 1) Sm1 = fX11_room_L165 (nI x') Sm1' ∧ gMd Sm Sm1' ∧ To Sm1' 94 r' w' ∧ gR Sm1' 77 8 = -1)
        rw [nI_1]
        rcases ih (x + 1) t'.2.2.2 r' w' S3 Sm1 a h33 i b2 (by omega) (fun y => absurd y (by omega)) (by omega) with ⟨s, X1, M1, q1, q2, q3, q4, q5⟩ | ⟨x', r2, w2, X1, M1, q1, q2, q3, q4, q5, q6, q7, q8⟩
        · exact Or.inl ⟨s, X1, M1, q1, q2, (d.tr F3.rd).tr q3, q4, g.tr q5⟩
        · exact Or.inr ⟨x', r2, w2, X1, M1, q1, q2, q3, (d.tr F3.rd).tr q4, q5, q6, g.tr q7, q8⟩
    by_cases z1 : t.1 = 1
    · rw [if_pos (show nI t.1 = 1 by rw [z1]; rfl)]
      have hck1 : ck t = t.2.1 := by unfold ck; rw [if_neg z0, if_pos z1]
      refine fin _ ?_
      rw [hck1]
      exact ((rdWord hX hq hW h hm z1 (o5 z1) o3 o1 hx300 h0).tr gRd.rf gMd.rf (by have := o7 z0 (by omega); omega))
    · rw [if_neg (show ¬ nI t.1 = 1 from nI_neI (b := 1) (by omega) (by omega) z1)]
      exact fin _ (rdOther hX h hm z0 z1 o4 o1)
