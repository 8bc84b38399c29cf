/-! two guests, in step; needs: 0800 0801 0802 0803 0804 0805 0806 0807 0808 0809 0810 0811 0812 0813 0814 0815 0816 0821 0822 0829 0830 0831 0832 0833 0834 0835 -/
theorem it_two {Sx Sm : gSt} {q tl : Nat} {a : Int32} {tx r : Nat → Nat} {w : Nat → Nat → Int} {t : Nat × Nat × Nat × Nat} {k26 : Int32 → gSt → Option (Int32 × gSt)} {x1 : Int32} {Cc : gSt → Option (Int32 × gSt)} (hX : Txt tl tx) (hq : gIsRu q = true) (hW : RW r w) (h : AtX Sx q tl tx r w t) (hm : AtM Sm tl tx r w (tk tl tx t.2.2.2)) (h4 : t.1 ≠ 4) (he : t.2.2.2 ≤ tl)
    (hs : ∀ S1 S2 x y t', x < r 0 → y < r 0 → x ≠ y → AtX S1 q tl tx r w t' → t'.1 ≠ 4 → t'.2.2.2 ≤ tl → gR S1 31 6 = nI x → gR S1 31 7 = nI y → AtM S2 tl tx r w (tk tl tx t'.2.2.2) → Out q tl tx S1 S2 (fun S => k26 (x1 + 1) S) t'.2.2.2 (Cc S1) (gBp (M57 a (nI x) (nI y) S2) (fun S => fX11_room_L141 k26 x1 S))) : Out q tl tx Sx Sm (fun S => k26 (x1 + 1) S) t.2.2.2 (gBd (fX4_readTwoGuests Sx) (fun v_1 S_2 => if v_1 = 0 then some (0, S_2) else Cc S_2)) (gBp (fX11_readsTwo a Sm) (fun S => fX11_room_L141 k26 x1 S)) := by
  have h1W := hW.1
  have h8W := hW.2.1
  have h3t := hX.1
  unfold fX4_readTwoGuests fX11_readsTwo
  rw [gC_ok (show gIn 94 188 = true by decide), gBp_Bd, h.q1 hq, gC_ok hq, show fX5_guests q Sx = some (nI (r 0)) from congrArg some h.2.2.1.1, gBp_s, show gN 94 = 94 + 0 from rfl, hm.2.2.1.1 0 (by omega), gBd_Bd]
  have ok := tk_ok (tx := tx) he
  have e1 : ∀ (v_2 : Int32) (S_3 : gSt), (gBd (if v_2 = 0 then some ((0 : Int32), S_3) else gL (gW S_3 31 6 (gR S_3 31 5)) fun S_4 => gC (gIsRu (gN (gR S_4 31 1))) (gBp (fX5_guests (gN (gR S_4 31 1)) S_4) fun v_5 => gBd (fX4_readNumber 0 (v_5 - 1) S_4) fun v_6 S_7 => if v_6 = 0 then some ((0 : Int32), S_7) else gL (gW S_7 31 7 (gR S_7 31 5)) fun S_8 => if gR S_8 31 6 = gR S_8 31 7 then some ((0 : Int32), S_8) else some ((1 : Int32), S_8))) (fun v_1 S_2 => if v_1 = 0 then some ((0 : Int32), S_2) else Cc S_2)) = (if v_2 = 0 then some ((0 : Int32), S_3) else gBd (gL (gW S_3 31 6 (gR S_3 31 5)) fun S_4 => gC (gIsRu (gN (gR S_4 31 1))) (gBp (fX5_guests (gN (gR S_4 31 1)) S_4) fun v_5 => gBd (fX4_readNumber 0 (v_5 - 1) S_4) fun v_6 S_7 => if v_6 = 0 then some ((0 : Int32), S_7) else gL (gW S_7 31 7 (gR S_7 31 5)) fun S_8 => if gR S_8 31 6 = gR S_8 31 7 then some ((0 : Int32), S_8) else some ((1 : Int32), S_8))) (fun v_1 S_2 => if v_1 = 0 then some ((0 : Int32), S_2) else Cc S_2)) := fun v_2 S_3 => by
    by_cases z : v_2 = 0
    · rw [if_pos z, if_pos z, gBd_s, if_pos rfl]
    · rw [if_neg z, if_neg z]
  refine Out.cast (gBd_fun _ e1) ?_
  refine numb (a := 0) (b := r 0 - 1) hX hq h hm h4 he rfl (lm1s h1W) (by omega) (by omega) (fun S s hs hf => ⟨S, ?_, gMd.rf, hf⟩) (fun S1 S2 on F1 F2 h1 h5 h2 => ?_)
  · have e57 : ∀ b, gBp (fX11_readsTwo_L57 a 0 b S) (fun S => fX11_room_L141 k26 x1 S) = k26 (x1 + 1) S := fun b => by rw [L57_f hf hs, gBp_s, L141_f hf hs]
    by_cases z : gR S 77 5 = 2
    · have e : ∀ c : Int32, gBp (if c = 0 then fX11_readsTwo_L57 a 0 0 S else if gR S 77 7 = 0 then fX11_readsTwo_L57 a 0 0 S else fX11_readsTwo_L57 a 0 1 S) (fun S => fX11_room_L141 k26 x1 S) = k26 (x1 + 1) S := fun c => by
        split
        · exact e57 0
        · split
          · exact e57 0
          · exact e57 1
      rw [if_pos z, gC_ok (by decide), m_in, gBp_s]
      exact e _
    · rw [if_neg z]
      exact e57 0
  · generalize tk tl tx t.2.2.2 = u at *
    obtain ⟨o1, o2, o3⟩ := on
    have hok3 := ok.2.2.1
    have ok2 := tk_ok (tx := tx) hok3
    have hx := h1.w6 (k := 6) (v := nI u.2.1) hq (by omega)
    obtain ⟨S3, F3, h3, e3⟩ := c_number (a := 0) (b := r 0 - 1) hX hq hx (by omega) hok3 (by omega) (by omega)
    have h6 : gR S3 31 6 = nI u.2.1 := by rw [F3.2 31 6 (by omega)]; exact gR_Ws _ _ _ _
    rw [gL_s, h5, hx.q1 hq, gC_ok hq, show fX5_guests q (gW S1 31 6 (nI u.2.1)) = some (nI (r 0)) from congrArg some hx.2.2.1.1, gBp_s, lm1s h1W, gC_ok (by decide), h2.2.2.1.1 0 (by omega), lm1s h1W, m_in, gBp_s]
    have hk := h2.2.2.2
    generalize tk tl tx u.2.2.2 = u2 at *
    obtain ⟨k1, k2, k3, k4⟩ := hk
    rw [k1]
    have e2 : nI u2.1 = 2 ↔ u2.1 = 2 := nI_eq (b := 2) (by have := ok2.2.2.2.1; omega) (by omega)
    have bad : ¬ (okN u2 0 (r 0 - 1) ∧ u2.2.1 ≠ u.2.1) → ∃ S4, gRd q S1 S4 ∧ gR S4 31 4 = nI u2.2.2.1 ∧ (gBd (fX4_readNumber 0 (nI (r 0 - 1)) (gW S1 31 6 (nI u.2.1))) fun v_6 S_7 => if v_6 = 0 then some ((0 : Int32), S_7) else gL (gW S_7 31 7 (gR S_7 31 5)) fun S_8 => if gR S_8 31 6 = gR S_8 31 7 then some ((0 : Int32), S_8) else some ((1 : Int32), S_8)) = some ((0 : Int32), S4) := fun hb => by
      rcases e3 with ⟨on2, e3, e5⟩ | ⟨on2, e3⟩
      · have hv : u2.2.1 = u.2.1 := by
          rcases Nat.decEq u2.2.1 u.2.1 with y | y
          · exact absurd ⟨on2, y⟩ hb
          · exact y
        refine ⟨gW S3 31 7 (nI u2.2.1), ((gRd.rf.w).tr F3.rd).w, by rw [gR_Wk (by omega)]; exact h3.2.2.2.2.1, ?_⟩
        rw [show fX4_readNumber 0 (nI (r 0 - 1)) (gW S1 31 6 (nI u.2.1)) = _ from e3, gBd_s, if_neg (by decide), e5, gL_s, gR_Ws, gR_Wk (by omega), h6, if_pos (by rw [hv])]
      · refine ⟨S3, (gRd.rf.w).tr F3.rd, h3.2.2.2.2.1, ?_⟩
        rw [show fX4_readNumber 0 (nI (r 0 - 1)) (gW S1 31 6 (nI u.2.1)) = _ from e3, gBd_s, if_pos rfl]
    have hst : u2.2.2.1 ≤ 300 := by have := ok2.1; omega
    have badm : fX11_readsTwo_L57 a (nI u.2.1) 0 S2 = some (gW S2 77 8 (nI u2.2.2.1)) := by
      rw [L57_eq, m_takes_0 h2, gBd_s, M57_f (gR_Ws _ _ _ _) hst]
    have outb : ∀ (F : Option (Int32 × gSt)) (G : Option gSt), (∃ S4, gRd q S1 S4 ∧ gR S4 31 4 = nI u2.2.2.1 ∧ F = some (0, S4)) → G = some (gW S2 77 8 (nI u2.2.2.1)) → Out q tl tx S1 S2 (fun S => k26 (x1 + 1) S) u.2.2.2 (gBd F (fun v_1 S_2 => if v_1 = 0 then some (0, S_2) else Cc S_2)) (gBp G (fun S => fX11_room_L141 k26 x1 S)) := fun F G ⟨S4, g1, g2, g3⟩ g4 => by
      rw [g3, g4, gBd_s, if_pos rfl, gBp_s, L141_f (gR_Ws _ _ _ _) hst]
      exact Or.inl ⟨u2.2.2.1, S4, _, hst, rfl, g1, g2, rfl, gMd.rf.w7 (by omega), gR_Ws _ _ _ _⟩
    by_cases z : u2.1 = 2
    · have h7 := k3 (Or.inr z)
      have hv99 := ok2.2.2.2.2.2.1 z
      rw [if_pos (e2.mpr z), h7]
      by_cases z1 : u2.2.1 ≤ r 0 - 1
      · rw [if_pos (show (0 : Int32) ≤ nI u2.2.1 ∧ nI u2.2.1 ≤ nI (r 0 - 1) from ⟨nI_pos' (by omega), nI_le z1 (by omega)⟩), if_neg (by decide)]
        by_cases z2 : u2.2.1 = u.2.1
        · rw [if_pos (show nI u2.2.1 = nI u.2.1 by rw [z2])]
          exact outb _ _ (bad (fun y => y.2 z2)) badm
        · rw [if_neg (nI_neI (by omega) (by omega) z2)]
          rcases e3 with ⟨on2, e3, e5⟩ | ⟨on2, -⟩
          · obtain ⟨S5, e6, F5, h55⟩ := m_tok hX h2 (by omega) ok2.2.2.1
            rw [L57_eq, e6, gBd_s, h7, show fX4_readNumber 0 (nI (r 0 - 1)) (gW S1 31 6 (nI u.2.1)) = _ from e3, gBd_s, if_neg (by decide), e5, gL_s, gR_Ws, gR_Wk (by omega), h6, if_neg (nI_neI (by omega) (by omega) (fun y => z2 y.symm)), gBd_s, if_neg (by decide)]
            have h3' := h3.w6 (k := 7) (v := nI u2.2.1) hq (by omega)
            exact (hs (gW S3 31 7 (nI u2.2.1)) S5 u.2.1 u2.2.1 u2 (by omega) (by omega) (fun y => z2 y.symm) h3' (by omega) ok2.2.2.1 (by rw [gR_Wk (by omega)]; exact h6) (gR_Ws _ _ _ _) h55).tr ((gRd.rf.w).tr F3.rd).w F5.md (by have := ok2.2.2.2.2.2.2.1 (by omega) (by omega); omega)
          · exact absurd ⟨z, by omega, z1⟩ on2
      · rw [if_neg (show ¬ ((0 : Int32) ≤ nI u2.2.1 ∧ nI u2.2.1 ≤ nI (r 0 - 1)) from fun y => absurd ((nI_leI (by omega) (by omega)).mp y.2) z1), if_pos rfl]
        exact outb _ _ (bad (fun y => z1 y.1.2.2)) badm
    · rw [if_neg (fun y => z (e2.mp y))]
      exact outb _ _ (bad (fun y => z y.1.1)) badm
