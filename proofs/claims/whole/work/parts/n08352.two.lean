/-! two guests, in step; needs: 0800 0801 0802 0803 0804 0805 0806 0807 0808 0809 0810 0811 0812 0813 0814 0815 0816 0821 0822 0829 0830 0831 0832 0833 0834 0835 -/
theorem it_two {Sx Sm : gSt} {q tl v n : Nat} {a d : Int32} {tx r : Nat → Nat} {w : Nat → Nat → Int} {t : Nat × Nat × Nat × Nat} {k26 : Int32 → gSt → Option (Int32 × gSt)} {x1 : Int32} (hX : Txt tl tx) (hq : gIsRu q = true) (hW : RW r w) (hv7 : 7 ≤ v) (hv : v < 11) (hd0 : ¬ d ≤ nI 0) (hd1 : ¬ d ≤ nI 1) (h : AtX Sx q tl tx r w t) (hm : AtM Sm tl tx r w (tk tl tx t.2.2.2)) (h4 : t.1 ≠ 4) (he : t.2.2.2 ≤ tl)
    (hs : ∀ S1 S2 x y t', x < r 0 → y < r 0 → x ≠ y → AtX S1 q tl tx r w t' → t'.1 ≠ 4 → t'.2.2.2 ≤ tl → gR S1 87 0 = nI x → gR S1 87 1 = nI y → AtM S2 tl tx r w (tk tl tx t'.2.2.2) → Out q tl tx S1 S2 (fun S => k26 (x1 + 1) S) t'.2.2.2 (cLoop (n + 2) (nI v) d (nI 2) S1) (gBp (M57 a (nI x) (nI y) S2) (fun S => fX11_room_L141 k26 x1 S))) : Out q tl tx Sx Sm (fun S => k26 (x1 + 1) S) t.2.2.2 (cLoop (n + 4) (nI v) d (nI 0) Sx) (gBp (fX11_readsTwo a Sm) (fun S => fX11_room_L141 k26 x1 S)) := by
  have h1W := hW.1
  have h8W := hW.2.1
  have h3t := hX.1
  have hlw : lwN v = 0 := if_neg (by omega)
  have hv1 : ¬ nI v = 1 := nI_neI (b := 1) (by omega) (by omega) (by omega)
  have hh0 : hiN (r 0) v 0 = r 0 - 1 := by unfold hiN; rw [if_neg (by omega), if_neg (by omega), if_pos (by omega)]
  have hh1 : hiN (r 0) v 1 = r 0 - 1 := by unfold hiN; rw [if_neg (by omega), if_neg (by omega), if_pos (by omega)]
  unfold fX11_readsTwo
  rw [cL_go hd0 (show ¬ (3 : Int32) ≤ nI 0 by decide), gC_ok (show gIn 94 188 = true by decide), gBp_Bd, show gN 94 = 94 + 0 from rfl, hm.2.2.1.1 0 (by omega)]
  have ok := tk_ok (tx := tx) he
  refine numb (a := 0) (b := r 0 - 1) (V := nI v) (I := nI 0) hX hq h hm h4 he rfl (lm1s h1W) (by omega) (by omega) (fun S => by rw [c_lowest S hv, hlw]) (fun S t hS => by rw [c_highest hS hq hW hv (by omega), hh0]) (fun S s hs hf => ⟨S, ?_, gMd.rf, hf⟩) (fun S1 S2 on F1 F2 h1 h5 h2 => ?_)
  · have e57 : ∀ b, gBp (fX11_readsTwo_L57 a 0 b S) (fun S => fX11_room_L141 k26 x1 S) = k26 (x1 + 1) S := fun b => by rw [L57_f hf hs, gBp_s, L141_f hf hs]
    by_cases z : gR S 77 5 = 2
    · have e : ∀ c : Int32, gBp (if c = 0 then fX11_readsTwo_L57 a 0 0 S else if gR S 77 7 = 0 then fX11_readsTwo_L57 a 0 0 S else fX11_readsTwo_L57 a 0 1 S) (fun S => fX11_room_L141 k26 x1 S) = k26 (x1 + 1) S := fun c => by
        split
        · exact e57 0
        · split
          · exact e57 0
          · exact e57 1
      rw [if_pos z, gC_ok (by decide), m_in, gBp_s]
      exact e _
    · rw [if_neg z]
      exact e57 0
  · generalize tk tl tx t.2.2.2 = u at *
    obtain ⟨o1, o2, o3⟩ := on
    have hok3 := ok.2.2.1
    have ok2 := tk_ok (tx := tx) hok3
    have hx := h1.w87 (k := 0) (v := nI u.2.1) hq
    obtain ⟨S3, F3, h3, e3⟩ := c_number (a := 0) (b := r 0 - 1) (V := nI v) (I := nI 1) hX hq hx (by omega) hok3 (by omega) (by omega) (fun S => by rw [c_lowest S hv, hlw]) (fun S t hS => by rw [c_highest hS hq hW hv (by omega), hh1])
    have h6 : gR S3 87 0 = nI u.2.1 := by rw [F3.2 87 0 (by omega)]; exact gR_Ws _ _ _ _
    rw [cC_0, h5, cL_go hd1 (show ¬ (3 : Int32) ≤ nI 1 by decide), gC_ok (by decide), h2.2.2.1.1 0 (by omega), lm1s h1W, m_in, gBp_s]
    have hk := h2.2.2.2
    generalize tk tl tx u.2.2.2 = u2 at *
    obtain ⟨k1, k2, k3, k4⟩ := hk
    rw [k1]
    have e2 : nI u2.1 = 2 ↔ u2.1 = 2 := nI_eq (b := 2) (by have := ok2.2.2.2.1; omega) (by omega)
    have bad : ¬ (okN u2 0 (r 0 - 1) ∧ u2.2.1 ≠ u.2.1) → ∃ S4, gRd q S1 S4 ∧ gR S4 31 5 = nI u2.2.2.1 ∧ (gBd (rdN (nI v) (nI 1) (gW S1 87 0 (nI u.2.1))) fun c S_7 => if c = 0 then some ((0 : Int32), S_7) else cC (n + 2) (nI v) d (nI 1) S_7) = some ((0 : Int32), S4) := fun hb => by
      refine ⟨S3, (gRd.rf.w87).tr F3.rd, h3.2.2.2.2.1, ?_⟩
      rcases e3 with ⟨on2, e3, e5⟩ | ⟨on2, e3⟩
      · have hv : u2.2.1 = u.2.1 := by
          rcases Nat.decEq u2.2.1 u.2.1 with y | y
          · exact absurd ⟨on2, y⟩ hb
          · exact y
        rw [e3, gBd_s, if_neg (by decide), cC_p hv1, e5, h6, if_pos (by rw [hv])]
      · rw [e3, gBd_s, if_pos rfl]
    have hst : u2.2.2.1 ≤ 300 := by have := ok2.1; omega
    have badm : fX11_readsTwo_L57 a (nI u.2.1) 0 S2 = some (gW S2 77 8 (nI u2.2.2.1)) := by
      rw [L57_eq, m_takes_0 h2, gBd_s, M57_f (gR_Ws _ _ _ _) hst]
    have outb : ∀ (F : Option (Int32 × gSt)) (G : Option gSt), (∃ S4, gRd q S1 S4 ∧ gR S4 31 5 = nI u2.2.2.1 ∧ F = some (0, S4)) → G = some (gW S2 77 8 (nI u2.2.2.1)) → Out q tl tx S1 S2 (fun S => k26 (x1 + 1) S) u.2.2.2 F (gBp G (fun S => fX11_room_L141 k26 x1 S)) := fun F G ⟨S4, g1, g2, g3⟩ g4 => by
      rw [g3, g4, gBp_s, L141_f (gR_Ws _ _ _ _) hst]
      exact Or.inl ⟨u2.2.2.1, S4, _, hst, rfl, g1, g2, rfl, gMd.rf.w7 (by omega), gR_Ws _ _ _ _⟩
    by_cases z : u2.1 = 2
    · have h7 := k3 (Or.inr z)
      have hv99 := ok2.2.2.2.2.2.1 z
      rw [if_pos (e2.mpr z), h7]
      by_cases z1 : u2.2.1 ≤ r 0 - 1
      · rw [if_pos (show (0 : Int32) ≤ nI u2.2.1 ∧ nI u2.2.1 ≤ nI (r 0 - 1) from ⟨nI_pos' (by omega), nI_le z1 (by omega)⟩), if_neg (by decide)]
        by_cases z2 : u2.2.1 = u.2.1
        · rw [if_pos (show nI u2.2.1 = nI u.2.1 by rw [z2])]
          exact outb _ _ (bad (fun y => y.2 z2)) badm
        · rw [if_neg (nI_neI (by omega) (by omega) z2)]
          rcases e3 with ⟨on2, e3, e5⟩ | ⟨on2, -⟩
          · obtain ⟨S5, e6, F5, h55⟩ := m_tok hX h2 (by omega) ok2.2.2.1
            rw [L57_eq, e6, gBd_s, h7, e3, gBd_s, if_neg (by decide), cC_p hv1, e5, h6, if_neg (nI_neI (by omega) (by omega) z2)]
            have h3' := h3.w87 (k := 1) (v := nI u2.2.1) hq
            exact (hs (gW S3 87 1 (nI u2.2.1)) S5 u.2.1 u2.2.1 u2 (by omega) (by omega) (fun y => z2 y.symm) h3' (by omega) ok2.2.2.1 (by rw [gR_Wk (by omega)]; exact h6) (gR_Ws _ _ _ _) h55).tr ((gRd.rf.w87).tr F3.rd).w87 F5.md (by have := ok2.2.2.2.2.2.2.1 (by omega) (by omega); omega)
          · exact absurd ⟨z, by omega, z1⟩ on2
      · rw [if_neg (show ¬ ((0 : Int32) ≤ nI u2.2.1 ∧ nI u2.2.1 ≤ nI (r 0 - 1)) from fun y => absurd ((nI_leI (by omega) (by omega)).mp y.2) z1), if_pos rfl]
        exact outb _ _ (bad (fun y => z1 y.1.2.2)) badm
    · rw [if_neg (fun y => z (e2.mp y))]
      exact outb _ _ (bad (fun y => z y.1.1)) badm
