/-! room, both halves -/
/-- the same, but for the reader's numbers -/
def un87 (S S1 : gSt) : gSt := (fun p k => if p = 87 then S.1 p k else S1.1 p k, S1.2)
theorem un87_fr (S S1 : gSt) : gFr 87 88 (un87 S S1) S1 := ⟨rfl, fun p k hp => (if_neg (by omega)).symm⟩
def gRe (q : Nat) (S S1 : gSt) : Prop := S1.2 = S.2 ∧ ∀ p k, p ≠ 31 → (p < q ∨ q + 14 ≤ p) → gR S1 p k = gR S p k
theorem gRd.re {q : Nat} {S S1 : gSt} (h : gRd q S S1) : gRe q S (un87 S S1) := ⟨h.1, fun p k a b => by
  by_cases z : p = 87
  · exact if_pos z
  · exact (if_neg z).trans (h.2 p k a z b)⟩
theorem gRe.fr {q : Nat} {S S1 : gSt} (h : gRe q S S1) (hq : q = 1 ∨ q = 15) : gFr 1 32 S S1 := ⟨h.1, fun p k hp => h.2 p k (by omega) (by omega)⟩
theorem gMd.fr {S S1 : gSt} (h : gMd S S1) : gFr 77 80 S S1 := ⟨h.1, fun p k hp => h.2 p k (by omega) (by omega)⟩
theorem RX.re {S S1 : gSt} {o : Nat} {r f σ : Nat → Nat} {w : Nat → Nat → Int} {v : Int32} {k : Nat} {Z : Rst} (h : RX S o r w f v k σ Z) (hR : gRe (16 - o) S S1) : RX S1 o r w f v k σ Z := by
  obtain ⟨⟨h1, h2, h3⟩, hr, hw, hs, hi, hv, i0, i1, ⟨t1, t2⟩, ht⟩ := h
  have hF := hR.fr (by omega)
  obtain ⟨a1, a2, a3, a4, a5, a6⟩ := hr
  refine ⟨⟨?_, ?_, h3⟩, ⟨?_, fun g hg => ?_, fun g hg => ?_, fun g hg => ?_, fun g hg => ?_, fun a b ha hb => ?_⟩, hw.fr hF (by omega), hs.fr hF (by omega), hi.fr hF (by omega), ?_, i0.fr hF (by omega), i1.fr hF (by omega), ⟨?_, fun i hi => ?_⟩, ?_⟩
  · rw [hF.2 _ _ (by omega)]; exact h1
  · rw [hF.2 _ _ (by omega)]; exact h2
  · rw [hR.2 _ _ (by omega) (by omega)]; exact a1
  · rw [hR.2 _ _ (by omega) (by omega)]; exact a2 g hg
  · rw [hR.2 _ _ (by omega) (by omega)]; exact a3 g hg
  · rw [hR.2 _ _ (by omega) (by omega)]; exact a4 g hg
  · rw [hR.2 _ _ (by omega) (by omega)]; exact a5 g hg
  · rw [hR.2 _ _ (by omega) (by omega)]; exact a6 a b ha hb
  · rw [hF.2 _ _ (by omega)]; exact hv
  · rw [hR.2 _ _ (by omega) (by omega)]; exact t1
  · rw [hR.2 _ _ (by omega) (by omega)]; exact t2 i hi
  · show S1.2 0 = _; rw [hF.1]; exact ht
theorem RM.md {S S1 : gSt} {r f σ : Nat → Nat} {w : Nat → Nat → Int} {v : Int32} {k : Nat} {Z : Rst} (h : RM S r w f v k σ Z) (hF : gMd S S1) : RM S1 r w f v k σ Z := by
  obtain ⟨hT, hf, ⟨k1, k2⟩, hv, i0, i1, ⟨t1, t2⟩, ht⟩ := h
  have im : ∀ i I, i < 2 → ImM S i (r 0) I → ImM S1 i (r 0) I := fun i I _ hI => by
    cases I with
    | none => show gR S1 82 i = nI 0; rw [hF.2 _ _ (by omega) (by omega)]; exact hI
    | some I =>
      obtain ⟨a, b, c, d, e⟩ := hI
      refine ⟨?_, fun g hg => ?_, ?_, fun j hj => ?_, ?_⟩
      · rw [hF.2 _ _ (by omega) (by omega)]; exact a
      · rw [hF.2 _ _ (by omega) (by omega)]; exact b g hg
      · rw [hF.2 _ _ (by omega) (by omega)]; exact c
      · rw [hF.2 _ _ (by omega) (by omega)]; exact d j hj
      · rw [hF.2 _ _ (by omega) (by omega)]; exact e
  refine ⟨⟨fun k hk => ?_, fun x y hx hy => ?_⟩, fun g hg => ?_, ⟨?_, fun j hj => ?_⟩, ?_, im 0 _ (by omega) i0, im 1 _ (by omega) i1, ⟨?_, fun i hi => ?_⟩, ?_⟩
  · rw [hF.2 _ _ (by omega) (by omega)]; exact hT.1 k hk
  · rw [hF.2 _ _ (by omega) (by omega)]; exact hT.2 x y hx hy
  · rw [hF.2 _ _ (by omega) (by omega)]; exact hf g hg
  · rw [hF.2 _ _ (by omega) (by omega)]; exact k1
  · rw [hF.2 _ _ (by omega) (by omega)]; exact k2 j hj
  · rw [hF.2 _ _ (by omega) (by omega)]; exact hv
  · rw [hF.2 _ _ (by omega) (by omega)]; exact t1
  · rw [hF.2 _ _ (by omega) (by omega)]; exact t2 i hi
  · show S1.2 77 = _; rw [hF.1]; exact ht
theorem RX.rd {S S1 : gSt} {o : Nat} {r f σ : Nat → Nat} {w : Nat → Nat → Int} {v : Int32} {k : Nat} {Z : Rst} (h : RX S o r w f v k σ Z) (hR : gRd (16 - o) S S1) : RX S1 o r w f v k σ Z := (h.re hR.re).up (un87_fr S S1) (by omega)
theorem RM.rd {S S1 : gSt} {q : Nat} {r f σ : Nat → Nat} {w : Nat → Nat → Int} {v : Int32} {k : Nat} {Z : Rst} (h : RM S r w f v k σ Z) (hR : gRd q S S1) (hq : q = 1 ∨ q = 15) : RM S1 r w f v k σ Z := (h.fr (hR.re.fr hq) (by omega)).fr (un87_fr S S1) (by omega)
/-- the class takes the new rules over -/
def cDone (q o x n : Nat) (S T : gSt) : Prop := (gR T 0 0 = nI q ∧ gR T 0 1 = nI o) ∧ gFr 0 63 S T ∧ (∀ p k, 1 ≤ p → p < 29 → gR T p k = gR S p k) ∧ gR T 44 0 = gR S 44 0 ∧ (gR T 32 3 = nI q ∧ gR T 32 4 = nI 0) ∧ St T 36 n (can (fun g => g)) ∧ gR T 40 3 = nI 0 ∧ gR T 45 3 = nI 0 ∧ gR T 54 3 = nI 0 ∧ gR T 29 1 = nI 0
theorem c_done {S S2 : gSt} {q o x : Nat} {r : Nat → Nat} {w : Nat → Nat → Int} (hW : RW r w) (hq : gIsRu q = true) (ho : gIsRu o = true) (hx : x ≤ 300) (h0 : gR S 0 1 = nI q) (e : fX4_readInto q S = some (nI x, S2)) (g0 : gR S2 0 0 = nI o) (g1 : gR S2 0 1 = nI q) (hr : Ru S2 q r w) : ∃ T, fX10_room S = some (nI x, T) ∧ cDone q o x (r 0) S2 T := by
  have hq2 := ru_q hq
  have ho2 := ru_q ho
  obtain ⟨A, hA⟩ : ∃ A, A = gW (gW (gW S2 0 0 (nI q)) 0 1 (nI o)) 29 1 0 := ⟨_, rfl⟩
  have hA0 : gR A 0 0 = nI q := by rw [hA, gR_Wp (by omega), gR_Wk (by omega)]; exact gR_Ws _ _ _ _
  have hA1 : gR A 0 1 = nI o := by rw [hA, gR_Wp (by omega)]; exact gR_Ws _ _ _ _
  have hA5 : gR A q 5 = nI (r 0) := by rw [hA, gR_Wp (by omega), gR_Wp (by omega), gR_Wp (by omega)]; exact hr.1
  have hAp : ∀ p k, p ≠ 0 → p ≠ 29 → gR A p k = gR S2 p k := fun p k a b => by rw [hA, gR_Wp b, gR_Wp a, gR_Wp a]
  have hA2 : A.2 = S2.2 := by rw [hA]; rfl
  have hA29 : gR A 29 1 = nI 0 := by rw [hA]; exact gR_Ws _ _ _ _
  obtain ⟨B, eB, FB, sB⟩ := c_scatter (S := A) (o := 36) (n := r 0) hW.1 hW.2.1
  obtain ⟨C, hC⟩ : ∃ C, C = gW (gW (gW B 40 3 0) 45 3 0) 54 3 0 := ⟨_, rfl⟩
  have FC : gFr 40 63 B C := by rw [hC]; exact ((gFr.w0 (by omega) (by omega)).w (by omega) (by omega)).w (by omega) (by omega)
  have hC0 : gR C 0 0 = nI q := by rw [FC.2 _ _ (by omega), FB.2 _ _ (by omega)]; exact hA0
  have FD : gFr 32 36 C (gW (gW C 32 3 (nI q)) 32 4 0) := (gFr.w0 (by omega) (by omega)).w (by omega) (by omega)
  refine ⟨gW (gW C 32 3 (nI q)) 32 4 0, ?_, ⟨?_, ?_⟩, ⟨?_, fun p k hp => ?_⟩, fun p k h1 h2 => ?_, ?_, ⟨?_, gR_Ws _ _ _ _⟩, (sB.fr FC (by omega)).fr FD (by omega), ?_, ?_, ?_, ?_⟩
  · unfold fX10_room fX8_empty fX6_empty fX1_drop fX9_obey
    rw [h0, gN_nI (by omega), gC_ok hq, e, gBd_s, if_pos (nI_pos' (by omega)), g0, g1, gN_nI (by omega), gN_nI (by omega), gC_ok ho, gC_ok hq, gL_s, gL_s, gL_s, gBp_s, ← hA, hA0, gN_nI (by omega), gC_ok hq, show fX5_guests q A = some (nI (r 0)) from congrArg some hA5, gBp_s, eB, gBp_s, gL_s, gBp_s, gL_s, gBp_s, gL_s, gBp_s, ← hC, hC0, gN_nI (by omega), gC_ok hq, gL_s, gL_s, gBp_s]
  · rw [FD.2 _ _ (by omega)]; exact hC0
  · rw [FD.2 _ _ (by omega), FC.2 _ _ (by omega), FB.2 _ _ (by omega)]; exact hA1
  · rw [FD.1, FC.1, FB.1, hA2]
  · rw [FD.2 _ _ (by omega), FC.2 _ _ (by omega), FB.2 _ _ (by omega), hAp _ _ (by omega) (by omega)]
  · rw [FD.2 _ _ (by omega), FC.2 _ _ (by omega), FB.2 _ _ (by omega), hAp _ _ (by omega) (by omega)]
  · rw [FD.2 _ _ (by omega), hC, gR_Wp (by omega), gR_Wp (by omega), gR_Wp (by omega), FB.2 _ _ (by omega), hAp _ _ (by omega) (by omega)]
  · rw [gR_Wk (by omega)]; exact gR_Ws _ _ _ _
  · rw [FD.2 _ _ (by omega), hC, gR_Wp (by omega), gR_Wp (by omega)]; exact gR_Ws _ _ _ _
  · rw [FD.2 _ _ (by omega), hC, gR_Wp (by omega)]; exact gR_Ws _ _ _ _
  · rw [FD.2 _ _ (by omega), hC]; exact gR_Ws _ _ _ _
  · rw [FD.2 _ _ (by omega), FC.2 _ _ (by omega), FB.2 _ _ (by omega)]; exact hA29
theorem so_inj {a b : Int32} {S T : gSt} (h : some (a, S) = some (b, T)) : a = b ∧ S = T := by
  cases h
  exact ⟨rfl, rfl⟩
theorem t_room : Tw fX10_room fX11_room := by
  rintro S ⟨o, r, w, f, v, k, σ, Z, hG, hX, hM⟩
  obtain ⟨q, hqe⟩ : ∃ q, q = 16 - o := ⟨_, rfl⟩
  have ho3 := hX.1.2.2
  have hq2 : q = 1 ∨ q = 15 := by omega
  have hq : gIsRu q = true := by rcases hq2 with z | z <;> rw [z] <;> decide
  have h01 : gR S 0 1 = nI q := by rw [hqe]; exact hX.1.2.1
  have hT : Txt Z.2.2.1 Z.2.2.2.1 := ⟨hG.2.2.2.2.2.1, hG.2.2.2.2.2.2⟩
  have h3 := hT.1
  obtain ⟨S4, e4, F4, a4⟩ := c_into hT hq hX.2.2.2.2.2.2.2.2.1
  have e4 : fX4_readInto q S = fX4_readInto_L23 q gFU (nI 0) S4 := e4
  have run : ∀ M, TM M Z.2.2.1 Z.2.2.2.1 → (∃ s Sx1 Sm1, s ≤ 300 ∧ fX4_readInto q S = some (-10 - nI s, Sx1) ∧ gRd q S Sx1 ∧ fX11_room M = some (-10 - nI s, Sm1) ∧ gMd M Sm1) ∨ (∃ x' r' w' Sx1 Sm1, x' ≤ 300 ∧ RW r' w' ∧ fX4_readInto q S = some (nI x', Sx1) ∧ gRd q S Sx1 ∧ Ru Sx1 q r' w' ∧ fX11_room M = fX11_room_L165 (nI x') Sm1 ∧ gMd M Sm1 ∧ To Sm1 94 r' w' ∧ gR Sm1 77 8 = -1) := fun M hMt => by
    obtain ⟨M5, e5, F5, a5⟩ := m_into hT hMt
    have e5 : fX11_room M = fX11_room_L26 gFU (nI 0) M5 := e5
    have hl := lock hT hq gFU 0 0 rI wI S4 M5 RW_rI a4 a5 (Nat.zero_le _) (Nat.le_refl _) (fun _ => ⟨rfl, rfl⟩) (show Z.2.2.1 - 0 < 5000 by omega)
    rw [← e4, ← e5] at hl
    rcases hl with ⟨s, X1, M1, b1, b2, b3, b4, b5⟩ | ⟨x', r2, w2, X1, M1, b1, b2, b3, b4, b5, b6, b7, b8⟩
    · exact Or.inl ⟨s, X1, M1, b1, b2, F4.tr b3, b4, F5.tr b5⟩
    · exact Or.inr ⟨x', r2, w2, X1, M1, b1, b2, b3, F4.tr b4, b5, b6, F5.tr b7, b8⟩
  have hMt : TM S Z.2.2.1 Z.2.2.2.1 := hM.2.2.2.2.2.2.1
  rcases run S hMt with ⟨s, X1, M1, b1, b2, b3, -, -⟩ | ⟨x, r1, w1, X1, M1, b1, b2, b3, b4, b5, -, -, -⟩
  · have eC : fX10_room S = some (-10 - nI s, X1) := by
      unfold fX10_room
      rw [h01, gN_nI (by omega), gC_ok hq, b2, gBd_s, if_neg (neg10 b1)]
    have hX1 := hX.rd (by rw [← hqe]; exact b3)
    have hM1 := hM.rd b3 hq2
    rcases run X1 hM1.2.2.2.2.2.2.1 with ⟨s2, X2, M2, c1, c2, -, c4, c5⟩ | ⟨x, r1, w1, X2, M2, c1, c2, c3, -⟩
    · rw [b2] at c2
      obtain ⟨hs, -⟩ := so_inj c2
      rw [← hs] at c4
      exact ⟨_, X1, M2, eC, c4, o, r, w, f, v, k, σ, Z, hG, hX1.up c5.fr (by omega), hM1.md c5⟩
    · rw [b2] at c3
      have hv : -10 - nI s = nI x := (so_inj c3).1
      exact absurd (hv ▸ nI_pos' (by omega)) (neg10 b1)
  · have g0 : gR X1 0 0 = nI o := by rw [b4.2 _ _ (by omega) (by omega) (by omega)]; exact hX.1.1
    have g1 : gR X1 0 1 = nI q := by rw [b4.2 _ _ (by omega) (by omega) (by omega)]; exact h01
    obtain ⟨T, eC, ⟨d0, d1⟩, dF, dR, d44, ⟨d3, d4⟩, dS, d40, d45, d54, d29⟩ := c_done (o := o) b2 hq hX.gi b1 h01 b3 g0 g1 b5
    have hMT := (hM.rd b4 hq2).fr dF (by omega)
    rcases run T hMT.2.2.2.2.2.2.1 with ⟨s2, X2, M2, c1, c2, -⟩ | ⟨x2, r2, w2, X2, M2, c1, c2, c3, -, c5, c6, c7, c8, c9⟩
    · rw [b3] at c2
      have hv : nI x = -10 - nI s2 := (so_inj c2).1
      exact absurd (hv ▸ nI_pos' (by omega)) (neg10 c1)
    · rw [b3] at c3
      have hvx : nI x = nI x2 := (so_inj c3).1
      have hvX : X1 = X2 := (so_inj c3).2
      subst hvX
      have hn : r1 0 = r2 0 := by
        have h1 := b5.1
        rw [c5.1] at h1
        exact ((nI_eq (by have := c2.2.1; omega) (by have := b2.2.1; omega)).mp h1).symm
      obtain ⟨N1, f1, f2, f3, f4, f5, f6, f7, f8⟩ := m_adopts c8
      have hFN : gFr 77 87 T (gW N1 77 3 0) := ⟨by show N1.2 = T.2; rw [f2, c7.1], fun p j hp => by rw [gR_Wp (by omega), f3 _ _ (by omega) (by omega) (by omega), c7.2 _ _ (by omega) (by omega)]⟩
      have hXT : RX T q r2 w2 (can (fun g => g)) v 0 σ (none, none, 0, Z.2.2.2.1, Z.2.2.2.2) := by
        refine ⟨⟨d0, by rw [d1, show 16 - q = o by omega], hq2⟩, ?_, ⟨d3, Or.inl d4⟩, by rw [← hn]; exact dS, ⟨d40, fun j hj => absurd hj (Nat.not_lt_zero _)⟩, ?_, d45, d54, ⟨d29, fun i hi => absurd hi (Nat.not_lt_zero _)⟩, ?_⟩
        · obtain ⟨a1, a2, a3, a4, a5, a6⟩ := c5
          refine ⟨?_, fun g hg => ?_, fun g hg => ?_, fun g hg => ?_, fun g hg => ?_, fun a b ha hb => ?_⟩
          · rw [dR _ _ (by omega) (by omega)]; exact a1
          · rw [dR _ _ (by omega) (by omega)]; exact a2 g hg
          · rw [dR _ _ (by omega) (by omega)]; exact a3 g hg
          · rw [dR _ _ (by omega) (by omega)]; exact a4 g hg
          · rw [dR _ _ (by omega) (by omega)]; exact a5 g hg
          · rw [dR _ _ (by omega) (by omega)]; exact a6 a b ha hb
        · rw [d44, b4.2 _ _ (by omega) (by omega) (by omega)]; exact hX.2.2.2.2.2.1
        · show T.2 0 = _; rw [dF.1, b4.1]; exact hX.2.2.2.2.2.2.2.2.2
      refine ⟨nI x, T, gW N1 77 3 0, eC, ?_, q, r2, w2, can (fun g => g), v, 0, σ, (none, none, 0, Z.2.2.2.1, Z.2.2.2.2), ⟨c2, Can_can _ _, ⟨by omega, fun j hj => absurd hj (Nat.not_lt_zero _)⟩, trivial, trivial, Nat.zero_le _, fun i hi => absurd hi (Nat.not_lt_zero _)⟩, hXT.up hFN (by omega), ?_⟩
      · rw [c6]
        unfold fX11_room_L165
        rw [m_well_t c9, gBp_s, if_neg (by decide), f1, gBp_s, gL_s, hvx]
      · have n8 := c2.2.1
        refine ⟨⟨fun j hj => ?_, fun a b ha hb => ?_⟩, fun g hg => ?_, ⟨?_, fun j hj => absurd hj (Nat.not_lt_zero _)⟩, ?_, ?_, ?_, ⟨gR_Ws _ _ _ _, fun i hi => absurd hi (Nat.not_lt_zero _)⟩, ?_⟩
        · rw [gR_Wp (by omega)]; exact f4.1 j hj
        · rw [gR_Wp (by omega)]; exact f4.2 a b ha hb
        · rw [gR_Wp (by omega), can_idf]; exact f5 g (by omega)
        · rw [gR_Wp (by omega)]; exact f6
        · rw [gR_Wp (by omega), f3 _ _ (by omega) (by omega) (by omega), c7.2 _ _ (by omega) (by omega)]; exact hMT.2.2.2.1
        · show gR _ 82 0 = nI 0
          rw [gR_Wp (by omega)]; exact f7
        · show gR _ 82 1 = nI 0
          rw [gR_Wp (by omega)]; exact f8
        · show N1.2 77 = _
          rw [f2, c7.1]; exact hMT.2.2.2.2.2.2.2
