/-! the small questions, both halves; needs: 0800 0801 0802 0803 0804 0805 0806 0807 0808 0809 0810 0811 0812 0813 0814 0815 0816 0821 -/
theorem in_t {x c : Int32} {n : Nat} (hc : c = nI n - 1) (h1 : 1 ≤ n) (hn : n ≤ 5000) (h : isB x n) (S : gSt) : fX11_in x 0 c S = some 1 := by
  rw [m_in, hc, if_pos ((in_B h1 hn).mpr h)]
theorem in_f {x c : Int32} {n : Nat} (hc : c = nI n - 1) (h1 : 1 ≤ n) (hn : n ≤ 5000) (h : ¬ isB x n) (S : gSt) : fX11_in x 0 c S = some 0 := by
  rw [m_in, hc, if_neg (fun z => h ((in_B h1 hn).mp z))]
theorem To.k {S : gSt} {r : Nat → Nat} {w : Nat → Nat → Int} {k : Nat} (h : To S 0 r w) (hk : k < 30) : gR S 79 k = nI (r k) := by
  have := h.1 k hk
  rwa [Nat.zero_add] at this
theorem To.w {S : gSt} {r : Nat → Nat} {w : Nat → Nat → Int} {x y : Nat} (h : To S 0 r w) (hx : x < 8) (hy : y < 8) : gR S 79 (30 + 8 * x + y) = iI (w x y) := by
  have := h.2 x y hx hy
  rwa [Nat.zero_add] at this
theorem RM.s80 {S S1 : gSt} {r f f' σ σ' : Nat → Nat} {w : Nat → Nat → Int} {v v' : Int32} {k k' : Nat} {Z : Rst} (h : RM S r w f v k σ Z) (hF : gRw 80 40 S S1) (hf : rowAt S1 80 (r 0) f') (hk : gR S1 80 8 = nI k' ∧ ∀ j, j < 3 * k' → gR S1 80 (9 + j) = nI (σ' j)) (hv : gR S1 80 39 = v') : RM S1 r w f' v' k' σ' Z := by
  obtain ⟨hT, -, -, -, i0, i1, ⟨t1, t2⟩, ht⟩ := h
  have im : ∀ i I, i < 2 → ImM S i (r 0) I → ImM S1 i (r 0) I := fun i I _ hI => by
    cases I with
    | none => show gR S1 82 i = nI 0; rw [hF.2 _ _ (by omega)]; exact hI
    | some I =>
      obtain ⟨a, b, c, d, e⟩ := hI
      refine ⟨?_, fun g hg => ?_, ?_, fun j hj => ?_, ?_⟩
      · rw [hF.2 _ _ (by omega)]; exact a
      · rw [hF.2 _ _ (by omega)]; exact b g hg
      · rw [hF.2 _ _ (by omega)]; exact c
      · rw [hF.2 _ _ (by omega)]; exact d j hj
      · rw [hF.2 _ _ (by omega)]; exact e
  refine ⟨hT.rw hF (by omega), hf, hk, hv, im 0 _ (by omega) i0, im 1 _ (by omega) i1, ⟨?_, fun i hi => ?_⟩, ?_⟩
  · rw [hF.2 _ _ (by omega)]; exact t1
  · rw [hF.2 _ _ (by omega)]; exact t2 i hi
  · show S1.2 77 = _; rw [hF.1]; exact ht
theorem gW7 (S : gSt) : gSc S (gW S 77 0 0) := gSc.w0 (by omega)
theorem t_law (a : Int32) : Tp (fX10_law a) (fX11_law a) := by
  rintro S ⟨o, r, w, f, v, k, σ, Z, hG, hX, hM⟩
  have hM' := hM.sc (gW7 S)
  have hX' := hX.sc (gW7 S)
  unfold fX10_law fX11_law
  rw [gL_s]
  rcases cB a (n := 5) (by omega) with ⟨g, hg, rfl⟩ | ⟨hn, q⟩
  · refine ⟨nI (r (9 + g)), gW S 77 0 0, ?_, ?_, o, r, w, f, v, k, σ, Z, hG, hX', hM'⟩
    · rw [if_neg (nI_pos (by omega)), l5, if_neg (nI_nleI hg (by omega)), hX.g0, gC_ok hX.gi, c_lawOf hX.2.1 hg, gBp_s]
    · rw [in_t (n := 5) (by decide) (by omega) (by omega) ⟨g, hg, rfl⟩, gBp_s, if_neg (by decide), l9, nI_add, gC_ok (gIn_ok (by omega) (by omega)), gN_nI (by omega), hM'.1.k (by omega)]
  · refine ⟨-1, gW S 77 0 0, ?_, ?_, o, r, w, f, v, k, σ, Z, hG, hX', hM'⟩
    · rcases q with q | ⟨q1, q2⟩
      · rw [if_pos q]
      · rw [if_neg q1, if_pos (show (5 : Int32) ≤ a from q2)]
    · rw [in_f (n := 5) (by decide) (by omega) (by omega) hn, gBp_s, if_pos rfl]
theorem c_bitOf {S : gSt} {p x y m : Nat} (hm : m < 256) (hy : y < 8) (h : gR S p x = nI m) : (if (gR S p x &&& ((1 : Int32) <<< (nI y &&& 31))) = 0 then (some 0 : Option Int32) else some 1) = some (nI (bN (m.testBit y))) := by
  rw [h, l31, nI_31 (by omega), l1, nI_shl (by omega), Nat.one_mul, nI_andI]
  cases hb : m.testBit y with
  | false => rw [if_pos (show nI (m &&& 2 ^ y) = 0 from bit_f hb)]; rfl
  | true => rw [if_neg (show ¬ nI (m &&& 2 ^ y) = 0 from bit_t hm hb)]; rfl
theorem m_bitOf {m y : Nat} (hm : m < 256) (hy : y < 8) : (nI m >>> (nI y &&& 31)) &&& 1 = nI (bN (m.testBit y)) := by
  rw [l31, nI_31 (by omega), nI_shr (by omega) (by omega), l1, nI_andI, shr1]
  rfl
theorem bN_01 (b : Bool) : (if nI (bN b) = 0 then (some 0 : Option Int32) else some 1) = some (nI (bN b)) := by cases b <;> decide
theorem t_pair (a b c : Int32) : Tp (fX10_pair a b c) (fX11_pair a b c) := by
  rintro S ⟨o, r, w, f, v, k, σ, Z, hG, hX, hM⟩
  have hM' := hM.sc (gW7 S)
  have hX' := hX.sc (gW7 S)
  have hW := hG.1
  have h8 := hW.2.1
  suffices h : ∃ x, fX10_pair a b c S = some x ∧ fX11_pair a b c S = some (x, gW S 77 0 0) by
    obtain ⟨x, h1, h2⟩ := h
    exact ⟨x, _, h1, h2, o, r, w, f, v, k, σ, Z, hG, hX', hM'⟩
  unfold fX10_pair fX11_pair
  rw [gL_s]
  rcases c_areTwo hX hW a b with ⟨e1, ⟨x, hx, rfl⟩, ⟨y, hy, rfl⟩, hxy⟩ | ⟨e1, hn⟩
  · rcases m_areTwo (hM'.mn hW) (nI x) (nI y) with ⟨e2, -⟩ | ⟨e2, h2⟩
    · have mx := hW.2.2.2.2.2.2.1 x (by omega)
      have ax := hW.2.2.2.2.2.2.2.1 x (by omega)
      have one : ∀ S, fX5_isOne (nI x) S = some (nI 1) := fun S => c_isOne S (by omega)
      by_cases z0 : c = 0
      · subst z0
        refine ⟨nI (bN ((r (14 + x)).testBit y)), ?_, ?_⟩
        · rw [e1, gBp_s, if_neg (by decide), if_pos rfl, hX.g0, gC_ok hX.gi]
          unfold fX5_areTogether
          rw [one, gBp_s, if_neg (by decide), gC_ok (gIn_ok (by omega) (by omega)), gN_nI (by omega), c_bitOf mx (by omega) (hX.2.1.2.2.2.1 x (by omega)), gBp_s, bN_01]
        · rw [e2, gBp_s, if_neg (by decide), in_t (x := 0) (n := 3) (by decide) (by omega) (by omega) ⟨0, by omega, rfl⟩, gBp_s, if_neg (by decide), if_pos rfl, l14, nI_add, gC_ok (gIn_ok (by omega) (by omega)), gN_nI (by omega), hM'.1.k (by omega), m_bitOf mx (by omega)]
      · by_cases z1 : c = 1
        · subst z1
          refine ⟨nI (bN ((r (22 + x)).testBit y)), ?_, ?_⟩
          · rw [e1, gBp_s, if_neg (by decide), if_neg z0, if_pos rfl, hX.g0, gC_ok hX.gi]
            unfold fX5_areApart
            rw [one, gBp_s, if_neg (by decide), gC_ok (gIn_ok (by omega) (by omega)), gN_nI (by omega), c_bitOf ax (by omega) (hX.2.1.2.2.2.2.1 x (by omega)), gBp_s, bN_01]
          · rw [e2, gBp_s, if_neg (by decide), in_t (x := 1) (n := 3) (by decide) (by omega) (by omega) ⟨1, by omega, rfl⟩, gBp_s, if_neg (by decide), if_neg z0, if_pos rfl, l22, nI_add, gC_ok (gIn_ok (by omega) (by omega)), gN_nI (by omega), hM'.1.k (by omega), m_bitOf ax (by omega)]
        · by_cases z2 : c = 2
          · subst z2
            refine ⟨iI (w x y), ?_, ?_⟩
            · rw [e1, gBp_s, if_neg (by decide), if_neg z0, if_neg z1, if_pos rfl, hX.g0, gC_ok hX.gi, c_worthOf hX.2.1 (by omega) (by omega), gBp_s]
            · rw [e2, gBp_s, if_neg (by decide), in_t (x := 2) (n := 3) (by decide) (by omega) (by omega) ⟨2, by omega, rfl⟩, gBp_s, if_neg (by decide), if_neg z0, if_neg z1, l8, l30, nI_mul, nI_add, nI_add, gC_ok (gIn_ok (by omega) (by omega)), gN_nI (by omega), hM'.1.w (by omega) (by omega)]
          · refine ⟨-1000000, ?_, ?_⟩
            · rw [e1, gBp_s, if_neg (by decide), if_neg z0, if_neg z1, if_neg z2]
            · rw [e2, gBp_s, if_neg (by decide), in_f (n := 3) (by decide) (by omega) (by omega), gBp_s, if_pos rfl]
              rintro ⟨g, hg, rfl⟩
              have : g = 0 ∨ g = 1 ∨ g = 2 := by omega
              rcases this with rfl | rfl | rfl
              · exact z0 rfl
              · exact z1 rfl
              · exact z2 rfl
    · exact absurd ⟨⟨x, hx, rfl⟩, ⟨y, hy, rfl⟩, hxy⟩ h2
  · rcases m_areTwo (hM'.mn hW) a b with ⟨e2, h2⟩ | ⟨e2, -⟩
    · exact absurd h2 hn
    · exact ⟨-1000000, by rw [e1, gBp_s, if_pos rfl], by rw [e2, gBp_s, if_pos rfl]⟩
theorem t_party (a : Int32) : Tp (fX10_party a) (fX11_party a) := by
  rintro S ⟨o, r, w, f, v, k, σ, Z, hG, hX, hM⟩
  have hM' := hM.sc (gW7 S)
  have hX' := hX.sc (gW7 S)
  have hW := hG.1
  have h8 := hW.2.1
  unfold fX10_party fX11_party
  rw [gL_s]
  rcases c_isGuest hX hW a with ⟨e1, g, hg, rfl⟩ | ⟨e1, hn⟩
  · rcases m_isGuest (hM'.mn hW) (nI g) with ⟨e2, -⟩ | ⟨e2, h2⟩
    · refine ⟨nI (f g), gW S 77 0 0, ?_, ?_, o, r, w, f, v, k, σ, Z, hG, hX', hM'⟩
      · rw [e1, gBp_s, if_neg (by decide), c_partyOf hX.2.2.2.1 hg, gBp_s]
      · rw [e2, gBp_s, if_neg (by decide), gC_ok (gIn_ok (by omega) (by omega)), gN_nI (by omega), hM'.2.1 g hg]
    · exact absurd ⟨g, hg, rfl⟩ h2
  · rcases m_isGuest (hM'.mn hW) a with ⟨e2, h2⟩ | ⟨e2, -⟩
    · exact absurd h2 hn
    · exact ⟨-1, gW S 77 0 0, by rw [e1, gBp_s, if_pos rfl], by rw [e2, gBp_s, if_pos rfl], o, r, w, f, v, k, σ, Z, hG, hX', hM'⟩
theorem t_lot (a : Int32) : Tw (fX10_lot a) (fX11_lot a) := by
  rintro S ⟨o, r, w, f, v, k, σ, Z, hG, hX, hM⟩
  have h8 := hG.1.2.1
  have hF : gFr 44 45 S (gW S 44 0 a) := gFr.w0 (by omega) (by omega)
  have hX1 := hX.x44 hF (gR_Ws _ _ _ _)
  have hM1 := (hM.fr hF (by omega)).sc (gW7 _)
  have hX2 := hX1.sc (gW7 _)
  have hF2 : gRw 80 40 (gW (gW S 44 0 a) 77 0 0) (gW (gW (gW S 44 0 a) 77 0 0) 80 39 a) := gRw.rf.w (by omega)
  refine ⟨v, gW S 44 0 a, gW (gW (gW S 44 0 a) 77 0 0) 80 39 a, ?_, ?_, o, r, w, f, a, k, σ, Z, hG, hX2.up (hF2.fr (a := 80) (b := 81) (by omega) (by omega)) (by omega), hM1.s80 hF2 (fun g hg => ?_) ⟨?_, fun j hj => ?_⟩ (gR_Ws _ _ _ _)⟩
  · unfold fX10_lot fX2_value fX2_become
    rw [gBp_s, gL_s, gBp_s, hX.2.2.2.2.2.1]
  · unfold fX11_lot
    rw [gL_s, gC_ok (by decide), gL_s, gC_ok (by decide), gL_s, show gN 39 = 39 from rfl, hM1.2.2.2.1]
  · rw [gR_Wk (by omega)]; exact hM1.2.1 g hg
  · rw [gR_Wk (by omega)]; exact hM1.2.2.1.1
  · rw [gR_Wk (by have := hG.2.2.1.1; omega)]; exact hM1.2.2.1.2 j hj
theorem t_forget : Tw fX10_forget fX11_forget := by
  rintro S ⟨o, r, w, f, v, k, σ, Z, hG, hX, hM⟩
  have h8 := hG.1.2.1
  have hF : gFr 40 44 S (gW S 40 3 0) := gFr.w0 (by omega) (by omega)
  have hX1 := hX.x40 (k' := 0) (σ' := σ) hF ⟨gR_Ws _ _ _ _, fun j hj => absurd hj (Nat.not_lt_zero _)⟩
  have hM1 := (hM.fr hF (by omega)).sc (gW7 _)
  have hX2 := hX1.sc (gW7 _)
  have hF2 : gRw 80 40 (gW (gW S 40 3 0) 77 0 0) (gW (gW (gW S 40 3 0) 77 0 0) 80 8 0) := gRw.rf.w (by omega)
  refine ⟨nI k, gW S 40 3 0, gW (gW (gW S 40 3 0) 77 0 0) 80 8 0, ?_, ?_, o, r, w, f, v, 0, σ, Z, ⟨hG.1, hG.2.1, ⟨by omega, fun j hj => absurd hj (Nat.not_lt_zero _)⟩, hG.2.2.2⟩, hX2.up (hF2.fr (a := 80) (b := 81) (by omega) (by omega)) (by omega), hM1.s80 hF2 (fun g hg => ?_) ⟨gR_Ws _ _ _ _, fun j hj => absurd hj (by omega)⟩ ?_⟩
  · unfold fX10_forget fX6_size fX6_empty
    rw [gBp_s, gL_s, gBp_s, hX.2.2.2.2.1.1]
  · unfold fX11_forget
    rw [gL_s, gC_ok (by decide), gL_s, gC_ok (by decide), gL_s, show gN 8 = 8 from rfl, hM1.2.2.1.1]
  · rw [gR_Wk (by omega)]; exact hM1.2.1 g hg
  · rw [gR_Wk (by omega)]; exact hM1.2.2.2.1
theorem t_clear : Tw fX10_clear fX11_clear := by
  rintro S ⟨o, r, w, f, v, k, σ, Z, hG, hX, hM⟩
  have hF : gFr 29 32 S (gW S 29 1 0) := gFr.w0 (by omega) (by omega)
  have hX1 := hX.x29 (tl := 0) (tx := Z.2.2.2.1) hF ⟨gR_Ws _ _ _ _, fun j hj => absurd hj (Nat.not_lt_zero _)⟩
  have hM1 := (hM.fr hF (by omega)).sc (gW7 _)
  have hX2 := hX1.sc (gW7 _)
  have hF2 : gFr 77 78 (gW (gW S 29 1 0) 77 0 0) (gW (gW (gW S 29 1 0) 77 0 0) 77 3 0) := gFr.w0 (by omega) (by omega)
  refine ⟨nI Z.2.2.1, gW S 29 1 0, gW (gW (gW S 29 1 0) 77 0 0) 77 3 0, ?_, ?_, o, r, w, f, v, k, σ, (Z.1, Z.2.1, 0, Z.2.2.2.1, Z.2.2.2.2), ⟨hG.1, hG.2.1, hG.2.2.1, hG.2.2.2.1, hG.2.2.2.2.1, by show 0 ≤ 300; omega, fun i hi => absurd hi (Nat.not_lt_zero _)⟩, hX2.up hF2 (by omega), ?_⟩
  · unfold fX10_clear fX8_length fX8_empty
    rw [gBp_s, gL_s, gBp_s, hX.2.2.2.2.2.2.2.2.1.1]
  · unfold fX11_clear
    rw [gL_s, gL_s, gL_s, hM1.2.2.2.2.2.2.1.1]
  · obtain ⟨hT, hf, hk, hv, i0, i1, -, ht⟩ := hM1
    refine ⟨hT.fr hF2 (by omega), fun g hg => ?_, ⟨?_, fun j hj => ?_⟩, ?_, ?_, ?_, ⟨gR_Ws _ _ _ _, fun i hi => absurd hi (Nat.not_lt_zero _)⟩, ht⟩
    · rw [gR_Wp (by omega)]; exact hf g hg
    · rw [gR_Wp (by omega)]; exact hk.1
    · rw [gR_Wp (by omega)]; exact hk.2 j hj
    · rw [gR_Wp (by omega)]; exact hv
    · exact i0
    · exact i1
