/-! type; needs: 0800 0801 0802 0803 0804 0805 0806 0807 0808 0809 0810 0811 0812 0813 0814 0815 0816 0821 0822 -/
/-- byte i of a long -/
def byt (x : Int64) (i : Nat) : Nat := x.toBitVec.toNat / 2 ^ (8 * i) % 256
theorem byt_lt (x : Int64) (i : Nat) : byt x i < 256 := Nat.mod_lt _ (by decide)
theorem byt_bit (x : Int64) (i j : Nat) : (byt x i).testBit j = (decide (j < 8) && x.toBitVec.getLsbD (8 * i + j)) := by
  unfold byt
  rw [show (256 : Nat) = 2 ^ 8 from rfl, Nat.testBit_mod_two_pow, Nat.testBit_div_two_pow, BitVec.testBit_toNat, Nat.add_comm]
theorem sh64 {i : Nat} (hi : i < 8) : ((8 * nI i : Int32).toInt64.toUInt64 &&& Int64.toUInt64 63) = UInt64.ofNat (8 * i) ∧ ((8 * nI i : Int32).toInt64 &&& 63).toBitVec.smod 64 = BitVec.ofNat 64 (8 * i) := by
  have : ∀ i : Fin 8, ((8 * nI i.val : Int32).toInt64.toUInt64 &&& Int64.toUInt64 63) = UInt64.ofNat (8 * i.val) ∧ ((8 * nI i.val : Int32).toInt64 &&& 63).toBitVec.smod 64 = BitVec.ofNat 64 (8 * i.val) := by decide +kernel
  exact this ⟨i, hi⟩
theorem b255 {j : Nat} (hj : j < 32) : (255 : Int32).toBitVec.getLsbD j = decide (j < 8) := by
  have : ∀ i : Fin 32, (255 : Int32).toBitVec.getLsbD i.val = decide (i.val < 8) := by decide +kernel
  exact this ⟨j, hj⟩
theorem b255L {j : Nat} (hj : j < 64) : (255 : Int64).toBitVec.getLsbD j = decide (j < 8) := by
  have : ∀ i : Fin 64, (255 : Int64).toBitVec.getLsbD i.val = decide (i.val < 8) := by decide +kernel
  exact this ⟨j, hj⟩
theorem byt_c (x : Int64) {i : Nat} (hi : i < 8) : ((((x.toUInt64 >>> ((8 * nI i).toInt64.toUInt64 &&& Int64.toUInt64 63)).toInt64).toInt32) &&& 255) = nI (byt x i) := by
  rw [(sh64 hi).1]
  apply Int32.toBitVec_inj.mp
  rw [Int32.toBitVec_and]
  show (((x.toUInt64 >>> UInt64.ofNat (8 * i)).toBitVec).signExtend 32) &&& (255 : Int32).toBitVec = BitVec.ofNat 32 (byt x i)
  rw [BitVec.signExtend_eq_setWidth_of_le _ (by omega)]
  rw [UInt64.toBitVec_shiftRight]
  apply BitVec.eq_of_getLsbD_eq
  intro j hj
  have e : ((UInt64.ofNat (8 * i)).toBitVec % 64).toNat = 8 * i := by
    have : ∀ i : Fin 8, ((UInt64.ofNat (8 * i.val)).toBitVec % 64).toNat = 8 * i.val := by decide +kernel
    exact this ⟨i, hi⟩
  rw [BitVec.getLsbD_and, b255 hj, BitVec.getLsbD_setWidth, BitVec.ushiftRight_eq', BitVec.getLsbD_ushiftRight, BitVec.getLsbD_ofNat, byt_bit, e]
  show (decide (j < 32) && x.toBitVec.getLsbD (8 * i + j) && decide (j < 8)) = (decide (j < 32) && (decide (j < 8) && x.toBitVec.getLsbD (8 * i + j)))
  cases decide (j < 32) <;> cases decide (j < 8) <;> cases x.toBitVec.getLsbD (8 * i + j) <;> rfl
theorem byt_m (x : Int64) {i : Nat} (hi : i < 8) : ((x >>> ((8 * nI i).toInt64 &&& 63)) &&& 255).toInt32 = nI (byt x i) := by
  apply Int32.toBitVec_inj.mp
  show (((x >>> ((8 * nI i).toInt64 &&& 63)) &&& 255).toBitVec).signExtend 32 = BitVec.ofNat 32 (byt x i)
  rw [BitVec.signExtend_eq_setWidth_of_le _ (by omega)]
  rw [Int64.toBitVec_and, Int64.toBitVec_shiftRight, (sh64 hi).2, BitVec.sshiftRight_eq']
  apply BitVec.eq_of_getLsbD_eq
  intro j hj
  have e : (BitVec.ofNat 64 (8 * i)).toNat = 8 * i := by
    rw [BitVec.toNat_ofNat, Nat.mod_eq_of_lt (by omega)]
  rw [BitVec.getLsbD_setWidth, BitVec.getLsbD_and, b255L (by omega), BitVec.getLsbD_sshiftRight, BitVec.getLsbD_ofNat, byt_bit, e]
  by_cases h : j < 8
  · rw [if_pos (by omega), decide_eq_true h, decide_eq_true hj]
    simp [show ¬ 64 ≤ j by omega]
  · rw [decide_eq_false h]
    simp
/-- the text with the bytes j - 1 to 0 behind it -/
def app (x : Int64) : Nat → Nat → (Nat → Nat) → (Nat → Nat)
  | 0, _, tx => tx
  | j + 1, tl, tx => app x j (tl + 1) (upN tx tl (byt x j))
theorem app_lt {x : Int64} : ∀ {j tl : Nat} {tx : Nat → Nat}, (∀ i, i < tl → tx i < 256) → ∀ i, i < tl + j → app x j tl tx i < 256
  | 0, _, _, h => h
  | j + 1, tl, tx, h => fun i hi => by
    refine app_lt (j := j) (tl := tl + 1) (fun i hi => ?_) i (by omega)
    by_cases z : i = tl
    · rw [z, upN_s]; exact byt_lt x j
    · rw [upN_n z]; exact h i (by omega)
def TX (S : gSt) (tl : Nat) (tx : Nat → Nat) : Prop := gR S 29 1 = nI tl ∧ ∀ i, i < tl → gR S 30 i = nI (tx i)
def TM (S : gSt) (tl : Nat) (tx : Nat → Nat) : Prop := gR S 77 3 = nI tl ∧ ∀ i, i < tl → gR S 78 i = nI (tx i)
theorem c_typeL {x : Int64} : ∀ (j m tl : Nat) (tx : Nat → Nat) (S : gSt), j ≤ 8 → j < m → tl + j ≤ 300 → TX S tl tx → ∃ S1, fX10_type_L32 m x (nI j - 1) S = some (nI (tl + j), S1) ∧ gFr 29 32 S S1 ∧ TX S1 (tl + j) (app x j tl tx)
  | 0, m, tl, tx, S, _, hm, _, hT => by
    obtain ⟨m, rfl⟩ : ∃ i, m = i + 1 := ⟨m - 1, by omega⟩
    refine ⟨S, ?_, gFr.rf, hT⟩
    rw [fX10_type_L32, if_pos (by decide)]
    unfold fX8_length
    rw [gBp_s, hT.1]
    rfl
  | j + 1, m, tl, tx, S, hj, hm, hl, hT => by
    obtain ⟨m, rfl⟩ : ∃ i, m = i + 1 := ⟨m - 1, by omega⟩
    have hF : gFr 29 32 S (gW (gW S 30 tl (nI (byt x j))) 29 1 (nI (tl + 1))) := (gFr.w0 (by omega) (by omega)).w (by omega) (by omega)
    obtain ⟨S1, e1, F1, t1⟩ := c_typeL (x := x) j m (tl + 1) (upN tx tl (byt x j)) (gW (gW S 30 tl (nI (byt x j))) 29 1 (nI (tl + 1))) (by omega) (by omega) (by omega) ⟨gR_Ws _ _ _ _, fun i hi => by
      rw [gR_Wp (by omega)]
      by_cases z : i = tl
      · rw [z, upN_s]; exact gR_Ws _ _ _ _
      · rw [upN_n z, gR_Wk z]; exact hT.2 i (by omega)⟩
    rw [show tl + 1 + j = tl + (j + 1) by omega] at e1 t1
    refine ⟨S1, ?_, hF.tr F1, t1⟩
    rw [fX10_type_L32, nI_pred, if_neg (nI_pos (by omega)), byt_c x (by omega), ← Int32.sub_eq_add_neg]
    unfold fX8_append
    rw [hT.1, l300, if_neg (nI_nleI (by omega) (by omega)), gC_ok (gIn_ok (by omega) (by omega)), gL_s, gN_nI (by omega), gR_Wp (by omega), hT.1, nI_1, gL_s, gBp_s]
    exact e1
theorem m_typeL {x : Int64} : ∀ (j m tl : Nat) (tx : Nat → Nat) (S : gSt), j ≤ 8 → j < m → tl + j ≤ 300 → TM S tl tx → ∃ S1, fX11_type_L37 m x (nI j - 1) S = some (nI (tl + j), S1) ∧ gFr 77 79 S S1 ∧ TM S1 (tl + j) (app x j tl tx)
  | 0, m, tl, tx, S, _, hm, _, hT => by
    obtain ⟨m, rfl⟩ : ∃ i, m = i + 1 := ⟨m - 1, by omega⟩
    refine ⟨S, ?_, gFr.rf, hT⟩
    rw [fX11_type_L37, if_pos (by decide), hT.1]
    rfl
  | j + 1, m, tl, tx, S, hj, hm, hl, hT => by
    obtain ⟨m, rfl⟩ : ∃ i, m = i + 1 := ⟨m - 1, by omega⟩
    have hF : gFr 77 79 S (gW (gW S 78 tl (nI (byt x j))) 77 3 (nI (tl + 1))) := (gFr.w0 (by omega) (by omega)).w (by omega) (by omega)
    obtain ⟨S1, e1, F1, t1⟩ := m_typeL (x := x) j m (tl + 1) (upN tx tl (byt x j)) (gW (gW S 78 tl (nI (byt x j))) 77 3 (nI (tl + 1))) (by omega) (by omega) (by omega) ⟨gR_Ws _ _ _ _, fun i hi => by
      rw [gR_Wp (by omega)]
      by_cases z : i = tl
      · rw [z, upN_s]; exact gR_Ws _ _ _ _
      · rw [upN_n z, gR_Wk z]; exact hT.2 i (by omega)⟩
    rw [show tl + 1 + j = tl + (j + 1) by omega] at e1 t1
    refine ⟨S1, ?_, hF.tr F1, t1⟩
    rw [fX11_type_L37, nI_pred, if_neg (nI_pos (by omega)), byt_m x (by omega), ← Int32.sub_eq_add_neg, hT.1, gC_ok (gIn_ok (by omega) (by omega)), gL_s, gN_nI (by omega), gR_Wp (by omega), hT.1, nI_1, gL_s]
    exact e1
theorem RM.txt {S S1 : gSt} {r f σ : Nat → Nat} {w : Nat → Nat → Int} {v : Int32} {k tl : Nat} {tx : Nat → Nat} {Z : Rst} (h : RM S r w f v k σ Z) (hF : gFr 77 79 S S1) (ht : TM S1 tl tx) : RM S1 r w f v k σ (Z.1, Z.2.1, tl, tx, Z.2.2.2.2) := by
  obtain ⟨hT, hf, ⟨k1, k2⟩, hv, i0, i1, -, hl⟩ := h
  have im : ∀ i I, i < 2 → ImM S i (r 0) I → ImM S1 i (r 0) I := fun i I _ hI => by
    cases I with
    | none => show gR S1 82 i = nI 0; rw [hF.2 _ _ (by omega)]; exact hI
    | some I =>
      obtain ⟨a, b, c, d, e⟩ := hI
      refine ⟨?_, fun g hg => ?_, ?_, fun j hj => ?_, ?_⟩
      · rw [hF.2 _ _ (by omega)]; exact a
      · rw [hF.2 _ _ (by omega)]; exact b g hg
      · rw [hF.2 _ _ (by omega)]; exact c
      · rw [hF.2 _ _ (by omega)]; exact d j hj
      · rw [hF.2 _ _ (by omega)]; exact e
  refine ⟨hT.fr hF (by omega), fun g hg => ?_, ⟨?_, fun j hj => ?_⟩, ?_, im 0 _ (by omega) i0, im 1 _ (by omega) i1, ht, ?_⟩
  · rw [hF.2 _ _ (by omega)]; exact hf g hg
  · rw [hF.2 _ _ (by omega)]; exact k1
  · rw [hF.2 _ _ (by omega)]; exact k2 j hj
  · rw [hF.2 _ _ (by omega)]; exact hv
  · show S1.2 77 = _; rw [hF.1]; exact hl
theorem t_type (x : Int64) (a : Int32) : Tw (fX10_type x a) (fX11_type x a) := by
  rintro S ⟨o, r, w, f, v, k, σ, Z, hG, hX, hM⟩
  have hM' := hM.sc (gW7 S)
  have hX' := hX.sc (gW7 S)
  have hl := hG.2.2.2.2.2.1
  have hb := hG.2.2.2.2.2.2
  have bad : ∀ y, fX10_type x a S = some (y, S) → fX11_type x a S = some (y, gW S 77 0 0) → ∃ v S1 S2, fX10_type x a S = some (v, S1) ∧ fX11_type x a S1 = some (v, S2) ∧ Rel S2 := fun y e1 e2 => ⟨y, S, _, e1, e2, o, r, w, f, v, k, σ, Z, hG, hX', hM'⟩
  by_cases h : 1 ≤ a ∧ a ≤ 8
  · obtain ⟨c, hc, rfl⟩ := nI_of2 (M := 8) (n := 8) rfl (fun z => absurd (Int32.lt_of_le_of_lt h.1 z) (by decide)) h.2
    have hX29 : TX S Z.2.2.1 Z.2.2.2.1 := hX.2.2.2.2.2.2.2.2.1
    have c1 : 1 ≤ c := by
      rcases Nat.lt_or_ge 0 c with z | z
      · exact z
      · have : c = 0 := by omega
        rw [this] at h
        exact absurd h.1 (by decide)
    by_cases z : Z.2.2.1 + c ≤ 300
    · obtain ⟨S1, e1, F1, t1⟩ := c_typeL (x := x) c gFU Z.2.2.1 Z.2.2.2.1 S hc (show c < 5000 by omega) z hX29
      have hX1 := (hX.x29 F1 t1).sc (gW7 S1)
      have hM1 := (hM.fr F1 (by omega)).sc (gW7 S1)
      obtain ⟨S2, e2, F2, t2⟩ := m_typeL (x := x) c gFU Z.2.2.1 Z.2.2.2.1 (gW S1 77 0 0) hc (show c < 5000 by omega) z hM1.2.2.2.2.2.2.1
      refine ⟨nI (Z.2.2.1 + c), S1, S2, ?_, ?_, o, r, w, f, v, k, σ, (Z.1, Z.2.1, Z.2.2.1 + c, app x c Z.2.2.1 Z.2.2.2.1, Z.2.2.2.2), ⟨hG.1, hG.2.1, hG.2.2.1, hG.2.2.2.1, hG.2.2.2.2.1, z, app_lt hb⟩, hX1.up F2 (by omega), hM1.txt F2 t2⟩
      · unfold fX10_type fX8_hasSpaceFor
        rw [if_neg (Int32.not_lt.mpr h.1), if_pos h.2, hX29.1, l300, nI_sub hl, if_neg (nI_nlt (by omega) (by omega)), gBp_s, if_neg (by decide), gL_s, e1]
      · unfold fX11_type
        rw [gL_s, m_in, if_pos h, gBp_s, if_neg (by decide), hM1.2.2.2.2.2.2.1.1, nI_add, l300, if_pos (nI_le z (by omega)), gL_s, e2]
    · refine bad (-3) ?_ ?_
      · unfold fX10_type fX8_hasSpaceFor
        rw [if_neg (Int32.not_lt.mpr h.1), if_pos h.2, hX29.1, l300, nI_sub hl, if_pos (nI_lt (by omega) (by omega)), gBp_s, if_pos rfl]
      · unfold fX11_type
        rw [gL_s, m_in, if_pos h, gBp_s, if_neg (by decide), hM'.2.2.2.2.2.2.1.1, nI_add, l300, if_neg (nI_nleI (by omega) (by omega))]
  · refine bad (-1) ?_ ?_
    · unfold fX10_type
      by_cases q : a < 1
      · rw [if_pos q]
      · rw [if_neg q, if_neg (fun y => h ⟨Int32.not_lt.mp q, y⟩)]
    · unfold fX11_type
      rw [gL_s, m_in, if_neg h, gBp_s, if_pos rfl]
