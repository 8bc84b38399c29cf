/-! what is drawn: draw, evening; needs: 0800 0801 0802 0803 0804 0805 0806 0807 0808 0809 0810 0811 0812 0813 0814 0815 0816 0818 0819 0821 0822 0823 -/
/-- the upper half of a lot -/
def rnd (v : Int32) : Nat := v.toBitVec.toNat / 65536
theorem rnd_lt (v : Int32) : rnd v < 65536 := by
  unfold rnd
  have := v.toBitVec.isLt
  omega
theorem rnd_c (v : Int32) : (v.toUInt32 >>> ((16 : Int32).toUInt32 &&& Int32.toUInt32 31)).toInt32 = nI (rnd v) := by
  rw [show ((16 : Int32).toUInt32 &&& Int32.toUInt32 31) = 16 from by decide]
  apply Int32.toBitVec_inj.mp
  show (v.toUInt32 >>> 16).toBitVec = BitVec.ofNat 32 (rnd v)
  apply BitVec.eq_of_toNat_eq
  rw [UInt32.toBitVec_shiftRight]
  show (v.toBitVec >>> (16 % 32 : BitVec 32)).toNat = _
  rw [show (16 % 32 : BitVec 32) = 16#32 from by decide, BitVec.ushiftRight_eq', BitVec.toNat_ushiftRight, BitVec.toNat_ofNat]
  have h := rnd_lt v
  unfold rnd at h ⊢
  rw [show (16 % 2 ^ 32 : Nat) = 16 from rfl, Nat.shiftRight_eq_div_pow, show (2 : Nat) ^ 16 = 65536 from rfl, BitVec.toNat_ofNat, Nat.mod_eq_of_lt (by omega)]
theorem rnd_m (v : Int32) : (v >>> ((16 : Int32) &&& 31)) &&& 65535 = nI (rnd v) := by
  rw [show ((16 : Int32) &&& 31) = 16 from by decide]
  apply Int32.toBitVec_inj.mp
  rw [Int32.toBitVec_and, Int32.toBitVec_shiftRight, show ((16 : Int32).toBitVec.smod 32) = 16#32 from by decide]
  show _ = BitVec.ofNat 32 (rnd v)
  rw [BitVec.sshiftRight_eq']
  apply BitVec.eq_of_getLsbD_eq
  intro i hi
  rw [BitVec.getLsbD_and, BitVec.getLsbD_sshiftRight, BitVec.getLsbD_ofNat, show (16#32).toNat = 16 from by decide]
  have h65 : (65535 : Int32).toBitVec.getLsbD i = decide (i < 16) := by
    have : ∀ i : Fin 32, (65535 : Int32).toBitVec.getLsbD i.val = decide (i.val < 16) := by decide +kernel
    exact this ⟨i, hi⟩
  rw [h65]
  unfold rnd
  rw [show (65536 : Nat) = 2 ^ 16 from rfl, Nat.testBit_div_two_pow, BitVec.testBit_toNat]
  by_cases h : i < 16
  · rw [decide_eq_true h, decide_eq_true hi, if_pos (by omega)]
    rw [Nat.add_comm 16 i]
    simp [show ¬ 32 ≤ i by omega]
  · rw [decide_eq_false h, Bool.and_false, BitVec.getLsbD_of_ge _ _ (by omega), Bool.and_false]
theorem nI_mod {a b : Nat} (ha : a < 2 ^ 31) (hb : b < 2 ^ 31) : nI a - nI a / nI b * nI b = nI (a % b) := by
  rw [nI_div ha hb, nI_mul, nI_sub (by rw [Nat.mul_comm]; exact Nat.mul_div_le a b)]
  congr 1
  have := Nat.mod_def a b
  rw [this, Nat.mul_comm]
/-- the next lot -/
def nx (v : Int32) : Int32 := v * 1103515245 + 12345
theorem c_below {S : gSt} {b : Nat} {v : Int32} (hv : gR S 44 0 = v) (hb : 0 < b) (hb2 : b < 2 ^ 31) : fX2_nextBelow (nI b) S = some (nI (rnd (nx v) % b), gW S 44 0 (nx v)) := by
  unfold fX2_nextBelow
  have e : ¬ nI b ≤ 0 := nI_nleI (a := 0) hb (by omega)
  have e0 : ¬ nI b = 0 := nI_neI (b := 0) (by omega) (by omega) (by omega)
  rw [hv, gL_s, if_neg e, gC_ok (decide_eq_true e0), gR_Ws, show v * 1103515245 + 12345 = nx v from rfl, rnd_c, nI_mod (by have := rnd_lt (nx v); omega) hb2]
theorem m_draws {S : gSt} {b : Nat} {v : Int32} (hv : gR S 80 39 = v) (hb : 0 < b) (hb2 : b < 2 ^ 31) : fX11_draws (nI b) S = some (nI (rnd (nx v) % b), gW S 80 39 (nx v)) := by
  unfold fX11_draws
  have e0 : ¬ nI b = 0 := nI_neI (b := 0) (by omega) (by omega) (by omega)
  rw [gC_ok (by decide), gC_ok (by decide), show gN 39 = 39 from rfl, hv, gL_s, gC_ok (by decide), gC_ok (decide_eq_true e0), gR_Ws, show v * 1103515245 + 12345 = nx v from rfl, rnd_m, nI_mod (by have := rnd_lt (nx v); omega) hb2]
theorem RX.lot {S : gSt} {o : Nat} {r f σ : Nat → Nat} {w : Nat → Nat → Int} {v v' : Int32} {k : Nat} {Z : Rst} (h : RX S o r w f v k σ Z) : RX (gW S 44 0 v') o r w f v' k σ Z := h.x44 (gFr.w0 (by omega) (by omega)) (gR_Ws _ _ _ _)
theorem RX.lotM {S : gSt} {o : Nat} {r f σ : Nat → Nat} {w : Nat → Nat → Int} {v v' : Int32} {k j : Nat} {Z : Rst} (h : RX S o r w f v k σ Z) : RX (gW S 80 j v') o r w f v k σ Z := h.up (gFr.w0 (a := 80) (b := 81) (by omega) (by omega)) (by omega)
theorem RM.lotX {S : gSt} {r f σ : Nat → Nat} {w : Nat → Nat → Int} {v v' : Int32} {k : Nat} {Z : Rst} (h : RM S r w f v k σ Z) : RM (gW S 44 0 v') r w f v k σ Z := h.fr (gFr.w0 (a := 44) (b := 45) (by omega) (by omega)) (by omega)
theorem RM.lot {S : gSt} {r f σ : Nat → Nat} {w : Nat → Nat → Int} {v v' : Int32} {k : Nat} {Z : Rst} (h : RM S r w f v k σ Z) (hn : r 0 ≤ 8) (hk : k ≤ 10) : RM (gW S 80 39 v') r w f v' k σ Z := h.s80 (gRw.rf.w (by omega)) (fun g hg => by rw [gR_Wk (by omega)]; exact h.2.1 g hg) ⟨by rw [gR_Wk (by omega)]; exact h.2.2.1.1, fun j hj => by rw [gR_Wk (by omega)]; exact h.2.2.1.2 j hj⟩ (gR_Ws _ _ _ _)
theorem m_copy {x : Int32} {n : Nat} {f' : Nat → Nat} {S : gSt} (h : mN S n) (hr : rowAt S 83 n f') : ∃ S1, fX11_draw_L32 gFU x 0 S = some (x, S1) ∧ gRw 80 8 S S1 ∧ rowAt S1 80 n f' := by
  have h8 := h.2.2
  refine forS (fun m (T : gSt) g => fX11_draw_L32 m x (nI g) T) (fun y => ∃ S1, y = some (x, S1) ∧ gRw 80 8 S S1 ∧ rowAt S1 80 n f') (fun g T => gRw 80 8 S T ∧ ∀ e, e < g → gR T 80 e = nI (f' e)) n ?_ ?_ (by omega) S ⟨gRw.rf, fun e h => absurd h (Nat.not_lt_zero _)⟩
  · rintro m g T hg ⟨hF, a1⟩
    have hm := h.rw hF (by omega)
    refine ⟨gW T 80 g (nI (f' g)), ⟨hF.w (by omega), fun e he => ?_⟩, ?_⟩
    · by_cases q : e = g
      · subst q; exact gR_Ws _ _ _ _
      · rw [gR_Wk q]; exact a1 e (by omega)
    · show fX11_draw_L32 (m + 1) x (nI g) T = fX11_draw_L32 m x (nI (g + 1)) _
      rw [fX11_draw_L32, m_guests hm, gBp_s, if_neg (nI_nleI hg (by omega)), gC_ok (gIn_ok (by omega) (by omega)), gC_ok (gIn_ok (by omega) (by omega)), gL_s, gN_nI (by omega), hF.2 83 g (by omega), hr g hg, nI_1]
  · rintro m T ⟨hF, a1⟩
    have hm := h.rw hF (by omega)
    refine ⟨T, ?_, hF, a1⟩
    show fX11_draw_L32 (m + 1) x (nI n) T = _
    rw [fX11_draw_L32, m_guests hm, gBp_s, if_pos (nI_le (Nat.le_refl n) (by omega))]
theorem t_draw : Tw fX10_draw fX11_draw := by
  rintro S ⟨o, r, w, f, v, k, σ, Z, hG, hX, hM⟩
  have hW := hG.1
  have h8 := hW.2.1
  have hk := hG.2.2.1.1
  have hL := FL_len hW
  unfold fX10_draw fX11_draw
  obtain ⟨S1, e1, F1, w1⟩ := c_total hX.2.1 hW hX.gi hX.o18 hX.2.2.1
  have hX1 := hX.x32 F1 w1.wy
  have hM1 := hM.fr F1 (by omega)
  by_cases z : (FL r).length = 0
  · have hX2 := hX1.sc (gW7 _)
    have hM2 := hM1.sc (gW7 _)
    obtain ⟨S2, e2, F2⟩ := m_manyOf (k := 0) hM2.1 hW (by omega)
    rw [cnt_all r 0 rfl] at e2
    refine ⟨-2, S1, S2, ?_, ?_, o, r, w, f, v, k, σ, Z, hG, hX2.sc (F2.sc (by omega) (by omega)), hM2.sc (F2.sc (by omega) (by omega))⟩
    · rw [e1, gBd_s, if_pos (show nI (FL r).length = 0 by rw [z]; rfl)]
    · rw [gL_s, show fX11_manyOf 0 (gW S1 77 0 0) = _ from e2, gBd_s, if_pos (show nI (FL r).length = 0 by rw [z]; rfl)]
  · have zn : ¬ nI (FL r).length = 0 := nI_neI (b := 0) (by omega) (by omega) z
    obtain ⟨S2, e2, F2, w2⟩ := c_total hX1.2.1 hW hX.gi hX.o18 w1.wy
    have hX2 := hX1.x32 F2 w2.wy
    have hM2 := hM1.fr F2 (by omega)
    have e3 := c_below (b := (FL r).length) hX2.2.2.2.2.2.1 (by omega) (by omega)
    have hX3 := hX2.lot (v' := nx v)
    have hM3 := hM2.lotX (v' := nx v)
    obtain ⟨i, hi⟩ : ∃ i, i = rnd (nx v) % (FL r).length := ⟨_, rfl⟩
    rw [← hi] at e3
    have hlt : i < (FL r).length := by rw [hi]; exact Nat.mod_lt _ (by omega)
    obtain ⟨d, hd, hdm⟩ := getE_lt hlt
    obtain ⟨c1, c2, c3⟩ := FL_mem hW hdm
    obtain ⟨S4, e4, F4, w4⟩ := c_codeAt (i := i) hX3.2.1 hW hX.gi hX.o18 hX3.2.2.1 hd
    have hX4 := hX3.x32 F4 w4.wy
    have hM4 := hM3.fr F4 (by omega)
    obtain ⟨S5, e5, F5, s5⟩ := c_standAs (S := S4) (o := 36) (c := d) hX4.2.2.2.1.1 hW.1 hW.2.1 c2
    have hcd : ∀ g, g < r 0 → can (dig d) g = dig d g := fun g hg => can_id c1 hg
    have hX5 := (hX4.x36 F5 (s5.congr hcd)).sc (gW7 _)
    have hM5 := (hM4.fr F5 (by omega)).sc (gW7 _)
    obtain ⟨S6, e6, F6⟩ := m_manyOf (k := 0) hM5.1 hW (by omega)
    rw [cnt_all r 0 rfl] at e6
    have hX6 := hX5.sc (F6.sc (by omega) (by omega))
    have hM6 := hM5.sc (F6.sc (by omega) (by omega))
    have e7 := m_draws (b := (FL r).length) hM6.2.2.2.1 (by omega) (by omega)
    rw [← hi] at e7
    have hX7 := hX6.lotM (j := 39) (v' := nx v)
    have hM7 := hM6.lot (v' := nx v) h8 hk
    rcases m_finds (i := i) hM7.1 hW (by omega) with ⟨d', S8, e8, e9, F8, hr⟩ | ⟨S8, e8, -⟩
    · have e8 : (FL r)[i]? = some d' := e8
      rw [hd] at e8
      have e8 := Option.some.inj e8
      subst e8
      have hX8 := hX7.sc (F8.sc (by omega) (by omega))
      have hM8 := hM7.sc (F8.sc (by omega) (by omega))
      obtain ⟨S9, e10, F9, r9⟩ := m_copy (x := nI i) (hM8.mn hW) hr
      refine ⟨nI i, S5, S9, ?_, ?_, o, r, w, dig d, nx v, k, σ, Z, ⟨hW, c1, hG.2.2⟩, hX8.up (F9.fr (a := 80) (b := 81) (by omega) (by omega)) (by omega), hM8.row F9 r9⟩
      · rw [e1, gBd_s, if_neg zn, e2, gBd_s, e3, gBd_s, e4, gBd_s, e5, gBp_s]
      · rw [gL_s, show fX11_manyOf 0 (gW S5 77 0 0) = _ from e6, gBd_s, if_neg zn, e7, gBd_s, e9, gBd_s, e10]
    · have e8 : (FL r)[i]? = none := e8
      rw [hd] at e8
      cases e8
theorem two_cn {p : Nat → Bool} {a b : Nat} : ∀ {n : Nat}, a < n → b < n → a ≠ b → p a = true → p b = true → 2 ≤ cn p n
  | 0, h, _, _, _, _ => absurd h (Nat.not_lt_zero _)
  | n + 1, ha, hb, hab, pa, pb => by
    rw [cn_s]
    by_cases qa : a = n
    · have := cn_lt (p := p) (show b < n by omega) pb
      rw [← qa] at this ⊢
      rw [if_pos pa]; omega
    · by_cases qb : b = n
      · have := cn_lt (p := p) (show a < n by omega) pa
        rw [← qb] at this ⊢
        rw [if_pos pb]; omega
      · have := two_cn (n := n) (show a < n by omega) (show b < n by omega) hab pa pb
        omega
/-- who is there already stays -/
theorem mv_th {f : Nat → Nat} {n g t : Nat} (hC : Can f n) (hn : n ≤ 8) (hg : g < n) (ht : t < n) (h : isTh f n g t) : ∀ e, e < n → mv f g t e = f e := by
  intro e he
  rw [show f e = can f e from (can_id hC he).symm]
  unfold mv
  refine can_congr (fun a b ha hb => ?_) e he
  have fa := hC.lt8 hn ha
  have fb := hC.lt8 hn hb
  unfold isTh at h
  by_cases q : g = t
  · rw [if_pos q] at h ⊢
    have only : ∀ x, x < n → x ≠ g → f x ≠ f g := fun x hx hne he => by
      have : 2 ≤ cn (fun e => decide (f e = f g)) n := two_cn hg hx (fun z => hne z.symm) (decide_eq_true rfl) (decide_eq_true he)
      omega
    unfold upN
    by_cases qa : a = g
    · by_cases qb : b = g
      · rw [qa, qb]; exact ⟨fun _ => rfl, fun _ => rfl⟩
      · rw [if_pos qa, if_neg qb, qa]
        exact ⟨fun z => by omega, fun z => absurd z.symm (only b hb qb)⟩
    · by_cases qb : b = g
      · rw [if_neg qa, if_pos qb, qb]
        exact ⟨fun z => by omega, fun z => absurd z (only a ha qa)⟩
      · rw [if_neg qa, if_neg qb]
  · rw [if_neg q] at h ⊢
    unfold upN
    by_cases qa : a = g
    · by_cases qb : b = g
      · rw [qa, qb]; exact ⟨fun _ => rfl, fun _ => rfl⟩
      · rw [if_pos qa, if_neg qb, qa, h]
    · by_cases qb : b = g
      · rw [if_neg qa, if_pos qb, qb, h]
      · rw [if_neg qa, if_neg qb]
def al (f : Nat → Nat) (n : Nat) : Nat := cn (fun g => decide (cn (fun e => decide (f e = f g)) n = 1)) n
/-- an evening: row, lot, how often somebody was alone -/
def evs (n : Nat) (f : Nat → Nat) (v : Int32) : Nat → (Nat → Nat) × Int32 × Nat
  | 0 => (f, v, 0)
  | j + 1 => (mv (evs n f v j).1 (rnd (nx (evs n f v j).2.1) % n) (rnd (nx (nx (evs n f v j).2.1)) % n), nx (nx (evs n f v j).2.1), (evs n f v j).2.2 + (if 0 < al (mv (evs n f v j).1 (rnd (nx (evs n f v j).2.1) % n) (rnd (nx (nx (evs n f v j).2.1)) % n)) n then 1 else 0))
theorem evs_Can {n : Nat} {f : Nat → Nat} {v : Int32} (hC : Can f n) : ∀ j, Can (evs n f v j).1 n
  | 0 => hC
  | j + 1 => Can_can _ n
theorem evs_le (n : Nat) (f : Nat → Nat) (v : Int32) : ∀ j, (evs n f v j).2.2 ≤ j
  | 0 => Nat.le_refl _
  | j + 1 => by
    have := evs_le n f v j
    show (evs n f v j).2.2 + (if _ then 1 else 0) ≤ j + 1
    split <;> omega
theorem c_even {S : gSt} {o : Nat} {r f σ : Nat → Nat} {w : Nat → Nat → Int} {v : Int32} {k m : Nat} {Z : Rst} (hX : RX S o r w f v k σ Z) (hW : RW r w) (hC : Can f (r 0)) (hm : m ≤ 99) : ∃ S1, fX10_evening_L26 gFU (nI m) (nI (r 0)) 0 0 S = some (nI (evs (r 0) f v m).2.2, S1) ∧ gFr 36 45 S S1 ∧ RX S1 o r w (evs (r 0) f v m).1 (evs (r 0) f v m).2.1 k σ Z := by
  have h1 := hW.1
  have h8 := hW.2.1
  refine forS (fun fu (T : gSt × Int32) j => fX10_evening_L26 fu (nI m) (nI (r 0)) T.2 (nI j) T.1) (fun y => ∃ S1, y = some (nI (evs (r 0) f v m).2.2, S1) ∧ gFr 36 45 S S1 ∧ RX S1 o r w (evs (r 0) f v m).1 (evs (r 0) f v m).2.1 k σ Z) (fun j T => T.2 = nI (evs (r 0) f v j).2.2 ∧ gFr 36 45 S T.1 ∧ RX T.1 o r w (evs (r 0) f v j).1 (evs (r 0) f v j).2.1 k σ Z) m ?_ ?_ (by omega) (S, 0) ⟨rfl, gFr.rf, hX⟩
  · rintro fu j ⟨T, c⟩ hj ⟨hc, hF, hT⟩
    have hc : c = nI (evs (r 0) f v j).2.2 := hc
    subst hc
    have hF : gFr 36 45 S T := hF
    have hT : RX T o r w (evs (r 0) f v j).1 (evs (r 0) f v j).2.1 k σ Z := hT
    have hle := evs_le (r 0) f v j
    have e1 := c_below (b := r 0) hT.2.2.2.2.2.1 (by omega) (by omega)
    have hT1 := hT.lot (v' := nx (evs (r 0) f v j).2.1)
    have e2 := c_below (b := r 0) hT1.2.2.2.2.2.1 (by omega) (by omega)
    have hT2 := hT1.lot (v' := nx (nx (evs (r 0) f v j).2.1))
    have hg : rnd (nx (evs (r 0) f v j).2.1) % r 0 < r 0 := Nat.mod_lt _ (by omega)
    have ht : rnd (nx (nx (evs (r 0) f v j).2.1)) % r 0 < r 0 := Nat.mod_lt _ (by omega)
    obtain ⟨T3, e3, F3, s3⟩ := c_sendTo hT2.2.2.2.1 hg ht
    have s3 : St T3 36 (r 0) (evs (r 0) f v (j + 1)).1 := s3
    have hT3 := hT2.x36 F3 s3
    have e4 := c_loners s3
    rw [← alone_eq] at e4
    have hA : cn (fun g => decide (cn (fun e => decide ((evs (r 0) f v (j + 1)).1 e = (evs (r 0) f v (j + 1)).1 g)) (r 0) = 1)) (r 0) ≤ r 0 := cn_le _ _
    refine ⟨(T3, nI (evs (r 0) f v (j + 1)).2.2), ⟨rfl, ?_, hT3⟩, ?_⟩
    · exact ((hF.w (by omega) (by omega)).w (by omega) (by omega)).tr (F3.mono (by omega) (by omega))
    · show fX10_evening_L26 (fu + 1) (nI m) (nI (r 0)) (nI (evs (r 0) f v j).2.2) (nI j) T = fX10_evening_L26 fu (nI m) (nI (r 0)) (nI (evs (r 0) f v (j + 1)).2.2) (nI (j + 1)) T3
      rw [fX10_evening_L26, if_neg (nI_nleI hj (by omega)), e1, gBd_s, e2, gBd_s, e3, gBp_s, e4, gBp_s, nI_1]
      have es : (evs (r 0) f v (j + 1)).2.2 = (evs (r 0) f v j).2.2 + (if 0 < al (evs (r 0) f v (j + 1)).1 (r 0) then 1 else 0) := rfl
      unfold al at es
      by_cases z : 0 < cn (fun g => decide (cn (fun e => decide ((evs (r 0) f v (j + 1)).1 e = (evs (r 0) f v (j + 1)).1 g)) (r 0) = 1)) (r 0)
      · rw [if_pos z] at es
        rw [if_neg (show ¬ nI _ ≤ 0 from nI_nleI (a := 0) z (by omega)), es, nI_1]
      · rw [if_neg z, Nat.add_zero] at es
        rw [if_pos (show nI _ ≤ 0 from nI_le (b := 0) (by omega) (by omega)), es]; rfl
  · rintro fu ⟨T, c⟩ ⟨hc, hF, hT⟩
    have hc : c = nI (evs (r 0) f v m).2.2 := hc
    subst hc
    refine ⟨T, ?_, hF, hT⟩
    show fX10_evening_L26 (fu + 1) (nI m) (nI (r 0)) _ (nI m) T = _
    rw [fX10_evening_L26, if_pos (nI_le (Nat.le_refl m) (by omega))]
theorem m_even {S : gSt} {r f σ : Nat → Nat} {w : Nat → Nat → Int} {v : Int32} {k m : Nat} {Z : Rst} (hM : RM S r w f v k σ Z) (hW : RW r w) (hC : Can f (r 0)) (hk : k ≤ 10) (hm : m ≤ 99) : ∃ S1, fX11_evening_L21 gFU (nI m) 0 0 S = some (nI (evs (r 0) f v m).2.2, S1) ∧ gFr 80 81 S S1 ∧ RM S1 r w (evs (r 0) f v m).1 (evs (r 0) f v m).2.1 k σ Z := by
  have h1 := hW.1
  have h8 := hW.2.1
  refine forS (fun fu (T : gSt × Int32) j => fX11_evening_L21 fu (nI m) T.2 (nI j) T.1) (fun y => ∃ S1, y = some (nI (evs (r 0) f v m).2.2, S1) ∧ gFr 80 81 S S1 ∧ RM S1 r w (evs (r 0) f v m).1 (evs (r 0) f v m).2.1 k σ Z) (fun j T => T.2 = nI (evs (r 0) f v j).2.2 ∧ gFr 80 81 S T.1 ∧ RM T.1 r w (evs (r 0) f v j).1 (evs (r 0) f v j).2.1 k σ Z) m ?_ ?_ (by omega) (S, 0) ⟨rfl, gFr.rf, hM⟩
  · rintro fu j ⟨T, c⟩ hj ⟨hc, hF, hT⟩
    have hc : c = nI (evs (r 0) f v j).2.2 := hc
    subst hc
    have hF : gFr 80 81 S T := hF
    have hT : RM T r w (evs (r 0) f v j).1 (evs (r 0) f v j).2.1 k σ Z := hT
    have hle := evs_le (r 0) f v j
    have hCj := evs_Can (v := v) hC j
    have hCj1 := evs_Can (v := v) hC (j + 1)
    have e1 := m_draws (b := r 0) hT.2.2.2.1 (by omega) (by omega)
    have hT1 := hT.lot (v' := nx (evs (r 0) f v j).2.1) h8 hk
    have e2 := m_draws (b := r 0) hT1.2.2.2.1 (by omega) (by omega)
    have hT2 := hT1.lot (v' := nx (nx (evs (r 0) f v j).2.1)) h8 hk
    have hg : rnd (nx (evs (r 0) f v j).2.1) % r 0 < r 0 := Nat.mod_lt _ (by omega)
    have ht : rnd (nx (nx (evs (r 0) f v j).2.1)) % r 0 < r 0 := Nat.mod_lt _ (by omega)
    have key : ∃ b T3, fX11_moves 80 (nI (rnd (nx (evs (r 0) f v j).2.1) % r 0)) (nI (rnd (nx (nx (evs (r 0) f v j).2.1)) % r 0)) (gW (gW T 80 39 (nx (evs (r 0) f v j).2.1)) 80 39 (nx (nx (evs (r 0) f v j).2.1))) = some (b, T3) ∧ gRw 80 8 (gW (gW T 80 39 (nx (evs (r 0) f v j).2.1)) 80 39 (nx (nx (evs (r 0) f v j).2.1))) T3 ∧ rowAt T3 80 (r 0) (evs (r 0) f v (j + 1)).1 := by
      rcases m_moves (hT2.mn hW) (by omega) g80.1 g80.2 hT2.2.1 hCj hg ht with ⟨z, e⟩ | ⟨z, T3, e, F3, r3⟩
      · exact ⟨0, _, e, gRw.rf, hT2.2.1.congr (fun e he => (mv_th hCj h8 hg ht z e he).symm)⟩
      · exact ⟨1, T3, e, F3.mono h8, r3⟩
    obtain ⟨b, T3, e3, F3, r3⟩ := key
    have hT3 := hT2.row F3 r3
    have e4 := m_alone (hT3.mn hW) r3 hCj1
    have hA : cn (fun g => decide (cn (fun e => decide ((evs (r 0) f v (j + 1)).1 e = (evs (r 0) f v (j + 1)).1 g)) (r 0) = 1)) (r 0) ≤ r 0 := cn_le _ _
    refine ⟨(T3, nI (evs (r 0) f v (j + 1)).2.2), ⟨rfl, ?_, hT3⟩, ?_⟩
    · exact ((hF.w (by omega) (by omega)).w (by omega) (by omega)).tr (F3.fr (by omega) (by omega))
    · show fX11_evening_L21 (fu + 1) (nI m) (nI (evs (r 0) f v j).2.2) (nI j) T = fX11_evening_L21 fu (nI m) (nI (evs (r 0) f v (j + 1)).2.2) (nI (j + 1)) T3
      rw [fX11_evening_L21, if_neg (nI_nleI hj (by omega)), m_guests (hT.mn hW), gBp_s, e1, gBd_s, m_guests (hT1.mn hW), gBp_s, e2, gBd_s, e3, gBd_s, e4, gBp_s, nI_1]
      have es : (evs (r 0) f v (j + 1)).2.2 = (evs (r 0) f v j).2.2 + (if 0 < al (evs (r 0) f v (j + 1)).1 (r 0) then 1 else 0) := rfl
      unfold al at es
      by_cases z : 0 < cn (fun g => decide (cn (fun e => decide ((evs (r 0) f v (j + 1)).1 e = (evs (r 0) f v (j + 1)).1 g)) (r 0) = 1)) (r 0)
      · rw [if_pos z] at es
        rw [if_neg (show ¬ nI _ ≤ 0 from nI_nleI (a := 0) z (by omega)), es, gL_s, nI_1]
      · rw [if_neg z, Nat.add_zero] at es
        rw [if_pos (show nI _ ≤ 0 from nI_le (b := 0) (by omega) (by omega)), es, gL_s, Int32.add_zero]; rfl
  · rintro fu ⟨T, c⟩ ⟨hc, hF, hT⟩
    have hc : c = nI (evs (r 0) f v m).2.2 := hc
    subst hc
    refine ⟨T, ?_, hF, hT⟩
    show fX11_evening_L21 (fu + 1) (nI m) _ (nI m) T = _
    rw [fX11_evening_L21, if_pos (nI_le (Nat.le_refl m) (by omega))]
theorem t_evening (a : Int32) : Tw (fX10_evening a) (fX11_evening a) := by
  rintro S ⟨o, r, w, f, v, k, σ, Z, hG, hX, hM⟩
  have hW := hG.1
  have hC := hG.2.1
  unfold fX10_evening fX11_evening
  have hno : ¬ (1 ≤ a ∧ a ≤ 99) → (a < 1 ∨ ¬ a ≤ 99) := fun h => by
    by_cases q : a < 1
    · exact Or.inl q
    · exact Or.inr (fun z => h ⟨Int32.not_lt.mp q, z⟩)
  by_cases h : 1 ≤ a ∧ a ≤ 99
  · obtain ⟨m, hm, rfl⟩ := nI_of2 (M := 99) (n := 99) rfl (fun z => absurd (Int32.lt_of_le_of_lt h.1 z) (by decide)) h.2
    obtain ⟨S1, e1, F1, hX1⟩ := c_even hX hW hC hm
    have hM1 := (hM.fr F1 (by omega)).sc (gW7 S1)
    obtain ⟨S2, e2, F2, hM2⟩ := m_even hM1 hW hC hG.2.2.1.1 hm
    refine ⟨nI (evs (r 0) f v m).2.2, S1, S2, ?_, ?_, o, r, w, _, _, k, σ, Z, ⟨hW, evs_Can hC m, hG.2.2⟩, (hX1.sc (gW7 S1)).up F2 (by omega), hM2⟩
    · rw [if_neg (Int32.not_lt.mpr h.1), if_pos h.2, hX.g0, gC_ok hX.gi, hX.gu, gBp_s, e1]
    · rw [gL_s, m_in, if_pos h, gBp_s, if_neg (by decide), e2]
  · refine ⟨-1, S, gW S 77 0 0, ?_, ?_, o, r, w, f, v, k, σ, Z, hG, hX.sc (gW7 S), hM.sc (gW7 S)⟩
    · rcases hno h with q | q
      · rw [if_pos q]
      · by_cases q2 : a < 1
        · rw [if_pos q2]
        · rw [if_neg q2, if_neg q]
    · rw [gL_s, m_in, if_neg h, gBp_s, if_pos rfl]
