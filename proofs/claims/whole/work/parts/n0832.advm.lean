/-! the reference reads a word; needs: 0800 0801 0802 0803 0804 0805 0806 0807 0808 0809 0810 0811 0812 0813 0814 0815 0816 0821 0822 0829 0830 -/
theorem TM.w77 {S : gSt} {tl k : Nat} {tx : Nat → Nat} {v : Int32} (h : TM S tl tx) (hk : k ≠ 3) : TM (gW S 77 k v) tl tx := ⟨by rw [gR_Wk (by omega)]; exact h.1, fun i hi => by rw [gR_Wp (by omega)]; exact h.2 i hi⟩
def KW (i : Nat) : Int64 := Int64.ofNat (rf (rW i))
theorem named_S (a b c d e f : Int32) (S T : gSt) : fX11_named a b c d e f S = fX11_named a b c d e f T := rfl
theorem add_S (a : Int64) (b : Int32) (S T : gSt) : fX11_add a b S = fX11_add a b T := rfl
def gZ : gSt := (fun _ _ => 0, fun _ => 0)
theorem kc0 (S : gSt) : fX11_named 103 117 101 115 116 115 S = some (KW 0) := by rw [named_S _ _ _ _ _ _ S gZ]; decide +kernel
theorem kc1 (S : gSt) : fX11_named 104 97 116 0 0 0 S = some (KW 1) := by rw [named_S _ _ _ _ _ _ S gZ]; decide +kernel
theorem kc3 (S : gSt) : fX11_named 108 101 97 115 116 0 S = some (KW 3) := by rw [named_S _ _ _ _ _ _ S gZ]; decide +kernel
theorem kc4 (S : gSt) : fX11_named 109 111 115 116 0 0 S = some (KW 4) := by rw [named_S _ _ _ _ _ _ S gZ]; decide +kernel
theorem kc5 (S : gSt) : fX11_named 117 110 108 105 107 101 S = some (KW 5) := by rw [named_S _ _ _ _ _ _ S gZ]; decide +kernel
theorem kc6 (S : gSt) : fX11_named 114 105 110 103 0 0 S = some (KW 6) := by rw [named_S _ _ _ _ _ _ S gZ]; decide +kernel
theorem kc8 (S : gSt) : fX11_named 97 112 97 114 116 0 S = some (KW 8) := by rw [named_S _ _ _ _ _ _ S gZ]; decide +kernel
theorem kc9 (S : gSt) : fX11_named 119 111 114 116 104 0 S = some (KW 9) := by rw [named_S _ _ _ _ _ _ S gZ]; decide +kernel
theorem kc10 (S : gSt) : fX11_named 99 111 115 116 0 0 S = some (KW 10) := by rw [named_S _ _ _ _ _ _ S gZ]; decide +kernel
def K2a : Int64 := Int64.ofNat (rf [101, 105, 116, 114, 97, 112])
def K7a : Int64 := Int64.ofNat (rf [104, 116, 101, 103, 111, 116])
def K7b : Int64 := Int64.ofNat (rf [101, 104, 116, 101, 103, 111, 116])
theorem kc2 (S : gSt) : fX11_named 112 97 114 116 105 101 S = some K2a ∧ fX11_add K2a 115 S = some (KW 2) ∧ fX11_add (KW 2) 0 S = some (KW 2) := by rw [named_S _ _ _ _ _ _ S gZ, add_S K2a _ S gZ, add_S (KW 2) _ S gZ]; decide +kernel
theorem kc7 (S : gSt) : fX11_named 116 111 103 101 116 104 S = some K7a ∧ fX11_add K7a 101 S = some K7b ∧ fX11_add K7b 114 S = some (KW 7) := by rw [named_S _ _ _ _ _ _ S gZ, add_S K7a _ S gZ, add_S K7b _ S gZ]; decide +kernel
theorem m_wordOf_t (S : gSt) : ∀ i : Nat, i < 11 → fX11_wordOf (KW i) S = some (nI i) := by
  have h : ∀ i : Fin 11, fX11_wordOf (KW i.val) gZ = some (nI i.val) := by decide +kernel
  have e : ∀ x, fX11_wordOf x S = fX11_wordOf x gZ := fun x => by
    unfold fX11_wordOf fX11_wordOf_L156 fX11_wordOf_L238
    simp only [named_S _ _ _ _ _ _ S gZ, add_S _ _ S gZ]
  intro i hi
  rw [e]
  exact h ⟨i, hi⟩
theorem m_wordOf_f {x : Int64} (S : gSt) (h : ∀ i, i < 11 → x ≠ KW i) : fX11_wordOf x S = some (-9) := by
  have n : ∀ i, i < 11 → ¬ lg_cmp x (KW i) = 0 := fun i hi y => h i hi ((lg_cmp_eq _ _).mp y)
  unfold fX11_wordOf fX11_wordOf_L156 fX11_wordOf_L238
  rw [(kc2 S).1, gBp_s, (kc2 S).2.1, gBp_s, (kc2 S).2.2, gBp_s, if_neg (n 2 (by omega)), (kc7 S).1, gBp_s, (kc7 S).2.1, gBp_s, (kc7 S).2.2, gBp_s, if_neg (n 7 (by omega)), kc0, gBp_s, if_neg (n 0 (by omega)), kc1, gBp_s, if_neg (n 1 (by omega)), kc3, gBp_s, if_neg (n 3 (by omega)), kc4, gBp_s, if_neg (n 4 (by omega)), if_pos rfl, kc5, gBp_s, if_neg (n 5 (by omega)), kc6, gBp_s, if_neg (n 6 (by omega)), kc8, gBp_s, if_neg (n 8 (by omega)), if_pos rfl, kc9, gBp_s, if_neg (n 9 (by omega)), kc10, gBp_s, if_neg (n 10 (by omega))]
theorem rW_ok : ∀ i : Fin 11, rf (rW i.val) < 2 ^ 63 ∧ (rW i.val).length ≤ 8 ∧ (rW i.val).all (fun b => decide (1 ≤ b) && decide (b < 256)) = true := by decide +kernel
theorem i64_inj {a b : Nat} (ha : a < 2 ^ 63) (hb : b < 2 ^ 63) (h : Int64.ofNat a = Int64.ofNat b) : a = b := by
  have h2 := congrArg Int64.toBitVec h
  have h3 : BitVec.ofNat 64 a = BitVec.ofNat 64 b := h2
  have h4 := congrArg BitVec.toNat h3
  rw [BitVec.toNat_ofNat, BitVec.toNat_ofNat, Nat.mod_eq_of_lt (by omega), Nat.mod_eq_of_lt (by omega)] at h4
  exact h4
theorem m_wordOf {S : gSt} {l : List Nat} (hl : ∀ b, b ∈ l → 97 ≤ b ∧ b ≤ 122) (h8 : l.length ≤ 8) : fX11_wordOf (Int64.ofNat (rf l)) S = some (if wv l < 11 then nI (wv l) else -9) := by
  have key : ∀ i, i < 11 → (Int64.ofNat (rf l) = KW i ↔ l = rW i) := fun i hi => by
    obtain ⟨a, b, c⟩ := rW_ok ⟨i, hi⟩
    have a : rf (rW i) < 2 ^ 63 := a
    have c : (rW i).all (fun b => decide (1 ≤ b) && decide (b < 256)) = true := c
    constructor
    · intro h
      refine rf_inj (fun b hb => by have := hl b hb; omega) (fun b hb => ?_) (i64_inj (rf_63 (fun b hb => by have := hl b hb; omega) h8) a h)
      have := List.all_eq_true.mp c b hb
      have := Bool.and_eq_true_iff.mp this
      exact ⟨of_decide_eq_true this.1, of_decide_eq_true this.2⟩
    · intro h
      rw [h]
      rfl
  obtain ⟨w1, w2, w3⟩ := ff_spec (fun i => decide (l = rW i)) 11
  by_cases z : wv l < 11
  · have := of_decide_eq_true (w2 z)
    rw [if_pos z, (key _ z).mpr this, m_wordOf_t S _ z]
  · rw [if_neg z]
    refine m_wordOf_f S (fun i hi y => ?_)
    have h1 : i < wv l := by have : wv l ≤ 11 := w1; omega
    have := w3 i h1
    rw [decide_eq_true ((key i hi).mp y)] at this
    cases this
theorem rW_len {i : Nat} (h : i < 11) : (rW i).length ≤ 8 := (rW_ok ⟨i, h⟩).2.1
theorem wv_long {l : List Nat} (h : 8 < l.length) : ¬ wv l < 11 := fun z => by
  have e : l = rW (wv l) := of_decide_eq_true ((ff_spec (fun i => decide (l = rW i)) 11).2.1 z)
  generalize wv l = i at e z
  have := rW_len z
  rw [e] at h
  omega
theorem m_skip {S : gSt} {tl p : Nat} {tx : Nat → Nat} (h : TM S tl tx) (h3 : tl ≤ 300) (hb : ∀ i, i < tl → tx i < 256) (hp : p ≤ tl) (h2 : gR S 77 4 = nI p) : ∃ m', fX11_advances S = fX11_advances_L0 (m' + 1) (gW S 77 4 (nI (E tl (sp tl tx) p))) := by
  obtain ⟨m', e⟩ := run_FU (lo := p) h3 (sp_lt (tl := tl) (tx := tx)) (fun m q => fX11_advances_L0 m (gW S 77 4 (nI q))) (fun m q hlo hq => by
    have hl := sp_lt q hq
    show fX11_advances_L0 (m + 1) (gW S 77 4 (nI q)) = fX11_advances_L0 m (gW S 77 4 (nI (q + 1)))
    rw [fX11_advances_L0, gR_Ws, m_byte (h.w77 (by omega)) h3 (by omega), gBp_s, if_pos ((b_sp hb q).mpr hq), gL_s, nI_1, gW_gW])
  refine ⟨m', ?_⟩
  have e : fX11_advances_L0 gFU (gW S 77 4 (nI p)) = fX11_advances_L0 (m' + 1) (gW S 77 4 (nI (E tl (sp tl tx) p))) := e
  unfold fX11_advances
  rw [gW_self h2] at e
  exact e
theorem i64_step {N b : Nat} (hb : b < 256) : (256 : Int64) * Int64.ofNat N + (nI b).toInt64 = Int64.ofNat (256 * N + b) := by
  have e : (nI b).toInt64 = Int64.ofNat b := by
    have : ∀ b : Fin 256, (nI b.val).toInt64 = Int64.ofNat b.val := by decide +kernel
    exact this ⟨b, hb⟩
  rw [e, show (256 : Int64) = Int64.ofNat 256 from rfl, ← Int64.ofNat_mul, ← Int64.ofNat_add]
theorem rwd_mem {tx : Nat → Nat} {s : Nat} : ∀ {k b : Nat}, b ∈ rwd tx s k → ∃ j, j < k ∧ b = tx (s + j)
  | 0, b, h => by cases h
  | k + 1, b, h => by
    rcases List.mem_cons.mp h with e | e
    · exact ⟨k, by omega, e⟩
    · obtain ⟨j, h1, h2⟩ := rwd_mem e
      exact ⟨j, by omega, h2⟩
theorem m_word {S : gSt} {tl s : Nat} {tx : Nat → Nat} (h : TM S tl tx) (h3 : tl ≤ 300) (hb : ∀ i, i < tl → tx i < 256) (hs : lt tl tx s = true) (h2 : gR S 77 4 = nI s) (h6 : gR S 77 6 = nI s) : fX11_advances_L68 gFU 0 S = fX11_advances_L154 (if wv (rwd tx s (E tl (lt tl tx) s - s)) < 11 then nI (wv (rwd tx s (E tl (lt tl tx) s - s))) else -9) (gW S 77 4 (nI (E tl (lt tl tx) s))) := by
  have hsl := lt_lt s hs
  obtain ⟨p1, p2⟩ := E_prog lt_lt hs
  obtain ⟨-, -, g3, g4⟩ := E_ge (tl := tl) (P := lt tl tx) lt_lt tl s (by omega)
  have f6 : ∀ q, gR (gW S 77 4 (nI q)) 77 6 = nI s := fun q => by rw [gR_Wk (by omega)]; exact h6
  obtain ⟨m', e⟩ := run_FU (lo := s) h3 (lt_lt (tl := tl) (tx := tx)) (fun m q => fX11_advances_L68 m (Int64.ofNat (rf (rwd tx s (min (q - s) 8)))) (gW S 77 4 (nI q))) (fun m q hlo hq => by
    have hl := lt_lt q hq
    have hd := lt_in hq
    show fX11_advances_L68 (m + 1) (Int64.ofNat (rf (rwd tx s (min (q - s) 8)))) (gW S 77 4 (nI q)) = fX11_advances_L68 m (Int64.ofNat (rf (rwd tx s (min (q + 1 - s) 8)))) (gW S 77 4 (nI (q + 1)))
    rw [fX11_advances_L68, gR_Ws, m_byte (h.w77 (by omega)) h3 (by omega), gBp_s, m_isL hb, gBp_s, hq, if_neg (by decide), f6, nI_sub hlo, nI_1]
    by_cases y : 8 ≤ q - s
    · rw [if_pos (show (8 : Int32) ≤ nI (q - s) from nI_le (a := 8) y (by omega)), gL_s, gW_gW, show min (q - s) 8 = 8 by omega, show min (q + 1 - s) 8 = 8 by omega]
    · rw [if_neg (show ¬ (8 : Int32) ≤ nI (q - s) from nI_nleI (b := 8) (by omega) (by omega)), gBp_s, bI_y hl]
      unfold fX11_add
      rw [if_neg (show ¬ nI (tx q) = 0 from nI_neI (b := 0) (by omega) (by omega) (by omega)), gBp_s, gL_s, gW_gW, i64_step (by omega), show min (q - s) 8 = q - s by omega, show min (q + 1 - s) 8 = (q - s) + 1 by omega]
      have : rwd tx s (q - s + 1) = tx q :: rwd tx s (q - s) := by
        show tx (s + (q - s)) :: rwd tx s (q - s) = _
        rw [show s + (q - s) = q by omega]
      rw [this]
      rfl)
  have e : fX11_advances_L68 gFU (Int64.ofNat (rf (rwd tx s (min (s - s) 8)))) (gW S 77 4 (nI s)) = fX11_advances_L68 (m' + 1) (Int64.ofNat (rf (rwd tx s (min (E tl (lt tl tx) s - s) 8)))) (gW S 77 4 (nI (E tl (lt tl tx) s))) := e
  rw [Nat.sub_self, gW_self h2, show Int64.ofNat (rf (rwd tx s (min 0 8))) = 0 from rfl] at e
  rw [e, fX11_advances_L68, gR_Ws, m_byte (h.w77 (by omega)) h3 (by omega), gBp_s, m_isL hb, gBp_s, g3, if_pos (by decide), f6, nI_sub (by omega)]
  by_cases y : E tl (lt tl tx) s - s ≤ 8
  · rw [if_pos (show nI (E tl (lt tl tx) s - s) ≤ 8 from nI_le (b := 8) y (by omega)), show min (E tl (lt tl tx) s - s) 8 = E tl (lt tl tx) s - s by omega, m_wordOf (fun b hbm => by
      obtain ⟨j, hj, rfl⟩ := rwd_mem hbm
      exact lt_in (g4 (s + j) (by omega) (by omega))) (by rw [rwd_len]; exact y), gBp_s]
  · rw [if_neg (show ¬ nI (E tl (lt tl tx) s - s) ≤ 8 from nI_nleI (a := 8) (by omega) (by omega)), if_neg (wv_long (by rw [rwd_len]; omega))]
theorem m_num {S : gSt} {tl s : Nat} {tx : Nat → Nat} (h : TM S tl tx) (h3 : tl ≤ 300) (hb : ∀ i, i < tl → tx i < 256) (hs : dg tl tx s = true) (h2 : gR S 77 4 = nI s) (h6 : gR S 77 6 = nI s) : fX11_advances_L194 gFU (nI (tx s)) (gW S 77 7 0) = some (gW (gW (gW S 77 7 (nI (nv tx s (E tl (dg tl tx) s - s)))) 77 4 (nI (E tl (dg tl tx) s))) 77 5 (nI (if 99 < nv tx s (E tl (dg tl tx) s - s) ∨ (tx s = 48 ∧ 1 < E tl (dg tl tx) s - s) then 4 else 2))) := by
  have hsl := dg_lt s hs
  obtain ⟨p1, p2⟩ := E_prog dg_lt hs
  obtain ⟨-, -, g3, g4⟩ := E_ge (tl := tl) (P := dg tl tx) dg_lt tl s (by omega)
  have hsd := dg_in hs
  obtain ⟨m', e⟩ := run_FU (lo := s) h3 (dg_lt (tl := tl) (tx := tx)) (fun m q => if q ≤ E tl (dg tl tx) s then fX11_advances_L194 m (nI (tx s)) (gW (gW S 77 7 (nI (nv tx s (q - s)))) 77 4 (nI q)) else none) (fun m q hlo hq => by
    have hl := dg_lt q hq
    have hd := dg_in hq
    show (if q ≤ E tl (dg tl tx) s then fX11_advances_L194 (m + 1) (nI (tx s)) (gW (gW S 77 7 (nI (nv tx s (q - s)))) 77 4 (nI q)) else none) = (if q + 1 ≤ E tl (dg tl tx) s then fX11_advances_L194 m (nI (tx s)) (gW (gW S 77 7 (nI (nv tx s (q + 1 - s)))) 77 4 (nI (q + 1))) else none)
    by_cases ho : q ≤ E tl (dg tl tx) s
    · have ho2 : q + 1 ≤ E tl (dg tl tx) s := by
        rcases Nat.lt_or_ge q (E tl (dg tl tx) s) with y | y
        · exact y
        · have : q = E tl (dg tl tx) s := by omega
          rw [this, g3] at hq
          cases hq
      have hv : nv tx s (q - s) ≤ 999 := nv_lt _ (fun j hj => (dg_in (g4 (s + j) (by omega) (by omega))).2)
      have hstep : nv tx s (q + 1 - s) = if nv tx s (q - s) ≤ 99 then nv tx s (q - s) * 10 + tx q - 48 else nv tx s (q - s) := by
        rw [show q + 1 - s = (q - s) + 1 by omega]
        show (if nv tx s (q - s) ≤ 99 then nv tx s (q - s) * 10 + tx (s + (q - s)) - 48 else nv tx s (q - s)) = _
        rw [show s + (q - s) = q by omega]
      rw [if_pos ho, if_pos ho2, fX11_advances_L194, gR_Ws, m_byte ((h.w77 (by omega)).w77 (by omega)) h3 (by omega), gBp_s, m_isD hb, gBp_s, hq, if_neg (by decide), gR_Wk (by omega), gR_Ws, hstep]
      by_cases y : nv tx s (q - s) ≤ 99
      · rw [if_pos (show nI (nv tx s (q - s)) ≤ (99 : Int32) from nI_le (b := 99) y (by omega)), gBp_s, l10, l48, nI_mul, bI_y hl, nI_add, nI_sub (by omega), gL_s, gL_s, gW_com (show (4 : Nat) ≠ 7 by omega), gW_gW, gR_Ws, nI_1, gW_gW, if_pos y, Nat.mul_comm 10]
      · rw [if_neg (show ¬ nI (nv tx s (q - s)) ≤ (99 : Int32) from nI_nleI (a := 99) (by omega) (by omega)), gL_s, gL_s, gW_com (show (4 : Nat) ≠ 7 by omega), gW_gW, gR_Ws, nI_1, gW_gW, if_neg y]
    · rw [if_neg ho, if_neg (by omega)])
  have e : (if s ≤ E tl (dg tl tx) s then fX11_advances_L194 gFU (nI (tx s)) (gW (gW S 77 7 (nI (nv tx s (s - s)))) 77 4 (nI s)) else none) = (if E tl (dg tl tx) s ≤ E tl (dg tl tx) s then fX11_advances_L194 (m' + 1) (nI (tx s)) (gW (gW S 77 7 (nI (nv tx s (E tl (dg tl tx) s - s)))) 77 4 (nI (E tl (dg tl tx) s))) else none) := e
  rw [if_pos (by omega), if_pos (Nat.le_refl _), Nat.sub_self] at e
  have hv : nv tx s (E tl (dg tl tx) s - s) ≤ 999 := nv_lt _ (fun j hj => (dg_in (g4 (s + j) (by omega) (by omega))).2)
  have e0 : gW (gW S 77 7 (nI (nv tx s 0))) 77 4 (nI s) = gW S 77 7 0 := gW_self (by rw [gR_Wk (by omega)]; exact h2)
  rw [e0] at e
  rw [e, fX11_advances_L194, gR_Ws, m_byte ((h.w77 (by omega)).w77 (by omega)) h3 (by omega), gBp_s, m_isD hb, gBp_s, g3, if_pos (by decide), gR_Wk (by omega), gR_Ws, gR_Wk (by omega), gR_Wk (by omega), h6, nI_sub (by omega)]
  generalize E tl (dg tl tx) s = q at *
  generalize hvv : nv tx s (q - s) = v at *
  have a99 : (99 : Int32) < nI v ↔ 99 < v := nI_ltI (a := 99) (by omega) (by omega)
  have a48 : nI (tx s) = 48 ↔ tx s = 48 := nI_eq (b := 48) (by omega) (by omega)
  have a1 : nI (q - s) ≤ 1 ↔ q - s ≤ 1 := nI_leI (b := 1) (by omega) (by omega)
  by_cases y1 : 99 < v
  · rw [if_pos (a99.mpr y1), if_pos (Or.inl y1), gL_s]
    rfl
  · rw [if_neg (fun x => y1 (a99.mp x))]
    by_cases y2 : tx s = 48
    · rw [if_pos (a48.mpr y2)]
      by_cases y3 : q - s ≤ 1
      · rw [if_pos (a1.mpr y3), gL_s, if_neg (fun x => by omega)]
        rfl
      · rw [if_neg (fun x => y3 (a1.mp x)), gL_s, if_pos (Or.inr ⟨y2, by omega⟩)]
        rfl
    · rw [if_neg (fun x => y2 (a48.mp x)), gL_s, if_neg (fun x => by omega)]
      rfl
def gA77 (S S1 : gSt) : Prop := S1.2 = S.2 ∧ ∀ q j, q ≠ 77 ∨ j < 4 ∨ 8 ≤ j → gR S1 q j = gR S q j
theorem gA77.rf {S : gSt} : gA77 S S := ⟨rfl, fun _ _ _ => rfl⟩
theorem gA77.w {S S1 : gSt} {k : Nat} {v : Int32} (h : gA77 S S1) (hk : 4 ≤ k ∧ k < 8) : gA77 S (gW S1 77 k v) := ⟨h.1, fun q j hq => by rw [gR_W2, if_neg (by omega)]; exact h.2 q j hq⟩
def TkM (S : gSt) (t : Nat × Nat × Nat × Nat) : Prop := gR S 77 5 = nI t.1 ∧ gR S 77 6 = nI t.2.2.1 ∧ (t.1 = 1 ∨ t.1 = 2 → gR S 77 7 = nI t.2.1) ∧ (t.1 ≠ 4 → gR S 77 4 = nI t.2.2.2)
theorem m_adv {S : gSt} {tl p : Nat} {tx : Nat → Nat} (h : TM S tl tx) (h3 : tl ≤ 300) (hb : ∀ i, i < tl → tx i < 256) (hp : p ≤ tl) (h2 : gR S 77 4 = nI p) : ∃ S1, fX11_advances S = some S1 ∧ gA77 S S1 ∧ TkM S1 (tk tl tx p) := by
  obtain ⟨g1, g2, g3, -⟩ := E_ge (tl := tl) (P := sp tl tx) sp_lt tl p (by omega)
  have g2 := g2 hp
  obtain ⟨m', e⟩ := m_skip h h3 hb hp h2
  rw [e, fX11_advances_L0]
  unfold tk
  generalize E tl (sp tl tx) p = s at *
  rw [gR_Ws, m_byte (h.w77 (by omega)) h3 (by omega), gBp_s, if_neg (fun y => by rw [(b_sp hb _).mp y] at g3; cases g3), gL_s, gR_Wk (by omega), gR_Ws, m_byte ((h.w77 (by omega)).w77 (by omega)) h3 (by omega), gBp_s]
  have hA : gA77 S (gW (gW S 77 4 (nI s)) 77 6 (nI s)) := (gA77.rf.w (by omega)).w (by omega)
  have e2 : gR (gW (gW S 77 4 (nI s)) 77 6 (nI s)) 77 4 = nI s := by rw [gR_Wk (by omega)]; exact gR_Ws _ _ _ _
  have e4 : gR (gW (gW S 77 4 (nI s)) 77 6 (nI s)) 77 6 = nI s := gR_Ws _ _ _ _
  have hT : TM (gW (gW S 77 4 (nI s)) 77 6 (nI s)) tl tx := (h.w77 (by omega)).w77 (by omega)
  generalize gW (gW S 77 4 (nI s)) 77 6 (nI s) = T at *
  by_cases z0 : tl ≤ s
  · rw [if_pos z0, bI_n (by omega), if_neg (by decide)]
    exact ⟨gW T 77 5 0, by rw [gL_s], hA.w (by omega), gR_Ws _ _ _ _, by rw [gR_Wk (by omega)]; exact e4, fun q => absurd q (by show ¬ (0 = 1 ∨ 0 = 2); omega), fun _ => by rw [gR_Wk (by omega)]; exact e2⟩
  have hsl : s < tl := by omega
  have hbs := hb s hsl
  rw [if_neg z0, if_pos (show 0 ≤ bI tl tx s by rw [bI_y hsl]; exact nI_pos' (by omega)), m_isL hb, gBp_s]
  have a59 : bI tl tx s = 59 ↔ tx s = 59 := by rw [bI_y hsl]; exact nI_eq (b := 59) (by omega) (by omega)
  by_cases z1 : tx s = 59
  · have hL : lt tl tx s = false := by
      cases q : lt tl tx s with
      | false => rfl
      | true => have := lt_in q; omega
    have hD : dg tl tx s = false := by
      cases q : dg tl tx s with
      | false => rfl
      | true => have := dg_in q; omega
    rw [hL, if_pos (by decide), m_isD hb, gBp_s, hD, if_pos (by decide), gL_s, if_pos (a59.mpr z1), if_pos z1]
    refine ⟨gW (gW T 77 4 (nI (s + 1))) 77 5 3, ?_, (hA.w (by omega)).w (by omega), gR_Ws _ _ _ _, by rw [gR_Wk (by omega), gR_Wk (by omega)]; exact e4, fun q => absurd q (by show ¬ (3 = 1 ∨ 3 = 2); omega), fun _ => by rw [gR_Wk (by omega)]; exact gR_Ws _ _ _ _⟩
    rw [nI_1, gL_s]
  rw [if_neg z1]
  by_cases z2 : lt tl tx s = true
  · rw [z2, if_neg (by decide), if_pos rfl, m_word hT h3 hb z2 e2 e4]
    unfold fX11_advances_L154
    generalize E tl (lt tl tx) s = e at *
    generalize wv (rwd tx s (e - s)) = v at *
    rw [gL_s, gR_Ws]
    by_cases z3 : v < 11
    · rw [if_pos z3, if_pos z3, if_neg (fun y => nI_pos (n := v) (by omega) (by rw [y]; decide)), gL_s]
      exact ⟨_, rfl, ((hA.w (by omega)).w (by omega)).w (by omega), gR_Ws _ _ _ _, by rw [gR_Wk (by omega), gR_Wk (by omega), gR_Wk (by omega)]; exact e4, fun _ => by rw [gR_Wk (by omega)]; exact gR_Ws _ _ _ _, fun _ => by rw [gR_Wk (by omega), gR_Wk (by omega)]; exact gR_Ws _ _ _ _⟩
    · rw [if_neg z3, if_neg z3, if_pos rfl, gL_s]
      exact ⟨_, rfl, ((hA.w (by omega)).w (by omega)).w (by omega), gR_Ws _ _ _ _, by rw [gR_Wk (by omega), gR_Wk (by omega), gR_Wk (by omega)]; exact e4, fun q => absurd q (by show ¬ (4 = 1 ∨ 4 = 2); omega), fun q => absurd rfl q⟩
  have z2f : lt tl tx s = false := Bool.eq_false_iff.mpr z2
  rw [if_neg z2, z2f, if_pos (by decide), m_isD hb, gBp_s]
  by_cases z4 : dg tl tx s = true
  · rw [z4, if_neg (by decide), if_pos rfl, gL_s, bI_y hsl, m_num hT h3 hb z4 e2 e4]
    generalize E tl (dg tl tx) s = e at *
    generalize nv tx s (e - s) = v at *
    by_cases z3 : 99 < v ∨ (tx s = 48 ∧ 1 < e - s)
    · rw [if_pos z3, if_pos z3]
      exact ⟨_, rfl, ((hA.w (by omega)).w (by omega)).w (by omega), gR_Ws _ _ _ _, by rw [gR_Wk (by omega), gR_Wk (by omega), gR_Wk (by omega)]; exact e4, fun q => absurd q (by show ¬ (4 = 1 ∨ 4 = 2); omega), fun q => absurd rfl q⟩
    · rw [if_neg z3, if_neg z3]
      exact ⟨_, rfl, ((hA.w (by omega)).w (by omega)).w (by omega), gR_Ws _ _ _ _, by rw [gR_Wk (by omega), gR_Wk (by omega), gR_Wk (by omega)]; exact e4, fun _ => by rw [gR_Wk (by omega), gR_Wk (by omega)]; exact gR_Ws _ _ _ _, fun _ => by rw [gR_Wk (by omega)]; exact gR_Ws _ _ _ _⟩
  · have z4f : dg tl tx s = false := Bool.eq_false_iff.mpr z4
    rw [if_neg z4, z4f, if_pos (by decide), gL_s, if_neg (fun y => z1 (a59.mp y)), gL_s]
    exact ⟨_, rfl, (hA.w (by omega)).w (by omega), gR_Ws _ _ _ _, by rw [gR_Wk (by omega), gR_Wk (by omega)]; exact e4, fun q => absurd q (by show ¬ (4 = 1 ∨ 4 = 2); omega), fun q => absurd rfl q⟩
