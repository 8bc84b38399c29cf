/-! the class reads a word; needs: 0800 0801 0802 0803 0804 0805 0806 0807 0808 0809 0810 0811 0812 0813 0814 0815 0816 0821 0822 0829 0830 -/
theorem TX.w31 {S : gSt} {tl k : Nat} {tx : Nat → Nat} {v : Int32} (h : TX S tl tx) : TX (gW S 31 k v) tl tx := ⟨by rw [gR_Wp (by omega)]; exact h.1, fun i hi => by rw [gR_Wp (by omega)]; exact h.2 i hi⟩
theorem c_skip {S : gSt} {tl p : Nat} {tx : Nat → Nat} (h : TX S tl tx) (h3 : tl ≤ 300) (hb : ∀ i, i < tl → tx i < 256) (hp : p ≤ tl) (h2 : gR S 31 3 = nI p) : fX4_advance S = fX4_advance_L39 (gW S 31 3 (nI (E tl (sp tl tx) p))) := by
  obtain ⟨m', e⟩ := run_FU (lo := p) h3 (sp_lt (tl := tl) (tx := tx)) (fun m q => fX4_advance_L0 m (gW S 31 3 (nI q))) (fun m q hlo hq => by
    have hl := sp_lt q hq
    show fX4_advance_L0 (m + 1) (gW S 31 3 (nI q)) = fX4_advance_L0 m (gW S 31 3 (nI (q + 1)))
    rw [fX4_advance_L0, gR_Ws, l300, if_neg (nI_nleI (by omega) (by omega)), c_byte h.w31 h3 (by omega), gBp_s, if_pos ((b_sp hb q).mpr hq), gL_s, nI_1, gW_gW])
  have e : fX4_advance_L0 gFU (gW S 31 3 (nI p)) = fX4_advance_L0 (m' + 1) (gW S 31 3 (nI (E tl (sp tl tx) p))) := e
  obtain ⟨g1, g2, g3, -⟩ := E_ge (tl := tl) (P := sp tl tx) sp_lt tl p (by omega)
  have g2 := g2 hp
  unfold fX4_advance
  rw [gW_self h2] at e
  rw [e, fX4_advance_L0, gR_Ws, l300]
  by_cases z : 300 ≤ E tl (sp tl tx) p
  · rw [if_pos (nI_le z (by omega))]
  · rw [if_neg (nI_nleI (by omega) (by omega)), c_byte h.w31 h3 (by omega), gBp_s, if_neg (fun y => by rw [(b_sp hb _).mp y] at g3; cases g3)]
theorem sl_len : ∀ i : Fin 11, gSlen.getD i.val 0 = (wN.getD i.val []).length ∧ (wN.getD i.val []).length ≤ 8 := by decide +kernel
theorem sl_byt : ∀ i : Fin 11, ∀ j : Fin 8, (gSbyt.getD i.val []).getD j.val 0 = nI ((wN.getD i.val []).getD j.val 0) ∧ (wN.getD i.val []).getD j.val 0 < 256 := by decide +kernel
theorem c_spell {S : gSt} {tl s e i : Nat} {tx : Nat → Nat} (h : TX S tl tx) (h3 : tl ≤ 300) (hb : ∀ i, i < tl → tx i < 256) (hi : i < 11) (hse : s ≤ e) (he : e ≤ tl) (h2 : gR S 31 3 = nI e) (h4 : gR S 31 5 = nI s) : fX4_isSpelled (100 + i) S = some (nI (bN (decide (rwd tx s (e - s) = rW i)))) := by
  obtain ⟨l1, l2⟩ := sl_len ⟨i, hi⟩
  have l1 : gSlen.getD i 0 = (wN.getD i []).length := l1
  have l2 : (wN.getD i []).length ≤ 8 := l2
  have hlen : fJ0_length_8abf5 (100 + i) S = some (nI (wN.getD i []).length) := by
    unfold fJ0_length_8abf5
    rw [Nat.add_sub_cancel_left, l1]
  unfold fX4_isSpelled
  rw [hlen, gBp_s, h2, h4, nI_sub hse]
  by_cases z : (wN.getD i []).length = e - s
  · rw [if_pos (by rw [z]), ← z]
    have iff := rwd_iff tx s (wN.getD i [])
    refine forFU (fun m (_ : Unit) j => fX4_isSpelled_L20 (100 + i) S m (nI j)) (fun y => y = some (nI (bN (decide (rwd tx s (wN.getD i []).length = rW i))))) (fun j _ => ∀ j', j' < j → (wN.getD i []).getD j' 0 = tx (s + j')) (wN.getD i []).length () (by omega) ?_ ?_ (fun j' h => absurd h (Nat.not_lt_zero _))
    · intro m j _ hj hinv
      obtain ⟨b1, b2⟩ := sl_byt ⟨i, hi⟩ ⟨j, by omega⟩
      have b1 : (gSbyt.getD i []).getD j 0 = nI ((wN.getD i []).getD j 0) := b1
      have b2 : (wN.getD i []).getD j 0 < 256 := b2
      have bt := hb (s + j) (by omega)
      have hch : fJ0_charAt_5068e (100 + i) (nI j) S = some (nI ((wN.getD i []).getD j 0)) := by
        unfold fJ0_charAt_5068e
        rw [Nat.add_sub_cancel_left, l1, gC_ok (gIn_ok hj (by omega)), gN_nI (by omega), b1]
      by_cases y : (wN.getD i []).getD j 0 = tx (s + j)
      · right
        refine ⟨(), fun j' hj' => ?_, ?_⟩
        · by_cases q : j' = j
          · rw [q]; exact y
          · exact hinv j' (by omega)
        · show fX4_isSpelled_L20 (100 + i) S (m + 1) (nI j) = fX4_isSpelled_L20 (100 + i) S m (nI (j + 1))
          rw [fX4_isSpelled_L20, hlen, gBp_s, if_neg (nI_nleI hj (by omega)), hch, gBp_s, h4, nI_add, c_byte h h3 (by omega), gBp_s, bI_y (by omega), if_pos (by rw [y]), nI_1]
      · left
        show fX4_isSpelled_L20 (100 + i) S (m + 1) (nI j) = _
        rw [fX4_isSpelled_L20, hlen, gBp_s, if_neg (nI_nleI hj (by omega)), hch, gBp_s, h4, nI_add, c_byte h h3 (by omega), gBp_s, bI_y (by omega), if_neg (nI_neI (by omega) (by omega) y)]
        rw [decide_eq_false (show ¬ rwd tx s (wN.getD i []).length = rW i from fun q => y (iff.mp q j hj))]
        rfl
    · intro m _ hinv
      show fX4_isSpelled_L20 (100 + i) S (m + 1) (nI (wN.getD i []).length) = _
      rw [fX4_isSpelled_L20, hlen, gBp_s, if_pos (nI_le (Nat.le_refl _) (by omega)), decide_eq_true (show rwd tx s (wN.getD i []).length = rW i from iff.mpr hinv)]
      rfl
  · rw [if_neg (nI_neI (by omega) (by omega) z), decide_eq_false (fun q => z (by
      have := congrArg List.length q
      rw [rwd_len] at this
      unfold rW at this
      rw [List.length_reverse] at this
      exact this.symm))]
    rfl
theorem c_spelling {i : Nat} (hi : i < 11) (S : gSt) : fX4_spelling (nI i) S = some (100 + i) ∧ gIsStr (100 + i) = true := by
  have h : ∀ i : Fin 11, fX4_spelling (nI i.val) (fun _ _ => 0, fun _ => 0) = some (100 + i.val) ∧ gIsStr (100 + i.val) = true := by decide +kernel
  exact h ⟨i, hi⟩
theorem c_match {S : gSt} {tl s e : Nat} {tx : Nat → Nat} (h : TX S tl tx) (h3 : tl ≤ 300) (hb : ∀ i, i < tl → tx i < 256) (hse : s ≤ e) (he : e ≤ tl) (h2 : gR S 31 3 = nI e) (h4 : gR S 31 5 = nI s) : fX4_scanWord_L42 gFU 0 S = some (nI (if wv (rwd tx s (e - s)) < 11 then wv (rwd tx s (e - s)) else 14), S) := by
  refine forFU (fun m (_ : Unit) i => fX4_scanWord_L42 m (nI i) S) (fun y => y = some (nI (if wv (rwd tx s (e - s)) < 11 then wv (rwd tx s (e - s)) else 14), S)) (fun i _ => ∀ i', i' < i → ¬ rwd tx s (e - s) = rW i') 11 () (by omega) ?_ ?_ (fun j' h => absurd h (Nat.not_lt_zero _))
  · intro m i _ hi hinv
    by_cases z : rwd tx s (e - s) = rW i
    · left
      have hw : wv (rwd tx s (e - s)) = i := ff_u (by omega) (fun _ => decide_eq_true z) (fun i' hi' => decide_eq_false (hinv i' hi'))
      show fX4_scanWord_L42 (m + 1) (nI i) S = _
      rw [fX4_scanWord_L42, l11, if_neg (nI_nleI hi (by omega)), (c_spelling hi S).1, gBp_s, gC_ok (c_spelling hi S).2, c_spell h h3 hb hi hse he h2 h4, gBp_s, decide_eq_true z, if_neg (by decide), hw, if_pos hi]
    · right
      refine ⟨(), fun i' hi' => ?_, ?_⟩
      · by_cases q : i' = i
        · rw [q]; exact z
        · exact hinv i' (by omega)
      · show fX4_scanWord_L42 (m + 1) (nI i) S = fX4_scanWord_L42 m (nI (i + 1)) S
        rw [fX4_scanWord_L42, l11, if_neg (nI_nleI hi (by omega)), (c_spelling hi S).1, gBp_s, gC_ok (c_spelling hi S).2, c_spell h h3 hb hi hse he h2 h4, gBp_s, decide_eq_false z, if_pos (by decide), nI_1]
  · intro m _ hinv
    have hw : wv (rwd tx s (e - s)) = 11 := ff_u (by omega) (fun q => absurd q (by omega)) (fun i' hi' => decide_eq_false (hinv i' hi'))
    show fX4_scanWord_L42 (m + 1) (nI 11) S = _
    rw [fX4_scanWord_L42, l11, if_pos (nI_le (Nat.le_refl _) (by omega)), hw, if_neg (by omega)]
    rfl
theorem c_word {S : gSt} {tl s : Nat} {tx : Nat → Nat} (h : TX S tl tx) (h3 : tl ≤ 300) (hb : ∀ i, i < tl → tx i < 256) (hs : lt tl tx s = true) (h2 : gR S 31 3 = nI s) (h4 : gR S 31 5 = nI s) : fX4_scanWord S = some (nI (if wv (rwd tx s (E tl (lt tl tx) s - s)) < 11 then wv (rwd tx s (E tl (lt tl tx) s - s)) else 14), gW S 31 3 (nI (E tl (lt tl tx) s))) := by
  obtain ⟨m', e⟩ := run_FU (lo := s) h3 (lt_lt (tl := tl) (tx := tx)) (fun m q => fX4_scanWord_L0 m (gW S 31 3 (nI q))) (fun m q hlo hq => by
    have hl := lt_lt q hq
    show fX4_scanWord_L0 (m + 1) (gW S 31 3 (nI q)) = fX4_scanWord_L0 m (gW S 31 3 (nI (q + 1)))
    rw [fX4_scanWord_L0, gR_Ws, l300, if_neg (nI_nleI (by omega) (by omega)), c_byte h.w31 h3 (by omega), gBp_s, c_isL hb, gBp_s, hq, if_neg (by decide), gL_s, nI_1, gW_gW])
  have e : fX4_scanWord_L0 gFU (gW S 31 3 (nI s)) = fX4_scanWord_L0 (m' + 1) (gW S 31 3 (nI (E tl (lt tl tx) s))) := e
  have hsl := lt_lt s hs
  obtain ⟨p1, p2⟩ := E_prog lt_lt hs
  obtain ⟨-, -, g3, -⟩ := E_ge (tl := tl) (P := lt tl tx) lt_lt tl s (by omega)
  have hm := c_match (S := gW S 31 3 (nI (E tl (lt tl tx) s))) h.w31 h3 hb (show s ≤ E tl (lt tl tx) s by omega) p2 (gR_Ws _ _ _ _) (by rw [gR_Wk (by omega)]; exact h4)
  unfold fX4_scanWord
  rw [gW_self h2] at e
  rw [e, fX4_scanWord_L0, gR_Ws, l300]
  by_cases z : 300 ≤ E tl (lt tl tx) s
  · rw [if_pos (nI_le z (by omega)), hm]
  · rw [if_neg (nI_nleI (by omega) (by omega)), c_byte h.w31 h3 (by omega), gBp_s, c_isL hb, gBp_s, g3, if_pos (by decide), hm]
theorem c_num {S : gSt} {tl s : Nat} {tx : Nat → Nat} (h : TX S tl tx) (h3 : tl ≤ 300) (hb : ∀ i, i < tl → tx i < 256) (hs : dg tl tx s = true) (h2 : gR S 31 3 = nI s) (h4 : gR S 31 5 = nI s) : fX4_scanNumber S = some (nI (if 99 < nv tx s (E tl (dg tl tx) s - s) ∨ (tx s = 48 ∧ 1 < E tl (dg tl tx) s - s) then 14 else 11), gW (gW S 31 6 (nI (nv tx s (E tl (dg tl tx) s - s)))) 31 3 (nI (E tl (dg tl tx) s))) := by
  have hsl := dg_lt s hs
  obtain ⟨p1, p2⟩ := E_prog dg_lt hs
  obtain ⟨-, -, g3, g4⟩ := E_ge (tl := tl) (P := dg tl tx) dg_lt tl s (by omega)
  have hsd := dg_in hs
  obtain ⟨m', e⟩ := run_FU (lo := s) h3 (dg_lt (tl := tl) (tx := tx)) (fun m q => if q ≤ E tl (dg tl tx) s then fX4_scanNumber_L5 m (gW (gW S 31 6 (nI (nv tx s (q - s)))) 31 3 (nI q)) else none) (fun m q hlo hq => by
    have hl := dg_lt q hq
    have hd := dg_in hq
    show (if q ≤ E tl (dg tl tx) s then fX4_scanNumber_L5 (m + 1) (gW (gW S 31 6 (nI (nv tx s (q - s)))) 31 3 (nI q)) else none) = (if q + 1 ≤ E tl (dg tl tx) s then fX4_scanNumber_L5 m (gW (gW S 31 6 (nI (nv tx s (q + 1 - s)))) 31 3 (nI (q + 1))) else none)
    by_cases ho : q ≤ E tl (dg tl tx) s
    · have ho2 : q + 1 ≤ E tl (dg tl tx) s := by
        rcases Nat.lt_or_ge q (E tl (dg tl tx) s) with y | y
        · exact y
        · have : q = E tl (dg tl tx) s := by omega
          rw [this, g3] at hq
          cases hq
      have hv : nv tx s (q - s) ≤ 999 := nv_lt _ (fun j hj => (dg_in (g4 (s + j) (by omega) (by omega))).2)
      have hstep : nv tx s (q + 1 - s) = if nv tx s (q - s) ≤ 99 then nv tx s (q - s) * 10 + tx q - 48 else nv tx s (q - s) := by
        rw [show q + 1 - s = (q - s) + 1 by omega]
        show (if nv tx s (q - s) ≤ 99 then nv tx s (q - s) * 10 + tx (s + (q - s)) - 48 else nv tx s (q - s)) = _
        rw [show s + (q - s) = q by omega]
      rw [if_pos ho, if_pos ho2, fX4_scanNumber_L5, gR_Ws, l300, if_neg (nI_nleI (by omega) (by omega)), c_byte h.w31.w31 h3 (by omega), gBp_s, c_isD hb, gBp_s, hq, if_neg (by decide), gR_Wk (by omega), gR_Ws, hstep]
      by_cases y : nv tx s (q - s) ≤ 99
      · rw [if_neg (show ¬ (99 : Int32) < nI _ from fun x => absurd ((nI_ltI (a := 99) (by omega) (by omega)).mp x) (by omega)), gBp_s, l10, l48, nI_mul, bI_y hl, nI_add, nI_sub (by omega), gL_s, gL_s, gW_com (show (3 : Nat) ≠ 6 by omega), gW_gW, gR_Ws, nI_1, gW_gW, if_pos y]
      · rw [if_pos (show (99 : Int32) < nI _ from nI_lt (a := 99) (by omega) (by omega)), gL_s, nI_1, gW_gW, if_neg y]
    · rw [if_neg ho, if_neg (by omega)])
  have e : (if s ≤ E tl (dg tl tx) s then fX4_scanNumber_L5 gFU (gW (gW S 31 6 (nI (nv tx s (s - s)))) 31 3 (nI s)) else none) = (if E tl (dg tl tx) s ≤ E tl (dg tl tx) s then fX4_scanNumber_L5 (m' + 1) (gW (gW S 31 6 (nI (nv tx s (E tl (dg tl tx) s - s)))) 31 3 (nI (E tl (dg tl tx) s))) else none) := e
  rw [if_pos (by omega), if_pos (Nat.le_refl _), Nat.sub_self] at e
  have hv : nv tx s (E tl (dg tl tx) s - s) ≤ 999 := nv_lt _ (fun j hj => (dg_in (g4 (s + j) (by omega) (by omega))).2)
  unfold fX4_scanNumber
  rw [gL_s]
  have e0 : gW (gW S 31 6 (nI (nv tx s 0))) 31 3 (nI s) = gW S 31 6 0 := gW_self (by rw [gR_Wk (by omega)]; exact h2)
  rw [e0] at e
  rw [e, fX4_scanNumber_L5, gR_Ws, l300]
  generalize E tl (dg tl tx) s = q at *
  generalize hvv : nv tx s (q - s) = v at *
  have fin : fX4_scanNumber_L80 (gW (gW S 31 6 (nI v)) 31 3 (nI q)) = some (nI (if 99 < v ∨ (tx s = 48 ∧ 1 < q - s) then 14 else 11), gW (gW S 31 6 (nI v)) 31 3 (nI q)) := by
    have f4 : gR (gW (gW S 31 6 (nI v)) 31 3 (nI q)) 31 5 = nI s := by rw [gR_Wk (by omega), gR_Wk (by omega)]; exact h4
    have f5 : gR (gW (gW S 31 6 (nI v)) 31 3 (nI q)) 31 6 = nI v := by rw [gR_Wk (by omega)]; exact gR_Ws _ _ _ _
    unfold fX4_scanNumber_L80 fX4_scanNumber_L114
    rw [f4, c_byte h.w31.w31 h3 (by omega), gBp_s, bI_y hsl, gR_Ws, nI_sub (by omega), f5]
    have a99 : (99 : Int32) < nI v ↔ 99 < v := nI_ltI (a := 99) (by omega) (by omega)
    have a48 : nI (tx s) = 48 ↔ tx s = 48 := nI_eq (b := 48) (by omega) (by omega)
    have a1 : nI (q - s) ≤ 1 ↔ q - s ≤ 1 := nI_leI (b := 1) (by omega) (by omega)
    by_cases y1 : 99 < v
    · rw [if_pos (a99.mpr y1), if_pos (a99.mpr y1), if_pos (Or.inl y1)]
      split
      · split <;> rfl
      · rfl
    · rw [if_neg (fun x => y1 (a99.mp x)), if_neg (fun x => y1 (a99.mp x))]
      by_cases y2 : tx s = 48
      · rw [if_pos (a48.mpr y2)]
        by_cases y3 : q - s ≤ 1
        · rw [if_pos (a1.mpr y3), if_pos rfl, if_neg (fun x => by omega)]
          rfl
        · rw [if_neg (fun x => y3 (a1.mp x)), if_neg (by decide), if_pos (Or.inr ⟨y2, by omega⟩)]
          rfl
      · rw [if_neg (fun x => y2 (a48.mp x)), if_pos rfl, if_neg (fun x => by omega)]
        rfl
  by_cases z : 300 ≤ q
  · rw [if_pos (nI_le z (by omega)), fin]
  · rw [if_neg (nI_nleI (by omega) (by omega)), c_byte h.w31.w31 h3 (by omega), gBp_s, c_isD hb, gBp_s, g3, if_pos (by decide), fin]
/-- the reader's own cells -/
def gA31 (S S1 : gSt) : Prop := S1.2 = S.2 ∧ ∀ q j, q ≠ 31 ∨ j ≤ 2 → gR S1 q j = gR S q j
def ck (t : Nat × Nat × Nat × Nat) : Nat := if t.1 = 0 then 13 else if t.1 = 1 then t.2.1 else if t.1 = 2 then 11 else if t.1 = 3 then 12 else 14
def TkX (S : gSt) (t : Nat × Nat × Nat × Nat) : Prop := gR S 31 4 = nI (ck t) ∧ gR S 31 5 = nI t.2.2.1 ∧ (t.1 = 2 → gR S 31 6 = nI t.2.1) ∧ (t.1 ≠ 4 → gR S 31 3 = nI t.2.2.2)
theorem gA31.rf {S : gSt} : gA31 S S := ⟨rfl, fun _ _ _ => rfl⟩
theorem gA31.w {S S1 : gSt} {k : Nat} {v : Int32} (h : gA31 S S1) (hk : 3 ≤ k ∧ k ≤ 6) : gA31 S (gW S1 31 k v) := ⟨h.1, fun q j hq => by rw [gR_W2, if_neg (by omega)]; exact h.2 q j hq⟩
theorem c_adv {S : gSt} {tl p : Nat} {tx : Nat → Nat} (h : TX S tl tx) (h3 : tl ≤ 300) (hb : ∀ i, i < tl → tx i < 256) (hp : p ≤ tl) (h2 : gR S 31 3 = nI p) : ∃ S1, fX4_advance S = some S1 ∧ gA31 S S1 ∧ TkX S1 (tk tl tx p) := by
  obtain ⟨g1, g2, -, -⟩ := E_ge (tl := tl) (P := sp tl tx) sp_lt tl p (by omega)
  have g2 := g2 hp
  rw [c_skip h h3 hb hp h2]
  unfold tk fX4_advance_L39 fX4_advance_L140
  generalize E tl (sp tl tx) p = s at *
  rw [gR_Ws, gL_s, gR_Wk (by omega), gR_Ws, c_byte h.w31.w31 h3 (by omega), gBp_s]
  have hA : gA31 S (gW (gW S 31 3 (nI s)) 31 5 (nI s)) := (gA31.rf.w (by omega)).w (by omega)
  have e2 : gR (gW (gW S 31 3 (nI s)) 31 5 (nI s)) 31 3 = nI s := by rw [gR_Wk (by omega)]; exact gR_Ws _ _ _ _
  have e4 : gR (gW (gW S 31 3 (nI s)) 31 5 (nI s)) 31 5 = nI s := gR_Ws _ _ _ _
  have hT : TX (gW (gW S 31 3 (nI s)) 31 5 (nI s)) tl tx := h.w31.w31
  generalize gW (gW S 31 3 (nI s)) 31 5 (nI s) = T at *
  by_cases z0 : tl ≤ s
  · rw [if_pos z0, bI_n (by omega), if_pos rfl]
    refine ⟨gW T 31 4 13, by rw [gL_s], hA.w (by omega), gR_Ws _ _ _ _, by rw [gR_Wk (by omega)]; exact e4, fun q => absurd q (by show ¬ (0 = 2); omega), fun _ => by rw [gR_Wk (by omega)]; exact e2⟩
  have hsl : s < tl := by omega
  have hbs := hb s hsl
  rw [if_neg z0, bI_y hsl, if_neg (fun y => nI_pos (n := tx s) (by omega) (by rw [y]; decide))]
  have a59 : nI (tx s) = 59 ↔ tx s = 59 := nI_eq (b := 59) (by omega) (by omega)
  by_cases z1 : tx s = 59
  · rw [if_pos (a59.mpr z1), if_pos z1]
    refine ⟨gW (gW T 31 3 (nI (s + 1))) 31 4 12, ?_, (hA.w (by omega)).w (by omega), gR_Ws _ _ _ _, by rw [gR_Wk (by omega), gR_Wk (by omega)]; exact e4, fun q => absurd q (by show ¬ (3 = 2); omega), fun _ => by rw [gR_Wk (by omega)]; exact gR_Ws _ _ _ _⟩
    rw [nI_1, gL_s, gL_s]
  rw [if_neg (fun y => z1 (a59.mp y)), if_neg z1, ← bI_y hsl, c_isL hb, gBp_s]
  by_cases z2 : lt tl tx s = true
  · rw [z2, if_neg (by decide), if_pos rfl, c_word hT h3 hb z2 e2 e4, gBd_s, gL_s]
    generalize E tl (lt tl tx) s = e at *
    generalize wv (rwd tx s (e - s)) = v at *
    by_cases z3 : v < 11
    · rw [if_pos z3, if_pos z3]
      exact ⟨_, rfl, (hA.w (by omega)).w (by omega), gR_Ws _ _ _ _, by rw [gR_Wk (by omega), gR_Wk (by omega)]; exact e4, fun q => absurd q (by show ¬ (1 = 2); omega), fun _ => by rw [gR_Wk (by omega)]; exact gR_Ws _ _ _ _⟩
    · rw [if_neg z3, if_neg z3]
      exact ⟨_, rfl, (hA.w (by omega)).w (by omega), gR_Ws _ _ _ _, by rw [gR_Wk (by omega), gR_Wk (by omega)]; exact e4, fun q => absurd q (by show ¬ (4 = 2); omega), fun q => absurd rfl q⟩
  have z2f : lt tl tx s = false := Bool.eq_false_iff.mpr z2
  rw [if_neg z2, z2f, if_pos (by decide), c_isD hb, gBp_s]
  by_cases z4 : dg tl tx s = true
  · rw [z4, if_neg (by decide), if_pos rfl, c_num hT h3 hb z4 e2 e4, gBd_s, gL_s]
    generalize E tl (dg tl tx) s = e at *
    generalize nv tx s (e - s) = v at *
    by_cases z3 : 99 < v ∨ (tx s = 48 ∧ 1 < e - s)
    · rw [if_pos z3, if_pos z3]
      exact ⟨_, rfl, ((hA.w (by omega)).w (by omega)).w (by omega), gR_Ws _ _ _ _, by rw [gR_Wk (by omega), gR_Wk (by omega), gR_Wk (by omega)]; exact e4, fun q => absurd q (by show ¬ (4 = 2); omega), fun q => absurd rfl q⟩
    · rw [if_neg z3, if_neg z3]
      exact ⟨_, rfl, ((hA.w (by omega)).w (by omega)).w (by omega), gR_Ws _ _ _ _, by rw [gR_Wk (by omega), gR_Wk (by omega), gR_Wk (by omega)]; exact e4, fun _ => by rw [gR_Wk (by omega), gR_Wk (by omega)]; exact gR_Ws _ _ _ _, fun _ => by rw [gR_Wk (by omega)]; exact gR_Ws _ _ _ _⟩
  · have z4f : dg tl tx s = false := Bool.eq_false_iff.mpr z4
    rw [if_neg z4, z4f, if_pos (by decide), gL_s]
    exact ⟨_, rfl, hA.w (by omega), gR_Ws _ _ _ _, by rw [gR_Wk (by omega)]; exact e4, fun q => absurd q (by show ¬ (4 = 2); omega), fun q => absurd rfl q⟩
