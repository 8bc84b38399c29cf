/-! many, rank, nth, left, sure, best, now; needs: 0800 0801 0802 0803 0804 0805 0806 0807 0808 0809 0810 0811 0812 0813 0814 0815 0816 0818 0819 0821 0822 -/
theorem chk_pre {n c : Nat} : ∀ {pre suf : List Nat}, chk n (pre ++ c :: suf) = true → ∀ d, d ∈ pre → d < c
  | [], _, _, d, hd => absurd hd (by simp)
  | x :: pre, suf, h, d, hd => by
    have h : chk n (x :: (pre ++ c :: suf)) = true := h
    rcases List.mem_cons.mp hd with e | e
    · rw [e]; exact chk_asc h c (by simp)
    · exact chk_pre (chk_tail h) d e
theorem rows_split {r f : Nat → Nat} {w : Nat → Nat → Int} (hW : RW r w) (hC : Can f (r 0)) : ∃ pre suf, rows (r 0) = pre ++ enc f (r 0) :: suf ∧ ∀ d, d ∈ pre → d < enc f (r 0) := by
  obtain ⟨pre, suf, e⟩ := List.append_of_mem (rows_all hC)
  refine ⟨pre, suf, e, ?_⟩
  have := rows_chk hW.1 hW.2.1
  rw [e] at this
  exact chk_pre this
theorem c_place {S : gSt} {o : Nat} {r f σ : Nat → Nat} {w : Nat → Nat → Int} {v : Int32} {k : Nat} {Z : Rst} {pre suf : List Nat} (h : RX S o r w f v k σ Z) (hW : RW r w) (hC : Can f (r 0)) (hp : rows (r 0) = pre ++ enc f (r 0) :: suf) (hl : ∀ d, d ∈ pre → d < enc f (r 0)) : ∃ S1, fX9_placeOf (nI (enc f (r 0))) S = some (if lawful r f then nI (pre.filter (lw r)).length else -9, S1) ∧ gFr 32 36 S S1 ∧ Wg S1 o r w := by
  cases hb : lawful r f with
  | true =>
    have hf : FL r = pre.filter (lw r) ++ enc f (r 0) :: suf.filter (lw r) := by
      unfold FL
      rw [hp, List.filter_append, List.filter_cons_of_pos (by rw [lw_enc hW hC]; exact hb)]
    exact c_place_yes h.2.1 hW h.gi h.o18 h.2.2.1 hf (fun d hd => hl d (List.mem_filter.mp hd).1)
  | false =>
    refine c_place_no h.2.1 hW h.gi h.o18 h.2.2.1 (fun z => ?_) h.2.2.2.1.enc
    have := (List.mem_filter.mp z).2
    rw [lw_enc hW hC, hb] at this
    exact absurd this (by decide)
theorem t_rank : Tw fX10_rank fX11_rank := by
  rintro S ⟨o, r, w, f, v, k, σ, Z, hG, hX, hM⟩
  have hW := hG.1
  have hC := hG.2.1
  obtain ⟨pre, suf, hp, hl⟩ := rows_split hW hC
  obtain ⟨S1, e1, F1, w1⟩ := c_place hX hW hC hp hl
  have hX1 := hX.x32 F1 w1.wy
  have hM1 := hM.fr F1 (by omega)
  have ec : fX10_rank S = some (if lawful r f then nI (pre.filter (lw r)).length else -9, S1) := by
    unfold fX10_rank
    rw [c_code hX.2.2.2.1, gBp_s, e1, gBd_s]
  cases hb : lawful r f with
  | true =>
    obtain ⟨S2, e2, F2, g2⟩ := m_rank hM1.1 hW hC hM1.2.1 hp hb
    rw [hb] at ec
    have hs : gSc S1 S2 := ⟨F2.mono (by omega) (by omega), fun p k a b => g2 p k (by omega) (by omega)⟩
    exact ⟨_, S1, S2, ec, e2, o, r, w, f, v, k, σ, Z, hG, hX1.sc hs, hM1.sc hs⟩
  | false =>
    rw [hb] at ec
    exact ⟨_, S1, _, ec, m_rank_no hM1.1 hW hC hM1.2.1 hb, o, r, w, f, v, k, σ, Z, hG, hX1.sc (gW7 _), hM1.sc (gW7 _)⟩
theorem t_now (a : Int32) : Tw (fX10_now a) (fX11_now a) := by
  rintro S ⟨o, r, w, f, v, k, σ, Z, hG, hX, hM⟩
  have hW := hG.1
  have hC := hG.2.1
  have h8 := hW.2.1
  have hM' := hM.sc (gW7 S)
  have hX' := hX.sc (gW7 S)
  have hb8 : ∀ g, g < r 0 → f g < 1000000 := fun g hg => by have := hC.lt8 h8 hg; omega
  unfold fX10_now fX11_now fX11_now_L74
  by_cases z0 : a = 0
  · refine ⟨nI (pts f (r 0)), S, _, ?_, ?_, o, r, w, f, v, k, σ, Z, hG, hX', hM'⟩
    · rw [if_pos z0, show fX7_parties 36 S = some (nI (pts f (r 0))) from congrArg some hX.2.2.2.1.2.1, gBp_s]
    · rw [gL_s, if_pos z0, m_partiesOf (hM'.mn hW) (by have := g80.1; omega) g80.2 hM'.2.1 hb8, gBp_s]
  by_cases z1 : a = 1
  · obtain ⟨pre, suf, hp, hl⟩ := rows_split hW hC
    obtain ⟨S1, e1, F1, w1⟩ := c_place hX hW hC hp hl
    have hX1 := (hX.x32 F1 w1.wy).sc (gW7 _)
    have hM1 := (hM.fr F1 (by omega)).sc (gW7 _)
    have hlen : (pre.filter (lw r)).length < 2 ^ 31 := by
      have h1 := rows_len hW.1 hW.2.1
      have h2 := List.length_filter_le (lw r) pre
      rw [hp, List.length_append] at h1
      omega
    refine ⟨nI (bN (lawful r f)), S1, _, ?_, ?_, o, r, w, f, v, k, σ, Z, hG, hX1, hM1⟩
    · rw [if_neg z0, if_pos z1, c_code hX.2.2.2.1, gBp_s, e1, gBd_s]
      cases hb : lawful r f with
      | true =>
        show (if (nI (pre.filter (lw r)).length) = -9 then _ else _) = _
        rw [if_neg (nI_m9 hlen).2]; rfl
      | false =>
        show (if (-9 : Int32) = -9 then _ else _) = _
        rw [if_pos rfl]; rfl
    · rw [gL_s, if_neg z0, if_pos z1, m_isLawful hM1.1 hW g80.1 g80.2 hM1.2.1 hC, gBp_s]
      cases hb : lawful r f with
      | true => rw [if_neg (by decide)]; rfl
      | false => rw [if_pos (by decide)]; rfl
  by_cases z2 : a = 2
  · refine ⟨iI (wAll w f (r 0)), S, _, ?_, ?_, o, r, w, f, v, k, σ, Z, hG, hX', hM'⟩
    · rw [if_neg z0, if_neg z1, if_pos z2, hX.g0, gC_ok hX.gi, c_worthOfAll hX.2.1 hW hX.2.2.2.1, gBp_s]
    · rw [gL_s, if_neg z0, if_neg z1, if_pos z2, m_worthOf hM'.1 hW g80.1 g80.2 hM'.2.1 hb8, gBp_s]
  by_cases z3 : a = 3
  · refine ⟨nI (cn (fun g => decide (cn (fun e => decide (f e = f g)) (r 0) = 1)) (r 0)), S, _, ?_, ?_, o, r, w, f, v, k, σ, Z, hG, hX', hM'⟩
    · rw [if_neg z0, if_neg z1, if_neg z2, if_pos z3, c_loners hX.2.2.2.1, gBp_s, alone_eq]
    · rw [gL_s, if_neg z0, if_neg z1, if_neg z2, if_pos z3, m_alone (hM'.mn hW) hM'.2.1 hC, gBp_s]
  · refine ⟨-1000000, S, _, ?_, ?_, o, r, w, f, v, k, σ, Z, hG, hX', hM'⟩
    · rw [if_neg z0, if_neg z1, if_neg z2, if_neg z3]
    · rw [gL_s, if_neg z0, if_neg z1, if_neg z2, if_neg z3]
theorem cnt_all (r : Nat → Nat) (k : Nat) (h : k = 0) : (rows (r 0)).countP (fun d => (decide (k = 0) || decide (pts (dig d) (r 0) = k)) && lw r d) = (FL r).length := by
  unfold FL
  rw [← List.countP_eq_length_filter]
  congr 1
  funext d
  rw [decide_eq_true h]
  rfl
theorem cnt_k (r : Nat → Nat) (k : Nat) (h : k ≠ 0) : (rows (r 0)).countP (fun d => (decide (k = 0) || decide (pts (dig d) (r 0) = k)) && lw r d) = (FL r).countP (fun c => decide (pts (dig c) (r 0) = k)) := by
  unfold FL
  rw [List.countP_filter]
  congr 1
  funext d
  rw [decide_eq_false h]
  rfl
theorem t_many (a : Int32) : Tw (fX10_many a) (fX11_many a) := by
  rintro S ⟨o, r, w, f, v, k, σ, Z, hG, hX, hM⟩
  have hW := hG.1
  have h8 := hW.2.1
  unfold fX10_many fX11_many
  rcases cB a (n := 9) (by omega) with ⟨g, hg, rfl⟩ | ⟨hn, q⟩
  · suffices h : ∃ S1, (if nI g < 0 then some ((-1), S) else if nI g ≤ 8 then if nI g = 0 then gBd (fX9_total S) (fun v_3 S_4 => some (v_3, S_4)) else gBd (fX9_totalWith (nI g) S) (fun v_1 S_2 => some (v_1, S_2)) else some ((-1), S)) = some (nI ((rows (r 0)).countP (fun d => (decide (g = 0) || decide (pts (dig d) (r 0) = g)) && lw r d)), S1) ∧ gFr 32 36 S S1 ∧ Wg S1 o r w by
      obtain ⟨S1, e1, F1, w1⟩ := h
      have hX1 := (hX.x32 F1 w1.wy).sc (gW7 _)
      have hM1 := (hM.fr F1 (by omega)).sc (gW7 _)
      obtain ⟨S2, e2, F2⟩ := m_manyOf (k := g) hM1.1 hW (by omega)
      refine ⟨_, S1, S2, e1, ?_, o, r, w, f, v, k, σ, Z, hG, hX1.sc (F2.sc (by omega) (by omega)), hM1.sc (F2.sc (by omega) (by omega))⟩
      rw [gL_s, in_t (n := 9) (by decide) (by omega) (by omega) ⟨g, hg, rfl⟩, gBp_s, if_neg (by decide), e2, gBd_s]
    rw [if_neg (nI_pos (by omega)), l8, if_pos (nI_le (by omega) (by omega))]
    by_cases z : g = 0
    · obtain ⟨S1, e1, F1, w1⟩ := c_total hX.2.1 hW hX.gi hX.o18 hX.2.2.1
      refine ⟨S1, ?_, F1, w1⟩
      rw [if_pos (show nI g = 0 by rw [z]; rfl), e1, gBd_s, cnt_all r g z]
    · obtain ⟨S1, e1, F1, w1⟩ := c_totalWith (k := g) hX.2.1 hW hX.gi hX.o18 hX.2.2.1 (by omega)
      refine ⟨S1, ?_, F1, w1⟩
      rw [if_neg (show ¬ nI g = 0 from nI_neI (a := g) (b := 0) (by omega) (by omega) z), e1, gBd_s, cnt_k r g z]
  · refine ⟨-1, S, gW S 77 0 0, ?_, ?_, o, r, w, f, v, k, σ, Z, hG, hX.sc (gW7 _), hM.sc (gW7 _)⟩
    · rcases q with q | ⟨q1, q2⟩
      · rw [if_pos q]
      · rw [if_neg q1, if_neg (show ¬ a ≤ 8 from fun z => absurd (Int32.le_trans (show (9 : Int32) ≤ a from q2) z) (by decide))]
    · rw [gL_s, in_f (n := 9) (by decide) (by omega) (by omega) hn, gBp_s, if_pos rfl]
theorem t_nth (a g : Int32) : Tw (fX10_nth a g) (fX11_nth a g) := by
  rintro S ⟨o, r, w, f, v, k, σ, Z, hG, hX, hM⟩
  have hW := hG.1
  have h8 := hW.2.1
  have hL := FL_len hW
  unfold fX10_nth fX11_nth
  by_cases z : a < 0
  · refine ⟨-1, S, gW S 77 0 0, by rw [if_pos z], by rw [gL_s, if_pos z], o, r, w, f, v, k, σ, Z, hG, hX.sc (gW7 _), hM.sc (gW7 _)⟩
  obtain ⟨i, hi, rfl⟩ := nI_of z
  rcases c_isGuest hX hW g with ⟨e1, x, hx, rfl⟩ | ⟨e1, hn⟩
  · obtain ⟨S1, e2, F1, w1⟩ := c_total hX.2.1 hW hX.gi hX.o18 hX.2.2.1
    have hX1 := hX.x32 F1 w1.wy
    have hM1 := hM.fr F1 (by omega)
    by_cases y : (FL r).length ≤ i
    · have hX2 := hX1.sc (gW7 _)
      have hM2 := hM1.sc (gW7 _)
      rcases m_finds hM2.1 hW hi with ⟨d, S2, e3, -⟩ | ⟨S2, e3, e4, F2⟩
      · have e3 : (FL r)[i]? = some d := e3
        rw [List.getElem?_eq_none (by omega)] at e3
        cases e3
      · refine ⟨-5, S1, S2, ?_, ?_, o, r, w, f, v, k, σ, Z, hG, hX2.sc (F2.sc (by omega) (by omega)), hM2.sc (F2.sc (by omega) (by omega))⟩
        · rw [if_neg z, e1, gBp_s, if_neg (by decide), e2, gBd_s, if_pos (nI_le y (by omega))]
        · rcases m_isGuest (hM2.mn hW) (nI x) with ⟨e5, -⟩ | ⟨-, h5⟩
          · rw [gL_s, if_neg z, e5, gBp_s, if_neg (by decide), e4, gBd_s, if_pos rfl]
          · exact absurd ⟨x, hx, rfl⟩ h5
    · obtain ⟨d, hd, hdm⟩ := getE_lt (l := FL r) (i := i) (by omega)
      obtain ⟨S2, e3, F2, w2⟩ := c_codeAt (i := i) (hX1.2.1) hW hX.gi hX.o18 w1.wy hd
      have hX2 := (hX1.x32 F2 w2.wy).sc (gW7 _)
      have hM2 := (hM1.fr F2 (by omega)).sc (gW7 _)
      obtain ⟨c1, c2, c3⟩ := FL_mem hW hdm
      rcases m_finds hM2.1 hW hi with ⟨d', S3, e4, e5, F3, hr⟩ | ⟨S3, e4, -⟩
      · have e4 : (FL r)[i]? = some d' := e4
        rw [hd] at e4
        have e4 := Option.some.inj e4
        subst e4
        refine ⟨nI (dig d x), S2, S3, ?_, ?_, o, r, w, f, v, k, σ, Z, hG, hX2.sc (F3.sc (by omega) (by omega)), hM2.sc (F3.sc (by omega) (by omega))⟩
        · rw [if_neg z, e1, gBp_s, if_neg (by decide), e2, gBd_s, if_neg (nI_nleI (by omega) (by omega)), e3, gBd_s, c_partyIn c2 (by omega), gBp_s]
        · rcases m_isGuest (hM2.mn hW) (nI x) with ⟨e6, -⟩ | ⟨-, h6⟩
          · rw [gL_s, if_neg z, e6, gBp_s, if_neg (by decide), e5, gBd_s, if_neg (by decide), gC_ok (gIn_ok (by omega) (by omega)), gN_nI (by omega), hr x hx]
          · exact absurd ⟨x, hx, rfl⟩ h6
      · have e4 : (FL r)[i]? = none := e4
        rw [hd] at e4
        cases e4
  · have hM1 := hM.sc (gW7 S)
    rcases m_isGuest (hM1.mn hW) g with ⟨-, h5⟩ | ⟨e5, -⟩
    · exact absurd h5 hn
    · exact ⟨-1, S, gW S 77 0 0, by rw [if_neg z, e1, gBp_s, if_pos rfl], by rw [gL_s, if_neg z, e5, gBp_s, if_pos rfl], o, r, w, f, v, k, σ, Z, hG, hX.sc (gW7 _), hM1⟩
theorem cnt_fit (r : Nat → Nat) (k : Nat) (σ : Nat → Nat) : (rows (r 0)).countP (fun d => decide (dig d 0 = dig d 0) && (lw r d && fitB σ k d)) = (FL r).countP (fun d => fitB σ k d) := by
  unfold FL
  rw [List.countP_filter]
  congr 1
  funext d
  rw [decide_eq_true rfl, Bool.true_and, Bool.and_comm]
theorem cnt_two (r : Nat → Nat) (k a b : Nat) (σ : Nat → Nat) : (rows (r 0)).countP (fun d => decide (dig d a = dig d b) && (lw r d && fitB σ k d)) = (FL r).countP (fun d => decide (dig d a = dig d b) && fitB σ k d) := by
  unfold FL
  rw [List.countP_filter]
  congr 1
  funext d
  cases decide (dig d a = dig d b) <;> cases lw r d <;> cases fitB σ k d <;> rfl
theorem t_left : Tw fX10_left fX11_left := by
  rintro S ⟨o, r, w, f, v, k, σ, Z, hG, hX, hM⟩
  have hW := hG.1
  have h1 := hW.1
  obtain ⟨S1, e1, F1, w1⟩ := c_fitting hX.2.1 hW hX.gi hX.o18 hX.2.2.1 hX.2.2.2.2.1 hG.2.2.1
  have hX1 := (hX.x32 F1 w1.wy).sc (gW7 _)
  have hM1 := (hM.fr F1 (by omega)).sc (gW7 _)
  obtain ⟨S2, e2, F2⟩ := m_left (a := 0) (b := 0) hM1.1 hW (by omega) (by omega) hM1.2.2.1.1 hM1.2.2.1.2 hG.2.2.1
  rw [cnt_fit] at e2
  refine ⟨nI ((FL r).countP (fun d => fitB σ k d)), S1, S2, ?_, ?_, o, r, w, f, v, k, σ, Z, hG, hX1.sc (F2.sc (by omega) (by omega)), hM1.sc (F2.sc (by omega) (by omega))⟩
  · unfold fX10_left
    rw [e1, gBd_s]
  · unfold fX11_left
    rw [gL_s, show fX11_leftWith 0 0 (gW S1 77 0 0) = _ from e2, gBd_s]
theorem t_sure (a b : Int32) : Tw (fX10_sure a b) (fX11_sure a b) := by
  rintro S ⟨o, r, w, f, v, k, σ, Z, hG, hX, hM⟩
  have hW := hG.1
  have h1 := hW.1
  have hL := FL_len hW
  unfold fX10_sure fX11_sure
  rcases c_areTwo hX hW a b with ⟨e1, ⟨x, hx, rfl⟩, ⟨y, hy, rfl⟩, hxy⟩ | ⟨e1, hn⟩
  · obtain ⟨S1, e2, F1, w1⟩ := c_certain (a := x) (b := y) hX.2.1 hW hX.gi hX.o18 hX.2.2.1 hX.2.2.2.2.1 hG.2.2.1 hx hy
    have hX1 := (hX.x32 F1 w1.wy).sc (gW7 _)
    have hM1 := (hM.fr F1 (by omega)).sc (gW7 _)
    obtain ⟨S2, e3, F2⟩ := m_left (a := 0) (b := 0) hM1.1 hW (by omega) (by omega) hM1.2.2.1.1 hM1.2.2.1.2 hG.2.2.1
    rw [cnt_fit] at e3
    have hX2 := hX1.sc (F2.sc (by omega) (by omega))
    have hM2 := hM1.sc (F2.sc (by omega) (by omega))
    obtain ⟨S3, e4, F3⟩ := m_left (a := x) (b := y) hM2.1 hW hx hy hM2.2.2.1.1 hM2.2.2.1.2 hG.2.2.1
    rw [cnt_two] at e4
    refine ⟨sureV ((FL r).countP (fun d => fitB σ k d)) ((FL r).countP (fun d => decide (dig d x = dig d y) && fitB σ k d)), S1, S3, ?_, ?_, o, r, w, f, v, k, σ, Z, hG, hX2.sc (F3.sc (by omega) (by omega)), hM2.sc (F3.sc (by omega) (by omega))⟩
    · rw [e1, gBp_s, if_neg (by decide), e2, gBd_s]
    · rcases m_areTwo (hM1.mn hW) (nI x) (nI y) with ⟨e5, -⟩ | ⟨-, h5⟩
      · rw [gL_s, e5, gBp_s, if_neg (by decide), show fX11_leftWith 0 0 (gW S1 77 0 0) = _ from e3, gBd_s, e4, gBd_s]
        have b1 : (FL r).countP (fun d => fitB σ k d) ≤ 4140 := Nat.le_trans (List.countP_le_length) hL
        have b2 : (FL r).countP (fun d => decide (dig d x = dig d y) && fitB σ k d) ≤ 4140 := Nat.le_trans (List.countP_le_length) hL
        generalize (FL r).countP (fun d => fitB σ k d) = A at *
        generalize (FL r).countP (fun d => decide (dig d x = dig d y) && fitB σ k d) = B at *
        unfold sureV
        by_cases q1 : A = 0
        · rw [if_pos (show nI A = 0 by rw [q1]; rfl), if_pos q1]
        · rw [if_neg (show ¬ nI A = 0 from nI_neI (b := 0) (by omega) (by omega) q1), if_neg q1]
          by_cases q2 : B = A
          · rw [if_pos (by rw [q2]), if_pos q2]
          · rw [if_neg (nI_neI (by omega) (by omega) q2), if_neg q2]
            by_cases q3 : B = 0
            · rw [if_pos (show nI B = 0 by rw [q3]; rfl), if_pos q3]
            · rw [if_neg (show ¬ nI B = 0 from nI_neI (b := 0) (by omega) (by omega) q3), if_neg q3]
      · exact absurd ⟨⟨x, hx, rfl⟩, ⟨y, hy, rfl⟩, hxy⟩ h5
  · have hM1 := hM.sc (gW7 S)
    rcases m_areTwo (hM1.mn hW) a b with ⟨-, h5⟩ | ⟨e5, -⟩
    · exact absurd h5 hn
    · exact ⟨-1, S, gW S 77 0 0, by rw [e1, gBp_s, if_pos rfl], by rw [gL_s, e5, gBp_s, if_pos rfl], o, r, w, f, v, k, σ, Z, hG, hX.sc (gW7 _), hM1⟩
theorem bst_mem0 {r : Nat → Nat} {w : Nat → Nat → Int} : ∀ (l : List Nat) (o : Option Nat) (b : Nat), l.foldl (bs r w) o = some b → b ∈ l ∨ o = some b
  | [], o, b, h => Or.inr h
  | c :: l, o, b, h => by
    rcases bst_mem0 l (bs r w o c) b h with h1 | h1
    · exact Or.inl (List.mem_cons_of_mem _ h1)
    · cases o with
      | none =>
        have : some c = some b := h1
        left; rw [Option.some.inj this]; exact List.mem_cons_self ..
      | some x =>
        rw [bs_sm] at h1
        split at h1
        · left; rw [Option.some.inj h1]; exact List.mem_cons_self ..
        · right; exact h1
theorem bst_mem {r : Nat → Nat} {w : Nat → Nat → Int} {l : List Nat} {b : Nat} (h : bst r w l = some b) : b ∈ l := by
  rcases bst_mem0 l none b h with h1 | h1
  · exact h1
  · cases h1
theorem c_best {S : gSt} {o : Nat} {r f σ : Nat → Nat} {w : Nat → Nat → Int} {v : Int32} {k : Nat} {Z : Rst} {x : Option Nat} (hX : RX S o r w f v k σ Z) (hW : RW r w) (hx : ∀ g, x = some g → g < r 0) : ∃ S1, fX10_best (xI x) S = some (bAns r w x (bst r w (FL r)), S1) ∧ gFr 32 36 S S1 ∧ Wg S1 o r w := by
  have h8 := hW.2.1
  have hL := FL_len hW
  obtain ⟨S1, e2, F1, w1⟩ := c_total hX.2.1 hW hX.gi hX.o18 hX.2.2.1
  have hX1 := hX.x32 F1 w1.wy
  unfold fX10_best
  have a1 : ¬ xI x < -1 := by
    cases x with
    | none => show ¬ ((-1 : Int32) < -1); decide
    | some g =>
      show ¬ nI g < -1
      exact fun z => nI_pos (by have := hx g rfl; omega) (Int32.lt_trans z (by decide))
  have a2 : ¬ nI (r 0) ≤ xI x := by
    cases x with
    | none => exact fun z => nI_pos (n := r 0) (by omega) (Int32.lt_of_le_of_lt z (by decide))
    | some g => exact nI_nleI (hx g rfl) (by omega)
  rw [if_neg a1, hX.g0, gC_ok hX.gi, hX.gu, gBp_s, if_neg a2, e2, gBd_s]
  cases hb : bst r w (FL r) with
  | none =>
    rw [bst_none hb]
    exact ⟨S1, by rw [if_pos (show nI ([] : List Nat).length = 0 from rfl)]; rfl, F1, w1⟩
  | some b =>
    have hne : (FL r).length ≠ 0 := fun z => by
      rw [List.length_eq_zero_iff.mp z] at hb
      cases hb
    rw [if_neg (show ¬ nI (FL r).length = 0 from nI_neI (b := 0) (by omega) (by omega) hne)]
    cases x with
    | none =>
      obtain ⟨S2, e3, F2, w2⟩ := c_greatest hX1.2.1 hW hX.gi hX.o18 w1.wy hb
      refine ⟨S2, ?_, F1.tr F2, w2⟩
      rw [if_pos (show xI none = -1 from rfl), e3, gBd_s]
      rfl
    | some g =>
      obtain ⟨S2, e3, F2, w2⟩ := c_worthiest hX1.2.1 hW hX.gi hX.o18 w1.wy hb
      refine ⟨S2, ?_, F1.tr F2, w2⟩
      have hg := hx g rfl
      have hbm : b ∈ FL r := bst_mem hb
      obtain ⟨-, c2, -⟩ := FL_mem hW hbm
      rw [if_neg (show ¬ xI (some g) = -1 from fun z => nI_pos (n := g) (by omega) (by rw [show nI g = -1 from z]; decide)), e3, gBd_s, show xI (some g) = nI g from rfl, c_partyIn c2 (by omega), gBp_s]
      rfl
theorem t_best (a : Int32) : Tw (fX10_best a) (fX11_best a) := by
  rintro S ⟨o, r, w, f, v, k, σ, Z, hG, hX, hM⟩
  have hW := hG.1
  have h8 := hW.2.1
  have key : ∀ x : Option Nat, xI x = a → (∀ g, x = some g → g < r 0) → ∃ v S1 S2, fX10_best a S = some (v, S1) ∧ fX11_best a S1 = some (v, S2) ∧ Rel S2 := fun x hxa hx => by
    subst hxa
    obtain ⟨S1, e1, F1, w1⟩ := c_best hX hW hx
    have hX1 := (hX.x32 F1 w1.wy).sc (gW7 _)
    have hM1 := (hM.fr F1 (by omega)).sc (gW7 _)
    obtain ⟨S2, e2, F2⟩ := m_best (x := x) hM1.1 hW hx
    refine ⟨_, S1, S2, e1, ?_, o, r, w, f, v, k, σ, Z, hG, hX1.sc F2.sc, hM1.sc F2.sc⟩
    unfold fX11_best
    rw [gL_s]
    cases x with
    | none => rw [if_pos (show xI none = -1 from rfl)]; exact e2
    | some g =>
      have hg := hx g rfl
      rw [if_neg (show ¬ xI (some g) = -1 from fun z => nI_pos (n := g) (by omega) (by rw [show nI g = -1 from z]; decide))]
      rcases m_isGuest (hM1.mn hW) (xI (some g)) with ⟨e5, -⟩ | ⟨-, h5⟩
      · rw [e5, gBp_s, if_neg (by decide)]; exact e2
      · exact absurd ⟨g, hg, rfl⟩ h5
  by_cases z : a = -1
  · exact key none z.symm (fun g h => by cases h)
  · rcases cB a (n := r 0) (by omega) with ⟨g, hg, rfl⟩ | ⟨hn, q⟩
    · exact key (some g) rfl (fun g' h => by cases h; exact hg)
    · have hM1 := hM.sc (gW7 S)
      refine ⟨-1000000, S, gW S 77 0 0, ?_, ?_, o, r, w, f, v, k, σ, Z, hG, hX.sc (gW7 _), hM1⟩
      · unfold fX10_best
        by_cases y : a < -1
        · rw [if_pos y]
        · rw [if_neg y, hX.g0, gC_ok hX.gi, hX.gu, gBp_s]
          rcases q with q | ⟨q1, q2⟩
          · exfalso
            have h1 : ¬ a.toInt < (-1 : Int32).toInt := fun t => y (Int32.lt_iff_toInt_lt.mpr t)
            have h2 : a.toInt < (0 : Int32).toInt := Int32.lt_iff_toInt_lt.mp q
            have h3 : a.toInt ≠ (-1 : Int32).toInt := fun t => z (Int32.toInt_inj.mp t)
            rw [show (-1 : Int32).toInt = -1 from rfl] at h1 h3
            rw [show (0 : Int32).toInt = 0 from rfl] at h2
            omega
          · rw [if_pos q2]
      · unfold fX11_best
        rw [gL_s, if_neg z]
        rcases m_isGuest (hM1.mn hW) a with ⟨-, h5⟩ | ⟨e5, -⟩
        · exact absurd h5 hn
        · rw [e5, gBp_s, if_pos rfl]
