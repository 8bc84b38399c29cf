/-! the reference's questions over all rows; needs: 0800 0801 0802 0803 0804 0805 0806 0807 0808 0809 0810 0811 0812 -/
theorem m_manyOf {S : gSt} {r : Nat → Nat} {w : Nat → Nat → Int} {k : Nat} (hT : To S 0 r w) (hW : RW r w) (hk : k ≤ 8) : ∃ S1, fX11_manyOf (nI k) S = some (nI ((rows (r 0)).countP (fun d => (decide (k = 0) || decide (pts (dig d) (r 0) = k)) && lw r d)), S1) ∧ gRw 83 8 S S1 := by
  obtain ⟨T, l, e1, e2, e3, e4⟩ := Rs.first (S := S) hW.1 hW.2.1
  have hlen := rows_len hW.1 hW.2.1
  rw [e3, List.length_cons] at hlen
  obtain ⟨S1, f1, f2⟩ := m_manyOf_l hW hk l 0 gFU 0 T (hT.rw e2 (by decide)) e4 (show l.length + 1 < 5000 by omega) (by omega)
  refine ⟨S1, ?_, e2.tr f2⟩
  unfold fX11_manyOf
  rw [e1, gBp_s, show fX11_manyOf_L8 gFU (nI k) 0 1 T = _ from f1, e3, Nat.zero_add]
theorem Rs.step {S : gSt} {d e : Nat} {l : List Nat} {r : Nat → Nat} {w : Nat → Nat → Int} (hR : Rs S (r 0) d (e :: l)) (hT : To S 0 r w) (hW : RW r w) : ∃ T, fX11_nextRow S = some (1, T) ∧ gRw 83 (r 0) S T ∧ Rs T (r 0) e l := by
  rcases m_next (hT.mN hW) hR with ⟨a, -⟩ | ⟨e', l', S1, a, b, c, f⟩
  · exact absurd a (by simp)
  · injection a with a1 a2
    subst a1; subst a2
    exact ⟨S1, b, c, f⟩
theorem Rs.last {S : gSt} {d : Nat} {r : Nat → Nat} {w : Nat → Nat → Int} (hR : Rs S (r 0) d []) (hT : To S 0 r w) (hW : RW r w) : fX11_nextRow S = some (0, S) := by
  rcases m_next (hT.mN hW) hR with ⟨-, a⟩ | ⟨e, l', S1, a, -⟩
  · exact a
  · exact absurd a (by simp)
theorem finds_step {S T : gSt} {r : Nat → Nat} {w : Nat → Nat → Int} {d i x m : Nat} {v : Int32} {l : List Nat} (hW : RW r w) (hi : i < 2 ^ 31) (hx : x ≤ i) (hT : To S 0 r w) (hR : Rs S (r 0) d l) (hn : fX11_nextRow S = some (v, T)) : fX11_finds_L8 (m + 1) (nI i) (nI x) (nI 1) S = if lw r d = true then (if x = i then some (1, S) else fX11_finds_L8 m (nI i) (nI (x + 1)) v T) else fX11_finds_L8 m (nI i) (nI x) v T := by
  rw [fX11_finds_L8]
  unfold fX11_finds_L33
  rw [hR.lawful hT hW, hn, if_neg (show ¬ nI 1 = 0 by decide), gBp_s, gBd_s, gBd_s, nI_1]
  cases lw r d with
  | false => rw [if_pos (show nI (bN false) = 0 by decide), if_neg (show ¬ false = true by decide)]
  | true =>
    rw [if_neg (show ¬ nI (bN true) = 0 by decide), if_pos (show true = true from rfl)]
    by_cases z : x = i
    · rw [if_pos (show nI x = nI i by rw [z]), if_pos z]
    · rw [if_neg (nI_neI (by omega) hi z), if_neg z]
theorem m_finds_l {r : Nat → Nat} {w : Nat → Nat → Int} {i : Nat} (hW : RW r w) (hi : i < 2 ^ 31) : ∀ (l : List Nat) (d m x : Nat) (S : gSt), To S 0 r w → Rs S (r 0) d l → l.length + 1 < m → x ≤ i → (∃ e S1, ((d :: l).filter (lw r))[i - x]? = some e ∧ fX11_finds_L8 m (nI i) (nI x) (nI 1) S = some (1, S1) ∧ gRw 83 8 S S1 ∧ rowAt S1 83 (r 0) (dig e)) ∨ (∃ S1, ((d :: l).filter (lw r))[i - x]? = none ∧ fX11_finds_L8 m (nI i) (nI x) (nI 1) S = some (0, S1) ∧ gRw 83 8 S S1) := by
  have h8 := hW.2.1
  intro l
  induction l with
  | nil =>
    intro d m x S hT hR hm hx
    obtain ⟨m, rfl⟩ : ∃ j, m = j + 2 := ⟨m - 2, by simp at hm; omega⟩
    have hend : ∀ y : Int32, fX11_finds_L8 (m + 1) (nI i) y 0 S = some (0, S) := fun y => by
      rw [fX11_finds_L8, if_pos rfl]
    have hst := finds_step (m := m + 1) hW hi hx hT hR (hR.last hT hW)
    rw [hend, hend] at hst
    cases hl : lw r d with
    | false =>
      right
      rw [hl, if_neg (by decide)] at hst
      refine ⟨S, ?_, hst, gRw.rf⟩
      rw [List.filter_cons_of_neg (by rw [hl]; decide), List.filter_nil]; rfl
    | true =>
      rw [hl, if_pos rfl] at hst
      rw [List.filter_cons_of_pos hl, List.filter_nil]
      by_cases z : x = i
      · left
        rw [if_pos z] at hst
        exact ⟨d, S, by rw [z, Nat.sub_self]; rfl, hst, gRw.rf, hR.1⟩
      · right
        rw [if_neg z] at hst
        exact ⟨S, List.getElem?_eq_none (by rw [List.length_singleton]; omega), hst, gRw.rf⟩
  | cons e l ih =>
    intro d m x S hT hR hm hx
    obtain ⟨m, rfl⟩ : ∃ j, m = j + 1 := ⟨m - 1, by omega⟩
    simp only [List.length_cons] at hm
    obtain ⟨T, hn, hF, hR2⟩ := hR.step hT hW
    have hT2 := hT.rw hF (by decide)
    have hF8 : gRw 83 8 S T := hF.mono h8
    have hst := finds_step (m := m) hW hi hx hT hR hn
    cases hl : lw r d with
    | false =>
      rw [hl, if_neg (by decide)] at hst
      rw [List.filter_cons_of_neg (by rw [hl]; decide), hst]
      rcases ih e m x T hT2 hR2 (by omega) hx with ⟨e', S1, a, b, c, f⟩ | ⟨S1, a, b, c⟩
      · left; exact ⟨e', S1, a, b, hF8.tr c, f⟩
      · right; exact ⟨S1, a, b, hF8.tr c⟩
    | true =>
      rw [hl, if_pos rfl] at hst
      rw [List.filter_cons_of_pos hl, hst]
      by_cases z : x = i
      · left
        rw [if_pos z]
        exact ⟨d, S, by rw [z, Nat.sub_self]; rfl, rfl, gRw.rf, hR.1⟩
      · have e0 : i - x = (i - (x + 1)) + 1 := by omega
        rw [if_neg z, e0, List.getElem?_cons_succ]
        rcases ih e m (x + 1) T hT2 hR2 (by omega) (by omega) with ⟨e', S1, a, b, c, f⟩ | ⟨S1, a, b, c⟩
        · left; exact ⟨e', S1, a, b, hF8.tr c, f⟩
        · right; exact ⟨S1, a, b, hF8.tr c⟩
theorem m_finds {S : gSt} {r : Nat → Nat} {w : Nat → Nat → Int} {i : Nat} (hT : To S 0 r w) (hW : RW r w) (hi : i < 2 ^ 31) : (∃ e S1, ((rows (r 0)).filter (lw r))[i]? = some e ∧ fX11_finds (nI i) S = some (1, S1) ∧ gRw 83 8 S S1 ∧ rowAt S1 83 (r 0) (dig e)) ∨ (∃ S1, ((rows (r 0)).filter (lw r))[i]? = none ∧ fX11_finds (nI i) S = some (0, S1) ∧ gRw 83 8 S S1) := by
  obtain ⟨T, l, e1, e2, e3, e4⟩ := Rs.first (S := S) hW.1 hW.2.1
  have hlen := rows_len hW.1 hW.2.1
  rw [e3, List.length_cons] at hlen
  have := m_finds_l hW hi l 0 gFU 0 T (hT.rw e2 (by decide)) e4 (show l.length + 1 < 5000 by omega) (Nat.zero_le _)
  unfold fX11_finds
  rw [e1, gBp_s, e3]
  rcases this with ⟨e', S1, a, b, c, f⟩ | ⟨S1, a, b, c⟩
  · left; exact ⟨e', S1, a, b, e2.tr c, f⟩
  · right; exact ⟨S1, a, b, e2.tr c⟩
theorem m_rank_in {S : gSt} {r f : Nat → Nat} {w : Nat → Nat → Int} {d x : Nat} {k27 : Int32 → Int32 → gSt → Option (Int32 × gSt)} (hT : To S 0 r w) (hW : RW r w) (hf : rowAt S 83 (r 0) (dig d)) (hs : rowAt S 80 (r 0) f) (hC : Can (dig d) (r 0)) (hCf : Can f (r 0)) (hd : enc (dig d) (r 0) = d) : fX11_rank_L36 k27 gFU (nI x) 1 0 S = if d = enc f (r 0) then some (nI x, S) else gBd (fX11_nextRow S) (fun v_2 S_3 => k27 (nI (x + bN (lw r d))) v_2 S_3) := by
  have h8 := hW.2.1
  have hm := hT.mN hW
  have he : d = enc f (r 0) ↔ an (fun g => !decide (dig d g = f g)) (r 0) = false := by
    rw [an_f]
    constructor
    · intro e g hg
      rw [e, dig_Can h8 hCf g hg, decide_eq_true rfl]; rfl
    · intro h
      rw [← hd]
      refine enc_congr (fun g hg => ?_)
      have := h g hg
      rw [Bool.not_eq_false', decide_eq_true_eq] at this
      exact this
  refine forFU (fun m y g => fX11_rank_L36 k27 m (nI x) y (nI g) S) (fun y => y = if d = enc f (r 0) then some (nI x, S) else gBd (fX11_nextRow S) (fun v_2 S_3 => k27 (nI (x + bN (lw r d))) v_2 S_3)) (fun g y => y = nI (bN (!an (fun g => !decide (dig d g = f g)) g))) (r 0) 1 (by omega) ?_ ?_ rfl
  · rintro m g y hg rfl
    right
    refine ⟨_, rfl, ?_⟩
    show fX11_rank_L36 k27 (m + 1) (nI x) _ (nI g) S = fX11_rank_L36 k27 m (nI x) _ (nI (g + 1)) S
    have b1 := dig_lt d g
    have b2 := hCf.lt8 h8 hg
    rw [an_s, fX11_rank_L36, m_guests hm]
    cases an (fun g => !decide (dig d g = f g)) g with
    | true => simp (disch := omega) only [gC_d, gC_tt, gBp_s, gBd_s, gL_s, gIn_nI, gN_nI, nI_ltI, nI_leI, nI_eq, nI_add, nI_mul, nI_sub, ite_t, ite_f, gR_W2, gRL_W, if_true, if_false, true_and, and_true, false_and, and_false, and_self, Nat.add_zero, l0, l1, l2, l3, l4, l5, l6, l7, l8, l9, l10, l11, l12, l13, l14, l22, l30, l31, l32, l39, l40, l48, l50, l57, l59, l60, l94, l97, l99, l100, l122, l255, l256, l300, l488, l1000, Bool.true_or, Bool.not_true, bN_f]
    | false =>
      by_cases z : dig d g = f g
      · rw [decide_eq_true z]
        simp (disch := omega) only [gC_d, gC_tt, gBp_s, gBd_s, gL_s, gIn_nI, gN_nI, nI_ltI, nI_leI, nI_eq, nI_add, nI_mul, nI_sub, ite_t, ite_f, gR_W2, gRL_W, if_true, if_false, true_and, and_true, false_and, and_false, and_self, Nat.add_zero, l0, l1, l2, l3, l4, l5, l6, l7, l8, l9, l10, l11, l12, l13, l14, l22, l30, l31, l32, l39, l40, l48, l50, l57, l59, l60, l94, l97, l99, l100, l122, l255, l256, l300, l488, l1000, hf g hg, hs g hg, Bool.false_or, Bool.not_true, Bool.not_false, bN_t]
      · rw [decide_eq_false z]
        simp (disch := omega) only [gC_d, gC_tt, gBp_s, gBd_s, gL_s, gIn_nI, gN_nI, nI_ltI, nI_leI, nI_eq, nI_add, nI_mul, nI_sub, ite_t, ite_f, gR_W2, gRL_W, if_true, if_false, true_and, and_true, false_and, and_false, and_self, Nat.add_zero, l0, l1, l2, l3, l4, l5, l6, l7, l8, l9, l10, l11, l12, l13, l14, l22, l30, l31, l32, l39, l40, l48, l50, l57, l59, l60, l94, l97, l99, l100, l122, l255, l256, l300, l488, l1000, hf g hg, hs g hg, Bool.false_or, Bool.not_true, Bool.not_false, bN_t, bN_f]
  · rintro m y rfl
    show fX11_rank_L36 k27 (m + 1) (nI x) _ (nI (r 0)) S = _
    have hl := m_isLawful hT hW g83.1 g83.2 hf hC
    rw [fX11_rank_L36, m_guests hm, gBp_s, if_pos (nI_le (Nat.le_refl _) (by omega)), hl]
    unfold fX11_rank_L101
    cases hq : an (fun g => !decide (dig d g = f g)) (r 0) with
    | false => rw [if_pos (he.mpr hq), if_neg (show ¬ nI (bN (!false)) = 0 by decide)]
    | true =>
      rw [if_neg (show ¬ d = enc f (r 0) from fun y => by rw [he.mp y] at hq; exact absurd hq (by decide)), if_pos (show nI (bN (!true)) = 0 by decide), gBp_s]
      show _ = gBd (fX11_nextRow S) (fun v_2 S_3 => k27 (nI (x + bN (lawful r (dig d)))) v_2 S_3)
      cases lawful r (dig d) with
      | true => rw [if_neg (show ¬ nI (bN true) = 0 by decide), gL_s, nI_1]; rfl
      | false => rw [if_pos (show nI (bN false) = 0 by decide), gL_s, Int32.add_zero]; rfl
theorem m_rank_l {r f : Nat → Nat} {w : Nat → Nat → Int} (hW : RW r w) (hCf : Can f (r 0)) : ∀ (l : List Nat) (d m x : Nat) (S : gSt) (pre suf : List Nat), To S 0 r w → Rs S (r 0) d l → rowAt S 80 (r 0) f → l.length + 1 < m → d :: l = pre ++ enc f (r 0) :: suf → ∃ S1, fX11_rank_L27 m (nI x) (nI 1) S = some (nI (x + (pre.filter (lw r)).length), S1) ∧ gRw 83 8 S S1 := by
  have h8 := hW.2.1
  intro l
  induction l with
  | nil =>
    intro d m x S pre suf hT hR hs hm hp
    obtain ⟨m, rfl⟩ : ∃ j, m = j + 1 := ⟨m - 1, by omega⟩
    have hrc := rows_Can h8 (hR.2.2 d (List.mem_cons_self ..))
    cases pre with
    | nil =>
      injection hp with hp1 hp2
      refine ⟨S, ?_, gRw.rf⟩
      rw [fX11_rank_L27, if_neg (by decide), m_rank_in hT hW hR.1 hs hrc.1 hCf hrc.2.2, if_pos hp1]
      rfl
    | cons a pre => injection hp with hp1 hp2; simp at hp2
  | cons e l ih =>
    intro d m x S pre suf hT hR hs hm hp
    obtain ⟨m, rfl⟩ : ∃ j, m = j + 1 := ⟨m - 1, by omega⟩
    simp only [List.length_cons] at hm
    obtain ⟨T, hn, hF, hR2⟩ := hR.step hT hW
    have hT2 := hT.rw hF (by decide)
    have hF8 : gRw 83 8 S T := hF.mono h8
    have hrc := rows_Can h8 (hR.2.2 d (List.mem_cons_self ..))
    rw [fX11_rank_L27, if_neg (by decide), m_rank_in hT hW hR.1 hs hrc.1 hCf hrc.2.2]
    cases pre with
    | nil =>
      injection hp with hp1 hp2
      refine ⟨S, ?_, gRw.rf⟩
      rw [if_pos hp1]
      rfl
    | cons a pre =>
      injection hp with hp1 hp2
      have hlt : d < enc f (r 0) := chk_asc hR.2.1 _ (by rw [hp2]; exact List.mem_append_right _ (List.mem_cons_self ..))
      obtain ⟨S1, e1, e2⟩ := ih e m (x + bN (lw r d)) T pre suf hT2 hR2 (fun g hg => by rw [hF.2 80 g (by omega)]; exact hs g hg) (by omega) hp2
      refine ⟨S1, ?_, hF8.tr e2⟩
      rw [if_neg (by omega), hn, gBd_s, show fX11_rank_L27 m (nI (x + bN (lw r d))) 1 T = _ from e1, ← hp1, List.filter_cons]
      cases lw r d with
      | true => rw [if_pos rfl, List.length_cons, bN_t]; congr 3; omega
      | false => rw [if_neg (by decide), bN_f, Nat.add_zero]
theorem m_rank {S : gSt} {r f : Nat → Nat} {w : Nat → Nat → Int} {pre suf : List Nat} (hT : To S 0 r w) (hW : RW r w) (hCf : Can f (r 0)) (hs : rowAt S 80 (r 0) f) (hp : rows (r 0) = pre ++ enc f (r 0) :: suf) (hl : lawful r f = true) : ∃ S1, fX11_rank S = some (nI (pre.filter (lw r)).length, S1) ∧ gFr 77 84 S S1 ∧ (∀ p k, p ≠ 83 → (p ≠ 77 ∨ k ≠ 0) → gR S1 p k = gR S p k) := by
  unfold fX11_rank
  rw [gL_s]
  have hF0 : gFr 77 79 S (gW S 77 0 0) := gFr.w0 (by omega) (by omega)
  have hT0 := hT.fr hF0 (by omega)
  have hs0 : rowAt (gW S 77 0 0) 80 (r 0) f := fun g hg => by rw [hF0.2 _ _ (by omega)]; exact hs g hg
  obtain ⟨T, l, e1, e2, e3, e4⟩ := Rs.first (S := gW S 77 0 0) hW.1 hW.2.1
  have hlen := rows_len hW.1 hW.2.1
  rw [e3, List.length_cons] at hlen
  obtain ⟨S1, f1, f2⟩ := m_rank_l hW hCf l 0 gFU 0 T pre suf (hT0.rw e2 (by decide)) e4 (fun g hg => by rw [e2.2 80 g (by omega)]; exact hs0 g hg) (show l.length + 1 < 5000 by omega) (by rw [← e3]; exact hp)
  have hF := e2.tr f2
  refine ⟨S1, ?_, ?_, ?_⟩
  · rw [m_isLawful hT0 hW g80.1 g80.2 hs0 hCf, hl, gBp_s, if_neg (by decide), e1, gBp_s, show fX11_rank_L27 gFU 0 1 T = _ from f1, Nat.zero_add]
  · exact (hF0.mono (by omega) (by omega)).tr (hF.fr (by omega) (by omega))
  · intro p k h1 h2
    rw [hF.2 p k (Or.inl h1), gR_W2, if_neg (by omega)]
theorem m_rank_no {S : gSt} {r f : Nat → Nat} {w : Nat → Nat → Int} (hT : To S 0 r w) (hW : RW r w) (hCf : Can f (r 0)) (hs : rowAt S 80 (r 0) f) (hl : lawful r f = false) : fX11_rank S = some (-9, gW S 77 0 0) := by
  unfold fX11_rank
  rw [gL_s]
  have hF0 : gFr 77 79 S (gW S 77 0 0) := gFr.w0 (by omega) (by omega)
  have hT0 := hT.fr hF0 (by omega)
  have hs0 : rowAt (gW S 77 0 0) 80 (r 0) f := fun g hg => by rw [hF0.2 _ _ (by omega)]; exact hs g hg
  rw [m_isLawful hT0 hW g80.1 g80.2 hs0 hCf, hl, gBp_s, if_pos (by decide)]
/-- what was seen: k sights, three numbers each -/
def Sg (n k : Nat) (σ : Nat → Nat) : Prop := k ≤ 10 ∧ ∀ j, j < k → σ (3 * j) < n ∧ σ (3 * j + 1) < n ∧ σ (3 * j + 2) ≤ 1
def mis (σ : Nat → Nat) (d j : Nat) : Bool := decide (dig d (σ (3 * j)) = dig d (σ (3 * j + 1))) != decide (σ (3 * j + 2) = 1)
def fitB (σ : Nat → Nat) (k d : Nat) : Bool := !an (fun j => mis σ d j) k
theorem m_fits {S : gSt} {r : Nat → Nat} {w : Nat → Nat → Int} {d k : Nat} {σ : Nat → Nat} (hT : To S 0 r w) (hW : RW r w) (hf : rowAt S 83 (r 0) (dig d)) (hC : Can (dig d) (r 0)) (hk : gR S 80 8 = nI k) (hσ : ∀ j, j < 3 * k → gR S 80 (9 + j) = nI (σ j)) (hg : Sg (r 0) k σ) : fX11_fits S = some (nI (bN (lw r d && fitB σ k d))) := by
  have h8 := hW.2.1
  have h10 := hg.1
  unfold fX11_fits
  rw [m_isLawful hT hW g83.1 g83.2 hf hC, gBp_s]
  show fX11_fits_L11 S gFU (nI (bN (lw r d))) 0 = _
  refine forFU (fun m y j => fX11_fits_L11 S m y (nI j)) (fun y => y = some (nI (bN (lw r d && fitB σ k d)))) (fun j y => y = nI (bN (lw r d && !an (fun j => mis σ d j) j))) k (nI (bN (lw r d))) (by omega) ?_ ?_ (by rw [show an (fun j => mis σ d j) 0 = false from rfl, Bool.not_false, Bool.and_true])
  · rintro m j y hj rfl
    right
    refine ⟨_, rfl, ?_⟩
    show fX11_fits_L11 S (m + 1) _ (nI j) = fX11_fits_L11 S m _ (nI (j + 1))
    obtain ⟨g1, g2, g3⟩ := hg.2 j hj
    have s0 := hσ (3 * j) (by omega)
    have s1 := hσ (3 * j + 1) (by omega)
    have s2 := hσ (3 * j + 2) (by omega)
    rw [← Nat.add_assoc] at s1 s2
    have d1 := hf _ g1
    have d2 := hf _ g2
    have b1 := dig_lt d (σ (3 * j))
    have b2 := dig_lt d (σ (3 * j + 1))
    rw [an_s, Bool.not_or, ← Bool.and_assoc, fX11_fits_L11]
    unfold fX11_fits_L64 fX11_fits_L92
    rw [show mis σ d j = (decide (dig d (σ (3 * j)) = dig d (σ (3 * j + 1))) != decide (σ (3 * j + 2) = 1)) from rfl]
    generalize (lw r d && !an (fun j => mis σ d j) j) = X
    cases X with
    | false =>
      by_cases z : dig d (σ (3 * j)) = dig d (σ (3 * j + 1))
      · simp (disch := omega) only [gC_d, gC_tt, gBp_s, gBd_s, gL_s, gIn_nI, gN_nI, nI_ltI, nI_leI, nI_eq, nI_add, nI_mul, nI_sub, ite_t, ite_f, gR_W2, gRL_W, if_true, if_false, true_and, and_true, false_and, and_false, and_self, Nat.add_zero, l0, l1, l2, l3, l4, l5, l6, l7, l8, l9, l10, l11, l12, l13, l14, l22, l30, l31, l32, l39, l40, l48, l50, l57, l59, l60, l94, l97, l99, l100, l122, l255, l256, l300, l488, l1000, hk, s0, s1, s2, d1, d2, bN_f, Bool.false_and]
      · simp (disch := omega) only [gC_d, gC_tt, gBp_s, gBd_s, gL_s, gIn_nI, gN_nI, nI_ltI, nI_leI, nI_eq, nI_add, nI_mul, nI_sub, ite_t, ite_f, gR_W2, gRL_W, if_true, if_false, true_and, and_true, false_and, and_false, and_self, Nat.add_zero, l0, l1, l2, l3, l4, l5, l6, l7, l8, l9, l10, l11, l12, l13, l14, l22, l30, l31, l32, l39, l40, l48, l50, l57, l59, l60, l94, l97, l99, l100, l122, l255, l256, l300, l488, l1000, hk, s0, s1, s2, d1, d2, bN_f, Bool.false_and]
    | true =>
      by_cases z : dig d (σ (3 * j)) = dig d (σ (3 * j + 1))
      · rw [decide_eq_true z]
        by_cases y : σ (3 * j + 2) = 1
        · rw [decide_eq_true y, show (!(true != true)) = true from rfl]
          simp (disch := omega) only [gC_d, gC_tt, gBp_s, gBd_s, gL_s, gIn_nI, gN_nI, nI_ltI, nI_leI, nI_eq, nI_add, nI_mul, nI_sub, ite_t, ite_f, gR_W2, gRL_W, if_true, if_false, true_and, and_true, false_and, and_false, and_self, Nat.add_zero, l0, l1, l2, l3, l4, l5, l6, l7, l8, l9, l10, l11, l12, l13, l14, l22, l30, l31, l32, l39, l40, l48, l50, l57, l59, l60, l94, l97, l99, l100, l122, l255, l256, l300, l488, l1000, hk, s0, s1, s2, d1, d2, bN_t, Bool.true_and]
        · rw [decide_eq_false y, show (!(true != false)) = false from rfl]
          simp (disch := omega) only [gC_d, gC_tt, gBp_s, gBd_s, gL_s, gIn_nI, gN_nI, nI_ltI, nI_leI, nI_eq, nI_add, nI_mul, nI_sub, ite_t, ite_f, gR_W2, gRL_W, if_true, if_false, true_and, and_true, false_and, and_false, and_self, Nat.add_zero, l0, l1, l2, l3, l4, l5, l6, l7, l8, l9, l10, l11, l12, l13, l14, l22, l30, l31, l32, l39, l40, l48, l50, l57, l59, l60, l94, l97, l99, l100, l122, l255, l256, l300, l488, l1000, hk, s0, s1, s2, d1, d2, bN_t, bN_f, Bool.true_and]
      · rw [decide_eq_false z]
        by_cases y : σ (3 * j + 2) = 1
        · rw [decide_eq_true y, show (!(false != true)) = false from rfl]
          simp (disch := omega) only [gC_d, gC_tt, gBp_s, gBd_s, gL_s, gIn_nI, gN_nI, nI_ltI, nI_leI, nI_eq, nI_add, nI_mul, nI_sub, ite_t, ite_f, gR_W2, gRL_W, if_true, if_false, true_and, and_true, false_and, and_false, and_self, Nat.add_zero, l0, l1, l2, l3, l4, l5, l6, l7, l8, l9, l10, l11, l12, l13, l14, l22, l30, l31, l32, l39, l40, l48, l50, l57, l59, l60, l94, l97, l99, l100, l122, l255, l256, l300, l488, l1000, hk, s0, s1, s2, d1, d2, bN_t, bN_f, Bool.true_and]
        · rw [decide_eq_false y, show (!(false != false)) = true from rfl]
          simp (disch := omega) only [gC_d, gC_tt, gBp_s, gBd_s, gL_s, gIn_nI, gN_nI, nI_ltI, nI_leI, nI_eq, nI_add, nI_mul, nI_sub, ite_t, ite_f, gR_W2, gRL_W, if_true, if_false, true_and, and_true, false_and, and_false, and_self, Nat.add_zero, l0, l1, l2, l3, l4, l5, l6, l7, l8, l9, l10, l11, l12, l13, l14, l22, l30, l31, l32, l39, l40, l48, l50, l57, l59, l60, l94, l97, l99, l100, l122, l255, l256, l300, l488, l1000, hk, s0, s1, s2, d1, d2, bN_t, bN_f, Bool.true_and]
  · rintro m y rfl
    show fX11_fits_L11 S (m + 1) _ (nI k) = _
    rw [fX11_fits_L11]
    simp (disch := omega) only [gC_d, gC_tt, gBp_s, gBd_s, gL_s, gIn_nI, gN_nI, nI_ltI, nI_leI, nI_eq, nI_add, nI_mul, nI_sub, ite_t, ite_f, gR_W2, gRL_W, if_true, if_false, true_and, and_true, false_and, and_false, and_self, Nat.add_zero, l0, l1, l2, l3, l4, l5, l6, l7, l8, l9, l10, l11, l12, l13, l14, l22, l30, l31, l32, l39, l40, l48, l50, l57, l59, l60, l94, l97, l99, l100, l122, l255, l256, l300, l488, l1000, hk, gBo_b]
    rfl
