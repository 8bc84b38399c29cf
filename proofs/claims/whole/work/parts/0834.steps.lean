/-! reading in step: numbers, the semicolon; needs: 0800 0801 0802 0803 0804 0805 0806 0807 0808 0809 0810 0811 0812 0813 0814 0815 0816 0821 0822 0829 0830 0831 0832 0833 -/
def AtX (S : gSt) (q tl : Nat) (tx : Nat → Nat) (r : Nat → Nat) (w : Nat → Nat → Int) (t : Nat × Nat × Nat × Nat) : Prop := gR S 31 1 = nI q ∧ TX S tl tx ∧ Ru S q r w ∧ TkX S t
def AtM (S : gSt) (tl : Nat) (tx : Nat → Nat) (r : Nat → Nat) (w : Nat → Nat → Int) (t : Nat × Nat × Nat × Nat) : Prop := gR S 77 8 = -1 ∧ TM S tl tx ∧ To S 94 r w ∧ TkM S t
/-- only the reader and the spare rules have changed -/
def gRd (q : Nat) (S S1 : gSt) : Prop := S1.2 = S.2 ∧ ∀ p k, p ≠ 31 → (p < q ∨ q + 14 ≤ p) → gR S1 p k = gR S p k
theorem gRd.rf {q : Nat} {S : gSt} : gRd q S S := ⟨rfl, fun _ _ _ _ => rfl⟩
theorem gRd.tr {q : Nat} {S S1 S2 : gSt} (h : gRd q S S1) (h2 : gRd q S1 S2) : gRd q S S2 := ⟨h2.1.trans h.1, fun p k a b => (h2.2 p k a b).trans (h.2 p k a b)⟩
theorem gA31.rd {q : Nat} {S S1 : gSt} (h : gA31 S S1) : gRd q S S1 := ⟨h.1, fun p k a _ => h.2 p k (Or.inl a)⟩
theorem gFr.rd {q : Nat} {S S1 : gSt} (h : gFr q (q + 14) S S1) : gRd q S S1 := ⟨h.1, fun p k _ b => h.2 p k b⟩
theorem gRd.w {q : Nat} {S S1 : gSt} {k : Nat} {v : Int32} (h : gRd q S S1) : gRd q S (gW S1 31 k v) := ⟨h.1, fun p j a b => by rw [gR_Wp a]; exact h.2 p j a b⟩
def gMd (S S1 : gSt) : Prop := S1.2 = S.2 ∧ ∀ p k, (p ≠ 77 ∨ k = 3) → (p ≠ 79 ∨ k < 94) → gR S1 p k = gR S p k
theorem gMd.rf {S : gSt} : gMd S S := ⟨rfl, fun _ _ _ _ => rfl⟩
theorem gMd.tr {S S1 S2 : gSt} (h : gMd S S1) (h2 : gMd S1 S2) : gMd S S2 := ⟨h2.1.trans h.1, fun p k a b => (h2.2 p k a b).trans (h.2 p k a b)⟩
theorem gA77.md {S S1 : gSt} (h : gA77 S S1) : gMd S S1 := ⟨h.1, fun p k a _ => h.2 p k (by omega)⟩
theorem gMd.w7 {S S1 : gSt} {k : Nat} {v : Int32} (h : gMd S S1) (hk : k ≠ 3) : gMd S (gW S1 77 k v) := ⟨h.1, fun p j a b => by rw [gR_W2, if_neg (by omega)]; exact h.2 p j a b⟩
theorem gMd.w9 {S S1 : gSt} {k : Nat} {v : Int32} (h : gMd S S1) (hk : 94 ≤ k) : gMd S (gW S1 79 k v) := ⟨h.1, fun p j a b => by rw [gR_W2, if_neg (by omega)]; exact h.2 p j a b⟩
theorem gMd.of9 {S S1 : gSt} (h : S1.2 = S.2 ∧ ∀ p k, p ≠ 79 ∨ k < 94 → gR S1 p k = gR S p k) : gMd S S1 := ⟨h.1, fun p k _ b => h.2 p k b⟩
/-- the text, with its numbers -/
def Txt (tl : Nat) (tx : Nat → Nat) : Prop := tl ≤ 300 ∧ ∀ i, i < tl → tx i < 256
theorem c_tok {S : gSt} {q tl : Nat} {tx r : Nat → Nat} {w : Nat → Nat → Int} {t : Nat × Nat × Nat × Nat} (hX : Txt tl tx) (hq : gIsRu q = true) (h : AtX S q tl tx r w t) (h4 : t.1 ≠ 4) (he : t.2.2.2 ≤ tl) : ∃ S1, fX4_advance S = some S1 ∧ gA31 S S1 ∧ AtX S1 q tl tx r w (tk tl tx t.2.2.2) := by
  obtain ⟨h1, h2, h3, k1, k2, k3, k4⟩ := h
  obtain ⟨S1, e1, F1, t1⟩ := c_adv h2 hX.1 hX.2 he (k4 h4)
  have hq2 : q + 14 ≤ 31 := by
    have : q = 1 ∨ q = 15 := by
      unfold gIsRu at hq
      rw [Bool.or_eq_true, beq_iff_eq, beq_iff_eq] at hq
      exact hq
    omega
  refine ⟨S1, e1, F1, by rw [F1.2 31 1 (by omega)]; exact h1, ⟨by rw [F1.2 29 1 (by omega)]; exact h2.1, fun i hi => by rw [F1.2 30 i (by omega)]; exact h2.2 i hi⟩, ?_, t1⟩
  obtain ⟨a1, a2, a3, a4, a5, a6⟩ := h3
  refine ⟨?_, fun g hg => ?_, fun g hg => ?_, fun g hg => ?_, fun g hg => ?_, fun a b ha hb => ?_⟩
  · rw [F1.2 _ _ (by omega)]; exact a1
  · rw [F1.2 _ _ (by omega)]; exact a2 g hg
  · rw [F1.2 _ _ (by omega)]; exact a3 g hg
  · rw [F1.2 _ _ (by omega)]; exact a4 g hg
  · rw [F1.2 _ _ (by omega)]; exact a5 g hg
  · rw [F1.2 _ _ (by omega)]; exact a6 a b ha hb
theorem m_tok {S : gSt} {tl : Nat} {tx r : Nat → Nat} {w : Nat → Nat → Int} {t : Nat × Nat × Nat × Nat} (hX : Txt tl tx) (h : AtM S tl tx r w t) (h4 : t.1 ≠ 4) (he : t.2.2.2 ≤ tl) : ∃ S1, fX11_takes 1 S = some (gR S 77 7, S1) ∧ gA77 S S1 ∧ AtM S1 tl tx r w (tk tl tx t.2.2.2) := by
  obtain ⟨h1, h2, h3, k1, k2, k3, k4⟩ := h
  obtain ⟨S1, e1, F1, t1⟩ := m_adv h2 hX.1 hX.2 he (k4 h4)
  refine ⟨S1, ?_, F1, by rw [F1.2 77 8 (by omega)]; exact h1, ⟨by rw [F1.2 77 3 (by omega)]; exact h2.1, fun i hi => by rw [F1.2 78 i (by omega)]; exact h2.2 i hi⟩, ⟨fun k hk => by rw [F1.2 79 _ (by omega)]; exact h3.1 k hk, fun x y hx hy => by rw [F1.2 79 _ (by omega)]; exact h3.2 x y hx hy⟩, t1⟩
  unfold fX11_takes fX11_isWell
  rw [h1, if_neg (by decide), gBp_s, if_neg (by decide), if_neg (by decide), gL_s, e1, gBp_s]
theorem m_well_f {S : gSt} {s : Nat} (h : gR S 77 8 = nI s) (hs : s ≤ 300) : fX11_isWell S = some 0 := by
  unfold fX11_isWell
  rw [h, if_pos (nI_pos' (by omega))]
theorem m_well_t {S : gSt} (h : gR S 77 8 = -1) : fX11_isWell S = some 1 := by
  unfold fX11_isWell
  rw [h, if_neg (by decide)]
theorem m_takes_f {S : gSt} {s : Nat} {a : Int32} (h : gR S 77 8 = nI s) (hs : s ≤ 300) : fX11_takes a S = some (0, S) := by
  unfold fX11_takes
  rw [m_well_f h hs, gBp_s, if_pos rfl]
theorem m_takes_0 {S : gSt} {tl : Nat} {tx r : Nat → Nat} {w : Nat → Nat → Int} {t : Nat × Nat × Nat × Nat} (h : AtM S tl tx r w t) : fX11_takes 0 S = some (0, gW S 77 8 (nI t.2.2.1)) := by
  unfold fX11_takes
  rw [m_well_t h.1, gBp_s, if_neg (by decide), if_pos rfl, gL_s, h.2.2.2.2.1]
theorem m_number_f {S : gSt} {s : Nat} {a b : Int32} (h : gR S 77 8 = nI s) (hs : s ≤ 300) : fX11_number a b S = some (0, S) := by
  unfold fX11_number fX11_number_L26
  rw [m_takes_f h hs, m_takes_f h hs, m_in, gBp_s, gBd_s]
  split
  · split <;> rfl
  · rfl
def okN (t : Nat × Nat × Nat × Nat) (a b : Nat) : Prop := t.1 = 2 ∧ a ≤ t.2.1 ∧ t.2.1 ≤ b
theorem c_number {S : gSt} {q tl a b : Nat} {tx r : Nat → Nat} {w : Nat → Nat → Int} {t : Nat × Nat × Nat × Nat} (hX : Txt tl tx) (hq : gIsRu q = true) (h : AtX S q tl tx r w t) (h4 : t.1 ≠ 4) (he : t.2.2.2 ≤ tl) (ha : a < 1000) (hb : b < 1000) : ∃ S1, gA31 S S1 ∧ AtX S1 q tl tx r w (tk tl tx t.2.2.2) ∧ ((okN (tk tl tx t.2.2.2) a b ∧ fX4_readNumber (nI a) (nI b) S = some (1, S1) ∧ gR S1 31 5 = nI (tk tl tx t.2.2.2).2.1) ∨ (¬ okN (tk tl tx t.2.2.2) a b ∧ fX4_readNumber (nI a) (nI b) S = some (0, S1))) := by
  obtain ⟨S1, e1, F1, h1⟩ := c_tok hX hq h h4 he
  refine ⟨S1, F1, h1, ?_⟩
  have ok := tk_ok (tx := tx) he
  unfold fX4_readNumber okN
  rw [e1, gBp_s]
  generalize tk tl tx t.2.2.2 = u at *
  obtain ⟨k1, k2, k3, k4⟩ := h1.2.2.2
  obtain ⟨o1, o2, o3, o4, o5, o6, o7, o8⟩ := ok
  have hck : nI (ck u) = 11 ↔ u.1 = 2 := by
    have e11 : nI (ck u) = 11 ↔ ck u = 11 := nI_eq (b := 11) (by unfold ck; split; omega; split; have := o5 (by assumption); omega; split; omega; split <;> omega) (by omega)
    rw [e11]
    unfold ck
    by_cases z0 : u.1 = 0
    · rw [if_pos z0]; omega
    · rw [if_neg z0]
      by_cases z1 : u.1 = 1
      · have := o5 z1
        rw [if_pos z1]; omega
      · rw [if_neg z1]
        by_cases z2 : u.1 = 2
        · rw [if_pos z2]; omega
        · rw [if_neg z2]
          split <;> omega
  rw [k1]
  by_cases z : u.1 = 2
  · have v := o6 z
    have h5 := k3 z
    rw [if_pos (hck.mpr z), h5]
    by_cases z1 : u.2.1 < a
    · right
      rw [if_pos (nI_lt z1 (by omega))]
      exact ⟨fun y => by omega, rfl⟩
    · rw [if_neg (nI_nlt (by omega) (by omega))]
      by_cases z2 : b < u.2.1
      · right
        rw [if_pos (nI_lt z2 (by omega))]
        exact ⟨fun y => by omega, rfl⟩
      · left
        rw [if_neg (nI_nlt (by omega) (by omega))]
        exact ⟨⟨z, by omega, by omega⟩, rfl, rfl⟩
  · right
    rw [if_neg (fun y => z (hck.mp y))]
    exact ⟨fun y => z y.1, rfl⟩
theorem m_number {S : gSt} {tl a b : Nat} {tx r : Nat → Nat} {w : Nat → Nat → Int} {t : Nat × Nat × Nat × Nat} (hX : Txt tl tx) (h : AtM S tl tx r w t) {p : Nat} (ho : TkOk tl p t) (ha : a < 1000) (hb : b < 1000) : (okN t a b ∧ ∃ S1, fX11_number (nI a) (nI b) S = some (nI t.2.1, S1) ∧ gA77 S S1 ∧ AtM S1 tl tx r w (tk tl tx t.2.2.2)) ∨ (¬ okN t a b ∧ fX11_number (nI a) (nI b) S = some (0, gW S 77 8 (nI t.2.2.1))) := by
  obtain ⟨k1, k2, k3, k4⟩ := h.2.2.2
  obtain ⟨o1, o2, o3, o4, o5, o6, o7, o8⟩ := ho
  unfold fX11_number fX11_number_L26
  have h0 := m_takes_0 h
  rw [k1]
  have e2 : nI t.1 = 2 ↔ t.1 = 2 := nI_eq (b := 2) (by omega) (by omega)
  by_cases z : t.1 = 2
  · have v := o6 z
    have h7 := k3 (Or.inr z)
    rw [if_pos (e2.mpr z), h7, m_in]
    by_cases z1 : a ≤ t.2.1 ∧ t.2.1 ≤ b
    · left
      obtain ⟨S1, e1, F1, h1⟩ := m_tok hX h (by omega) o3
      refine ⟨⟨z, z1⟩, S1, ?_, F1, h1⟩
      rw [if_pos ⟨nI_le z1.1 (by omega), nI_le z1.2 (by omega)⟩, gBp_s, if_neg (by decide), e1, gBd_s, h7]
    · right
      refine ⟨fun y => z1 y.2, ?_⟩
      rw [if_neg (fun y => z1 ⟨(nI_leI (by omega) (by omega)).mp y.1, (nI_leI (by omega) (by omega)).mp y.2⟩), gBp_s, if_pos rfl, h0, gBd_s]
  · right
    refine ⟨fun y => z y.1, ?_⟩
    rw [if_neg (fun y => z (e2.mp y)), h0, gBd_s]
/-- both have read an item, or both have stopped at one place -/
def Out (q tl : Nat) (tx : Nat → Nat) (Sx Sm : gSt) (k : gSt → Option (Int32 × gSt)) (e0 : Nat) (F G : Option (Int32 × gSt)) : Prop :=
  (∃ s Sx1 Sm1, s ≤ 300 ∧ F = some (0, Sx1) ∧ gRd q Sx Sx1 ∧ gR Sx1 31 4 = nI s ∧ G = k Sm1 ∧ gMd Sm Sm1 ∧ gR Sm1 77 8 = nI s) ∨
  (∃ r w t Sx1 Sm1, RW r w ∧ (t.1 ≠ 4 ∧ t.2.2.2 ≤ tl ∧ e0 < t.2.2.2) ∧ F = some (1, Sx1) ∧ gRd q Sx Sx1 ∧ AtX Sx1 q tl tx r w t ∧ G = k Sm1 ∧ gMd Sm Sm1 ∧ AtM Sm1 tl tx r w (tk tl tx t.2.2.2))
theorem Out.tr {q tl e0 e1 : Nat} {tx : Nat → Nat} {Sx Sm Sx0 Sm0 : gSt} {k : gSt → Option (Int32 × gSt)} {F G : Option (Int32 × gSt)} (h : Out q tl tx Sx Sm k e0 F G) (h1 : gRd q Sx0 Sx) (h2 : gMd Sm0 Sm) (h3 : e1 ≤ e0) : Out q tl tx Sx0 Sm0 k e1 F G := by
  rcases h with ⟨s, Sx1, Sm1, a, b, c, d, e, f, g⟩ | ⟨r, w, t, Sx1, Sm1, a, b, c, d, e, f, g, i⟩
  · exact Or.inl ⟨s, Sx1, Sm1, a, b, h1.tr c, d, e, h2.tr f, g⟩
  · exact Or.inr ⟨r, w, t, Sx1, Sm1, a, ⟨b.1, b.2.1, by omega⟩, c, h1.tr d, e, f, h2.tr g, i⟩
theorem L141_f {k26 : Int32 → gSt → Option (Int32 × gSt)} {x1 : Int32} {S : gSt} {s : Nat} (h : gR S 77 8 = nI s) (hs : s ≤ 300) : fX11_room_L141 k26 x1 S = k26 (x1 + 1) S := by
  unfold fX11_room_L141 fX11_room_L155
  rw [m_takes_f h hs, m_takes_f h hs, gBd_s]
  split <;> rfl
/-- the semicolon -/
theorem semi {Sx Sm : gSt} {q tl : Nat} {tx r : Nat → Nat} {w : Nat → Nat → Int} {t : Nat × Nat × Nat × Nat} {k26 : Int32 → gSt → Option (Int32 × gSt)} {x1 : Int32} (hX : Txt tl tx) (hq : gIsRu q = true) (hW : RW r w) (h : AtX Sx q tl tx r w t) (hm : AtM Sm tl tx r w (tk tl tx t.2.2.2)) (h4 : t.1 ≠ 4) (he : t.2.2.2 ≤ tl) : Out q tl tx Sx Sm (fun S => k26 (x1 + 1) S) t.2.2.2 (gBd (fX4_readSemicolon Sx) (fun v_4 S_5 => gC (gBo v_4) (some (v_4, S_5)))) (fX11_room_L141 k26 x1 Sm) := by
  obtain ⟨S1, e1, F1, h1⟩ := c_tok hX hq h h4 he
  have ok := tk_ok (tx := tx) he
  have h3 := hX.1
  unfold fX4_readSemicolon
  rw [e1, gBp_s]
  generalize tk tl tx t.2.2.2 = u at *
  obtain ⟨k1, k2, k3, k4⟩ := h1.2.2.2
  obtain ⟨o1, o2, o3, o4, o5, o6, o7, o8⟩ := ok
  have hck : nI (ck u) = 12 ↔ u.1 = 3 := by
    have e12 : nI (ck u) = 12 ↔ ck u = 12 := nI_eq (b := 12) (by unfold ck; split; omega; split; have := o5 (by assumption); omega; split; omega; split <;> omega) (by omega)
    rw [e12]
    unfold ck
    by_cases z0 : u.1 = 0
    · rw [if_pos z0]; omega
    · rw [if_neg z0]
      by_cases z1 : u.1 = 1
      · have := o5 z1
        rw [if_pos z1]; omega
      · rw [if_neg z1]
        by_cases z2 : u.1 = 2
        · rw [if_pos z2]; omega
        · rw [if_neg z2]
          split <;> omega
  obtain ⟨j1, j2, j3, j4⟩ := hm.2.2.2
  rw [k1]
  by_cases z : u.1 = 3
  · right
    obtain ⟨S2, e2, F2, h2⟩ := m_tok hX hm (by omega) o3
    refine ⟨r, w, u, S1, S2, hW, ⟨by omega, o3, o7 (by omega) (by omega)⟩, ?_, F1.rd, h1, ?_, F2.md, h2⟩
    · rw [if_pos (hck.mpr z), gBd_s, gC_ok (by decide)]
    · unfold fX11_room_L141 fX11_room_L155
      rw [j1, if_pos (show nI u.1 = 3 by rw [z]; rfl), e2, gBd_s]
  · left
    refine ⟨u.2.2.1, S1, gW Sm 77 8 (nI u.2.2.1), by omega, ?_, F1.rd, k2, ?_, gMd.rf.w7 (by omega), gR_Ws _ _ _ _⟩
    · rw [if_neg (fun y => z (hck.mp y)), gBd_s, gC_ok (by decide)]
    · unfold fX11_room_L141 fX11_room_L155
      rw [j1, if_neg (show ¬ nI u.1 = 3 from nI_neI (b := 3) (by omega) (by omega) z), m_takes_0 hm, gBd_s]
/-- a number -/
theorem numb {Sx Sm : gSt} {q tl a b : Nat} {tx r : Nat → Nat} {w : Nat → Nat → Int} {t : Nat × Nat × Nat × Nat} {k : gSt → Option (Int32 × gSt)} {A B : Int32} {Kc : gSt → Option (Int32 × gSt)} {Km : Int32 → gSt → Option (Int32 × gSt)} (hX : Txt tl tx) (hq : gIsRu q = true) (h : AtX Sx q tl tx r w t) (hm : AtM Sm tl tx r w (tk tl tx t.2.2.2)) (h4 : t.1 ≠ 4) (he : t.2.2.2 ≤ tl) (hA : A = nI a) (hB : B = nI b) (ha : a < 1000) (hb : b < 1000) (hf : ∀ S s, s ≤ 300 → gR S 77 8 = nI s → ∃ S1, Km 0 S = k S1 ∧ gMd S S1 ∧ gR S1 77 8 = nI s) (hs : ∀ Sx1 Sm1, okN (tk tl tx t.2.2.2) a b → gA31 Sx Sx1 → gMd Sm Sm1 → AtX Sx1 q tl tx r w (tk tl tx t.2.2.2) → gR Sx1 31 5 = nI (tk tl tx t.2.2.2).2.1 → AtM Sm1 tl tx r w (tk tl tx (tk tl tx t.2.2.2).2.2.2) → Out q tl tx Sx1 Sm1 k (tk tl tx t.2.2.2).2.2.2 (Kc Sx1) (Km (nI (tk tl tx t.2.2.2).2.1) Sm1)) : Out q tl tx Sx Sm k t.2.2.2 (gBd (fX4_readNumber A B Sx) (fun v_1 S_2 => if v_1 = 0 then some (0, S_2) else Kc S_2)) (gBd (fX11_number A B Sm) Km) := by
  subst hA
  subst hB
  have h3 := hX.1
  obtain ⟨S1, F1, h1, e1⟩ := c_number hX hq h h4 he ha hb
  have ok := tk_ok (tx := tx) he
  rcases m_number (p := t.2.2.2) hX hm ok ha hb with ⟨on, S2, e2, F2, h2⟩ | ⟨on, e2⟩
  · rcases e1 with ⟨-, e1, e5⟩ | ⟨on2, -⟩
    · rw [e1, e2, gBd_s, gBd_s, if_neg (by decide)]
      exact (hs S1 S2 on F1 F2.md h1 e5 h2).tr F1.rd F2.md (by have := ok.2.2.2.2.2.2.1 (by rw [on.1]; omega) (by rw [on.1]; omega); omega)
    · exact absurd on on2
  · rcases e1 with ⟨on2, -⟩ | ⟨-, e1⟩
    · exact absurd on2 on
    · rw [e1, e2, gBd_s, gBd_s, if_pos rfl]
      have hst : (tk tl tx t.2.2.2).2.2.1 ≤ 300 := by have := ok.1; omega
      obtain ⟨S3, e3, F3, f3⟩ := hf (gW Sm 77 8 (nI (tk tl tx t.2.2.2).2.2.1)) _ hst (gR_Ws _ _ _ _)
      exact Or.inl ⟨_, S1, S3, hst, rfl, F1.rd, h1.2.2.2.2.1, e3, (gMd.rf.w7 (by omega)).tr F3, f3⟩
