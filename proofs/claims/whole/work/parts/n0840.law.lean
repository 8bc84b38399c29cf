/-! the beginning of both; the law's loop -/
theorem gI_lo {p k : Nat} (h : p < 77) : gR gI p k = gR gS1 p k := if_pos (Or.inl h)
theorem gI_hi {p k : Nat} (h : 77 ≤ p ∧ p < 87) : gR gI p k = gR gM1 p k := if_neg (by omega)
theorem gI_2 {p : Nat} (h : 77 ≤ p ∧ p < 87) : gRL gI p = gM1.2 p := if_neg (by omega)
theorem gS1_is : gFr 36 40 gS0 gS1 ∧ St gS1 36 4 (can (fun g => g)) := by
  obtain ⟨S1, e, F, h⟩ := c_scatter (S := gS0) (o := 36) (n := 4) (by omega) (by omega)
  have e : fX7_scatter 36 4 gS0 = some S1 := e
  rw [gS1_ok] at e
  rw [Option.some.inj e]
  exact ⟨F, h⟩
theorem gM1_is : gM1.2 = gM0.2 ∧ (∀ p k, p ≠ 79 → p ≠ 82 → (p ≠ 80 ∨ 8 < k) → gR gM1 p k = gR (gW gM0 80 39 1) p k) ∧ To gM1 0 rI wI ∧ (∀ j, j < 8 → gR gM1 80 j = nI j) ∧ gR gM1 80 8 = nI 0 ∧ gR gM1 82 0 = nI 0 ∧ gR gM1 82 1 = nI 0 := by
  obtain ⟨S1, e1, F1, t1⟩ := m_drafts (gW gM0 80 39 1)
  obtain ⟨S2, e2, f2, f3, f4, f5⟩ := m_adopts t1
  have e : gM1o = some S2 := by
    unfold gM1o
    rw [e1, gBp_s, e2, gBp_s]
  rw [gM1_ok] at e
  rw [Option.some.inj e]
  exact ⟨by rw [f2, F1.1]; rfl, fun p k h1 h2 h3 => by rw [f3 p k h1 h2 h3, F1.2 p k (by omega)], f4, f5⟩
theorem Rel_gI : Rel gI := by
  obtain ⟨F, s1, s2, s3, s4, s5, s6, s7⟩ := gS1_is
  obtain ⟨m1, m2, m3, m4, m5, m6, m7⟩ := gM1_is
  have lo : ∀ p k, p < 36 ∨ 40 ≤ p ∧ p < 77 → gR gI p k = gIni p k := fun p k h => by rw [gI_lo (by omega), F.2 p k (by omega)]; rfl
  refine ⟨1, rI, wI, can (fun g => g), 1, 0, fun _ => 0, (none, none, 0, fun _ => 0, 0), ⟨RW_rI, Can_can _ _, ⟨by omega, fun j hj => absurd hj (Nat.not_lt_zero _)⟩, trivial, trivial, Nat.zero_le _, fun i hi => absurd hi (Nat.not_lt_zero _)⟩, ⟨⟨?_, ?_, Or.inl rfl⟩, ⟨?_, fun g hg => ?_, fun g hg => ?_, fun g hg => ?_, fun g hg => ?_, fun a b ha hb => ?_⟩, ⟨?_, Or.inl ?_⟩, ⟨?_, ?_, fun g hg => ?_, fun p hp => ?_, s5, by show 1 ≤ 4; omega, by show 4 ≤ 8; omega⟩, ⟨?_, fun j hj => absurd hj (Nat.not_lt_zero _)⟩, ?_, ?_, ?_, ⟨?_, fun j hj => absurd hj (Nat.not_lt_zero _)⟩, ?_⟩, ⟨⟨fun k hk => ?_, fun x y hx hy => ?_⟩, fun g hg => ?_, ⟨?_, fun j hj => absurd hj (Nat.not_lt_zero _)⟩, ?_, ?_, ?_, ⟨?_, fun j hj => absurd hj (Nat.not_lt_zero _)⟩, ?_⟩⟩
  · rw [lo _ _ (by omega)]; rfl
  · rw [lo _ _ (by omega)]; rfl
  · rw [lo _ _ (by omega)]; rfl
  · rw [lo _ _ (by omega), rI_n (by omega)]; exact (show ∀ g, g < 8 → gIni (1 + 1) g = nI 0 by decide +kernel) g hg
  · rw [lo _ _ (by omega), rI_n (by omega)]; exact (show ∀ g, g < 5 → gIni (1 + 2) g = nI 0 by decide +kernel) g hg
  · rw [lo _ _ (by omega), rI_n (by omega)]; exact (show ∀ g, g < 8 → gIni (1 + 3) g = nI 0 by decide +kernel) g hg
  · rw [lo _ _ (by omega), rI_n (by omega)]; exact (show ∀ g, g < 8 → gIni (1 + 4) g = nI 0 by decide +kernel) g hg
  · rw [lo _ _ (by omega)]; exact (show ∀ a, a < 8 → ∀ b, b < 8 → gIni (1 + 6 + a) b = iI 0 by decide +kernel) a ha b hb
  · rw [lo _ _ (by omega)]; rfl
  · rw [lo _ _ (by omega)]; rfl
  · rw [gI_lo (by omega)]; exact s1
  · rw [gI_lo (by omega)]; exact s2
  · rw [gI_lo (by omega)]; exact s3 g hg
  · rw [gI_lo (by omega)]; exact s4 p hp
  · rw [lo _ _ (by omega)]; rfl
  · rw [lo _ _ (by omega)]; rfl
  · show gR gI 45 3 = nI 0
    rw [lo _ _ (by omega)]; rfl
  · show gR gI 54 3 = nI 0
    rw [lo _ _ (by omega)]; rfl
  · rw [lo _ _ (by omega)]; rfl
  · show gS1.2 0 = 0
    rw [F.1]; rfl
  · rw [gI_hi (by omega)]; exact m3.1 k hk
  · rw [gI_hi (by omega)]; exact m3.2 x y hx hy
  · rw [gI_hi (by omega), can_idf]; exact m4 g (by have : g < 4 := hg; omega)
  · rw [gI_hi (by omega)]; exact m5
  · rw [gI_hi (by omega), m2 _ _ (by omega) (by omega) (by omega)]; exact gR_Ws _ _ _ _
  · show gR gI 82 0 = nI 0
    rw [gI_hi (by omega)]; exact m6
  · show gR gI 82 1 = nI 0
    rw [gI_hi (by omega)]; exact m7
  · rw [gI_hi (by omega), m2 _ _ (by omega) (by omega) (by omega), gR_Wp (by omega)]; rfl
  · rw [gI_2 (by omega), m1]; rfl
theorem d_w {F G : gSt → Option (Int32 × gSt)} {S : gSt} {K : gSt → Option Unit} (h : Tw F G) (hS : Rel S) (hK : ∀ S2, Rel S2 → K S2 = some ()) : gBd (F S) (fun v S1 => gBd (G S1) (fun v' S2 => if v = v' then K S2 else none)) = some () := by
  obtain ⟨v, S1, S2, e1, e2, r⟩ := h S hS
  rw [e1, gBd_s, e2, gBd_s, if_pos rfl]
  exact hK S2 r
theorem d_p {F : gSt → Option Int32} {G : gSt → Option (Int32 × gSt)} {S : gSt} {K : gSt → Option Unit} (h : Tp F G) (hS : Rel S) (hK : ∀ S2, Rel S2 → K S2 = some ()) : gBp (F S) (fun v => gBd (G S) (fun v' S2 => if v = v' then K S2 else none)) = some () := by
  obtain ⟨v, S2, e1, e2, r⟩ := h S hS
  rw [e1, gBp_s, e2, gBd_s, if_pos rfl]
  exact hK S2 r
theorem d_t {S : gSt} {K : gSt → Option Unit} (hS : Rel S) (hK : ∀ S2, Rel S2 → K S2 = some ()) : gBp (fX10_trace S) (fun v => gBd (fX11_trace S) (fun v' S2 => if lg_cmp v v' = 0 then K S2 else none)) = some () := by
  obtain ⟨v, S2, e1, e2, r⟩ := t_trace hS
  rw [e1, gBp_s, e2, gBd_s, if_pos ((lg_cmp_eq v v).mpr rfl)]
  exact hK S2 r
/-- one turn of the law's loop after another -/
theorem law_go {L : Nat} (hL : L ≤ 256) (h4 : 4 ≤ L) (xs : Nat → Int32) : ∀ (m x F : Nat) (S : gSt), Rel S → x < 1000 → L < x + 4 * m + 4 → m < F → fL_law_L18 L xs F (nI x) S = some () := by
  intro m
  induction m with
  | zero =>
    intro x F S _ hx hl hF
    obtain ⟨F, rfl⟩ : ∃ m, F = m + 1 := ⟨F - 1, by omega⟩
    rw [fL_law_L18, show Int32.ofNat L = nI L from rfl, l4, nI_sub h4, if_pos (nI_lt (by omega) (by omega))]
  | succ m ih =>
    intro x F S hS hx hl hF
    obtain ⟨F, rfl⟩ : ∃ m, F = m + 1 := ⟨F - 1, by omega⟩
    by_cases hs : L < x + 4
    · rw [fL_law_L18, show Int32.ofNat L = nI L from rfl, l4, nI_sub h4, if_pos (nI_lt (by omega) (by omega))]
    have hK : ∀ S2, Rel S2 → fL_law_L949 (fL_law_L18 L xs F) L xs (nI x) S2 = some () := fun S2 r => by
      unfold fL_law_L949
      rw [l4, nI_add]
      exact ih (x + 4) F S2 r (by omega) (by omega) (by omega)
    have hst : ¬ (Int32.ofNat L) - 4 < nI x := by
      rw [show Int32.ofNat L = nI L from rfl, l4, nI_sub h4]
      exact nI_nlt (by omega) (by omega)
    have i1 : gIn (nI x + 1) L = true := by rw [l1, nI_add]; exact gIn_ok (by omega) (by omega)
    have i2 : gIn (nI x + 2) L = true := by rw [l2, nI_add]; exact gIn_ok (by omega) (by omega)
    have i3 : gIn (nI x + 3) L = true := by rw [l3, nI_add]; exact gIn_ok (by omega) (by omega)
    rw [fL_law_L18, if_neg hst, gC_ok (gIn_ok (by omega) (by omega))]
    generalize hc : (xs (gN (nI x)) &&& 31) = c
    generalize fL_law_L949 (fL_law_L18 L xs F) L xs (nI x) = K at hK ⊢
    by_cases z : c = 0
    · rw [if_pos z]
      simp only [i1, i2, i3, gC_t]
      exact d_w (t_type _ _) hS hK
    rw [if_neg z]
    clear z
    by_cases z : c = 1
    · rw [if_pos z]
      exact d_w t_clear hS hK
    rw [if_neg z]
    clear z
    by_cases z : c = 2
    · rw [if_pos z]
      exact d_w t_room hS hK
    rw [if_neg z]
    clear z
    by_cases z : c = 3
    · rw [if_pos z]
      simp only [i1, i2, i3, gC_t]
      exact d_p (t_law _) hS hK
    rw [if_neg z]
    clear z
    by_cases z : c = 4
    · rw [if_pos z]
      simp only [i1, i2, i3, gC_t]
      exact d_p (t_pair _ _ _) hS hK
    rw [if_neg z]
    clear z
    by_cases z : c = 5
    · rw [if_pos z]
      simp only [i1, i2, i3, gC_t]
      exact d_p (t_party _) hS hK
    rw [if_neg z]
    clear z
    by_cases z : c = 6
    · rw [if_pos z]
      simp only [i1, i2, i3, gC_t]
      exact d_w (t_goes _ _) hS hK
    rw [if_neg z]
    clear z
    by_cases z : c = 7
    · rw [if_pos z]
      simp only [i1, i2, i3, gC_t]
      exact d_w (t_join _ _) hS hK
    rw [if_neg z]
    clear z
    by_cases z : c = 8
    · rw [if_pos z]
      simp only [i1, i2, i3, gC_t]
      exact d_w (t_part _ _) hS hK
    rw [if_neg z]
    clear z
    by_cases z : c = 9
    · rw [if_pos z]
      simp only [i1, i2, i3, gC_t]
      exact d_w (t_now _) hS hK
    rw [if_neg z]
    clear z
    by_cases z : c = 10
    · rw [if_pos z]
      simp only [i1, i2, i3, gC_t]
      exact d_w (t_many _) hS hK
    rw [if_neg z]
    clear z
    by_cases z : c = 11
    · rw [if_pos z]
      exact d_w t_rank hS hK
    rw [if_neg z]
    clear z
    by_cases z : c = 12
    · rw [if_pos z]
      simp only [i1, i2, i3, gC_t]
      exact d_w (t_nth _ _) hS hK
    rw [if_neg z]
    clear z
    by_cases z : c = 13
    · rw [if_pos z]
      exact d_w t_draw hS hK
    rw [if_neg z]
    clear z
    by_cases z : c = 14
    · rw [if_pos z]
      simp only [i1, i2, i3, gC_t]
      exact d_w (t_lot _) hS hK
    rw [if_neg z]
    clear z
    by_cases z : c = 15
    · rw [if_pos z]
      simp only [i1, i2, i3, gC_t]
      exact d_w (t_saw _ _ _) hS hK
    rw [if_neg z]
    clear z
    by_cases z : c = 16
    · rw [if_pos z]
      exact d_w t_forget hS hK
    rw [if_neg z]
    clear z
    by_cases z : c = 17
    · rw [if_pos z]
      exact d_w t_left hS hK
    rw [if_neg z]
    clear z
    by_cases z : c = 18
    · rw [if_pos z]
      simp only [i1, i2, i3, gC_t]
      exact d_w (t_sure _ _) hS hK
    rw [if_neg z]
    clear z
    by_cases z : c = 19
    · rw [if_pos z]
      simp only [i1, i2, i3, gC_t]
      exact d_w (t_two _ _ _) hS hK
    rw [if_neg z]
    clear z
    by_cases z : c = 20
    · rw [if_pos z]
      simp only [i1, i2, i3, gC_t]
      exact d_w (t_between _) hS hK
    rw [if_neg z]
    clear z
    by_cases z : c = 21
    · rw [if_pos z]
      simp only [i1, i2, i3, gC_t]
      exact d_p (t_fewest _) hS hK
    rw [if_neg z]
    clear z
    by_cases z : c = 22
    · rw [if_pos z]
      simp only [i1, i2, i3, gC_t]
      exact d_w (t_best _) hS hK
    rw [if_neg z]
    clear z
    by_cases z : c = 23
    · rw [if_pos z]
      simp only [i1, i2, i3, gC_t]
      exact d_w (t_leaving _) hS hK
    rw [if_neg z]
    clear z
    by_cases z : c = 24
    · rw [if_pos z]
      simp only [i1, i2, i3, gC_t]
      exact d_w (t_evening _) hS hK
    rw [if_neg z]
    clear z
    by_cases z : c = 25
    · rw [if_pos z]
      simp only [i1, i2, i3, gC_t]
      exact d_w (t_rate _ _) hS hK
    rw [if_neg z]
    clear z
    by_cases z : c = 26
    · rw [if_pos z]
      simp only [i1, i2, i3, gC_t]
      exact d_w (t_keep _) hS hK
    rw [if_neg z]
    clear z
    by_cases z : c = 27
    · rw [if_pos z]
      simp only [i1, i2, i3, gC_t]
      exact d_w (t_back _) hS hK
    rw [if_neg z]
    clear z
    by_cases z : c = 28
    · rw [if_pos z]
      simp only [i1, i2, i3, gC_t]
      exact d_p (t_count _) hS hK
    rw [if_neg z]
    clear z
    by_cases z : c = 29
    · rw [if_pos z]
      exact d_t hS hK
    rw [if_neg z]
    clear z
    exact hK S hS
/-- both halves answer alike at every script -/
theorem law_pure (L : Nat) (hL : L ≤ 256) (xs : Nat → Int32) : fL_law_L18 L xs gFU 0 gI = some () := by
  by_cases h : 4 ≤ L
  · exact law_go hL h xs 64 0 gFU gI Rel_gI (by omega) (by omega) (show 64 < 5000 by omega)
  · have : L = 0 ∨ L = 1 ∨ L = 2 ∨ L = 3 := by omega
    rw [show gFU = 4999 + 1 from rfl, fL_law_L18, if_pos (by rcases this with z | z | z | z <;> rw [z] <;> decide)]
