/-! leaving: one turn; needs: 0800 0801 0802 0803 0804 0805 0806 0807 0808 0809 0810 0811 -/
/-- the worths of g with those of party p -/
def sP (w : Nat → Nat → Int) (f : Nat → Nat) (n g p : Nat) : Int := ww w n g (fun e => decide (f e = p))
/-- the worthiest party but the own one, if it is worth more than G -/
def scan (s : Nat → Int) (home : Nat) (G : Int) : Nat → Int × Option Nat
  | 0 => (G, none)
  | p + 1 => if p ≠ home ∧ (scan s home G p).1 < s p then (s p, some p) else scan s home G p
theorem scan_s (s : Nat → Int) (home : Nat) (G : Int) (p : Nat) : scan s home G (p + 1) = if p ≠ home ∧ (scan s home G p).1 < s p then (s p, some p) else scan s home G p := rfl
theorem scan_ok (s : Nat → Int) (home : Nat) (G : Int) : ∀ P, G ≤ (scan s home G P).1 ∧ ((scan s home G P).2 = none → (scan s home G P).1 = G) ∧ ∀ p, (scan s home G P).2 = some p → p < P ∧ p ≠ home ∧ G < (scan s home G P).1
  | 0 => ⟨Int.le_refl _, fun _ => rfl, fun p h => absurd h (by simp [scan])⟩
  | P + 1 => by
    obtain ⟨h1, h2, h3⟩ := scan_ok s home G P
    rw [scan_s]
    by_cases z : P ≠ home ∧ (scan s home G P).1 < s P
    · rw [if_pos z]
      refine ⟨by show G ≤ s P; omega, fun h => absurd h (by simp), fun p hp => ?_⟩
      have hp : some P = some p := hp
      have hp := Option.some.inj hp
      subst hp
      exact ⟨by omega, z.1, by show G < s P; omega⟩
    · rw [if_neg z]
      exact ⟨h1, h2, fun p hp => by have := h3 p hp; exact ⟨by omega, this.2⟩⟩
theorem scan_b {s : Nat → Int} {home : Nat} {G B : Int} (hs : ∀ p, s p ≤ B) (hG : G ≤ B) : ∀ P, (scan s home G P).1 ≤ B
  | 0 => hG
  | P + 1 => by
    rw [scan_s]
    split
    · exact hs P
    · exact scan_b hs hG P
/-- from a higher mark on: the same party, or none -/
theorem scan_two (s : Nat → Int) (home : Nat) (t : Int) (ht : 0 ≤ t) : ∀ P, (scan s home t P).1 = max (scan s home 0 P).1 t ∧ (t < (scan s home 0 P).1 → (scan s home t P).2 = (scan s home 0 P).2) ∧ ((scan s home 0 P).1 ≤ t → (scan s home t P).2 = none)
  | 0 => ⟨by show t = max 0 t; omega, fun h => absurd h (by show ¬ t < 0; omega), fun _ => rfl⟩
  | P + 1 => by
    obtain ⟨h1, h2, h3⟩ := scan_two s home t ht P
    rw [scan_s, scan_s]
    by_cases z0 : P ≠ home
    · by_cases z1 : (scan s home 0 P).1 < s P
      · rw [if_pos (show P ≠ home ∧ (scan s home 0 P).1 < s P from ⟨z0, z1⟩)]
        by_cases z2 : (scan s home t P).1 < s P
        · rw [if_pos (show P ≠ home ∧ (scan s home t P).1 < s P from ⟨z0, z2⟩)]
          refine ⟨by show s P = max (s P) t; omega, fun _ => rfl, fun h => absurd h (by show ¬ s P ≤ t; omega)⟩
        · rw [if_neg (show ¬ (P ≠ home ∧ (scan s home t P).1 < s P) from fun y => z2 y.2)]
          refine ⟨by show _ = max (s P) t; omega, fun h => absurd h (by show ¬ t < s P; omega), fun h => h3 (by omega)⟩
      · rw [if_neg (show ¬ (P ≠ home ∧ (scan s home 0 P).1 < s P) from fun y => z1 y.2), if_neg (show ¬ (P ≠ home ∧ (scan s home t P).1 < s P) from fun y => by have := y.2; omega)]
        exact ⟨h1, h2, h3⟩
    · rw [if_neg (show ¬ (P ≠ home ∧ (scan s home 0 P).1 < s P) from fun y => z0 y.1), if_neg (show ¬ (P ≠ home ∧ (scan s home t P).1 < s P) from fun y => z0 y.1)]
      exact ⟨h1, h2, h3⟩
/-- one guest's turn: the new row, or none -/
def stp (w : Nat → Nat → Int) (f : Nat → Nat) (n g : Nat) : Option (Nat → Nat) :=
  if sP w f n g (f g) < (scan (sP w f n g) (f g) 0 (pts f n)).1 then some (can (upN f g ((scan (sP w f n g) (f g) 0 (pts f n)).2.getD 8))) else none
theorem c_worthSet {S : gSt} {o q g p : Nat} {f r : Nat → Nat} {w : Nat → Nat → Int} (h : Ru S o r w) (hW : RW r w) (hs : St S q (r 0) f) (hg : g < r 0) (hp : p < pts f (r 0)) : fX7_setOf q (nI p) S = some (nI (mk (fun e => decide (f e = p)) (r 0))) ∧ fX5_worthWith o (nI g) (nI (mk (fun e => decide (f e = p)) (r 0))) S = some (iI (sP w f (r 0) g p)) := by
  have h8 := hW.2.1
  refine ⟨c_setOf hs hp, ?_⟩
  rw [c_worthWith h hW (by omega) (mk_lt8 _ h8)]
  congr 2
  refine si_congr (fun e he => ?_)
  show (if e ≠ g ∧ (mk (fun e => decide (f e = p)) (r 0)).testBit e = true then w g e else 0) = _
  rw [mk_bit, decide_eq_true he, Bool.true_and]
theorem c_takes {S : gSt} {o g : Nat} {f r : Nat → Nat} {w : Nat → Nat → Int} (h : Ru S o r w) (hW : RW r w) (hs : St S 73 (r 0) f) (hg : g < r 0) : (stp w f (r 0) g = none ∧ fX0_takesTurn o (nI g) S = some (0, S)) ∨ ∃ f' S1, stp w f (r 0) g = some f' ∧ fX0_takesTurn o (nI g) S = some (1, S1) ∧ gFr 73 77 S S1 ∧ St S1 73 (r 0) f' := by
  have h8 := hW.2.1
  have hp8 := hs.pts
  have h4 := hs.2.1
  have hC := hs.2.2.2.2.1
  have hhome : f g < pts f (r 0) := lt_pts hg
  have hsb : ∀ p, -72 ≤ sP w f (r 0) g p ∧ sP w f (r 0) g p ≤ 72 := fun p => ww_b hW g _ h8
  unfold fX0_takesTurn
  rw [c_partyOf hs hg, gBp_s]
  refine forFU (fun m (a : Int32 × Int32) p => fX0_takesTurn_L18 o m (nI g) (nI (f g)) a.1 a.2 (nI p) S) (fun y => (stp w f (r 0) g = none ∧ y = some (0, S)) ∨ ∃ f' S1, stp w f (r 0) g = some f' ∧ y = some (1, S1) ∧ gFr 73 77 S S1 ∧ St S1 73 (r 0) f') (fun p a => a = (nI ((scan (sP w f (r 0) g) (f g) 0 p).2.getD (f g)), iI (scan (sP w f (r 0) g) (f g) 0 p).1)) (pts f (r 0)) (nI (f g), 0) (by omega) ?_ ?_ rfl
  · rintro m p a hp rfl
    right
    refine ⟨_, rfl, ?_⟩
    show fX0_takesTurn_L18 o (m + 1) (nI g) (nI (f g)) (nI ((scan (sP w f (r 0) g) (f g) 0 p).2.getD (f g))) (iI (scan (sP w f (r 0) g) (f g) 0 p).1) (nI p) S = fX0_takesTurn_L18 o m (nI g) (nI (f g)) (nI ((scan (sP w f (r 0) g) (f g) 0 (p + 1)).2.getD (f g))) (iI (scan (sP w f (r 0) g) (f g) 0 (p + 1)).1) (nI (p + 1)) S
    obtain ⟨e1, e2⟩ := c_worthSet h hW hs hg hp
    have hb := hsb p
    have g1 := (scan_ok (sP w f (r 0) g) (f g) 0 p).1
    have g2 := scan_b (home := f g) (G := 0) (B := 72) (fun p => (hsb p).2) (by omega) p
    rw [fX0_takesTurn_L18, show fX7_parties 73 S = some (nI (pts f (r 0))) from congrArg some h4, gBp_s, if_neg (nI_nleI hp (by omega)), e1, gBp_s, e2, gBp_s, nI_1, scan_s]
    by_cases z0 : p = f g
    · rw [if_pos (show nI p = nI (f g) by rw [z0]), if_neg (show ¬ (p ≠ f g ∧ (scan (sP w f (r 0) g) (f g) 0 p).1 < sP w f (r 0) g p) from fun y => y.1 z0)]
    · rw [if_neg (nI_neI (by omega) (by omega) z0)]
      by_cases z1 : (scan (sP w f (r 0) g) (f g) 0 p).1 < sP w f (r 0) g p
      · rw [if_neg (show ¬ iI (sP w f (r 0) g p) ≤ iI (scan (sP w f (r 0) g) (f g) 0 p).1 from fun y => by rw [iI_le (by omega) (by omega) (by omega) (by omega)] at y; omega), if_pos (show p ≠ f g ∧ (scan (sP w f (r 0) g) (f g) 0 p).1 < sP w f (r 0) g p from ⟨z0, z1⟩)]
        rfl
      · rw [if_pos (show iI (sP w f (r 0) g p) ≤ iI (scan (sP w f (r 0) g) (f g) 0 p).1 from (iI_le (by omega) (by omega) (by omega) (by omega)).mpr (by omega)), if_neg (show ¬ (p ≠ f g ∧ (scan (sP w f (r 0) g) (f g) 0 p).1 < sP w f (r 0) g p) from fun y => z1 y.2)]
  · rintro m a rfl
    show (stp w f (r 0) g = none ∧ fX0_takesTurn_L18 o (m + 1) (nI g) (nI (f g)) (nI ((scan (sP w f (r 0) g) (f g) 0 (pts f (r 0))).2.getD (f g))) (iI (scan (sP w f (r 0) g) (f g) 0 (pts f (r 0))).1) (nI (pts f (r 0))) S = some (0, S)) ∨ ∃ f' S1, stp w f (r 0) g = some f' ∧ fX0_takesTurn_L18 o (m + 1) (nI g) (nI (f g)) (nI ((scan (sP w f (r 0) g) (f g) 0 (pts f (r 0))).2.getD (f g))) (iI (scan (sP w f (r 0) g) (f g) 0 (pts f (r 0))).1) (nI (pts f (r 0))) S = some (1, S1) ∧ _
    obtain ⟨e1, e2⟩ := c_worthSet h hW hs hg hhome
    have hb := hsb (f g)
    obtain ⟨g1, g3, g4⟩ := scan_ok (sP w f (r 0) g) (f g) 0 (pts f (r 0))
    have g2 := scan_b (home := f g) (G := 0) (B := 72) (fun p => (hsb p).2) (by omega) (pts f (r 0))
    rw [fX0_takesTurn_L18, show fX7_parties 73 S = some (nI (pts f (r 0))) from congrArg some h4, gBp_s, if_pos (nI_le (Nat.le_refl _) (by omega)), e1, gBp_s, e2, gBp_s]
    unfold stp
    by_cases z : sP w f (r 0) g (f g) < (scan (sP w f (r 0) g) (f g) 0 (pts f (r 0))).1
    · right
      rw [if_pos z, if_pos ((iI_lt (by omega) (by omega) (by omega) (by omega)).mpr z)]
      cases hA : (scan (sP w f (r 0) g) (f g) 0 (pts f (r 0))).2 with
      | none =>
        obtain ⟨S1, a1, a2, a3⟩ := c_sendAlone hs hg
        refine ⟨_, S1, rfl, ?_, a2, a3⟩
        rw [if_pos (show nI ((none : Option Nat).getD (f g)) = nI (f g) from rfl), a1, gBp_s]
      | some p =>
        obtain ⟨u1, u2, -⟩ := g4 p hA
        obtain ⟨S1, a1, a2, a3⟩ := c_sendToParty (p := p) hs hg (by omega)
        refine ⟨_, S1, rfl, ?_, a2, a3⟩
        rw [if_neg (show ¬ nI ((some p).getD (f g)) = nI (f g) from nI_neI (by show p < _; omega) (by omega) (by show p ≠ _; omega)), show nI ((some p).getD (f g)) = nI p from rfl, a1, gBp_s]
    · left
      rw [if_neg z, if_neg (fun y => z ((iI_lt (by omega) (by omega) (by omega) (by omega)).mp y))]
      exact ⟨rfl, rfl⟩
