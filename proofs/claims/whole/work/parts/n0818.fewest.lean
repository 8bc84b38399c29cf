/-! the fewest who must go; needs: 0800 0801 0802 0803 0804 0805 0806 0807 0808 0809 0810 0816 -/
/-- how many are in party p of f and in party q of k -/
def cm (f k : Nat → Nat) (n p q : Nat) : Nat := cn (fun g => decide (f g = p) && decide (k g = q)) n
theorem cm_le (f k : Nat → Nat) (n p q : Nat) : cm f k n p q ≤ n := cn_le _ _
theorem cm_0 {f k : Nat → Nat} {n p q : Nat} (h : pts k n ≤ q) : cm f k n p q = 0 := by
  unfold cm
  have : cn (fun g => decide (f g = p) && decide (k g = q)) n = cn (fun _ => false) n := cn_congr (fun g hg => by
    have := lt_pts (f := k) hg
    rw [decide_eq_false (show ¬ k g = q by omega), Bool.and_false])
  rw [this]
  have z : ∀ m, cn (fun _ => false) m = 0 := fun m => by induction m with | zero => rfl | succ m ih => rw [cn_s, ih]; rfl
  exact z n
/-- the class's way: party by party; the loop over the parties of the other -/
def lpq (c : Nat → Nat) (t : Nat) (rec : Nat → Nat) (a : Nat) : Nat → Nat
  | 0 => a
  | q + 1 => if 0 < c q ∧ t.testBit q = false then max (lpq c t rec a q) (c q + rec (t ||| 2 ^ q)) else lpq c t rec a q
theorem lpq_s (c : Nat → Nat) (t : Nat) (rec : Nat → Nat) (a q : Nat) : lpq c t rec a (q + 1) = if 0 < c q ∧ t.testBit q = false then max (lpq c t rec a q) (c q + rec (t ||| 2 ^ q)) else lpq c t rec a q := rfl
def By (c : Nat → Nat → Nat) (Q : Nat) : Nat → Nat → Nat → Nat
  | 0, _, _ => 0
  | d + 1, p, t => lpq (c p) t (fun t' => By c Q d (p + 1) t') (By c Q d (p + 1) t) Q
theorem By_s (c : Nat → Nat → Nat) (Q d p t : Nat) : By c Q (d + 1) p t = lpq (c p) t (fun t' => By c Q d (p + 1) t') (By c Q d (p + 1) t) Q := rfl
theorem lpq_ge (c : Nat → Nat) (t : Nat) (rec : Nat → Nat) (a : Nat) : ∀ Q, a ≤ lpq c t rec a Q
  | 0 => Nat.le_refl _
  | Q + 1 => by
    have := lpq_ge c t rec a Q
    rw [lpq_s]; split <;> omega
theorem lpq_ge1 {c : Nat → Nat} {t : Nat} {rec : Nat → Nat} {a q : Nat} : ∀ {Q : Nat}, q < Q → 0 < c q → t.testBit q = false → c q + rec (t ||| 2 ^ q) ≤ lpq c t rec a Q
  | 0, h, _, _ => absurd h (Nat.not_lt_zero _)
  | Q + 1, h, h1, h2 => by
    rw [lpq_s]
    by_cases e : q = Q
    · subst e; rw [if_pos ⟨h1, h2⟩]; omega
    · have := lpq_ge1 (rec := rec) (a := a) (show q < Q by omega) h1 h2
      split <;> omega
theorem lpq_cases (c : Nat → Nat) (t : Nat) (rec : Nat → Nat) (a : Nat) : ∀ Q, lpq c t rec a Q = a ∨ ∃ q, q < Q ∧ 0 < c q ∧ t.testBit q = false ∧ lpq c t rec a Q = c q + rec (t ||| 2 ^ q)
  | 0 => Or.inl rfl
  | Q + 1 => by
    rw [lpq_s]
    by_cases z : 0 < c Q ∧ t.testBit Q = false
    · rw [if_pos z]
      rcases Nat.le_total (lpq c t rec a Q) (c Q + rec (t ||| 2 ^ Q)) with y | y
      · right; exact ⟨Q, by omega, z.1, z.2, Nat.max_eq_right y⟩
      · rw [Nat.max_eq_left y]
        rcases lpq_cases c t rec a Q with u | ⟨q, h1, h2⟩
        · left; exact u
        · right; exact ⟨q, by omega, h2⟩
    · rw [if_neg z]
      rcases lpq_cases c t rec a Q with u | ⟨q, h1, h2⟩
      · left; exact u
      · right; exact ⟨q, by omega, h2⟩
theorem By_le {c : Nat → Nat → Nat} {Q : Nat} (hc : ∀ p q, c p q ≤ 8) : ∀ d p t, By c Q d p t ≤ 8 * d
  | 0, _, _ => Nat.le_refl _
  | d + 1, p, t => by
    rw [By_s]
    rcases lpq_cases (c p) t (fun t' => By c Q d (p + 1) t') (By c Q d (p + 1) t) Q with u | ⟨q, h1, h2, h3, h4⟩
    · rw [u]; have := By_le (Q := Q) hc d (p + 1) t; omega
    · rw [h4]; have := By_le (Q := Q) hc d (p + 1) (t ||| 2 ^ q); have := hc p q; show c p q + By c Q d (p + 1) (t ||| 2 ^ q) ≤ _; omega
theorem By_anti (c : Nat → Nat → Nat) (Q : Nat) (x : Nat) : ∀ d p t, By c Q d p (t ||| 2 ^ x) ≤ By c Q d p t
  | 0, _, _ => Nat.le_refl _
  | d + 1, p, t => by
    rw [By_s c Q d p (t ||| 2 ^ x)]
    rcases lpq_cases (c p) (t ||| 2 ^ x) (fun t' => By c Q d (p + 1) t') (By c Q d (p + 1) (t ||| 2 ^ x)) Q with u | ⟨q, h1, h2, h3, h4⟩
    · rw [u]
      exact Nat.le_trans (By_anti c Q x d (p + 1) t) (lpq_ge _ _ _ _ _)
    · rw [h4]
      have h3' : t.testBit q = false := by
        rw [Nat.testBit_or, Bool.or_eq_false_iff] at h3; exact h3.1
      have h5 := lpq_ge1 (c := c p) (t := t) (rec := fun t' => By c Q d (p + 1) t') (a := By c Q d (p + 1) t) h1 h2 h3'
      have h6 := By_anti c Q x d (p + 1) (t ||| 2 ^ q)
      have e : t ||| 2 ^ x ||| 2 ^ q = t ||| 2 ^ q ||| 2 ^ x := by rw [Nat.or_assoc, Nat.or_comm (2 ^ x), ← Nat.or_assoc]
      rw [By_s]
      show c p q + By c Q d (p + 1) (t ||| 2 ^ x ||| 2 ^ q) ≤ _
      rw [e]
      have h5 : c p q + By c Q d (p + 1) (t ||| 2 ^ q) ≤ lpq (c p) t (fun t' => By c Q d (p + 1) t') (By c Q d (p + 1) t) Q := h5
      omega
theorem c_stay {S : gSt} {a0 a1 n : Nat} {f k : Nat → Nat} (hf : St S a0 n f) (hk : St S a1 n k) : ∀ d p t F, p + d = pts f n → d < F → t < 256 → fSY F a0 a1 (nI p) (nI t) S = some (nI (By (cm f k n) (pts k n) d p t)) := by
  have h8 := hf.2.2.2.2.2.2
  have p8 := hf.pts
  have q8 := hk.pts
  have f4 := hf.2.1
  have k4 := hk.2.1
  intro d
  induction d with
  | zero =>
    intro p t F hp hF ht
    obtain ⟨F, rfl⟩ : ∃ j, F = j + 1 := ⟨F - 1, by omega⟩
    rw [fSY]
    unfold fX3_stayers
    rw [show fX7_parties a0 S = some (nI (pts f n)) from congrArg some f4, gBp_s, if_pos (nI_le (by omega) (by omega))]
    rfl
  | succ d ih =>
    intro p t F hp hF ht
    obtain ⟨F, rfl⟩ : ∃ j, F = j + 1 := ⟨F - 1, by omega⟩
    have hc8 : ∀ p q, cm f k n p q ≤ 8 := fun p q => Nat.le_trans (cm_le f k n p q) h8
    rw [fSY]
    unfold fX3_stayers
    rw [show fX7_parties a0 S = some (nI (pts f n)) from congrArg some f4, gBp_s, if_neg (nI_nleI (by omega) (by omega)), l8, if_pos (nI_lt (by omega) (by omega)), nI_1, ih (p + 1) t F (by omega) (by omega) ht, gBp_s, By_s]
    refine forFU (fun m x q => fX3_stayers_L30 (fSY F) a0 a1 S m (nI p) (nI t) x (nI q)) (fun x => x = some (nI (lpq (cm f k n p) t (fun t' => By (cm f k n) (pts k n) d (p + 1) t') (By (cm f k n) (pts k n) d (p + 1) t) (pts k n)))) (fun q x => x = nI (lpq (cm f k n p) t (fun t' => By (cm f k n) (pts k n) d (p + 1) t') (By (cm f k n) (pts k n) d (p + 1) t) q)) (pts k n) _ (by omega) ?_ ?_ rfl
    · rintro m q x hq rfl
      right
      refine ⟨_, rfl, ?_⟩
      show fX3_stayers_L30 (fSY F) a0 a1 S (m + 1) (nI p) (nI t) _ (nI q) = fX3_stayers_L30 (fSY F) a0 a1 S m (nI p) (nI t) _ (nI (q + 1))
      have u1 := mk_lt8 (fun g => decide (f g = p)) h8
      have hbc : fJ6_bitCount_0f7a4 (nI (mk (fun g => decide (f g = p)) n &&& mk (fun g => decide (k g = q)) n)) S = some (nI (cm f k n p q)) := by
        rw [bc_ok S (and_lt8 _ u1), cn_ext (p := fun g => decide (f g = p) && decide (k g = q)) h8 (fun g _ => by rw [Nat.testBit_and, mk_bit, mk_bit]; cases decide (g < n) <;> cases decide (f g = p) <;> rfl)]
        rfl
      have hcq := hc8 p q
      have hb1 : lpq (cm f k n p) t (fun t' => By (cm f k n) (pts k n) d (p + 1) t') (By (cm f k n) (pts k n) d (p + 1) t) q ≤ 8 * d + 8 := by
        rcases lpq_cases (cm f k n p) t (fun t' => By (cm f k n) (pts k n) d (p + 1) t') (By (cm f k n) (pts k n) d (p + 1) t) q with u | ⟨q', h1, h2, h3, h4⟩
        · rw [u]; have := By_le (Q := pts k n) hc8 d (p + 1) t; omega
        · rw [h4]
          have := By_le (Q := pts k n) hc8 d (p + 1) (t ||| 2 ^ q')
          have := hc8 p q'
          show cm f k n p q' + By (cm f k n) (pts k n) d (p + 1) (t ||| 2 ^ q') ≤ _
          omega
      have hb2 := By_le (Q := pts k n) hc8 d (p + 1) (t ||| 2 ^ q)
      have ht2 : t ||| 2 ^ q < 256 := Nat.or_lt_two_pow (n := 8) ht (Nat.pow_lt_pow_right (by decide) (by omega))
      rw [fX3_stayers_L30, show fX7_parties a1 S = some (nI (pts k n)) from congrArg some k4, gBp_s, if_neg (nI_nleI hq (by omega)), c_setOf hf (show p < pts f n by omega), gBp_s, c_setOf hk hq, gBp_s, nI_andI, hbc, gBp_s, l31, nI_31 (by omega), l1, nI_shl (by omega), Nat.one_mul, nI_andI, nI_orI, nI_add, nI_add, ih (p + 1) (t ||| 2 ^ q) F (by omega) (by omega) ht2, gBp_s, gL_s, nI_add, lpq_s]
      generalize hX : lpq (cm f k n p) t (fun t' => By (cm f k n) (pts k n) d (p + 1) t') (By (cm f k n) (pts k n) d (p + 1) t) q = X at hb1
      generalize hY : By (cm f k n) (pts k n) d (p + 1) (t ||| 2 ^ q) = Y at hb2
      by_cases z1 : 0 < cm f k n p q
      · rw [l0, if_neg (nI_nleI z1 (by omega))]
        cases z2 : t.testBit q with
        | false =>
          rw [if_pos (bit_f z2), if_pos (show 0 < cm f k n p q ∧ false = false from ⟨z1, rfl⟩)]
          by_cases z3 : X < cm f k n p q + Y
          · rw [if_pos (nI_lt z3 (by omega)), Nat.max_eq_right (by omega)]
          · rw [if_neg (nI_nlt (by omega) (by omega)), Nat.max_eq_left (by omega)]
        | true => rw [if_neg (bit_t ht z2), if_neg (show ¬ (0 < cm f k n p q ∧ true = false) from fun y => absurd y.2 (by decide))]
      · rw [l0, if_pos (nI_le (by omega) (by omega)), if_neg (show ¬ (0 < cm f k n p q ∧ t.testBit q = false) from fun y => z1 y.1)]
    · rintro m x rfl
      show fX3_stayers_L30 (fSY F) a0 a1 S (m + 1) (nI p) (nI t) _ (nI (pts k n)) = _
      rw [fX3_stayers_L30, show fX7_parties a1 S = some (nI (pts k n)) from congrArg some k4, gBp_s, if_pos (nI_le (Nat.le_refl _) (by omega))]
/-- the reference's way: by sets of parties of the other that are taken -/
def rm (s q : Nat) : Nat := s &&& (2 ^ q ^^^ 4294967295)
theorem rm_ok {s q : Nat} (hs : s < 256) (hq : q < 8) (hb : s.testBit q = true) : rm s q < s ∧ rm s q ||| 2 ^ q = s ∧ (rm s q).testBit q = false := by
  have : ∀ s : Fin 256, ∀ q : Fin 8, s.val.testBit q.val = true → rm s.val q.val < s.val ∧ rm s.val q.val ||| 2 ^ q.val = s.val ∧ (rm s.val q.val).testBit q.val = false := by decide +kernel
  exact this ⟨s, hs⟩ ⟨q, hq⟩ hb
theorem rm_or {s q : Nat} (hs : s < 256) (hq : q < 8) (hb : s.testBit q = false) : s ||| 2 ^ q < 256 ∧ rm (s ||| 2 ^ q) q = s ∧ (s ||| 2 ^ q).testBit q = true := by
  have : ∀ s : Fin 256, ∀ q : Fin 8, s.val.testBit q.val = false → s.val ||| 2 ^ q.val < 256 ∧ rm (s.val ||| 2 ^ q.val) q.val = s.val ∧ (s.val ||| 2 ^ q.val).testBit q.val = true := by decide +kernel
  exact this ⟨s, hs⟩ ⟨q, hq⟩ hb
def om : Option Nat → Nat → Nat
  | none, v => v
  | some u, v => max u v
def aq (c : Nat → Nat) (A : Nat → Option Nat) (s : Nat) : Nat → Option Nat
  | 0 => A s
  | q + 1 => if s.testBit q = true then (match A (rm s q) with | none => aq c A s q | some u => some (om (aq c A s q) (u + c q))) else aq c A s q
theorem aq_s (c : Nat → Nat) (A : Nat → Option Nat) (s q : Nat) : aq c A s (q + 1) = if s.testBit q = true then (match A (rm s q) with | none => aq c A s q | some u => some (om (aq c A s q) (u + c q))) else aq c A s q := rfl
def Ay (c : Nat → Nat → Nat) : Nat → Nat → Option Nat
  | 0, s => if s = 0 then some 0 else none
  | p + 1, s => aq (c p) (Ay c p) s 8
theorem aq_none {c : Nat → Nat} {A : Nat → Option Nat} {s q : Nat} (h : s.testBit q = true) (h2 : A (rm s q) = none) : aq c A s (q + 1) = aq c A s q := by rw [aq_s, if_pos h, h2]
theorem aq_some {c : Nat → Nat} {A : Nat → Option Nat} {s q u : Nat} (h : s.testBit q = true) (h2 : A (rm s q) = some u) : aq c A s (q + 1) = some (om (aq c A s q) (u + c q)) := by rw [aq_s, if_pos h, h2]
theorem aq_no {c : Nat → Nat} {A : Nat → Option Nat} {s q : Nat} (h : s.testBit q = false) : aq c A s (q + 1) = aq c A s q := by rw [aq_s, if_neg (by rw [h]; decide)]
theorem om_ge1 (o : Option Nat) (v : Nat) : v ≤ om o v := by cases o with | none => exact Nat.le_refl _ | some u => exact Nat.le_max_right _ _
theorem aq_ge {c : Nat → Nat} {A : Nat → Option Nat} {s v : Nat} (h : A s = some v) : ∀ q, ∃ v', aq c A s q = some v' ∧ v ≤ v'
  | 0 => ⟨v, h, Nat.le_refl _⟩
  | q + 1 => by
    obtain ⟨v', h1, h2⟩ := aq_ge (c := c) h q
    cases hb : s.testBit q with
    | false => rw [aq_no hb]; exact ⟨v', h1, h2⟩
    | true =>
      cases hr : A (rm s q) with
      | none => rw [aq_none hb hr]; exact ⟨v', h1, h2⟩
      | some u =>
        rw [aq_some hb hr, h1]
        exact ⟨max v' (u + c q), rfl, by omega⟩
theorem aq_ge2 {c : Nat → Nat} {A : Nat → Option Nat} {s x u : Nat} (hb : s.testBit x = true) (hr : A (rm s x) = some u) : ∀ q, x < q → ∃ v', aq c A s q = some v' ∧ u + c x ≤ v'
  | 0, h => absurd h (Nat.not_lt_zero _)
  | q + 1, h => by
    by_cases e : x = q
    · subst e
      rw [aq_some hb hr]
      exact ⟨_, rfl, om_ge1 _ _⟩
    · obtain ⟨v', h1, h2⟩ := aq_ge2 (c := c) hb hr q (by omega)
      cases hb' : s.testBit q with
      | false => rw [aq_no hb']; exact ⟨v', h1, h2⟩
      | true =>
        cases hr' : A (rm s q) with
        | none => rw [aq_none hb' hr']; exact ⟨v', h1, h2⟩
        | some u' =>
          rw [aq_some hb' hr', h1]
          exact ⟨max v' (u' + c q), rfl, by omega⟩
theorem aq_cases {c : Nat → Nat} {A : Nat → Option Nat} {s : Nat} : ∀ q v, aq c A s q = some v → A s = some v ∨ ∃ x, x < q ∧ s.testBit x = true ∧ ∃ u, A (rm s x) = some u ∧ v = u + c x
  | 0, v, h => Or.inl h
  | q + 1, v, h => by
    have hup : (A s = some v ∨ ∃ x, x < q ∧ s.testBit x = true ∧ ∃ u, A (rm s x) = some u ∧ v = u + c x) → (A s = some v ∨ ∃ x, x < q + 1 ∧ s.testBit x = true ∧ ∃ u, A (rm s x) = some u ∧ v = u + c x) := fun z => z.imp id (fun ⟨x, h1, h2⟩ => ⟨x, by omega, h2⟩)
    cases hb : s.testBit q with
    | false => rw [aq_no hb] at h; exact hup (aq_cases q v h)
    | true =>
      cases hr : A (rm s q) with
      | none => rw [aq_none hb hr] at h; exact hup (aq_cases q v h)
      | some u =>
        rw [aq_some hb hr] at h
        have h := Option.some.inj h
        cases hq : aq c A s q with
        | none =>
          rw [hq] at h
          right; exact ⟨q, by omega, hb, u, hr, h.symm⟩
        | some v' =>
          rw [hq] at h
          have h : max v' (u + c q) = v := h
          rcases Nat.le_total v' (u + c q) with y | y
          · right; exact ⟨q, by omega, hb, u, hr, by omega⟩
          · have : v' = v := by omega
            subst this
            exact hup (aq_cases q v' hq)
theorem Ay_le {c : Nat → Nat → Nat} (hc : ∀ p q, c p q ≤ 8) : ∀ p s v, Ay c p s = some v → v ≤ 8 * p
  | 0, s, v, h => by
    unfold Ay at h
    split at h
    · have := Option.some.inj h; omega
    · exact absurd h (by simp)
  | p + 1, s, v, h => by
    rcases aq_cases 8 v h with z | ⟨x, h1, h2, u, h3, h4⟩
    · have := Ay_le hc p s v z; omega
    · have := Ay_le hc p _ u h3
      have := hc p x
      omega
theorem AB_up {c : Nat → Nat → Nat} {P Q : Nat} (hQ : ∀ p q, Q ≤ q → c p q = 0) (hQ8 : Q ≤ 8) : ∀ p d s v, p + d = P → s < 256 → Ay c p s = some v → v + By c Q d p s ≤ By c Q P 0 0 := by
  intro p
  induction p with
  | zero =>
    intro d s v hp hs h
    have hd : d = P := by omega
    subst hd
    unfold Ay at h
    split at h
    · rename_i z
      subst z
      have := Option.some.inj h; omega
    · exact absurd h (by simp)
  | succ p ih =>
    intro d s v hp hs h
    rcases aq_cases 8 v h with z | ⟨x, h1, h2, u, h3, h4⟩
    · have := ih (d + 1) s v (by omega) hs z
      have := lpq_ge (c p) s (fun t' => By c Q d (p + 1) t') (By c Q d (p + 1) s) Q
      rw [By_s] at *
      omega
    · obtain ⟨r1, r2, r3⟩ := rm_ok hs h1 h2
      have i1 := ih (d + 1) (rm s x) u (by omega) (by omega) h3
      rw [By_s] at i1
      by_cases hc : 0 < c p x
      · have hx : x < Q := by
          rcases Nat.lt_or_ge x Q with y | y
          · exact y
          · have := hQ p x y; omega
        have := lpq_ge1 (c := c p) (t := rm s x) (rec := fun t' => By c Q d (p + 1) t') (a := By c Q d (p + 1) (rm s x)) hx hc r3
        have this : c p x + By c Q d (p + 1) (rm s x ||| 2 ^ x) ≤ _ := this
        rw [r2] at this
        omega
      · have a1 := By_anti c Q x d (p + 1) (rm s x)
        rw [r2] at a1
        have a2 := lpq_ge (c p) (rm s x) (fun t' => By c Q d (p + 1) t') (By c Q d (p + 1) (rm s x)) Q
        omega
theorem AB_dn {c : Nat → Nat → Nat} {P Q : Nat} (hQ8 : Q ≤ 8) : ∀ p d, p + d = P → ∃ s v, s < 256 ∧ Ay c p s = some v ∧ By c Q P 0 0 ≤ v + By c Q d p s := by
  intro p
  induction p with
  | zero =>
    intro d hp
    have hd : d = P := by omega
    subst hd
    exact ⟨0, 0, by decide, rfl, by omega⟩
  | succ p ih =>
    intro d hp
    obtain ⟨s, v, h1, h2, h3⟩ := ih (d + 1) (by omega)
    rw [By_s] at h3
    rcases lpq_cases (c p) s (fun t' => By c Q d (p + 1) t') (By c Q d (p + 1) s) Q with z | ⟨q, q1, q2, q3, q4⟩
    · rw [z] at h3
      obtain ⟨v', e1, e2⟩ := aq_ge (c := c p) h2 8
      exact ⟨s, v', h1, e1, by omega⟩
    · rw [q4] at h3
      obtain ⟨r1, r2, r3⟩ := rm_or h1 (by omega) q3
      obtain ⟨v', e1, e2⟩ := aq_ge2 (c := c p) (A := Ay c p) (s := s ||| 2 ^ q) (x := q) (u := v) r3 (by rw [r2]; exact h2) 8 (by omega)
      refine ⟨s ||| 2 ^ q, v', r1, e1, ?_⟩
      have h3 : By c Q P 0 0 ≤ v + (c p q + By c Q d (p + 1) (s ||| 2 ^ q)) := h3
      omega
def mxs (A : Nat → Option Nat) : Nat → Nat
  | 0 => 0
  | s + 1 => max (mxs A s) ((A s).getD 0)
theorem mxs_s (A : Nat → Option Nat) (s : Nat) : mxs A (s + 1) = max (mxs A s) ((A s).getD 0) := rfl
theorem mxs_le {A : Nat → Option Nat} {B : Nat} : ∀ {m : Nat}, (∀ s v, s < m → A s = some v → v ≤ B) → mxs A m ≤ B
  | 0, _ => Nat.zero_le _
  | m + 1, h => by
    have h1 := mxs_le (m := m) (fun s v hs => h s v (by omega))
    rw [mxs_s]
    cases ha : A m with
    | none => show max (mxs A m) 0 ≤ B; omega
    | some v =>
      have := h m v (by omega) ha
      show max (mxs A m) v ≤ B
      omega
theorem mxs_ge {A : Nat → Option Nat} {s v : Nat} : ∀ {m : Nat}, s < m → A s = some v → v ≤ mxs A m
  | 0, h, _ => absurd h (Nat.not_lt_zero _)
  | m + 1, h, ha => by
    rw [mxs_s]
    by_cases e : s = m
    · subst e; rw [ha]; show v ≤ max _ v; omega
    · have := mxs_ge (m := m) (show s < m by omega) ha; omega
theorem AB_eq {c : Nat → Nat → Nat} {P Q : Nat} (hQ : ∀ p q, Q ≤ q → c p q = 0) (hQ8 : Q ≤ 8) : mxs (Ay c P) 256 = By c Q P 0 0 := by
  have h1 : mxs (Ay c P) 256 ≤ By c Q P 0 0 := mxs_le (fun s v hs ha => by
    have := AB_up (P := P) hQ hQ8 P 0 s v (by omega) hs ha
    omega)
  obtain ⟨s, v, e1, e2, e3⟩ := AB_dn (c := c) (P := P) hQ8 P 0 (by omega)
  have h2 := mxs_ge e1 e2
  have h3 : By c Q 0 P s = 0 := rfl
  omega
