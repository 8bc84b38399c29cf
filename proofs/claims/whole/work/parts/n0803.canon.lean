/-! numbering parties anew; needs: 0800 0801 0802 -/
/-- the first below n that is so, or n -/
def ff (p : Nat → Bool) : Nat → Nat
  | 0 => 0
  | n + 1 => if ff p n < n then ff p n else if p n then n else n + 1
theorem ff_s (p : Nat → Bool) (n : Nat) : ff p (n + 1) = if ff p n < n then ff p n else if p n then n else n + 1 := rfl
theorem ff_spec (p : Nat → Bool) : ∀ n, ff p n ≤ n ∧ (ff p n < n → p (ff p n) = true) ∧ (∀ e, e < ff p n → p e = false)
  | 0 => ⟨Nat.le_refl _, fun h => absurd h (Nat.not_lt_zero _), fun e h => absurd h (Nat.not_lt_zero _)⟩
  | n + 1 => by
    obtain ⟨h1, h2, h3⟩ := ff_spec p n
    rw [ff_s]
    by_cases h : ff p n < n
    · rw [if_pos h]
      exact ⟨by omega, fun _ => h2 h, h3⟩
    · rw [if_neg h]
      have e : ff p n = n := by omega
      rw [e] at h3
      by_cases hp : p n = true
      · rw [if_pos hp]
        exact ⟨by omega, fun _ => hp, h3⟩
      · rw [if_neg hp]
        refine ⟨by omega, fun z => absurd z (by omega), fun e' he => ?_⟩
        by_cases q : e' = n
        · subst q; exact Bool.eq_false_iff.mpr hp
        · exact h3 e' (by omega)
theorem ff_u {p : Nat → Bool} {n e : Nat} (h1 : e ≤ n) (h2 : e < n → p e = true) (h3 : ∀ e', e' < e → p e' = false) : ff p n = e := by
  obtain ⟨a, b, c⟩ := ff_spec p n
  rcases Nat.lt_trichotomy (ff p n) e with h | h | h
  · have := b (by omega)
    rw [h3 _ h] at this
    exact absurd this (by decide)
  · exact h
  · have := c e h
    rw [h2 (by omega)] at this
    exact absurd this (by decide)
/-- the first that is labelled like g -/
def fs (l : Nat → Nat) (g : Nat) : Nat := ff (fun e => decide (l e = l g)) g
theorem fs_le (l : Nat → Nat) (g : Nat) : fs l g ≤ g := (ff_spec _ g).1
theorem fs_eq (l : Nat → Nat) (g : Nat) : l (fs l g) = l g := by
  obtain ⟨a, b, -⟩ := ff_spec (fun e => decide (l e = l g)) g
  by_cases h : fs l g < g
  · exact of_decide_eq_true (b h)
  · have : fs l g = g := by have := fs_le l g; omega
    rw [this]
theorem fs_min {l : Nat → Nat} {g e : Nat} (h : e < fs l g) : l e ≠ l g := of_decide_eq_false ((ff_spec (fun e => decide (l e = l g)) g).2.2 e h)
theorem fs_u {l : Nat → Nat} {g e : Nat} (h1 : e ≤ g) (h2 : l e = l g) (h3 : ∀ e', e' < e → l e' ≠ l g) : fs l g = e := ff_u h1 (fun _ => decide_eq_true h2) (fun e' h => decide_eq_false (h3 e' h))
theorem fs_fs (l : Nat → Nat) (g : Nat) : fs l (fs l g) = fs l g := fs_u (Nat.le_refl _) rfl (fun e' h => by rw [fs_eq l g]; exact fs_min h)
/-- whether g is the first so labelled -/
def nw (l : Nat → Nat) (g : Nat) : Bool := decide (fs l g = g)
/-- the parties numbered by their least guests -/
def can (l : Nat → Nat) (g : Nat) : Nat := cn (nw l) (fs l g)
theorem cn_mono (p : Nat → Bool) {a b : Nat} (h : a ≤ b) : cn p a ≤ cn p b := by
  induction b with
  | zero => rw [Nat.le_zero.mp h]; exact Nat.le_refl _
  | succ b ih =>
    by_cases e : a = b + 1
    · rw [e]; exact Nat.le_refl _
    · have := ih (by omega)
      rw [cn_s]; omega
theorem cn_lt {p : Nat → Bool} {a b : Nat} (h : a < b) (hp : p a = true) : cn p a < cn p b := by
  have := cn_mono p (show a + 1 ≤ b from h)
  rw [cn_s, if_pos hp] at this
  omega
theorem cn_congr {p q : Nat → Bool} : ∀ {n : Nat}, (∀ g, g < n → p g = q g) → cn p n = cn q n
  | 0, _ => rfl
  | n + 1, h => by
    rw [cn_s, cn_s, cn_congr (n := n) (fun g hg => h g (by omega)), h n (by omega)]
theorem nw_fs (l : Nat → Nat) (g : Nat) : nw l (fs l g) = true := decide_eq_true (fs_fs l g)
theorem can_nw {l : Nat → Nat} {g : Nat} (h : fs l g = g) : can l g = cn (nw l) g := by unfold can; rw [h]
theorem can_lt (l : Nat → Nat) {g n : Nat} (h : g < n) : can l g < cn (nw l) n := cn_lt (Nat.lt_of_le_of_lt (fs_le l g) h) (nw_fs l g)
theorem can_le (l : Nat → Nat) (g : Nat) : can l g ≤ g := Nat.le_trans (cn_le _ _) (fs_le l g)
theorem can_fs (l : Nat → Nat) (g : Nat) : can l (fs l g) = can l g := by unfold can; rw [fs_fs]
/-- two have one number just where they have one label -/
theorem can_iff (l : Nat → Nat) (a b : Nat) : can l a = can l b ↔ l a = l b := by
  constructor
  · intro h
    have e : fs l a = fs l b := by
      rcases Nat.lt_trichotomy (fs l a) (fs l b) with q | q | q
      · have := cn_lt q (nw_fs l a); unfold can at h; omega
      · exact q
      · have := cn_lt q (nw_fs l b); unfold can at h; omega
    rw [← fs_eq l a, ← fs_eq l b, e]
  · intro h
    have e : fs l a = fs l b := by
      rcases Nat.lt_trichotomy (fs l a) (fs l b) with q | q | q
      · exact absurd ((fs_eq l a).trans h) (fs_min q)
      · exact q
      · exact absurd ((fs_eq l b).trans h.symm) (fs_min q)
    unfold can; rw [e]
/-- only who is labelled like whom counts -/
theorem can_congr {l k : Nat → Nat} {n : Nat} (h : ∀ a b, a < n → b < n → (l a = l b ↔ k a = k b)) : ∀ g, g < n → can l g = can k g := by
  have hf : ∀ g, g < n → fs l g = fs k g := fun g hg => by
    have h1 := fs_le k g
    exact fs_u h1 ((h _ _ (by omega) hg).mpr (fs_eq k g)) (fun e' he => fun z => fs_min he ((h _ _ (by omega) hg).mp z))
  intro g hg
  unfold can
  rw [hf g hg]
  have h1 := fs_le k g
  exact cn_congr (fun e he => by unfold nw; rw [hf e (by omega)])
theorem cn_all {p : Nat → Bool} {n : Nat} : ∀ v, v < cn p n → ∃ e, e < n ∧ p e = true ∧ cn p e = v := by
  induction n with
  | zero => intro v h; exact absurd h (Nat.not_lt_zero _)
  | succ n ih =>
    intro v h
    rw [cn_s] at h
    by_cases q : v < cn p n
    · obtain ⟨e, h1, h2⟩ := ih v q
      exact ⟨e, by omega, h2⟩
    · by_cases hp : p n = true
      · rw [if_pos hp] at h
        exact ⟨n, by omega, hp, by omega⟩
      · rw [if_neg hp] at h; omega
theorem pts_can (l : Nat → Nat) : ∀ n, pts (can l) n = cn (nw l) n
  | 0 => rfl
  | n + 1 => by
    rw [pts_s, cn_s, pts_can l n]
    by_cases h : fs l n = n
    · rw [if_pos (show nw l n = true from decide_eq_true h), can_nw h, if_neg (by omega)]
    · rw [if_neg (show ¬ nw l n = true from fun z => h (of_decide_eq_true z))]
      have h1 : fs l n < n := by have := fs_le l n; omega
      have h2 := cn_lt h1 (nw_fs l n)
      rw [if_pos (show can l n < cn (nw l) n from h2), Nat.add_zero]
/-- a row as the document has it: each party's number is at most one more than those ahead -/
def Can (f : Nat → Nat) (n : Nat) : Prop := ∀ g, g < n → f g ≤ pts f g
theorem Can_can (l : Nat → Nat) (n : Nat) : Can (can l) n := fun g _ => by
  rw [pts_can]
  exact cn_mono _ (fs_le l g)
theorem Can.mono {f : Nat → Nat} {n m : Nat} (h : Can f n) (hm : m ≤ n) : Can f m := fun g hg => h g (by omega)
theorem pts_all {f : Nat → Nat} : ∀ {n : Nat}, Can f n → ∀ v, v < pts f n → ∃ e, e < n ∧ f e = v
  | 0, _, v, h => absurd h (Nat.not_lt_zero _)
  | n + 1, hc, v, h => by
    rw [pts_s] at h
    by_cases q : v < pts f n
    · obtain ⟨e, h1, h2⟩ := pts_all (hc.mono (Nat.le_succ n)) v q
      exact ⟨e, by omega, h2⟩
    · have := hc n (by omega)
      refine ⟨n, by omega, ?_⟩
      split at h <;> omega
theorem pts_leN {f : Nat → Nat} : ∀ {n : Nat}, Can f n → pts f n ≤ n
  | 0, _ => Nat.le_refl _
  | n + 1, h => by
    have h1 := pts_leN (h.mono (Nat.le_succ n))
    have h2 := h n (by omega)
    rw [pts_s]; split <;> omega
theorem Can.lt {f : Nat → Nat} {n g : Nat} (h : Can f n) (hg : g < n) : f g ≤ g := Nat.le_trans (h g hg) (pts_leN (h.mono (by omega)))
theorem Can.lt8 {f : Nat → Nat} {n g : Nat} (h : Can f n) (hn : n ≤ 8) (hg : g < n) : f g < 8 := by have := h.lt hg; omega
/-- such a row is its own numbering -/
theorem can_of_Can {f : Nat → Nat} {n : Nat} (h : Can f n) : ∀ g, g ≤ n → cn (nw f) g = pts f g ∧ (g < n → can f g = f g) := by
  intro g
  induction g using Nat.strongRecOn with
  | ind g ih =>
    intro hg
    have h1 : cn (nw f) g = pts f g := by
      cases g with
      | zero => rfl
      | succ k =>
        obtain ⟨a, b⟩ := ih k (by omega) (by omega)
        have b := b (by omega)
        rw [cn_s, pts_s, a]
        by_cases hf : fs f k = k
        · rw [if_pos (show nw f k = true from decide_eq_true hf)]
          rw [can_nw hf, a] at b
          rw [if_neg (by omega)]; omega
        · rw [if_neg (show ¬ nw f k = true from fun z => hf (of_decide_eq_true z)), Nat.add_zero]
          have h2 : fs f k < k := by have := fs_le f k; omega
          have h3 := lt_pts (f := f) h2
          rw [fs_eq f k] at h3
          rw [if_pos h3]
    refine ⟨h1, fun hl => ?_⟩
    by_cases hf : fs f g = g
    · rw [can_nw hf, h1]
      have h2 := h g hl
      by_cases h3 : f g < pts f g
      · obtain ⟨e, he, hv⟩ := pts_all (h.mono (by omega)) _ h3
        exact absurd hv (fs_min (by omega))
      · omega
    · have h2 : fs f g < g := by have := fs_le f g; omega
      obtain ⟨-, b⟩ := ih _ h2 (by omega)
      rw [← can_fs, b (by omega), fs_eq f g]
theorem can_id {f : Nat → Nat} {n : Nat} (h : Can f n) {g : Nat} (hg : g < n) : can f g = f g := (can_of_Can h g (by omega)).2 hg
theorem pts_congr {f k : Nat → Nat} : ∀ {n : Nat}, (∀ g, g < n → f g = k g) → pts f n = pts k n
  | 0, _ => rfl
  | n + 1, h => by
    rw [pts_s, pts_s, pts_congr (n := n) (fun g hg => h g (by omega)), h n (by omega)]
theorem Can.congr {f k : Nat → Nat} {n : Nat} (h : Can f n) (e : ∀ g, g < n → f g = k g) : Can k n := fun g hg => by
  rw [← e g hg, ← pts_congr (fun a ha => e a (by omega))]
  exact h g hg
/-- two such rows with one pattern are one -/
theorem Can.uniq {f k : Nat → Nat} {n : Nat} (h : Can f n) (h2 : Can k n) (e : ∀ a b, a < n → b < n → (f a = f b ↔ k a = k b)) : ∀ g, g < n → f g = k g := fun g hg => by
  rw [← can_id h hg, ← can_id h2 hg]
  exact can_congr e g hg
/-- a set of guests as one number -/
def mk (p : Nat → Bool) : Nat → Nat
  | 0 => 0
  | g + 1 => mk p g + (if p g then 2 ^ g else 0)
theorem mk_s (p : Nat → Bool) (g : Nat) : mk p (g + 1) = mk p g + (if p g then 2 ^ g else 0) := rfl
theorem mk_lt (p : Nat → Bool) : ∀ n, mk p n < 2 ^ n
  | 0 => Nat.one_pos
  | n + 1 => by
    have := mk_lt p n
    rw [mk_s, Nat.pow_succ]
    split <;> omega
theorem mk_lt8 (p : Nat → Bool) {n : Nat} (h : n ≤ 8) : mk p n < 256 := Nat.lt_of_lt_of_le (mk_lt p n) (Nat.pow_le_pow_right (by decide) h)
theorem mk_congr {p q : Nat → Bool} : ∀ {n : Nat}, (∀ g, g < n → p g = q g) → mk p n = mk q n
  | 0, _ => rfl
  | n + 1, h => by
    rw [mk_s, mk_s, mk_congr (n := n) (fun g hg => h g (by omega)), h n (by omega)]
theorem mk_bit (p : Nat → Bool) : ∀ n g, (mk p n).testBit g = (decide (g < n) && p g)
  | 0, g => by rw [show mk p 0 = 0 from rfl, Nat.zero_testBit]; simp
  | n + 1, g => by
    rw [mk_s]
    have ih := mk_bit p n g
    have hl := mk_lt p n
    by_cases h : p n = true
    · rw [if_pos h, Nat.add_comm]
      by_cases e : g = n
      · subst e
        rw [Nat.testBit_two_pow_add_eq, ih]
        simp [h]
      · by_cases q : g < n
        · rw [Nat.testBit_two_pow_add_gt q, ih]
          simp [q, show g < n + 1 by omega]
        · have : 2 ^ n + mk p n < 2 ^ g := Nat.lt_of_lt_of_le (by rw [Nat.pow_succ]; omega) (Nat.pow_le_pow_right (by decide) (show n + 1 ≤ g by omega))
          rw [Nat.testBit_lt_two_pow this]
          simp [show ¬ g < n + 1 by omega]
    · rw [if_neg h, Nat.add_zero, ih]
      by_cases e : g = n
      · subst e; simp [h]
      · by_cases q : g < n
        · simp [q, show g < n + 1 by omega]
        · simp [q, show ¬ g < n + 1 by omega]
theorem bc_ok (S : gSt) {a : Nat} (ha : a < 256) : fJ6_bitCount_0f7a4 (nI a) S = some (nI (cn (fun g => a.testBit g) 8)) := by
  have h : ∀ a : Fin 256, pcN 8 a.val = cn (fun g => a.val.testBit g) 8 := by decide +kernel
  rw [bitCount_ok S a ha, h ⟨a, ha⟩]
theorem cn_ext {p q : Nat → Bool} {m : Nat} : ∀ {n : Nat}, m ≤ n → (∀ g, g < n → q g = (decide (g < m) && p g)) → cn q n = cn p m
  | 0, h, _ => by rw [Nat.le_zero.mp h]; rfl
  | n + 1, h, e => by
    by_cases hm : m = n + 1
    · subst hm
      exact cn_congr (fun g hg => by rw [e g hg, decide_eq_true hg, Bool.true_and])
    · rw [cn_s, cn_ext (n := n) (by omega) (fun g hg => e g (by omega)), e n (by omega), decide_eq_false (by omega)]
      simp
theorem bc_mk (S : gSt) (p : Nat → Bool) {n : Nat} (h : n ≤ 8) : fJ6_bitCount_0f7a4 (nI (mk p n)) S = some (nI (cn p n)) := by
  rw [bc_ok S (mk_lt8 p h), cn_ext h (fun g _ => mk_bit p n g)]
theorem mk_or (p : Nat → Bool) (g : Nat) : mk p g ||| 2 ^ g = mk p g + 2 ^ g := by
  have := Nat.two_pow_add_eq_or_of_lt (mk_lt p g) 1
  rw [Nat.mul_one] at this
  rw [Nat.or_comm, Nat.add_comm, this]
