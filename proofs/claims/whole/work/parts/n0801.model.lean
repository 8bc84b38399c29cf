/-! loops; the reference's small functions -/
theorem forE {α β : Type} (L : Nat → α → Nat → β) (P : β → Prop) (I : Nat → α → Prop) (n : Nat) (hs : ∀ m g a, g < n → I g a → P (L (m + 1) a g) ∨ ∃ a', I (g + 1) a' ∧ L (m + 1) a g = L m a' (g + 1)) (he : ∀ m a, I n a → P (L (m + 1) a n)) : ∀ k m g a, g + k = n → k < m → I g a → P (L m a g) := by
  intro k
  induction k with
  | zero =>
    intro m g a hg hm hi
    obtain ⟨m, rfl⟩ : ∃ j, m = j + 1 := ⟨m - 1, by omega⟩
    have hg : g = n := by omega
    subst hg
    exact he m a hi
  | succ k ih =>
    intro m g a hg hm hi
    obtain ⟨m, rfl⟩ : ∃ j, m = j + 1 := ⟨m - 1, by omega⟩
    rcases hs m g a (by omega) hi with h | ⟨a', hi', e⟩
    · exact h
    · rw [e]
      exact ih m (g + 1) a' (by omega) (by omega) hi'
/-- from 0, with the great fuel -/
theorem forFU {α β : Type} (L : Nat → α → Nat → β) (P : β → Prop) (I : Nat → α → Prop) (n : Nat) (a : α) (hn : n < 5000) (hs : ∀ m g a, g < n → I g a → P (L (m + 1) a g) ∨ ∃ a', I (g + 1) a' ∧ L (m + 1) a g = L m a' (g + 1)) (he : ∀ m a, I n a → P (L (m + 1) a n)) (h0 : I 0 a) : P (L gFU a 0) := forE L P I n hs he n gFU 0 a (by omega) (show n < 5000 from hn) h0
theorem gBp_s {α τ : Type} (x : α) (k : α → Option τ) : gBp (some x) k = k x := rfl
theorem gBd_s {α τ : Type} (x : α) (S : gSt) (k : α → gSt → Option τ) : gBd (some (x, S)) k = k x S := rfl
theorem gL_s {α τ : Type} (x : α) (k : α → Option τ) : gL x k = k x := rfl
theorem nI_nleI {a b : Nat} (h : a < b) (hb : b < 2 ^ 31) : ¬ nI b ≤ nI a := nI_ge h hb
theorem nI_neI {a b : Nat} (ha : a < 2 ^ 31) (hb : b < 2 ^ 31) (h : a ≠ b) : ¬ nI a = nI b := fun e => h ((nI_eq ha hb).mp e)
/-- the guests that the reference has -/
def mN (S : gSt) (n : Nat) : Prop := gR S 79 0 = nI n ∧ 1 ≤ n ∧ n ≤ 8
theorem m_guests {S : gSt} {n : Nat} (h : mN S n) : fX11_guests S = some (nI n) := by
  unfold fX11_guests
  rw [gC_ok (by decide), show gN (0 : Int32) = 0 from rfl, h.1]
theorem m_in (a b c : Int32) (S : gSt) : fX11_in a b c S = some (if b ≤ a ∧ a ≤ c then 1 else 0) := by
  unfold fX11_in
  by_cases h1 : a < b
  · rw [if_pos h1, if_neg (fun h => absurd h.1 (Int32.not_le.mpr h1))]
  · rw [if_neg h1]
    by_cases h2 : c < a
    · rw [if_pos h2, if_neg (fun h => absurd h.2 (Int32.not_le.mpr h2))]
    · rw [if_neg h2, if_pos ⟨Int32.not_lt.mp h1, Int32.not_lt.mp h2⟩]
/-- an int that is one of n -/
def isB (x : Int32) (n : Nat) : Prop := ∃ g : Nat, g < n ∧ x = nI g
theorem in_B {x : Int32} {n : Nat} (h0 : 1 ≤ n) (hn : n ≤ 5000) : (0 ≤ x ∧ x ≤ nI n - 1) ↔ isB x n := by
  have e : nI n - 1 = nI (n - 1) := by
    obtain ⟨m, rfl⟩ : ∃ m, n = m + 1 := ⟨n - 1, by omega⟩
    rw [nI_pred, Nat.add_sub_cancel]
  rw [e]
  constructor
  · intro h
    obtain ⟨j, hj, rfl⟩ := nI_of2 (n := n - 1) (nI_toInt (by omega)) (Int32.not_lt.mpr h.1) h.2
    exact ⟨j, by omega, rfl⟩
  · rintro ⟨g, hg, rfl⟩
    exact ⟨nI_pos' (by omega), nI_le (by omega) (by omega)⟩
theorem m_inB {x : Int32} {n : Nat} (h0 : 1 ≤ n) (hn : n ≤ 5000) (S : gSt) : fX11_in x 0 (nI n - 1) S = some (1 : Int32) ∧ isB x n ∨ fX11_in x 0 (nI n - 1) S = some (0 : Int32) ∧ ¬ isB x n := by
  rw [m_in]
  by_cases h : 0 ≤ x ∧ x ≤ nI n - 1
  · left; exact ⟨by rw [if_pos h], (in_B h0 hn).mp h⟩
  · right; exact ⟨by rw [if_neg h], fun z => h ((in_B h0 hn).mpr z)⟩
theorem m_isGuest {S : gSt} {n : Nat} (h : mN S n) (x : Int32) : fX11_isGuest x S = some (1 : Int32) ∧ isB x n ∨ fX11_isGuest x S = some (0 : Int32) ∧ ¬ isB x n := by
  unfold fX11_isGuest
  rw [m_guests h, gBp_s]
  rcases m_inB (x := x) h.2.1 (by have := h.2.2; omega) S with ⟨e, hb⟩ | ⟨e, hb⟩
  · left; rw [e, gBp_s, gC_ok (by decide)]; exact ⟨rfl, hb⟩
  · right; rw [e, gBp_s, gC_ok (by decide)]; exact ⟨rfl, hb⟩
theorem m_areTwo {S : gSt} {n : Nat} (h : mN S n) (x y : Int32) : fX11_areTwo x y S = some (1 : Int32) ∧ (isB x n ∧ isB y n ∧ x ≠ y) ∨ fX11_areTwo x y S = some (0 : Int32) ∧ ¬ (isB x n ∧ isB y n ∧ x ≠ y) := by
  unfold fX11_areTwo
  rcases m_isGuest h x with ⟨e, hb⟩ | ⟨e, hb⟩
  · rw [e, gBp_s, if_neg (by decide)]
    rcases m_isGuest h y with ⟨e2, hb2⟩ | ⟨e2, hb2⟩
    · rw [e2, gBp_s, if_neg (by decide)]
      by_cases hxy : x = y
      · right; rw [if_pos hxy]; exact ⟨rfl, fun z => z.2.2 hxy⟩
      · left; rw [if_neg hxy]; exact ⟨rfl, hb, hb2, hxy⟩
    · right; rw [e2, gBp_s, if_pos rfl]; exact ⟨rfl, fun z => hb2 z.2.1⟩
  · right; rw [e, gBp_s, if_pos rfl]; exact ⟨rfl, fun z => hb z.1⟩
/-- a row at a position: its first n places, as small numbers -/
def rowAt (S : gSt) (r n : Nat) (f : Nat → Nat) : Prop := ∀ g, g < n → gR S r g = nI (f g)
/-- how many parties a row has: one more than its greatest number -/
def pts (f : Nat → Nat) : Nat → Nat
  | 0 => 0
  | g + 1 => if f g < pts f g then pts f g else f g + 1
theorem pts_s (f : Nat → Nat) (g : Nat) : pts f (g + 1) = if f g < pts f g then pts f g else f g + 1 := rfl
theorem pts_le {f : Nat → Nat} {B : Nat} : ∀ {n : Nat}, (∀ g, g < n → f g < B) → pts f n ≤ B
  | 0, _ => Nat.zero_le _
  | n + 1, h => by
    rw [pts_s]
    have h1 := pts_le (n := n) (fun g hg => h g (by omega))
    have h2 := h n (by omega)
    split <;> omega
theorem lt_pts {f : Nat → Nat} : ∀ {n g : Nat}, g < n → f g < pts f n
  | 0, _, h => absurd h (Nat.not_lt_zero _)
  | n + 1, g, h => by
    rw [pts_s]
    by_cases e : g = n
    · subst e; split <;> omega
    · have := lt_pts (f := f) (n := n) (g := g) (by omega)
      split <;> omega
theorem m_partiesOf {S : gSt} {n r : Nat} {f : Nat → Nat} (h : mN S n) (hr : n ≤ (gLay r).2) (hr2 : (gLay r).2 ≤ 5000) (hf : rowAt S r n f) (hb : ∀ g, g < n → f g < 1000000) : fX11_partiesOf r S = some (nI (pts f n)) := by
  unfold fX11_partiesOf
  have h8 := h.2.2
  refine forFU (fun m a g => fX11_partiesOf_L4 r S m a (nI g)) (fun o => o = some (nI (pts f n))) (fun g a => a = nI (pts f g)) n 0 (by omega) ?_ ?_ rfl
  · intro m g a hg ha
    subst ha
    right
    have hp := pts_le (f := f) (n := g) (B := 1000000) (fun g' h' => hb g' (by omega))
    have hbg := hb g hg
    refine ⟨nI (pts f (g + 1)), rfl, ?_⟩
    show fX11_partiesOf_L4 r S (m + 1) (nI (pts f g)) (nI g) = fX11_partiesOf_L4 r S m (nI (pts f (g + 1))) (nI (g + 1))
    rw [fX11_partiesOf_L4, m_guests h, gBp_s, if_neg (nI_nleI hg (by omega)), gC_ok (gIn_ok (by omega) (by omega)), gC_ok (gIn_ok (by omega) (by omega)), gL_s, gN_nI (by omega), hf g hg, nI_1, nI_1]
    rw [pts_s]
    by_cases hc : f g < pts f g
    · rw [if_pos (nI_lt hc (by omega)), if_pos hc]
    · rw [if_neg (nI_nlt (by omega) (by omega)), if_neg hc]
  · intro m a ha
    subst ha
    show fX11_partiesOf_L4 r S (m + 1) (nI (pts f n)) (nI n) = _
    rw [fX11_partiesOf_L4, m_guests h, gBp_s, if_pos (nI_le (Nat.le_refl n) (by omega))]
/-- how many of the first n are so -/
def cn (p : Nat → Bool) : Nat → Nat
  | 0 => 0
  | g + 1 => cn p g + (if p g then 1 else 0)
theorem cn_s (p : Nat → Bool) (g : Nat) : cn p (g + 1) = cn p g + (if p g then 1 else 0) := rfl
theorem cn_le (p : Nat → Bool) : ∀ n, cn p n ≤ n
  | 0 => Nat.le_refl _
  | n + 1 => by
    have := cn_le p n
    rw [cn_s]
    split <;> omega
theorem m_sizeOf {S : gSt} {n r : Nat} {f : Nat → Nat} {q : Nat} (h : mN S n) (hr : n ≤ (gLay r).2) (hr2 : (gLay r).2 ≤ 5000) (hf : rowAt S r n f) (hb : ∀ g, g < n → f g < 1000000) (hq : q < 1000000) : fX11_sizeOf r (nI q) S = some (nI (cn (fun g => decide (f g = q)) n)) := by
  unfold fX11_sizeOf
  have h8 := h.2.2
  refine forFU (fun m a g => fX11_sizeOf_L5 r S m (nI q) a (nI g)) (fun o => o = some (nI (cn (fun g => decide (f g = q)) n))) (fun g a => a = nI (cn (fun g => decide (f g = q)) g)) n 0 (by omega) ?_ ?_ rfl
  · intro m g a hg ha
    subst ha
    right
    have hbg := hb g hg
    refine ⟨nI (cn (fun g => decide (f g = q)) (g + 1)), rfl, ?_⟩
    show fX11_sizeOf_L5 r S (m + 1) (nI q) (nI (cn (fun g => decide (f g = q)) g)) (nI g) = fX11_sizeOf_L5 r S m (nI q) (nI (cn (fun g => decide (f g = q)) (g + 1))) (nI (g + 1))
    rw [fX11_sizeOf_L5, m_guests h, gBp_s, if_neg (nI_nleI hg (by omega)), gC_ok (gIn_ok (by omega) (by omega)), gN_nI (by omega), hf g hg, nI_1, gL_s, gL_s, nI_1]
    rw [cn_s]
    by_cases hc : f g = q
    · rw [if_pos (by rw [hc]), hc]; simp
    · rw [if_neg (nI_neI (by omega) (by omega) hc)]
      simp [hc, Int32.add_zero]
  · intro m a ha
    subst ha
    show fX11_sizeOf_L5 r S (m + 1) (nI q) (nI (cn (fun g => decide (f g = q)) n)) (nI n) = _
    rw [fX11_sizeOf_L5, m_guests h, gBp_s, if_pos (nI_le (Nat.le_refl n) (by omega))]
