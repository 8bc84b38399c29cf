/-! the fewest who must go: the reference; needs: 0800 0801 0802 0803 0804 0805 0806 0807 0808 0809 0810 0816 0818 -/
def eO : Option Nat → Int32
  | none => -9
  | some v => nI v
def A86 (S : gSt) (A : Nat → Option Nat) : Prop := ∀ s, s < 256 → gR S 86 s = eO (A s)
theorem nI_m9 {v : Nat} (h : v < 2 ^ 31) : ¬ nI v ≤ -9 ∧ ¬ nI v = -9 := by
  constructor
  · intro z
    have z := Int32.le_iff_toInt_le.mp z
    rw [nI_toInt h, show (-9 : Int32).toInt = -9 from rfl] at z
    omega
  · intro z
    have z : (nI v).toInt = (-9 : Int32).toInt := congrArg _ z
    rw [nI_toInt h, show (-9 : Int32).toInt = -9 from rfl] at z
    omega
theorem few_in {k59 : Int32 → Int32 → gSt → Option (Int32 × gSt)} {k75 : Int32 → Int32 → Int32 → gSt → Option (Int32 × gSt)} {k82 : Int32 → Int32 → Int32 → Int32 → gSt → Option (Int32 × gSt)} {S : gSt} {n i p s q u : Nat} {o : Option Nat} {f k : Nat → Nat} (h : mN S n) (hf : rowAt S 80 n f) (hk : kAt S i n k) (hi : i < 2) (hC : Can f n) (hD : Can k n) (hs : s < 256) (hq : q < 8) (hp : p < 8) (hr : rm s q < 256) (hu : gR S 86 (rm s q) = nI u) (ho : gR S 86 s = eO o) (hu2 : u < 1000) (ho2 : ∀ v, o = some v → v < 1000) : fX11_fewest_L123 k59 k75 k82 gFU (nI i) (nI p) (nI s) (nI q) 0 0 S = k82 (nI i) (nI p) (nI s) (nI (q + 1)) (gW S 86 s (nI (om o (u + cm f k n p q)))) := by
  have h8 := h.2.2
  refine forFU (fun m y g => fX11_fewest_L123 k59 k75 k82 m (nI i) (nI p) (nI s) (nI q) y (nI g) S) (fun y => y = k82 (nI i) (nI p) (nI s) (nI (q + 1)) (gW S 86 s (nI (om o (u + cm f k n p q))))) (fun g y => y = nI (cn (fun g => decide (f g = p) && decide (k g = q)) g)) n 0 (by omega) ?_ ?_ rfl
  · rintro m g y hg rfl
    right
    refine ⟨_, rfl, ?_⟩
    show fX11_fewest_L123 k59 k75 k82 (m + 1) (nI i) (nI p) (nI s) (nI q) _ (nI g) S = fX11_fewest_L123 k59 k75 k82 m (nI i) (nI p) (nI s) (nI q) _ (nI (g + 1)) S
    have b1 := hC.lt8 h8 hg
    have b2 := hD.lt8 h8 hg
    rw [fX11_fewest_L123, m_guests h, gBp_s, if_neg (nI_nleI hg (by omega)), gC_ok (gIn_ok (by omega) (by omega)), gN_nI (by omega), hf g hg, l40, nI_mul, nI_add, gC_ok (gIn_ok (by omega) (by omega)), gN_nI (by omega), hk g hg, gL_s, gL_s, nI_1, nI_1, Int32.add_zero, cn_s]
    by_cases z1 : f g = p
    · rw [if_pos (show nI (f g) = nI p by rw [z1]), decide_eq_true z1, Bool.true_and]
      by_cases z2 : k g = q
      · rw [if_pos (show nI (k g) = nI q by rw [z2]), decide_eq_true z2, if_pos rfl]
      · rw [if_neg (nI_neI (by omega) (by omega) z2), decide_eq_false z2, if_neg (show ¬ false = true by decide)]; rfl
    · rw [if_neg (nI_neI (by omega) (by omega) z1), decide_eq_false z1, Bool.false_and, if_neg (show ¬ false = true by decide)]; rfl
  · rintro m y rfl
    show fX11_fewest_L123 k59 k75 k82 (m + 1) (nI i) (nI p) (nI s) (nI q) (nI (cm f k n p q)) (nI n) S = _
    have hc := cm_le f k n p q
    have er : nI s &&& (((1 : Int32) <<< (nI q &&& 31)) ^^^ (-1)) = nI (rm s q) := by
      rw [l31, nI_31 (by omega), l1, nI_shl (by omega), Nat.one_mul, show (-nI 1 : Int32) = nI 4294967295 from lm1n, nI_xor, nI_andI]; rfl
    rw [fX11_fewest_L123, m_guests h, gBp_s, if_pos (nI_le (Nat.le_refl _) (by omega)), er, gC_ok (gIn_ok hr (by omega)), gN_nI (by omega), hu, nI_add, gL_s]
    have hgi : gIn (nI s) 256 = true := gIn_ok hs (by omega)
    simp only [hgi, gC_tt, gL_s]
    rw [gN_nI (by omega), nI_1, ho]
    cases o with
    | none => rw [if_neg (show ¬ nI (u + cm f k n p q) ≤ eO none from (nI_m9 (by omega)).1)]; rfl
    | some v =>
      have := ho2 v rfl
      by_cases z : u + cm f k n p q ≤ v
      · rw [if_pos (show nI (u + cm f k n p q) ≤ eO (some v) from nI_le z (by omega)), show om (some v) (u + cm f k n p q) = v from Nat.max_eq_left z]; rfl
      · rw [if_neg (show ¬ nI (u + cm f k n p q) ≤ eO (some v) from nI_ge (by omega) (by omega)), show om (some v) (u + cm f k n p q) = u + cm f k n p q from Nat.max_eq_right (by omega)]
theorem aq_b {c : Nat → Nat} {A : Nat → Option Nat} {s B : Nat} (hc : ∀ q, c q ≤ 8) (hA : ∀ s v, A s = some v → v ≤ B) {q v : Nat} (h : aq c A s q = some v) : v ≤ B + 8 := by
  rcases aq_cases q v h with z | ⟨x, -, -, u, h3, h4⟩
  · have := hA s v z; omega
  · have := hA _ u h3
    have := hc x
    omega
/-- one set of the reference's table -/
theorem few_q {k59 : Int32 → Int32 → gSt → Option (Int32 × gSt)} {k75 : Int32 → Int32 → Int32 → gSt → Option (Int32 × gSt)} {S : gSt} {n i p s : Nat} {A : Nat → Option Nat} {f k : Nat → Nat} (h : mN S n) (hf : rowAt S 80 n f) (hk : kAt S i n k) (hi : i < 2) (hC : Can f n) (hD : Can k n) (hs : s < 256) (hp : p < 8) (hA : ∀ j, j ≤ s → gR S 86 j = eO (A j)) (hb : ∀ j v, A j = some v → v ≤ 100) : ∃ T, fX11_fewest_L82 k59 k75 gFU (nI i) (nI p) (nI s) 0 S = k75 (nI i) (nI p) (nI s + (-1)) T ∧ T.2 = S.2 ∧ (∀ a b, a ≠ 86 ∨ b ≠ s → gR T a b = gR S a b) ∧ gR T 86 s = eO (aq (cm f k n p) A s 8) := by
  have h8 := h.2.2
  refine forS (fun m (T : gSt) q => fX11_fewest_L82 k59 k75 m (nI i) (nI p) (nI s) (nI q) T) (fun y => ∃ T, y = k75 (nI i) (nI p) (nI s + (-1)) T ∧ T.2 = S.2 ∧ (∀ a b, a ≠ 86 ∨ b ≠ s → gR T a b = gR S a b) ∧ gR T 86 s = eO (aq (cm f k n p) A s 8)) (fun q T => T.2 = S.2 ∧ (∀ a b, a ≠ 86 ∨ b ≠ s → gR T a b = gR S a b) ∧ gR T 86 s = eO (aq (cm f k n p) A s q)) 8 ?_ ?_ (by omega) S ⟨rfl, fun _ _ _ => rfl, hA s (Nat.le_refl _)⟩
  · rintro m q T hq ⟨t2, tf, ts⟩
    have hmT : mN T n := ⟨by rw [tf _ _ (by omega)]; exact h.1, h.2⟩
    have hfT : rowAt T 80 n f := fun g hg => by rw [tf _ _ (by omega)]; exact hf g hg
    have hkT : kAt T i n k := fun g hg => by rw [tf _ _ (by omega)]; exact hk g hg
    have er : nI s &&& (((1 : Int32) <<< (nI q &&& 31)) ^^^ (-1)) = nI (rm s q) := by
      rw [l31, nI_31 (by omega), l1, nI_shl (by omega), Nat.one_mul, show (-nI 1 : Int32) = nI 4294967295 from lm1n, nI_xor, nI_andI]; rfl
    have et : ((nI s >>> (nI q &&& 31)) &&& 1) = nI (if s.testBit q then 1 else 0) := by
      rw [l31, nI_31 (by omega), nI_shr (by omega) (by omega), l1, nI_andI, shr1]
    cases hbit : s.testBit q with
    | false =>
      refine ⟨T, ⟨t2, tf, by rw [aq_no hbit]; exact ts⟩, ?_⟩
      show fX11_fewest_L82 k59 k75 (m + 1) (nI i) (nI p) (nI s) (nI q) T = fX11_fewest_L82 k59 k75 m (nI i) (nI p) (nI s) (nI (q + 1)) T
      rw [fX11_fewest_L82, l8, if_neg (nI_nleI hq (by omega)), et, hbit, if_neg (show ¬ nI (if false = true then 1 else 0) = 1 by decide), nI_1]
    | true =>
      obtain ⟨r1, r2, r3⟩ := rm_ok hs hq hbit
      have hrT : gR T 86 (rm s q) = eO (A (rm s q)) := by rw [tf _ _ (by omega)]; exact hA _ (by omega)
      have hst : fX11_fewest_L82 k59 k75 (m + 1) (nI i) (nI p) (nI s) (nI q) T = if eO (A (rm s q)) = -9 then fX11_fewest_L82 k59 k75 m (nI i) (nI p) (nI s) (nI (q + 1)) T else fX11_fewest_L123 k59 k75 (fX11_fewest_L82 k59 k75 m) gFU (nI i) (nI p) (nI s) (nI q) 0 0 T := by
        rw [fX11_fewest_L82, l8, if_neg (nI_nleI hq (by omega)), et, hbit, if_pos (show nI (if true = true then 1 else 0) = 1 by decide), er, gC_ok (gIn_ok (by omega) (by omega)), gN_nI (by omega), hrT, nI_1]
      cases hr : A (rm s q) with
      | none =>
        rw [hr, if_pos (show eO none = -9 from rfl)] at hst
        exact ⟨T, ⟨t2, tf, by rw [aq_none hbit hr]; exact ts⟩, hst⟩
      | some u =>
        have hub := hb _ u hr
        rw [hr] at hrT
        rw [hr, if_neg (show ¬ eO (some u) = -9 from (nI_m9 (by omega)).2)] at hst
        have hin := few_in (k59 := k59) (k75 := k75) (k82 := fX11_fewest_L82 k59 k75 m) (u := u) (o := aq (cm f k n p) A s q) hmT hfT hkT hi hC hD hs hq hp (by omega) hrT ts (by omega) (fun v hv => by
          have := aq_b (B := 100) (fun q => Nat.le_trans (cm_le f k n p q) h8) hb hv
          omega)
        refine ⟨gW T 86 s (nI (om (aq (cm f k n p) A s q) (u + cm f k n p q))), ⟨t2, fun a b hab => ?_, ?_⟩, hst.trans hin⟩
        · rw [gR_W2, if_neg (by omega)]; exact tf a b hab
        · rw [aq_some hbit hr, gR_Ws]; rfl
  · rintro m T ⟨t2, tf, ts⟩
    refine ⟨T, ?_, t2, tf, ts⟩
    show fX11_fewest_L82 k59 k75 (m + 1) (nI i) (nI p) (nI s) (nI 8) T = _
    rw [fX11_fewest_L82, l8, if_pos (nI_le (Nat.le_refl _) (by omega))]
theorem few_s {k59 : Int32 → Int32 → gSt → Option (Int32 × gSt)} {n i p : Nat} {A : Nat → Option Nat} {f k : Nat → Nat} (hi : i < 2) (hC : Can f n) (hD : Can k n) (hp : p < 8) (hb : ∀ j v, A j = some v → v ≤ 100) : ∀ (s m : Nat) (S : gSt), mN S n → rowAt S 80 n f → kAt S i n k → s < 256 → s + 1 < m → (∀ j, j ≤ s → gR S 86 j = eO (A j)) → ∃ T, fX11_fewest_L75 k59 m (nI i) (nI p) (nI s) S = k59 (nI i) (nI (p + 1)) T ∧ T.2 = S.2 ∧ (∀ a b, a ≠ 86 ∨ s < b → gR T a b = gR S a b) ∧ ∀ j, j ≤ s → gR T 86 j = eO (aq (cm f k n p) A j 8) := by
  intro s
  induction s with
  | zero =>
    intro m S h hf hk hs hm hA
    obtain ⟨m, rfl⟩ : ∃ j, m = j + 2 := ⟨m - 2, by omega⟩
    obtain ⟨T, e1, e2, e3, e4⟩ := few_q (k59 := k59) (k75 := fX11_fewest_L75 k59 (m + 1)) h hf hk hi hC hD hs hp hA hb
    refine ⟨T, ?_, e2, fun a b hab => e3 a b (by omega), fun j hj => ?_⟩
    · rw [fX11_fewest_L75, if_neg (nI_pos (by omega)), e1, fX11_fewest_L75, if_pos (by decide), nI_1]
    · have : j = 0 := by omega
      subst this; exact e4
  | succ s ih =>
    intro m S h hf hk hs hm hA
    obtain ⟨m, rfl⟩ : ∃ j, m = j + 1 := ⟨m - 1, by omega⟩
    obtain ⟨T, e1, e2, e3, e4⟩ := few_q (k59 := k59) (k75 := fX11_fewest_L75 k59 m) h hf hk hi hC hD hs hp hA hb
    obtain ⟨T1, f1, f2, f3, f4⟩ := ih m T ⟨by rw [e3 _ _ (by omega)]; exact h.1, h.2⟩ (fun g hg => by rw [e3 _ _ (by omega)]; exact hf g hg) (fun g hg => by rw [e3 _ _ (by omega)]; exact hk g hg) (by omega) (by omega) (fun j hj => by rw [e3 _ _ (by omega)]; exact hA j (by omega))
    refine ⟨T1, ?_, f2.trans e2, fun a b hab => (f3 a b (by omega)).trans (e3 a b (by omega)), fun j hj => ?_⟩
    · rw [fX11_fewest_L75, if_neg (nI_pos (by omega)), e1, show nI (s + 1) + (-1) = nI s from nI_m1 s, f1]
    · by_cases q : j = s + 1
      · subst q; rw [f3 _ _ (by omega)]; exact e4
      · exact f4 j (by omega)
theorem few_p {S : gSt} {n i : Nat} {f k : Nat → Nat} (h : mN S n) (hf : rowAt S 80 n f) (hk : kAt S i n k) (hi : i < 2) (hC : Can f n) (hD : Can k n) (hA : A86 S (Ay (cm f k n) 0)) : ∃ T, fX11_fewest_L59 gFU (nI i) 0 S = fX11_fewest_L244 gFU 0 0 T ∧ T.2 = S.2 ∧ (∀ a b, a ≠ 86 → gR T a b = gR S a b) ∧ A86 T (Ay (cm f k n) (pts f n)) := by
  have h8 := h.2.2
  have hpl := pts_leN hC
  refine forS (fun m (T : gSt) p => fX11_fewest_L59 m (nI i) (nI p) T) (fun y => ∃ T, y = fX11_fewest_L244 gFU 0 0 T ∧ T.2 = S.2 ∧ (∀ a b, a ≠ 86 → gR T a b = gR S a b) ∧ A86 T (Ay (cm f k n) (pts f n))) (fun p T => T.2 = S.2 ∧ (∀ a b, a ≠ 86 → gR T a b = gR S a b) ∧ A86 T (Ay (cm f k n) p)) (pts f n) ?_ ?_ (by omega) S ⟨rfl, fun _ _ _ => rfl, hA⟩
  · rintro m p T hp ⟨t2, tf, tA⟩
    have hmT : mN T n := ⟨by rw [tf _ _ (by omega)]; exact h.1, h.2⟩
    have hfT : rowAt T 80 n f := fun g hg => by rw [tf _ _ (by omega)]; exact hf g hg
    have hkT : kAt T i n k := fun g hg => by rw [tf _ _ (by omega)]; exact hk g hg
    obtain ⟨T1, e1, e2, e3, e4⟩ := few_s (k59 := fX11_fewest_L59 m) (A := Ay (cm f k n) p) hi hC hD (show p < 8 by omega) (fun j v hv => by
      have := Ay_le (fun p q => Nat.le_trans (cm_le f k n p q) h8) p j v hv
      omega) 255 gFU T hmT hfT hkT (by omega) (show 255 + 1 < 5000 by decide) (fun j hj => tA j (by omega))
    refine ⟨T1, ⟨e2.trans t2, fun a b hab => (e3 a b (by omega)).trans (tf a b hab), fun j hj => e4 j (by omega)⟩, ?_⟩
    show fX11_fewest_L59 (m + 1) (nI i) (nI p) T = fX11_fewest_L59 m (nI i) (nI (p + 1)) T1
    have hpt := m_partiesOf (r := 80) hmT (show n ≤ (gLay 80).2 from Nat.le_trans h8 (by decide)) (by decide) hfT (fun g hg => by have := hC.lt8 h8 hg; omega)
    rw [fX11_fewest_L59, hpt, gBp_s, if_neg (nI_nleI hp (by omega))]
    exact e1
  · rintro m T ⟨t2, tf, tA⟩
    refine ⟨T, ?_, t2, tf, tA⟩
    have hmT : mN T n := ⟨by rw [tf _ _ (by omega)]; exact h.1, h.2⟩
    have hfT : rowAt T 80 n f := fun g hg => by rw [tf _ _ (by omega)]; exact hf g hg
    have hpt := m_partiesOf (r := 80) hmT (show n ≤ (gLay 80).2 from Nat.le_trans h8 (by decide)) (by decide) hfT (fun g hg => by have := hC.lt8 h8 hg; omega)
    show fX11_fewest_L59 (m + 1) (nI i) (nI (pts f n)) T = _
    rw [fX11_fewest_L59, hpt, gBp_s, if_pos (nI_le (Nat.le_refl _) (by omega))]
theorem few_end {S : gSt} {n : Nat} {A : Nat → Option Nat} (h : mN S n) (hA : A86 S A) (hb : ∀ j v, A j = some v → v ≤ 100) : fX11_fewest_L244 gFU 0 0 S = some (nI n - nI (mxs A 256), S) := by
  refine forFU (fun m x s => fX11_fewest_L244 m x (nI s) S) (fun x => x = some (nI n - nI (mxs A 256), S)) (fun s x => x = nI (mxs A s)) 256 0 (by omega) ?_ ?_ rfl
  · rintro m s x hs rfl
    right
    refine ⟨_, rfl, ?_⟩
    show fX11_fewest_L244 (m + 1) (nI (mxs A s)) (nI s) S = fX11_fewest_L244 m (nI (mxs A (s + 1))) (nI (s + 1)) S
    have hm : mxs A s ≤ 100 := mxs_le (fun s v _ hv => hb s v hv)
    have ha := hA s hs
    rw [fX11_fewest_L244, l256, if_neg (nI_nleI hs (by omega)), gC_ok (gIn_ok hs (by omega)), gC_ok (gIn_ok hs (by omega)), gL_s, gN_nI (by omega), ha, nI_1, mxs_s]
    cases hv : A s with
    | none =>
      rw [if_pos (show eO none ≤ nI (mxs A s) from by
        apply Int32.le_iff_toInt_le.mpr
        rw [nI_toInt (by omega), show (eO none).toInt = -9 from rfl]
        omega), show max (mxs A s) ((none : Option Nat).getD 0) = mxs A s from Nat.max_eq_left (Nat.zero_le _)]
    | some v =>
      have := hb s v hv
      by_cases z : v ≤ mxs A s
      · rw [if_pos (show eO (some v) ≤ nI (mxs A s) from nI_le z (by omega)), show max (mxs A s) ((some v).getD 0) = mxs A s from Nat.max_eq_left z]
      · rw [if_neg (show ¬ eO (some v) ≤ nI (mxs A s) from nI_ge (by omega) (by omega)), show max (mxs A s) ((some v).getD 0) = v from Nat.max_eq_right (show mxs A s ≤ v by omega)]
        rfl
  · rintro m x rfl
    show fX11_fewest_L244 (m + 1) (nI (mxs A 256)) (nI 256) S = _
    rw [fX11_fewest_L244, l256, if_pos (nI_le (Nat.le_refl _) (by omega)), m_guests h, gBp_s]
theorem m_few {S : gSt} {n i : Nat} {f k : Nat → Nat} (h : mN S n) (hf : rowAt S 80 n f) (hk : kAt S i n k) (hi : i < 2) (hC : Can f n) (hD : Can k n) : ∃ T, fX11_fewest_L28 gFU (nI i) 0 S = some (nI n - nI (By (cm f k n) (pts k n) (pts f n) 0 0), T) ∧ T.2 = S.2 ∧ ∀ a b, a ≠ 86 → gR T a b = gR S a b := by
  have h8 := h.2.2
  have hq := pts_leN hD
  have hpl := pts_leN hC
  refine forS (fun m (T : gSt) s => fX11_fewest_L28 m (nI i) (nI s) T) (fun y => ∃ T, y = some (nI n - nI (By (cm f k n) (pts k n) (pts f n) 0 0), T) ∧ T.2 = S.2 ∧ ∀ a b, a ≠ 86 → gR T a b = gR S a b) (fun s T => T.2 = S.2 ∧ (∀ a b, a ≠ 86 → gR T a b = gR S a b) ∧ ∀ j, j < s → gR T 86 j = eO (Ay (cm f k n) 0 j)) 256 ?_ ?_ (by omega) S ⟨rfl, fun _ _ _ => rfl, fun j h => absurd h (Nat.not_lt_zero _)⟩
  · rintro m s T hs ⟨t2, tf, tA⟩
    refine ⟨gW T 86 s (eO (Ay (cm f k n) 0 s)), ⟨t2, fun a b hab => by rw [gR_Wp hab]; exact tf a b hab, fun j hj => ?_⟩, ?_⟩
    · by_cases q : j = s
      · subst q; rw [gR_Ws]
      · rw [gR_Wk q]; exact tA j (by omega)
    · show fX11_fewest_L28 (m + 1) (nI i) (nI s) T = fX11_fewest_L28 m (nI i) (nI (s + 1)) _
      have hgi : gIn (nI s) 256 = true := gIn_ok hs (by omega)
      rw [fX11_fewest_L28, l256, if_neg (nI_nleI hs (by omega))]
      simp only [hgi, gC_tt, gL_s]
      rw [gN_nI (by omega), nI_1]
      by_cases z : s = 0
      · subst z; rw [if_pos (by decide)]; rfl
      · rw [if_neg (show ¬ nI s = 0 from nI_ne0 (by omega) (by omega)), show Ay (cm f k n) 0 s = none from if_neg z]; rfl
  · rintro m T ⟨t2, tf, tA⟩
    have hmT : mN T n := ⟨by rw [tf _ _ (by omega)]; exact h.1, h.2⟩
    have hfT : rowAt T 80 n f := fun g hg => by rw [tf _ _ (by omega)]; exact hf g hg
    have hkT : kAt T i n k := fun g hg => by rw [tf _ _ (by omega)]; exact hk g hg
    obtain ⟨T1, e1, e2, e3, e4⟩ := few_p hmT hfT hkT hi hC hD (fun s hs => tA s hs)
    refine ⟨T1, ?_, e2.trans t2, fun a b hab => (e3 a b hab).trans (tf a b hab)⟩
    show fX11_fewest_L28 (m + 1) (nI i) (nI 256) T = _
    rw [fX11_fewest_L28, l256, if_pos (nI_le (Nat.le_refl _) (by omega)), e1, few_end ⟨by rw [e3 _ _ (by omega)]; exact hmT.1, hmT.2⟩ e4 (fun j v hv => by
      have := Ay_le (fun p q => Nat.le_trans (cm_le f k n p q) h8) _ j v hv
      omega), AB_eq (Q := pts k n) (fun p q hq => cm_0 hq) (by omega)]
