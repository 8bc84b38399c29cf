/-! lawful rows by steps; all rows in order; needs: 0800 0801 0802 0803 0804 0805 0806 0807 0808 -/
theorem an_f (p : Nat → Bool) (n : Nat) : an p n = false ↔ ∀ e, e < n → p e = false := by
  constructor
  · intro h e he
    cases q : p e with
    | false => rfl
    | true => rw [(an_iff p n).mpr ⟨e, he, q⟩] at h; exact absurd h (by decide)
  · exact an_no
theorem crossed_iff (f : Nat → Nat) (n : Nat) : crossed f n = true ↔ ∃ a b c d, a < b ∧ b < c ∧ c < d ∧ d < n ∧ f a = f c ∧ f b = f d ∧ f a ≠ f b := by
  unfold crossed cr1 cr2 cr3 cr4
  constructor
  · intro h
    obtain ⟨a, ha, h⟩ := (an_iff _ _).mp h
    obtain ⟨b, hb, h⟩ := (an_iff _ _).mp h
    rw [Bool.and_eq_true, decide_eq_true_eq] at h
    obtain ⟨hab, h⟩ := h
    obtain ⟨c, hc, h⟩ := (an_iff _ _).mp h
    rw [Bool.and_eq_true, decide_eq_true_eq] at h
    obtain ⟨hbc, h⟩ := h
    obtain ⟨d, hd, h⟩ := (an_iff _ _).mp h
    simp only [Bool.and_eq_true, decide_eq_true_eq, Bool.not_eq_true', decide_eq_false_iff_not] at h
    exact ⟨a, b, c, d, hab, hbc, h.1, hd, h.2.1.1, h.2.1.2, h.2.2⟩
  · rintro ⟨a, b, c, d, hab, hbc, hcd, hd, h1, h2, h3⟩
    refine (an_iff _ _).mpr ⟨a, by omega, (an_iff _ _).mpr ⟨b, by omega, ?_⟩⟩
    rw [Bool.and_eq_true, decide_eq_true_eq]
    refine ⟨hab, (an_iff _ _).mpr ⟨c, by omega, ?_⟩⟩
    rw [Bool.and_eq_true, decide_eq_true_eq]
    refine ⟨hbc, (an_iff _ _).mpr ⟨d, hd, ?_⟩⟩
    simp only [Bool.and_eq_true, decide_eq_true_eq, Bool.not_eq_true', decide_eq_false_iff_not]
    exact ⟨hcd, ⟨h1, h2⟩, h3⟩
/-- whether g may come to its party, by those below it -/
def may (r f : Nat → Nat) (g : Nat) : Prop := (r 11 = 0 ∨ cn (fun e => decide (f e = f g)) g < r 11) ∧ (∀ e, e < g → (r (14 + g)).testBit e = true → f e = f g) ∧ (∀ e, e < g → f e = f g → (r (22 + g)).testBit e = false) ∧ (r 12 = 0 ∨ ∀ e, e < g → f e = f g → r (1 + e) ≠ r (1 + g)) ∧ (r 13 = 0 ∨ ∀ a b c, a < b → b < c → c < g → f a = f c → f b = f g → f a = f b)
def leaf (r f : Nat → Nat) : Prop := (r 9 = 0 ∨ r 9 = pts f (r 0)) ∧ ∀ p, p < pts f (r 0) → r 10 ≤ sz f (r 0) p
theorem cn_last {p : Nat → Bool} : ∀ {n : Nat}, 0 < cn p n → ∃ g, g < n ∧ p g = true ∧ cn p n = cn p g + 1
  | 0, h => absurd h (Nat.lt_irrefl _)
  | n + 1, h => by
    rw [cn_s] at h ⊢
    by_cases q : p n = true
    · exact ⟨n, by omega, q, by rw [if_pos q]⟩
    · rw [if_neg q, Nat.add_zero] at h ⊢
      obtain ⟨g, h1, h2, h3⟩ := cn_last h
      exact ⟨g, by omega, h2, h3⟩
theorem bad_f (r f : Nat → Nat) (a b : Nat) : bad r f a b = false ↔ ((f a = f b → (r (22 + a)).testBit b = false ∧ ¬ (r 12 = 1 ∧ r (1 + a) = r (1 + b))) ∧ (f a ≠ f b → (r (14 + a)).testBit b = false)) := by
  unfold bad
  by_cases z : f a = f b
  · rw [if_pos z, Bool.or_eq_false_iff, Bool.and_eq_false_iff, decide_eq_false_iff_not, decide_eq_false_iff_not]
    constructor
    · rintro ⟨h1, h2⟩
      exact ⟨fun _ => ⟨h1, fun ⟨x, y⟩ => h2.elim (fun k => k x) (fun k => k y)⟩, fun h => absurd z h⟩
    · rintro ⟨h1, -⟩
      refine ⟨(h1 z).1, ?_⟩
      by_cases q : r 12 = 1
      · right; exact fun y => (h1 z).2 ⟨q, y⟩
      · left; exact q
  · rw [if_neg z]
    exact ⟨fun h => ⟨fun y => absurd y z, fun _ => h⟩, fun h => h.2 z⟩
theorem lawful_iff {r f : Nat → Nat} {w : Nat → Nat → Int} (hW : RW r w) (hC : Can f (r 0)) : lawful r f = true ↔ (∀ g, g < r 0 → may r f g) ∧ leaf r f := by
  have v12 := hW.2.2.2.2.1
  have v13 := hW.2.2.2.2.2.1
  unfold lawful leaf
  rw [Bool.and_eq_true, Bool.and_eq_true, Bool.and_eq_true, Bool.or_eq_true, decide_eq_true_eq, decide_eq_true_eq, Bool.not_eq_true', Bool.not_eq_true', Bool.not_eq_true', an_f, Bool.and_eq_false_iff, decide_eq_false_iff_not]
  unfold badAny
  rw [an_f]
  have hsz : ∀ p, szBad r f (r 0) p = false ↔ r 10 ≤ sz f (r 0) p ∧ (r 11 = 0 ∨ sz f (r 0) p ≤ r 11) := fun p => by
    unfold szBad
    rw [Bool.or_eq_false_iff, Bool.and_eq_false_iff, Bool.not_eq_false', decide_eq_true_eq, decide_eq_false_iff_not, decide_eq_false_iff_not]
    omega
  constructor
  · rintro ⟨⟨⟨h9, hs⟩, hb⟩, hc⟩
    refine ⟨fun g hg => ⟨?_, fun e he ht => ?_, fun e he ht => ?_, ?_, ?_⟩, by omega, fun p hp => ((hsz p).mp (hs p hp)).1⟩
    · rcases ((hsz (f g)).mp (hs (f g) (lt_pts hg))).2 with z | z
      · left; exact z
      · right
        have : cn (fun e => decide (f e = f g)) g < cn (fun e => decide (f e = f g)) (r 0) := cn_lt hg (decide_eq_true rfl)
        unfold sz at z
        omega
    · have := (bad_f r f g e).mp ((an_f _ _).mp (hb g hg) e he)
      by_cases q : f g = f e
      · exact q.symm
      · rw [this.2 q] at ht; exact absurd ht (by decide)
    · exact (((bad_f r f g e).mp ((an_f _ _).mp (hb g hg) e he)).1 ht.symm).1
    · by_cases q : r 12 = 0
      · left; exact q
      · right
        intro e he ht hh
        exact (((bad_f r f g e).mp ((an_f _ _).mp (hb g hg) e he)).1 ht.symm).2 ⟨by omega, hh.symm⟩
    · rcases hc with hc | hc
      · left; omega
      · right
        intro a b c h1 h2 h3 h4 h5
        by_cases q : f a = f b
        · exact q
        · have : crossed f (r 0) = true := (crossed_iff f (r 0)).mpr ⟨a, b, c, g, h1, h2, h3, hg, h4, h5, q⟩
          rw [this] at hc; exact absurd hc (by decide)
  · rintro ⟨hm, h9, hs⟩
    refine ⟨⟨⟨by omega, fun p hp => (hsz p).mpr ⟨hs p hp, ?_⟩⟩, fun a ha => (an_f _ _).mpr (fun b hb => (bad_f r f a b).mpr ⟨fun e => ⟨?_, ?_⟩, fun e => ?_⟩)⟩, ?_⟩
    · by_cases q : r 11 = 0
      · left; exact q
      · right
        obtain ⟨e, he, hv⟩ := pts_all hC p hp
        have hpos : 0 < cn (fun e => decide (f e = p)) (r 0) := Nat.lt_of_le_of_lt (Nat.zero_le _) (cn_lt he (decide_eq_true hv))
        obtain ⟨g, hg, hpg, hcg⟩ := cn_last hpos
        have hpg := of_decide_eq_true hpg
        rcases (hm g hg).1 with z | z
        · exact absurd z q
        · rw [hpg] at z
          unfold sz
          omega
    · exact (hm a ha).2.2.1 b hb e.symm
    · rintro ⟨h1, h2⟩
      rcases (hm a ha).2.2.2.1 with z | z
      · omega
      · exact z b hb e.symm h2.symm
    · cases q : (r (14 + a)).testBit b with
      | false => rfl
      | true => exact absurd ((hm a ha).2.1 b hb q).symm e
    · by_cases q : r 13 = 1
      · right
        cases z : crossed f (r 0) with
        | false => rfl
        | true =>
          obtain ⟨a, b, c, d, h1, h2, h3, h4, h5, h6, h7⟩ := (crossed_iff f (r 0)).mp z
          rcases (hm d h4).2.2.2.2 with y | y
          · omega
          · exact absurd (y a b c h1 h2 h3 h5 h6) h7
      · left; exact q
theorem may_congr {r f k : Nat → Nat} {g : Nat} (e : ∀ a, a ≤ g → f a = k a) (h : may r f g) : may r k g := by
  obtain ⟨h1, h2, h3, h4, h5⟩ := h
  have eg := e g (Nat.le_refl g)
  refine ⟨?_, fun a ha ht => ?_, fun a ha ht => ?_, ?_, ?_⟩
  · rw [← cn_congr (p := fun a => decide (f a = f g)) (fun a ha => by rw [e a (by omega), eg])]; exact h1
  · rw [← e a (by omega), ← eg]; exact h2 a ha ht
  · rw [← e a (by omega), ← eg] at ht; exact h3 a ha ht
  · rcases h4 with z | z
    · left; exact z
    · right; intro a ha ht; rw [← e a (by omega), ← eg] at ht; exact z a ha ht
  · rcases h5 with z | z
    · left; exact z
    · right
      intro a b c h1 h2 h3 h4 h5
      rw [← e a (by omega), ← e c (by omega)] at h4
      rw [← e b (by omega), ← eg] at h5
      rw [← e a (by omega), ← e b (by omega)]
      exact z a b c h1 h2 h3 h4 h5
theorem leaf_congr {r f k : Nat → Nat} (e : ∀ a, a < r 0 → f a = k a) (h : leaf r f) : leaf r k := by
  unfold leaf at h ⊢
  rw [← pts_congr e]
  refine ⟨h.1, fun p hp => ?_⟩
  unfold sz
  rw [← cn_congr (p := fun a => decide (f a = p)) (fun a ha => by rw [e a ha])]
  exact h.2 p hp
theorem lawful_congr {r f k : Nat → Nat} {w : Nat → Nat → Int} (hW : RW r w) (hC : Can f (r 0)) (e : ∀ a, a < r 0 → f a = k a) : lawful r f = lawful r k := by
  have hk := hC.congr e
  rw [Bool.eq_iff_iff, lawful_iff hW hC, lawful_iff hW hk]
  constructor
  · rintro ⟨h1, h2⟩
    exact ⟨fun g hg => may_congr (fun a ha => e a (by omega)) (h1 g hg), leaf_congr e h2⟩
  · rintro ⟨h1, h2⟩
    exact ⟨fun g hg => may_congr (fun a ha => (e a (by omega)).symm) (h1 g hg), leaf_congr (fun a ha => (e a ha).symm) h2⟩
/-- all rows below a beginning, in order, as numbers -/
def dfs : Nat → Nat → Nat → Nat → List Nat
  | 0, _, _, c => [c]
  | k + 1, g, m, c => (List.range (m + 1)).flatMap (fun p => dfs k (g + 1) (max m (p + 1)) (c + p * 8 ^ (7 - g)))
def rows (n : Nat) : List Nat := dfs n 0 0 0
theorem pts_upN {f : Nat → Nat} {g p : Nat} : pts (upN f g p) (g + 1) = max (pts f g) (p + 1) := by
  rw [pts_s, pts_congr (k := f) (fun e he => upN_n (by omega)), upN_s]
  split <;> omega
theorem enc_upN {f : Nat → Nat} {g p : Nat} : enc (upN f g p) (g + 1) = enc f g + p * 8 ^ (7 - g) := by
  rw [enc_s, enc_congr (k := f) (fun e he => upN_n (by omega)), upN_s]
theorem Can_upN {f : Nat → Nat} {g p : Nat} (h : Can f g) (hp : p ≤ pts f g) : Can (upN f g p) (g + 1) := fun e he => by
  by_cases q : e = g
  · subst q
    rw [upN_s, pts_congr (k := f) (fun a ha => upN_n (by omega))]; exact hp
  · rw [upN_n q, pts_congr (k := f) (fun a ha => upN_n (by omega))]; exact h e (by omega)
theorem dfs_mem {n : Nat} : ∀ (k g : Nat) (f : Nat → Nat) (d : Nat), g + k = n → Can f g → d ∈ dfs k g (pts f g) (enc f g) → ∃ f', d = enc f' n ∧ (∀ e, e < g → f' e = f e) ∧ Can f' n
  | 0, g, f, d, hg, hC, hd => by
    have : g = n := by omega
    subst this
    exact ⟨f, List.mem_singleton.mp hd, fun _ _ => rfl, hC⟩
  | k + 1, g, f, d, hg, hC, hd => by
    unfold dfs at hd
    obtain ⟨p, hp, hd⟩ := List.mem_flatMap.mp hd
    have hp := List.mem_range.mp hp
    rw [← enc_upN, ← pts_upN] at hd
    obtain ⟨f', h1, h2, h3⟩ := dfs_mem (n := n) k (g + 1) (upN f g p) d (by omega) (Can_upN hC (by omega)) hd
    exact ⟨f', h1, fun e he => (h2 e (by omega)).trans (upN_n (show e ≠ g by omega)), h3⟩
theorem dfs_all {n : Nat} : ∀ (k g : Nat) (f : Nat → Nat), g + k = n → Can f n → enc f n ∈ dfs k g (pts f g) (enc f g)
  | 0, g, f, hg, hC => by
    have : g = n := by omega
    subst this
    exact List.mem_singleton.mpr rfl
  | k + 1, g, f, hg, hC => by
    unfold dfs
    refine List.mem_flatMap.mpr ⟨f g, List.mem_range.mpr ?_, ?_⟩
    · have := hC g (by omega); omega
    · have := dfs_all (n := n) k (g + 1) f (by omega) hC
      rw [enc_s, pts_s] at this
      have e : (if f g < pts f g then pts f g else f g + 1) = max (pts f g) (f g + 1) := by split <;> omega
      rw [e] at this
      exact this
theorem rows_mem {n d : Nat} (h : d ∈ rows n) : ∃ f, d = enc f n ∧ Can f n := by
  obtain ⟨f, h1, -, h3⟩ := dfs_mem (n := n) n 0 (fun _ => 0) d (by omega) (fun g hg => absurd hg (Nat.not_lt_zero _)) h
  exact ⟨f, h1, h3⟩
theorem rows_all {n : Nat} {f : Nat → Nat} (h : Can f n) : enc f n ∈ rows n := dfs_all n 0 f (by omega) h
/-- the next row: the last guest who may stand in a later party does, all behind it stand in the first -/
def bump (f : Nat → Nat) (g : Nat) : Nat → Nat := fun e => if e < g then f e else if e = g then f g + 1 else 0
def nxg (n c : Nat) : Nat → Option Nat
  | 0 => none
  | g + 1 => if dig c (g + 1) < pts (dig c) (g + 1) then some (enc (bump (dig c) (g + 1)) n) else nxg n c g
def chk (n : Nat) : List Nat → Bool
  | [] => true
  | c :: l => (match l with
    | [] => decide (nxg n c (n - 1) = none)
    | d :: _ => decide (nxg n c (n - 1) = some d) && decide (c < d)) && chk n l
def chkAll (n : Nat) : Bool := chk n (rows n) && decide ((rows n).head? = some 0) && decide ((rows n).length ≤ 4140)
set_option maxRecDepth 100000 in
theorem chk_1_7 : ∀ i : Fin 7, chkAll (i.val + 1) = true := by decide +kernel
set_option maxRecDepth 100000 in
theorem chk_8 : chkAll 8 = true := by decide +kernel
theorem chk_n {n : Nat} (h1 : 1 ≤ n) (h8 : n ≤ 8) : chkAll n = true := by
  by_cases q : n = 8
  · subst q; exact chk_8
  · have := chk_1_7 ⟨n - 1, by omega⟩
    rw [show (n - 1) + 1 = n by omega] at this
    exact this

theorem rows_head {n : Nat} (h1 : 1 ≤ n) (h8 : n ≤ 8) : ∃ l, rows n = 0 :: l := by
  have := chk_n h1 h8
  unfold chkAll at this
  rw [Bool.and_eq_true, Bool.and_eq_true, decide_eq_true_eq] at this
  have h := this.1.2
  cases q : rows n with
  | nil => rw [q] at h; exact absurd h (by simp)
  | cons c l => rw [q] at h; simp at h; exact ⟨l, by rw [h]⟩
theorem rows_len {n : Nat} (h1 : 1 ≤ n) (h8 : n ≤ 8) : (rows n).length ≤ 4140 := by
  have := chk_n h1 h8
  unfold chkAll at this
  rw [Bool.and_eq_true, decide_eq_true_eq] at this
  exact this.2
theorem rows_chk {n : Nat} (h1 : 1 ≤ n) (h8 : n ≤ 8) : chk n (rows n) = true := by
  have := chk_n h1 h8
  unfold chkAll at this
  rw [Bool.and_eq_true, Bool.and_eq_true] at this
  exact this.1.1
theorem chk_tail {n c : Nat} {l : List Nat} (h : chk n (c :: l) = true) : chk n l = true := by
  unfold chk at h
  rw [Bool.and_eq_true] at h
  exact h.2
theorem chk_one {n c : Nat} (h : chk n [c] = true) : nxg n c (n - 1) = none := by
  unfold chk at h
  rw [Bool.and_eq_true] at h
  exact of_decide_eq_true h.1
theorem chk_two {n c d : Nat} {l : List Nat} (h : chk n (c :: d :: l) = true) : nxg n c (n - 1) = some d ∧ c < d := by
  unfold chk at h
  rw [Bool.and_eq_true] at h
  have h := h.1
  simp only [Bool.and_eq_true, decide_eq_true_eq] at h
  exact h
/-- they ascend -/
theorem chk_asc {n : Nat} : ∀ {l : List Nat} {c : Nat}, chk n (c :: l) = true → ∀ d, d ∈ l → c < d
  | [], c, _, d, hd => absurd hd (by simp)
  | e :: l, c, h, d, hd => by
    have h1 := (chk_two h).2
    rcases List.mem_cons.mp hd with z | z
    · rw [z]; exact h1
    · exact Nat.lt_trans h1 (chk_asc (chk_tail h) d z)
theorem m_firstRow (S : gSt) : ∃ S1, fX11_firstRow S = some S1 ∧ gRw 83 8 S S1 ∧ ∀ g, g < 8 → gR S1 83 g = nI 0 := by
  unfold fX11_firstRow
  refine forS (fun m (T : gSt) g => fX11_firstRow_L2 m (nI g) T) (fun x => ∃ S1, x = some S1 ∧ gRw 83 8 S S1 ∧ ∀ g, g < 8 → gR S1 83 g = nI 0) (fun g T => gRw 83 8 S T ∧ ∀ e, e < g → gR T 83 e = nI 0) 8 ?_ ?_ (by omega) S ⟨gRw.rf, fun e h => absurd h (Nat.not_lt_zero _)⟩
  · rintro m g T hg ⟨hF, a1⟩
    refine ⟨gW T 83 g (nI 0), ⟨hF.w hg, fun e he => ?_⟩, ?_⟩
    · by_cases q : e = g
      · subst q; simp (disch := omega) only [gC_d, gC_tt, gBp_s, gBd_s, gL_s, gIn_nI, gN_nI, nI_ltI, nI_leI, nI_eq, nI_add, nI_mul, nI_sub, ite_t, ite_f, gR_W2, gRL_W, if_true, if_false, true_and, and_true, false_and, and_false, and_self, Nat.add_zero, l0, l1, l2, l3, l4, l5, l6, l7, l8, l9, l10, l11, l12, l13, l14, l22, l30, l31, l32, l39, l40, l48, l50, l57, l59, l60, l94, l97, l99, l100, l122, l255, l256, l300, l488, l1000]
      · simp (disch := omega) only [gC_d, gC_tt, gBp_s, gBd_s, gL_s, gIn_nI, gN_nI, nI_ltI, nI_leI, nI_eq, nI_add, nI_mul, nI_sub, ite_t, ite_f, gR_W2, gRL_W, if_true, if_false, true_and, and_true, false_and, and_false, and_self, Nat.add_zero, l0, l1, l2, l3, l4, l5, l6, l7, l8, l9, l10, l11, l12, l13, l14, l22, l30, l31, l32, l39, l40, l48, l50, l57, l59, l60, l94, l97, l99, l100, l122, l255, l256, l300, l488, l1000, a1 e (by omega)]
    · show fX11_firstRow_L2 (m + 1) (nI g) T = fX11_firstRow_L2 m (nI (g + 1)) _
      rw [fX11_firstRow_L2]
      simp (disch := omega) only [gC_d, gC_tt, gBp_s, gBd_s, gL_s, gIn_nI, gN_nI, nI_ltI, nI_leI, nI_eq, nI_add, nI_mul, nI_sub, ite_t, ite_f, gR_W2, gRL_W, if_true, if_false, true_and, and_true, false_and, and_false, and_self, Nat.add_zero, l0, l1, l2, l3, l4, l5, l6, l7, l8, l9, l10, l11, l12, l13, l14, l22, l30, l31, l32, l39, l40, l48, l50, l57, l59, l60, l94, l97, l99, l100, l122, l255, l256, l300, l488, l1000]
  · rintro m T ⟨hF, a1⟩
    refine ⟨T, ?_, hF, a1⟩
    show fX11_firstRow_L2 (m + 1) (nI 8) T = _
    rw [fX11_firstRow_L2]
    simp (disch := omega) only [gC_d, gC_tt, gBp_s, gBd_s, gL_s, gIn_nI, gN_nI, nI_ltI, nI_leI, nI_eq, nI_add, nI_mul, nI_sub, ite_t, ite_f, gR_W2, gRL_W, if_true, if_false, true_and, and_true, false_and, and_false, and_self, Nat.add_zero, l0, l1, l2, l3, l4, l5, l6, l7, l8, l9, l10, l11, l12, l13, l14, l22, l30, l31, l32, l39, l40, l48, l50, l57, l59, l60, l94, l97, l99, l100, l122, l255, l256, l300, l488, l1000]
theorem nI_m1 (a : Nat) : nI (a + 1) + -nI 1 = nI a := by
  rw [← Int32.sub_eq_add_neg]
  exact nI_pred a
theorem m_nextRow {S : gSt} {n c : Nat} (h : mN S n) (hf : rowAt S 83 n (dig c)) (hC : Can (dig c) n) : (nxg n c (n - 1) = none ∧ fX11_nextRow S = some (0, S)) ∨ ∃ d S1, nxg n c (n - 1) = some d ∧ fX11_nextRow S = some (1, S1) ∧ gRw 83 n S S1 ∧ rowAt S1 83 n (dig d) := by
  have h8 := h.2.2
  have h1 := h.2.1
  unfold fX11_nextRow
  rw [m_guests h]
  have key : ∀ g m, g < n → g < m → (nxg n c g = none ∧ fX11_nextRow_L7 m (nI g) S = some (0, S)) ∨ ∃ d S1, nxg n c g = some d ∧ fX11_nextRow_L7 m (nI g) S = some (1, S1) ∧ gRw 83 n S S1 ∧ rowAt S1 83 n (dig d) := by
    intro g
    induction g with
    | zero =>
      intro m hg hm
      obtain ⟨m, rfl⟩ : ∃ j, m = j + 1 := ⟨m - 1, by omega⟩
      left
      refine ⟨rfl, ?_⟩
      rw [fX11_nextRow_L7]
      simp (disch := omega) only [gC_d, gC_tt, gBp_s, gBd_s, gL_s, gIn_nI, gN_nI, nI_ltI, nI_leI, nI_eq, nI_add, nI_mul, nI_sub, ite_t, ite_f, gR_W2, gRL_W, if_true, if_false, true_and, and_true, false_and, and_false, and_self, Nat.add_zero, l0, l1, l2, l3, l4, l5, l6, l7, l8, l9, l10, l11, l12, l13, l14, l22, l30, l31, l32, l39, l40, l48, l50, l57, l59, l60, l94, l97, l99, l100, l122, l255, l256, l300, l488, l1000]
    | succ g ih =>
      intro m hg hm
      obtain ⟨m, rfl⟩ : ∃ j, m = j + 1 := ⟨m - 1, by omega⟩
      have ih := ih m (by omega) (by omega)
      have hpl := pts_leN (hC.mono (show g + 1 ≤ n by omega))
      have hcg := hC (g + 1) hg
      have hin : fX11_nextRow_L7 (m + 1) (nI (g + 1)) S = (if dig c (g + 1) < pts (dig c) (g + 1) then fX11_nextRow_L71 gFU (nI (g + 2)) (gW S 83 (g + 1) (nI (dig c (g + 1) + 1))) else fX11_nextRow_L7 m (nI g) S) := by
        rw [fX11_nextRow_L7, if_neg (by rw [l0]; exact nI_nleI (by omega) (by omega))]
        refine forFU (fun m' x e => fX11_nextRow_L15 (fX11_nextRow_L7 m) m' (nI (g + 1)) x (nI e) S) (fun y => y = (if dig c (g + 1) < pts (dig c) (g + 1) then fX11_nextRow_L71 gFU (nI (g + 2)) (gW S 83 (g + 1) (nI (dig c (g + 1) + 1))) else fX11_nextRow_L7 m (nI g) S)) (fun e x => x = if e = 0 then (-1 : Int32) else nI (pts (dig c) e - 1)) (g + 1) (-1) (by omega) ?_ ?_ (by rw [if_pos rfl])
        · rintro m' e x he rfl
          right
          refine ⟨_, rfl, ?_⟩
          show fX11_nextRow_L15 (fX11_nextRow_L7 m) (m' + 1) (nI (g + 1)) _ (nI e) S = fX11_nextRow_L15 (fX11_nextRow_L7 m) m' (nI (g + 1)) _ (nI (e + 1)) S
          rw [fX11_nextRow_L15, if_neg (show ¬ e + 1 = 0 by omega)]
          have d8 := dig_lt c e
          have hce := hC e (by omega)
          by_cases q : e = 0
          · subst q
            have : pts (dig c) 0 = 0 := rfl
            rw [if_pos rfl, pts_s, this]
            have hn : ¬ nI (dig c 0) ≤ (-1 : Int32) := fun z => by
              have z := Int32.le_iff_toInt_le.mp z
              rw [nI_toInt (by omega), show (-1 : Int32).toInt = -1 from rfl] at z
              omega
            rw [show gR S 83 (gN (nI 0)) = nI (dig c 0) by rw [gN_nI (by omega)]; exact hf 0 (by omega), if_neg hn]
            simp (disch := omega) only [gC_d, gC_tt, gBp_s, gBd_s, gL_s, gIn_nI, gN_nI, nI_ltI, nI_leI, nI_eq, nI_add, nI_mul, nI_sub, ite_t, ite_f, gR_W2, gRL_W, if_true, if_false, true_and, and_true, false_and, and_false, and_self, Nat.add_zero, l0, l1, l2, l3, l4, l5, l6, l7, l8, l9, l10, l11, l12, l13, l14, l22, l30, l31, l32, l39, l40, l48, l50, l57, l59, l60, l94, l97, l99, l100, l122, l255, l256, l300, l488, l1000, Nat.add_sub_cancel]
          · have hp1 : 0 < pts (dig c) e := by
              have := lt_pts (f := dig c) (show 0 < e by omega); omega
            have hp2 := pts_leN (hC.mono (show e ≤ n by omega))
            rw [if_neg q, pts_s]
            by_cases z : dig c e < pts (dig c) e
            · rw [if_pos z]
              simp (disch := omega) only [gC_d, gC_tt, gBp_s, gBd_s, gL_s, gIn_nI, gN_nI, nI_ltI, nI_leI, nI_eq, nI_add, nI_mul, nI_sub, ite_t, ite_f, gR_W2, gRL_W, if_true, if_false, true_and, and_true, false_and, and_false, and_self, Nat.add_zero, l0, l1, l2, l3, l4, l5, l6, l7, l8, l9, l10, l11, l12, l13, l14, l22, l30, l31, l32, l39, l40, l48, l50, l57, l59, l60, l94, l97, l99, l100, l122, l255, l256, l300, l488, l1000, hf e (show e < n by omega)]
            · rw [if_neg z]
              simp (disch := omega) only [gC_d, gC_tt, gBp_s, gBd_s, gL_s, gIn_nI, gN_nI, nI_ltI, nI_leI, nI_eq, nI_add, nI_mul, nI_sub, ite_t, ite_f, gR_W2, gRL_W, if_true, if_false, true_and, and_true, false_and, and_false, and_self, Nat.add_zero, l0, l1, l2, l3, l4, l5, l6, l7, l8, l9, l10, l11, l12, l13, l14, l22, l30, l31, l32, l39, l40, l48, l50, l57, l59, l60, l94, l97, l99, l100, l122, l255, l256, l300, l488, l1000, hf e (show e < n by omega), Nat.add_sub_cancel]
        · rintro m' x rfl
          show fX11_nextRow_L15 (fX11_nextRow_L7 m) (m' + 1) (nI (g + 1)) _ (nI (g + 1)) S = _
          rw [fX11_nextRow_L15, if_neg (show ¬ g + 1 = 0 by omega)]
          have d8 := dig_lt c (g + 1)
          by_cases z : dig c (g + 1) < pts (dig c) (g + 1)
          · rw [if_pos z]
            simp (disch := omega) only [gC_d, gC_tt, gBp_s, gBd_s, gL_s, gIn_nI, gN_nI, nI_ltI, nI_leI, nI_eq, nI_add, nI_mul, nI_sub, ite_t, ite_f, gR_W2, gRL_W, if_true, if_false, true_and, and_true, false_and, and_false, and_self, Nat.add_zero, l0, l1, l2, l3, l4, l5, l6, l7, l8, l9, l10, l11, l12, l13, l14, l22, l30, l31, l32, l39, l40, l48, l50, l57, l59, l60, l94, l97, l99, l100, l122, l255, l256, l300, l488, l1000, hf (g + 1) hg]
          · rw [if_neg z]
            have hp1 : 0 < pts (dig c) (g + 1) := by
              have := lt_pts (f := dig c) (show 0 < g + 1 by omega); omega
            simp (disch := omega) only [gC_d, gC_tt, gBp_s, gBd_s, gL_s, gIn_nI, gN_nI, nI_ltI, nI_leI, nI_eq, nI_add, nI_mul, nI_sub, ite_t, ite_f, gR_W2, gRL_W, if_true, if_false, true_and, and_true, false_and, and_false, and_self, Nat.add_zero, l0, l1, l2, l3, l4, l5, l6, l7, l8, l9, l10, l11, l12, l13, l14, l22, l30, l31, l32, l39, l40, l48, l50, l57, l59, l60, l94, l97, l99, l100, l122, l255, l256, l300, l488, l1000, hf (g + 1) hg, nI_m1]
      by_cases z : dig c (g + 1) < pts (dig c) (g + 1)
      · right
        rw [if_pos z] at hin
        have hbl : ∀ e, e < n → bump (dig c) (g + 1) e < 8 := fun e he => by
          unfold bump
          have := dig_lt c e
          split
          · omega
          · split <;> omega
        obtain ⟨S1, e1, e2, e3⟩ : ∃ S1, fX11_nextRow_L71 gFU (nI (g + 2)) (gW S 83 (g + 1) (nI (dig c (g + 1) + 1))) = some (1, S1) ∧ gRw 83 n S S1 ∧ rowAt S1 83 n (bump (dig c) (g + 1)) := by
          refine forE (fun m (T : gSt) e => fX11_nextRow_L71 m (nI e) T) (fun x => ∃ S1, x = some (1, S1) ∧ gRw 83 n S S1 ∧ rowAt S1 83 n (bump (dig c) (g + 1))) (fun e T => g + 1 < e ∧ gRw 83 n S T ∧ ∀ a, a < e → a < n → gR T 83 a = nI (bump (dig c) (g + 1) a)) n ?_ ?_ (n - (g + 2)) gFU (g + 2) _ (by omega) (show n - (g + 2) < 5000 by omega) ⟨by omega, gRw.rf.w hg, fun a ha hn => ?_⟩
          · rintro m e T he ⟨hge, hF, a1⟩
            right
            refine ⟨gW T 83 e (nI 0), ⟨by omega, hF.w he, fun a ha hn => ?_⟩, ?_⟩
            · by_cases q : a = e
              · subst q
                unfold bump
                simp (disch := omega) only [gC_d, gC_tt, gBp_s, gBd_s, gL_s, gIn_nI, gN_nI, nI_ltI, nI_leI, nI_eq, nI_add, nI_mul, nI_sub, ite_t, ite_f, gR_W2, gRL_W, if_true, if_false, true_and, and_true, false_and, and_false, and_self, Nat.add_zero, l0, l1, l2, l3, l4, l5, l6, l7, l8, l9, l10, l11, l12, l13, l14, l22, l30, l31, l32, l39, l40, l48, l50, l57, l59, l60, l94, l97, l99, l100, l122, l255, l256, l300, l488, l1000]
              · simp (disch := omega) only [gC_d, gC_tt, gBp_s, gBd_s, gL_s, gIn_nI, gN_nI, nI_ltI, nI_leI, nI_eq, nI_add, nI_mul, nI_sub, ite_t, ite_f, gR_W2, gRL_W, if_true, if_false, true_and, and_true, false_and, and_false, and_self, Nat.add_zero, l0, l1, l2, l3, l4, l5, l6, l7, l8, l9, l10, l11, l12, l13, l14, l22, l30, l31, l32, l39, l40, l48, l50, l57, l59, l60, l94, l97, l99, l100, l122, l255, l256, l300, l488, l1000, a1 a (show a < e by omega) hn]
            · show fX11_nextRow_L71 (m + 1) (nI e) T = fX11_nextRow_L71 m (nI (e + 1)) _
              rw [fX11_nextRow_L71, m_guests (h.rw hF (by decide))]
              simp (disch := omega) only [gC_d, gC_tt, gBp_s, gBd_s, gL_s, gIn_nI, gN_nI, nI_ltI, nI_leI, nI_eq, nI_add, nI_mul, nI_sub, ite_t, ite_f, gR_W2, gRL_W, if_true, if_false, true_and, and_true, false_and, and_false, and_self, Nat.add_zero, l0, l1, l2, l3, l4, l5, l6, l7, l8, l9, l10, l11, l12, l13, l14, l22, l30, l31, l32, l39, l40, l48, l50, l57, l59, l60, l94, l97, l99, l100, l122, l255, l256, l300, l488, l1000]
          · rintro m T ⟨hge, hF, a1⟩
            refine ⟨T, ?_, hF, fun a ha => a1 a ha ha⟩
            show fX11_nextRow_L71 (m + 1) (nI n) T = _
            rw [fX11_nextRow_L71, m_guests (h.rw hF (by decide))]
            simp (disch := omega) only [gC_d, gC_tt, gBp_s, gBd_s, gL_s, gIn_nI, gN_nI, nI_ltI, nI_leI, nI_eq, nI_add, nI_mul, nI_sub, ite_t, ite_f, gR_W2, gRL_W, if_true, if_false, true_and, and_true, false_and, and_false, and_self, Nat.add_zero, l0, l1, l2, l3, l4, l5, l6, l7, l8, l9, l10, l11, l12, l13, l14, l22, l30, l31, l32, l39, l40, l48, l50, l57, l59, l60, l94, l97, l99, l100, l122, l255, l256, l300, l488, l1000]
          · unfold bump
            by_cases q : a = g + 1
            · subst q; simp (disch := omega) only [gC_d, gC_tt, gBp_s, gBd_s, gL_s, gIn_nI, gN_nI, nI_ltI, nI_leI, nI_eq, nI_add, nI_mul, nI_sub, ite_t, ite_f, gR_W2, gRL_W, if_true, if_false, true_and, and_true, false_and, and_false, and_self, Nat.add_zero, l0, l1, l2, l3, l4, l5, l6, l7, l8, l9, l10, l11, l12, l13, l14, l22, l30, l31, l32, l39, l40, l48, l50, l57, l59, l60, l94, l97, l99, l100, l122, l255, l256, l300, l488, l1000]
            · simp (disch := omega) only [gC_d, gC_tt, gBp_s, gBd_s, gL_s, gIn_nI, gN_nI, nI_ltI, nI_leI, nI_eq, nI_add, nI_mul, nI_sub, ite_t, ite_f, gR_W2, gRL_W, if_true, if_false, true_and, and_true, false_and, and_false, and_self, Nat.add_zero, l0, l1, l2, l3, l4, l5, l6, l7, l8, l9, l10, l11, l12, l13, l14, l22, l30, l31, l32, l39, l40, l48, l50, l57, l59, l60, l94, l97, l99, l100, l122, l255, l256, l300, l488, l1000, hf a hn]
        refine ⟨enc (bump (dig c) (g + 1)) n, S1, if_pos z, hin.trans e1, e2, e3.congr (fun e he => ?_)⟩
        rw [dig_enc h8 hbl (by omega), if_pos he]
      · rw [if_neg z] at hin
        rw [hin, show nxg n c (g + 1) = nxg n c g from if_neg z]
        exact ih
  rcases key (n - 1) gFU (by omega) (show n - 1 < 5000 by omega) with ⟨a, b⟩ | ⟨d, S1, a, b, e⟩
  · left
    refine ⟨a, ?_⟩
    simp (disch := omega) only [gC_d, gC_tt, gBp_s, gBd_s, gL_s, gIn_nI, gN_nI, nI_ltI, nI_leI, nI_eq, nI_add, nI_mul, nI_sub, ite_t, ite_f, gR_W2, gRL_W, if_true, if_false, true_and, and_true, false_and, and_false, and_self, Nat.add_zero, l0, l1, l2, l3, l4, l5, l6, l7, l8, l9, l10, l11, l12, l13, l14, l22, l30, l31, l32, l39, l40, l48, l50, l57, l59, l60, l94, l97, l99, l100, l122, l255, l256, l300, l488, l1000, b]
  · right
    refine ⟨d, S1, a, ?_, e⟩
    simp (disch := omega) only [gC_d, gC_tt, gBp_s, gBd_s, gL_s, gIn_nI, gN_nI, nI_ltI, nI_leI, nI_eq, nI_add, nI_mul, nI_sub, ite_t, ite_f, gR_W2, gRL_W, if_true, if_false, true_and, and_true, false_and, and_false, and_self, Nat.add_zero, l0, l1, l2, l3, l4, l5, l6, l7, l8, l9, l10, l11, l12, l13, l14, l22, l30, l31, l32, l39, l40, l48, l50, l57, l59, l60, l94, l97, l99, l100, l122, l255, l256, l300, l488, l1000, b]
/-- a row and its number -/
theorem dig_Can {f : Nat → Nat} {n : Nat} (h8 : n ≤ 8) (hC : Can f n) : ∀ g, g < n → dig (enc f n) g = f g := fun g hg => by rw [dig_enc h8 (fun e he => hC.lt8 h8 he) (by omega), if_pos hg]
theorem rows_Can {n d : Nat} (h8 : n ≤ 8) (h : d ∈ rows n) : Can (dig d) n ∧ d < 2 ^ 24 ∧ enc (dig d) n = d := by
  obtain ⟨f, rfl, hC⟩ := rows_mem h
  have e := dig_Can h8 hC
  exact ⟨hC.congr (fun g hg => (e g hg).symm), enc_lt h8 (fun g hg => hC.lt8 h8 hg), enc_congr e⟩
