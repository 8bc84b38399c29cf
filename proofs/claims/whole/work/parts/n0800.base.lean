/-! pure rows: the store, small numbers -/
theorem gR_Ws (S : gSt) (p k : Nat) (v : Int32) : gR (gW S p k v) p k = v := if_pos ⟨rfl, rfl⟩
theorem gR_Wp {S : gSt} {p k : Nat} {v : Int32} {q j : Nat} (h : q ≠ p) : gR (gW S p k v) q j = gR S q j := if_neg (fun z => h z.1)
theorem gR_Wk {S : gSt} {p k : Nat} {v : Int32} {q j : Nat} (h : j ≠ k) : gR (gW S p k v) q j = gR S q j := if_neg (fun z => h z.2)
theorem gR_W (S : gSt) (p k : Nat) (v : Int32) (q j : Nat) : gR (gW S p k v) q j = if q = p ∧ j = k then v else gR S q j := rfl
theorem gIn_nI {j : Nat} (n : Nat) (hj : j < 2 ^ 31) : gIn (nI j) n = decide (j < n) := by
  unfold gIn
  rw [nI_clamp hj]
  by_cases h : j < n
  · rw [decide_eq_true h, decide_eq_true_eq]
    rintro (q | q)
    · exact nI_pos hj q
    · omega
  · rw [decide_eq_false h, decide_eq_false_iff_not, Decidable.not_not]
    exact Or.inr (by omega)
theorem gIn_ok {j n : Nat} (h : j < n) (hn : n ≤ 2 ^ 31) : gIn (nI j) n = true := by
  rw [gIn_nI n (by omega), decide_eq_true h]
theorem gN_nI {j : Nat} (h : j < 2 ^ 31) : gN (nI j) = j := nI_clamp h
theorem gC_ok {τ : Type} {b : Bool} {o : Option τ} (h : b = true) : gC b o = o := by
  subst h; rfl
/-- S1 is S but at the positions ps -/
def gEx (ps : List Nat) (S S1 : gSt) : Prop := S1.2 = S.2 ∧ ∀ p, p ∉ ps → S1.1 p = S.1 p
theorem gEx.rf {ps : List Nat} {S : gSt} : gEx ps S S := ⟨rfl, fun _ _ => rfl⟩
theorem gEx.tr {ps qs : List Nat} {S S1 S2 : gSt} (h : gEx ps S S1) (h2 : gEx qs S1 S2) : gEx (ps ++ qs) S S2 := ⟨h2.1.trans h.1, fun p hp => (h2.2 p (fun q => hp (List.mem_append_right _ q))).trans (h.2 p (fun q => hp (List.mem_append_left _ q)))⟩
theorem gEx.mono {ps qs : List Nat} {S S1 : gSt} (h : gEx ps S S1) (hs : ∀ p, p ∈ ps → p ∈ qs) : gEx qs S S1 := ⟨h.1, fun p hp => h.2 p (fun q => hp (hs p q))⟩
theorem gEx.trS {ps : List Nat} {S S1 S2 : gSt} (h : gEx ps S S1) (h2 : gEx ps S1 S2) : gEx ps S S2 := (h.tr h2).mono (fun p hp => (List.mem_append.mp hp).elim id id)
theorem gEx.w {ps : List Nat} {S S1 : gSt} {p k : Nat} {v : Int32} (h : gEx ps S S1) (hp : p ∈ ps) : gEx ps S (gW S1 p k v) := ⟨h.1, fun q hq => (gW_ne (fun e => hq (by rw [e]; exact hp))).trans (h.2 q hq)⟩
theorem gEx.r {ps : List Nat} {S S1 : gSt} (h : gEx ps S S1) {p k : Nat} (hp : p ∉ ps) : gR S1 p k = gR S p k := congrFun (h.2 p hp) k
theorem gEx.rl {ps : List Nat} {S S1 : gSt} (h : gEx ps S S1) (p : Nat) : gRL S1 p = gRL S p := congrFun h.1 p
/-- ints as numbers -/
theorem nI_inj {a b : Nat} (ha : a < 2 ^ 31) (hb : b < 2 ^ 31) (h : nI a = nI b) : a = b := (nI_eq ha hb).mp h
theorem nI_lit (n : Nat) : (OfNat.ofNat n : Int32) = nI n := rfl
/-- the sets of guests: bits -/
def pcN : Nat → Nat → Nat
  | 0, _ => 0
  | k + 1, a => pcN k (a / 2) + a % 2
theorem bitCount_ok (S : gSt) : ∀ a : Nat, a < 256 → fJ6_bitCount_0f7a4 (nI a) S = some (nI (pcN 8 a)) := by
  have h : ∀ a : Fin 256, fJ6_bitCount_0f7a4 (nI a.val) (fun _ _ => 0, fun _ => 0) = some (nI (pcN 8 a.val)) := by decide +kernel
  intro a ha
  exact h ⟨a, ha⟩
def tzN : Nat → Nat → Nat
  | 0, _ => 0
  | k + 1, a => if a % 2 = 1 then 0 else tzN k (a / 2) + 1
theorem numTZ_ok (S : gSt) : ∀ a : Nat, 0 < a → a < 256 → fJ6_numberOfTrailingZeros_0f7a4 (nI a) S = some (nI (tzN 8 a)) := by
  have h : ∀ a : Fin 256, 0 < a.val → fJ6_numberOfTrailingZeros_0f7a4 (nI a.val) (fun _ _ => 0, fun _ => 0) = some (nI (tzN 8 a.val)) := by decide +kernel
  intro a h0 ha
  exact h ⟨a, ha⟩ h0
/-- whole numbers as ints -/
def iI (x : Int) : Int32 := Int32.ofInt x
theorem iI_add (x y : Int) : iI (x + y) = iI x + iI y := Int32.ofInt_add x y
theorem iI_nat (n : Nat) : iI (n : Int) = nI n := rfl
theorem iI_0 : iI 0 = 0 := rfl
theorem iI_toInt {x : Int} (h1 : -2147483648 ≤ x) (h2 : x < 2147483648) : (iI x).toInt = x := Int32.toInt_ofInt_of_le h1 h2
theorem iI_lt {x y : Int} (h1 : -2147483648 ≤ x) (h2 : x < 2147483648) (h3 : -2147483648 ≤ y) (h4 : y < 2147483648) : iI x < iI y ↔ x < y := by
  rw [Int32.lt_iff_toInt_lt, iI_toInt h1 h2, iI_toInt h3 h4]
theorem iI_le {x y : Int} (h1 : -2147483648 ≤ x) (h2 : x < 2147483648) (h3 : -2147483648 ≤ y) (h4 : y < 2147483648) : iI x ≤ iI y ↔ x ≤ y := by
  rw [Int32.le_iff_toInt_le, iI_toInt h1 h2, iI_toInt h3 h4]
theorem iI_eq {x y : Int} (h1 : -2147483648 ≤ x) (h2 : x < 2147483648) (h3 : -2147483648 ≤ y) (h4 : y < 2147483648) : iI x = iI y ↔ x = y := by
  rw [← Int32.toInt_inj, iI_toInt h1 h2, iI_toInt h3 h4]
theorem nI_sub {a b : Nat} (h : b ≤ a) : nI a - nI b = nI (a - b) := pk_sub h
theorem gIsG (x : Int32) {n : Nat} (hn : n < 2 ^ 31) : (¬ x < 0 ∧ x < nI n) ↔ ∃ g : Nat, g < n ∧ x = nI g := by
  constructor
  · intro h
    obtain ⟨j, hj, rfl⟩ := nI_of h.1
    exact ⟨j, (nI_ltI hj hn).mp h.2, rfl⟩
  · rintro ⟨g, hg, rfl⟩
    exact ⟨nI_pos (by omega), nI_lt hg hn⟩
theorem gFU_s : ∃ m, gFU = m + 1 := ⟨4999, rfl⟩
