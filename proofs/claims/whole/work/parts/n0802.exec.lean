/-! rules to run pure functions by; needs: 0800 0801 -/
theorem gC_d {τ : Type} {p : Prop} [Decidable p] {o : Option τ} (h : p) : gC (decide p) o = o := gC_ok (decide_eq_true h)
theorem gC_tt {τ : Type} {o : Option τ} : gC true o = o := rfl
theorem ite_t {α : Type} {c : Prop} [Decidable c] {a b : α} (h : c) : (if c then a else b) = a := if_pos h
theorem ite_f {α : Type} {c : Prop} [Decidable c] {a b : α} (h : ¬ c) : (if c then a else b) = b := if_neg h
theorem nI_mul (a b : Nat) : nI a * nI b = nI (a * b) := (Int32.ofNat_mul a b).symm
theorem nI_andI (a b : Nat) : nI a &&& nI b = nI (a &&& b) := by
  apply Int32.toBitVec_inj.mp
  show (BitVec.ofNat 32 a) &&& (BitVec.ofNat 32 b) = BitVec.ofNat 32 (a &&& b)
  rw [BitVec.ofNat_and]
theorem nI_orI (a b : Nat) : nI a ||| nI b = nI (a ||| b) := by
  apply Int32.toBitVec_inj.mp
  show (BitVec.ofNat 32 a) ||| (BitVec.ofNat 32 b) = BitVec.ofNat 32 (a ||| b)
  rw [BitVec.ofNat_or]
theorem nI_31 {g : Nat} (h : g < 32) : nI g &&& nI 31 = nI g := by
  rw [nI_andI, show (31 : Nat) = 2 ^ 5 - 1 from rfl, Nat.and_two_pow_sub_one_eq_mod, Nat.mod_eq_of_lt h]
theorem nI_shl {a g : Nat} (hg : g < 32) : nI a <<< nI g = nI (a * 2 ^ g) := by
  apply Int32.toBitVec_inj.mp
  rw [Int32.toBitVec_shiftLeft]
  have e : ((nI g).toBitVec.smod 32) = BitVec.ofNat 32 g := by
    have : ∀ g : Fin 32, ((nI g.val).toBitVec.smod 32) = BitVec.ofNat 32 g.val := by decide +kernel
    exact this ⟨g, hg⟩
  rw [e]
  apply BitVec.eq_of_toNat_eq
  rw [BitVec.shiftLeft_eq', BitVec.toNat_shiftLeft]
  show ((BitVec.ofNat 32 a).toNat <<< (BitVec.ofNat 32 g).toNat) % 2 ^ 32 = (BitVec.ofNat 32 (a * 2 ^ g)).toNat
  rw [BitVec.toNat_ofNat, BitVec.toNat_ofNat, BitVec.toNat_ofNat, Nat.mod_eq_of_lt (a := g) (by omega), Nat.shiftLeft_eq, Nat.mod_mul_mod]
theorem nI_shr {a g : Nat} (ha : a < 2 ^ 31) (hg : g < 32) : nI a >>> nI g = nI (a / 2 ^ g) := by
  apply Int32.toBitVec_inj.mp
  rw [Int32.toBitVec_shiftRight]
  have e : ((nI g).toBitVec.smod 32) = BitVec.ofNat 32 g := by
    have : ∀ g : Fin 32, ((nI g.val).toBitVec.smod 32) = BitVec.ofNat 32 g.val := by decide +kernel
    exact this ⟨g, hg⟩
  rw [e]
  have hm : (nI a).toBitVec.msb = false := by
    show (BitVec.ofNat 32 a).msb = false
    rw [BitVec.msb_eq_false_iff_two_mul_lt, BitVec.toNat_ofNat]
    omega
  rw [BitVec.sshiftRight_eq', BitVec.sshiftRight_eq_of_msb_false hm]
  apply BitVec.eq_of_toNat_eq
  rw [BitVec.toNat_ushiftRight]
  show (BitVec.ofNat 32 a).toNat >>> (BitVec.ofNat 32 g).toNat = (BitVec.ofNat 32 (a / 2 ^ g)).toNat
  have h2 : a / 2 ^ g ≤ a := Nat.div_le_self _ _
  rw [BitVec.toNat_ofNat, BitVec.toNat_ofNat, BitVec.toNat_ofNat, Nat.mod_eq_of_lt (a := g) (by omega), Nat.mod_eq_of_lt (a := a) (by omega), Nat.mod_eq_of_lt (a := a / 2 ^ g) (by omega), Nat.shiftRight_eq_div_pow]
theorem l0 : (0 : Int32) = nI 0 := rfl
theorem l1 : (1 : Int32) = nI 1 := rfl
theorem l2 : (2 : Int32) = nI 2 := rfl
theorem l3 : (3 : Int32) = nI 3 := rfl
theorem l4 : (4 : Int32) = nI 4 := rfl
theorem l5 : (5 : Int32) = nI 5 := rfl
theorem l6 : (6 : Int32) = nI 6 := rfl
theorem l7 : (7 : Int32) = nI 7 := rfl
theorem l8 : (8 : Int32) = nI 8 := rfl
theorem l9 : (9 : Int32) = nI 9 := rfl
theorem l10 : (10 : Int32) = nI 10 := rfl
theorem l11 : (11 : Int32) = nI 11 := rfl
theorem l12 : (12 : Int32) = nI 12 := rfl
theorem l13 : (13 : Int32) = nI 13 := rfl
theorem l14 : (14 : Int32) = nI 14 := rfl
theorem l22 : (22 : Int32) = nI 22 := rfl
theorem l30 : (30 : Int32) = nI 30 := rfl
theorem l31 : (31 : Int32) = nI 31 := rfl
theorem l32 : (32 : Int32) = nI 32 := rfl
theorem l39 : (39 : Int32) = nI 39 := rfl
theorem l40 : (40 : Int32) = nI 40 := rfl
theorem l48 : (48 : Int32) = nI 48 := rfl
theorem l50 : (50 : Int32) = nI 50 := rfl
theorem l57 : (57 : Int32) = nI 57 := rfl
theorem l59 : (59 : Int32) = nI 59 := rfl
theorem l60 : (60 : Int32) = nI 60 := rfl
theorem l94 : (94 : Int32) = nI 94 := rfl
theorem l97 : (97 : Int32) = nI 97 := rfl
theorem l99 : (99 : Int32) = nI 99 := rfl
theorem l100 : (100 : Int32) = nI 100 := rfl
theorem l122 : (122 : Int32) = nI 122 := rfl
theorem l255 : (255 : Int32) = nI 255 := rfl
theorem l256 : (256 : Int32) = nI 256 := rfl
theorem l300 : (300 : Int32) = nI 300 := rfl
theorem l488 : (488 : Int32) = nI 488 := rfl
theorem l1000 : (1000 : Int32) = nI 1000 := rfl
theorem gR_W2 (S : gSt) (p k : Nat) (v : Int32) (q j : Nat) : gR (gW S p k v) q j = if q = p ∧ j = k then v else gR S q j := rfl
theorem gRL_W (S : gSt) (p k : Nat) (v : Int32) (q : Nat) : gRL (gW S p k v) q = gRL S q := rfl
/-- the store but at the positions from a to b -/
def gFr (a b : Nat) (S S1 : gSt) : Prop := S1.2 = S.2 ∧ ∀ p k, p < a ∨ b ≤ p → gR S1 p k = gR S p k
theorem gFr.rf {a b : Nat} {S : gSt} : gFr a b S S := ⟨rfl, fun _ _ _ => rfl⟩
theorem gFr.tr {a b : Nat} {S S1 S2 : gSt} (h : gFr a b S S1) (h2 : gFr a b S1 S2) : gFr a b S S2 := ⟨h2.1.trans h.1, fun p k hp => (h2.2 p k hp).trans (h.2 p k hp)⟩
theorem gFr.mono {a b c d : Nat} {S S1 : gSt} (h : gFr a b S S1) (h1 : c ≤ a) (h2 : b ≤ d) : gFr c d S S1 := ⟨h.1, fun p k hp => h.2 p k (by omega)⟩
theorem gFr.w {a b : Nat} {S S1 : gSt} {p k : Nat} {v : Int32} (h : gFr a b S S1) (h1 : a ≤ p) (h2 : p < b) : gFr a b S (gW S1 p k v) := ⟨h.1, fun q j hq => by rw [gR_Wp (by omega)]; exact h.2 q j hq⟩
theorem gFr.w0 {a b : Nat} {S : gSt} {p k : Nat} {v : Int32} (h1 : a ≤ p) (h2 : p < b) : gFr a b S (gW S p k v) := gFr.rf.w h1 h2
/-- loops that change the store -/
theorem forS {α β : Type} (L : Nat → α → Nat → β) (P : β → Prop) (I : Nat → α → Prop) (n : Nat) (hs : ∀ m g a, g < n → I g a → ∃ a', I (g + 1) a' ∧ L (m + 1) a g = L m a' (g + 1)) (he : ∀ m a, I n a → P (L (m + 1) a n)) (hn : n < 5000) (a : α) (h0 : I 0 a) : P (L gFU a 0) := forFU L P I n a hn (fun m g a h1 h2 => Or.inr (hs m g a h1 h2)) he h0
