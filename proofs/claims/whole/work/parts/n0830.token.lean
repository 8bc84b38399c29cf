/-! the words of a text; needs: 0800 0801 0802 0803 0804 0805 0806 0807 0808 0809 0810 0811 0812 0813 0814 0815 0816 0821 0822 0829 -/
theorem gW_gW (S : gSt) (p k : Nat) (a b : Int32) : gW (gW S p k a) p k b = gW S p k b := by
  unfold gW
  congr 1
  funext q j
  show (if q = p ∧ j = k then b else if q = p ∧ j = k then a else S.1 q j) = _
  split <;> rfl
theorem gW_self {S : gSt} {p k : Nat} {v : Int32} (h : gR S p k = v) : gW S p k v = S := by
  show ((fun q j => if q = p ∧ j = k then v else S.1 q j), S.2) = (S.1, S.2)
  congr 1
  funext q j
  by_cases z : q = p ∧ j = k
  · rw [if_pos z, z.1, z.2]; exact h.symm
  · rw [if_neg z]
theorem gW_com {S : gSt} {p k j : Nat} {a b : Int32} (h : k ≠ j) : gW (gW S p k a) p j b = gW (gW S p j b) p k a := by
  unfold gW
  congr 1
  funext q i
  show (if q = p ∧ i = j then b else if q = p ∧ i = k then a else S.1 q i) = (if q = p ∧ i = k then a else if q = p ∧ i = j then b else S.1 q i)
  by_cases z : q = p ∧ i = j
  · rw [if_pos z, if_neg (by omega), if_pos z]
  · rw [if_neg z, if_neg z]
/-- the end of a run of places that are so -/
def en (P : Nat → Bool) : Nat → Nat → Nat
  | 0, p => p
  | k + 1, p => if P p then en P k (p + 1) else p
def E (tl : Nat) (P : Nat → Bool) (p : Nat) : Nat := en P (tl - p) p
theorem E_t {tl p : Nat} {P : Nat → Bool} (hP : ∀ q, P q = true → q < tl) (h : P p = true) : E tl P p = E tl P (p + 1) := by
  have := hP p h
  unfold E
  rw [show tl - p = (tl - (p + 1)) + 1 by omega, en, if_pos h]
theorem E_f {tl p : Nat} {P : Nat → Bool} (h : P p = false) : E tl P p = p := by
  unfold E
  cases tl - p with
  | zero => rfl
  | succ k => rw [en, if_neg (by rw [h]; decide)]
theorem E_ge {tl : Nat} {P : Nat → Bool} (hP : ∀ q, P q = true → q < tl) : ∀ (k p : Nat), tl - p ≤ k → p ≤ E tl P p ∧ (p ≤ tl → E tl P p ≤ tl) ∧ P (E tl P p) = false ∧ ∀ q, p ≤ q → q < E tl P p → P q = true := by
  intro k
  induction k with
  | zero =>
    intro p hk
    have h : P p = false := by
      cases z : P p with
      | false => rfl
      | true => have := hP p z; omega
    rw [E_f h]
    exact ⟨Nat.le_refl _, fun h => h, h, fun q h1 h2 => absurd h1 (by omega)⟩
  | succ k ih =>
    intro p hk
    cases z : P p with
    | false =>
      rw [E_f z]
      exact ⟨Nat.le_refl _, fun h => h, z, fun q h1 h2 => absurd h1 (by omega)⟩
    | true =>
      have hlt := hP p z
      obtain ⟨a, b, c, d⟩ := ih (p + 1) (by omega)
      rw [E_t hP z]
      refine ⟨by omega, fun _ => b (by omega), c, fun q h1 h2 => ?_⟩
      by_cases y : q = p
      · rw [y]; exact z
      · exact d q (by omega) h2
/-- a loop over such a run -/
theorem run_loop {β : Type} {tl lo : Nat} {P : Nat → Bool} (hP : ∀ q, P q = true → q < tl) (L : Nat → Nat → β) (hs : ∀ m p, lo ≤ p → P p = true → L (m + 1) p = L m (p + 1)) : ∀ (k p m : Nat), lo ≤ p → tl - p ≤ k → k < m → ∃ m', L m p = L (m' + 1) (E tl P p) := by
  intro k
  induction k with
  | zero =>
    intro p m hlo hk hm
    have h : P p = false := by
      cases z : P p with
      | false => rfl
      | true => have := hP p z; omega
    rw [E_f h]
    exact ⟨m - 1, by rw [Nat.sub_add_cancel (by omega)]⟩
  | succ k ih =>
    intro p m hlo hk hm
    cases z : P p with
    | false =>
      rw [E_f z]
      exact ⟨m - 1, by rw [Nat.sub_add_cancel (by omega)]⟩
    | true =>
      have hlt := hP p z
      obtain ⟨m, rfl⟩ : ∃ i, m = i + 1 := ⟨m - 1, by omega⟩
      obtain ⟨m', h2⟩ := ih (p + 1) m (by omega) (by omega) (by omega)
      exact ⟨m', by rw [hs m p hlo z, h2, E_t hP z]⟩
theorem run_FU {β : Type} {tl lo : Nat} {P : Nat → Bool} (h3 : tl ≤ 300) (hP : ∀ q, P q = true → q < tl) (L : Nat → Nat → β) (hs : ∀ m p, lo ≤ p → P p = true → L (m + 1) p = L m (p + 1)) : ∃ m', L gFU lo = L (m' + 1) (E tl P lo) := run_loop hP L hs tl lo gFU (Nat.le_refl _) (by omega) (show tl < 5000 by omega)
/-- what a byte is -/
def bI (tl : Nat) (tx : Nat → Nat) (i : Nat) : Int32 := if i < tl then nI (tx i) else -1
def sp (tl : Nat) (tx : Nat → Nat) (i : Nat) : Bool := decide (i < tl) && decide (tx i = 32)
def lt (tl : Nat) (tx : Nat → Nat) (i : Nat) : Bool := decide (i < tl) && (decide (97 ≤ tx i) && decide (tx i ≤ 122))
def dg (tl : Nat) (tx : Nat → Nat) (i : Nat) : Bool := decide (i < tl) && (decide (48 ≤ tx i) && decide (tx i ≤ 57))
theorem sp_lt {tl : Nat} {tx : Nat → Nat} (q : Nat) (h : sp tl tx q = true) : q < tl := of_decide_eq_true (Bool.and_eq_true_iff.mp h).1
theorem lt_lt {tl : Nat} {tx : Nat → Nat} (q : Nat) (h : lt tl tx q = true) : q < tl := of_decide_eq_true (Bool.and_eq_true_iff.mp h).1
theorem dg_lt {tl : Nat} {tx : Nat → Nat} (q : Nat) (h : dg tl tx q = true) : q < tl := of_decide_eq_true (Bool.and_eq_true_iff.mp h).1
theorem lt_in {tl : Nat} {tx : Nat → Nat} {q : Nat} (h : lt tl tx q = true) : 97 ≤ tx q ∧ tx q ≤ 122 := by
  have := (Bool.and_eq_true_iff.mp h).2
  have := Bool.and_eq_true_iff.mp this
  exact ⟨of_decide_eq_true this.1, of_decide_eq_true this.2⟩
theorem dg_in {tl : Nat} {tx : Nat → Nat} {q : Nat} (h : dg tl tx q = true) : 48 ≤ tx q ∧ tx q ≤ 57 := by
  have := (Bool.and_eq_true_iff.mp h).2
  have := Bool.and_eq_true_iff.mp this
  exact ⟨of_decide_eq_true this.1, of_decide_eq_true this.2⟩
theorem bI_y {tl : Nat} {tx : Nat → Nat} {i : Nat} (h : i < tl) : bI tl tx i = nI (tx i) := if_pos h
theorem bI_n {tl : Nat} {tx : Nat → Nat} {i : Nat} (h : ¬ i < tl) : bI tl tx i = -1 := if_neg h
theorem c_byte {S : gSt} {tl i : Nat} {tx : Nat → Nat} (h : TX S tl tx) (h3 : tl ≤ 300) (hi : i < 2 ^ 31) : fX8_byteAt (nI i) S = some (bI tl tx i) := by
  unfold fX8_byteAt
  rw [if_neg (nI_pos hi), h.1]
  by_cases z : i < tl
  · rw [if_neg (nI_nleI z (by omega)), gC_ok (gIn_ok (by omega) (by omega)), gN_nI hi, h.2 i z, bI_y z]
  · rw [if_pos (nI_le (by omega) hi), bI_n z]
theorem m_byte {S : gSt} {tl i : Nat} {tx : Nat → Nat} (h : TM S tl tx) (h3 : tl ≤ 300) (hi : i < 2 ^ 31) : fX11_byteAt (nI i) S = some (bI tl tx i) := by
  unfold fX11_byteAt
  rw [h.1]
  by_cases z : i < tl
  · rw [if_neg (nI_nleI z (by omega)), gC_ok (gIn_ok (by omega) (by omega)), gN_nI hi, h.2 i z, bI_y z]
  · rw [if_pos (nI_le (by omega) hi), bI_n z]
theorem b_eq {tl c : Nat} {tx : Nat → Nat} (hb : ∀ i, i < tl → tx i < 256) (hc : c < 256) (i : Nat) : bI tl tx i = nI c ↔ i < tl ∧ tx i = c := by
  by_cases z : i < tl
  · have := hb i z
    rw [bI_y z, nI_eq (by omega) (by omega)]
    exact ⟨fun h => ⟨z, h⟩, fun h => h.2⟩
  · rw [bI_n z]
    refine ⟨fun h => ?_, fun h => absurd h.1 z⟩
    exfalso
    exact nI_pos (n := c) (by omega) (by rw [← h]; decide)
theorem b_in {tl a b : Nat} {tx : Nat → Nat} (hb : ∀ i, i < tl → tx i < 256) (ha : a < 256) (hb2 : b < 256) (i : Nat) : (nI a ≤ bI tl tx i ∧ bI tl tx i ≤ nI b) ↔ i < tl ∧ a ≤ tx i ∧ tx i ≤ b := by
  by_cases z : i < tl
  · have := hb i z
    rw [bI_y z, nI_leI (by omega) (by omega), nI_leI (by omega) (by omega)]
    exact ⟨fun h => ⟨z, h⟩, fun h => h.2⟩
  · rw [bI_n z]
    refine ⟨fun h => ?_, fun h => absurd h.1 z⟩
    exfalso
    exact nI_pos (n := a) (by omega) (Int32.lt_of_le_of_lt h.1 (by decide))
theorem c_isL {S : gSt} {tl : Nat} {tx : Nat → Nat} (hb : ∀ i, i < tl → tx i < 256) (i : Nat) : fX4_isLetter (bI tl tx i) S = some (nI (bN (lt tl tx i))) := by
  have h : ((97 : Int32) ≤ bI tl tx i ∧ bI tl tx i ≤ 122) ↔ i < tl ∧ 97 ≤ tx i ∧ tx i ≤ 122 := b_in (a := 97) (b := 122) hb (by omega) (by omega) i
  unfold fX4_isLetter lt
  by_cases z : i < tl ∧ 97 ≤ tx i ∧ tx i ≤ 122
  · have h2 := h.mpr z
    rw [if_neg (Int32.not_lt.mpr h2.1), if_neg (Int32.not_lt.mpr h2.2), decide_eq_true z.1, decide_eq_true z.2.1, decide_eq_true z.2.2]
    rfl
  · have e : (decide (i < tl) && (decide (97 ≤ tx i) && decide (tx i ≤ 122))) = false := by
      rw [← Bool.not_eq_true, Bool.and_eq_true_iff, Bool.and_eq_true_iff, decide_eq_true_eq, decide_eq_true_eq, decide_eq_true_eq]
      exact z
    rw [e]
    by_cases y : bI tl tx i < 97
    · rw [if_pos y]; rfl
    · rw [if_neg y, if_pos (by
        rcases Int32.lt_or_le 122 (bI tl tx i) with q | q
        · exact q
        · exact absurd (h.mp ⟨Int32.not_lt.mp y, q⟩) z)]
      rfl
theorem m_isL {S : gSt} {tl : Nat} {tx : Nat → Nat} (hb : ∀ i, i < tl → tx i < 256) (i : Nat) : fX11_in (bI tl tx i) 97 122 S = some (nI (bN (lt tl tx i))) := by
  have h : ((97 : Int32) ≤ bI tl tx i ∧ bI tl tx i ≤ 122) ↔ i < tl ∧ 97 ≤ tx i ∧ tx i ≤ 122 := b_in (a := 97) (b := 122) hb (by omega) (by omega) i
  rw [m_in]
  unfold lt
  by_cases z : i < tl ∧ 97 ≤ tx i ∧ tx i ≤ 122
  · rw [if_pos (h.mpr z), decide_eq_true z.1, decide_eq_true z.2.1, decide_eq_true z.2.2]
    rfl
  · have e : (decide (i < tl) && (decide (97 ≤ tx i) && decide (tx i ≤ 122))) = false := by
      rw [← Bool.not_eq_true, Bool.and_eq_true_iff, Bool.and_eq_true_iff, decide_eq_true_eq, decide_eq_true_eq, decide_eq_true_eq]
      exact z
    rw [e, if_neg (fun y => z (h.mp y))]
    rfl
theorem c_isD {S : gSt} {tl : Nat} {tx : Nat → Nat} (hb : ∀ i, i < tl → tx i < 256) (i : Nat) : fX4_isDigit (bI tl tx i) S = some (nI (bN (dg tl tx i))) := by
  have h : ((48 : Int32) ≤ bI tl tx i ∧ bI tl tx i ≤ 57) ↔ i < tl ∧ 48 ≤ tx i ∧ tx i ≤ 57 := b_in (a := 48) (b := 57) hb (by omega) (by omega) i
  unfold fX4_isDigit dg
  by_cases z : i < tl ∧ 48 ≤ tx i ∧ tx i ≤ 57
  · have h2 := h.mpr z
    rw [if_neg (Int32.not_lt.mpr h2.1), if_neg (Int32.not_lt.mpr h2.2), decide_eq_true z.1, decide_eq_true z.2.1, decide_eq_true z.2.2]
    rfl
  · have e : (decide (i < tl) && (decide (48 ≤ tx i) && decide (tx i ≤ 57))) = false := by
      rw [← Bool.not_eq_true, Bool.and_eq_true_iff, Bool.and_eq_true_iff, decide_eq_true_eq, decide_eq_true_eq, decide_eq_true_eq]
      exact z
    rw [e]
    by_cases y : bI tl tx i < 48
    · rw [if_pos y]; rfl
    · rw [if_neg y, if_pos (by
        rcases Int32.lt_or_le 57 (bI tl tx i) with q | q
        · exact q
        · exact absurd (h.mp ⟨Int32.not_lt.mp y, q⟩) z)]
      rfl
theorem m_isD {S : gSt} {tl : Nat} {tx : Nat → Nat} (hb : ∀ i, i < tl → tx i < 256) (i : Nat) : fX11_in (bI tl tx i) 48 57 S = some (nI (bN (dg tl tx i))) := by
  have h : ((48 : Int32) ≤ bI tl tx i ∧ bI tl tx i ≤ 57) ↔ i < tl ∧ 48 ≤ tx i ∧ tx i ≤ 57 := b_in (a := 48) (b := 57) hb (by omega) (by omega) i
  rw [m_in]
  unfold dg
  by_cases z : i < tl ∧ 48 ≤ tx i ∧ tx i ≤ 57
  · rw [if_pos (h.mpr z), decide_eq_true z.1, decide_eq_true z.2.1, decide_eq_true z.2.2]
    rfl
  · have e : (decide (i < tl) && (decide (48 ≤ tx i) && decide (tx i ≤ 57))) = false := by
      rw [← Bool.not_eq_true, Bool.and_eq_true_iff, Bool.and_eq_true_iff, decide_eq_true_eq, decide_eq_true_eq, decide_eq_true_eq]
      exact z
    rw [e, if_neg (fun y => z (h.mp y))]
    rfl
theorem b_sp {tl : Nat} {tx : Nat → Nat} (hb : ∀ i, i < tl → tx i < 256) (i : Nat) : bI tl tx i = 32 ↔ sp tl tx i = true := by
  have h := b_eq (c := 32) hb (by omega) i
  unfold sp
  rw [Bool.and_eq_true_iff, decide_eq_true_eq, decide_eq_true_eq]
  exact h
/-- the words, read backwards, and as numbers -/
def rwd (tx : Nat → Nat) (s : Nat) : Nat → List Nat
  | 0 => []
  | k + 1 => tx (s + k) :: rwd tx s k
def rf : List Nat → Nat
  | [] => 0
  | b :: l => 256 * rf l + b
def wN : List (List Nat) := [[103, 117, 101, 115, 116, 115], [104, 97, 116], [112, 97, 114, 116, 105, 101, 115], [108, 101, 97, 115, 116], [109, 111, 115, 116], [117, 110, 108, 105, 107, 101], [114, 105, 110, 103], [116, 111, 103, 101, 116, 104, 101, 114], [97, 112, 97, 114, 116], [119, 111, 114, 116, 104], [99, 111, 115, 116]]
def rW (i : Nat) : List Nat := (wN.getD i []).reverse
def wv (l : List Nat) : Nat := ff (fun i => decide (l = rW i)) 11
theorem rwd_len (tx : Nat → Nat) (s : Nat) : ∀ k, (rwd tx s k).length = k
  | 0 => rfl
  | k + 1 => by show (rwd tx s k).length + 1 = _; rw [rwd_len tx s k]
theorem rwd_eq (tx : Nat → Nat) (s : Nat) : ∀ k, rwd tx s k = ((List.range k).map (fun j => tx (s + j))).reverse
  | 0 => rfl
  | k + 1 => by
    show tx (s + k) :: rwd tx s k = _
    rw [rwd_eq tx s k, List.range_succ, List.map_append, List.reverse_append]
    rfl
theorem rwd_iff (tx : Nat → Nat) (s : Nat) (l : List Nat) : rwd tx s l.length = l.reverse ↔ ∀ j, j < l.length → l.getD j 0 = tx (s + j) := by
  rw [rwd_eq, List.reverse_inj]
  constructor
  · intro h j hj
    have := congrArg (fun m => m.getD j 0) h
    simp [List.getD_eq_getElem?_getD, hj] at this
    rw [List.getD_eq_getElem?_getD, List.getElem?_eq_getElem hj]
    exact this.symm
  · intro h
    apply List.ext_getElem
    · simp
    · intro j h1 h2
      have := h j h2
      rw [List.getD_eq_getElem?_getD, List.getElem?_eq_getElem h2] at this
      simp only [List.getElem_map, List.getElem_range]
      exact this.symm
theorem rf_inj : ∀ {l k : List Nat}, (∀ b, b ∈ l → 1 ≤ b ∧ b < 256) → (∀ b, b ∈ k → 1 ≤ b ∧ b < 256) → rf l = rf k → l = k
  | [], [], _, _, _ => rfl
  | [], b :: k, _, h, e => by
    have := h b (List.mem_cons_self ..)
    have e : 0 = 256 * rf k + b := e
    omega
  | b :: l, [], h, _, e => by
    have := h b (List.mem_cons_self ..)
    have e : 256 * rf l + b = 0 := e
    omega
  | b :: l, c :: k, h, h2, e => by
    have hb := h b (List.mem_cons_self ..)
    have hc := h2 c (List.mem_cons_self ..)
    have e : 256 * rf l + b = 256 * rf k + c := e
    have e1 : b = c := by omega
    rw [e1, rf_inj (fun x hx => h x (List.mem_cons_of_mem _ hx)) (fun x hx => h2 x (List.mem_cons_of_mem _ hx)) (by omega)]
theorem rf_lt : ∀ {l : List Nat}, (∀ b, b ∈ l → b < 128) → rf l < 128 * 256 ^ (l.length - 1) ∨ l = []
  | [], _ => Or.inr rfl
  | b :: l, h => by
    left
    have hb := h b (List.mem_cons_self ..)
    show 256 * rf l + b < 128 * 256 ^ (l.length + 1 - 1)
    rcases rf_lt (l := l) (fun x hx => h x (List.mem_cons_of_mem _ hx)) with z | z
    · cases l with
      | nil => show 256 * 0 + b < 128 * 256 ^ 0; omega
      | cons c l =>
        rw [List.length_cons] at z ⊢
        rw [show l.length + 1 - 1 = l.length from rfl] at z
        rw [show l.length + 1 + 1 - 1 = l.length + 1 from rfl, Nat.pow_succ]
        omega
    · subst z
      show 256 * 0 + b < 128 * 256 ^ 0
      omega
theorem rf_63 {l : List Nat} (h : ∀ b, b ∈ l → b < 128) (hl : l.length ≤ 8) : rf l < 2 ^ 63 := by
  rcases rf_lt h with z | z
  · have : 256 ^ (l.length - 1) ≤ 256 ^ 7 := Nat.pow_le_pow_right (by omega) (by omega)
    have e : (128 : Nat) * 256 ^ 7 = 2 ^ 63 := by decide
    omega
  · rw [z]; decide
/-- numbers, no longer read than need be -/
def nv (tx : Nat → Nat) (s : Nat) : Nat → Nat
  | 0 => 0
  | k + 1 => if nv tx s k ≤ 99 then nv tx s k * 10 + tx (s + k) - 48 else nv tx s k
theorem nv_lt {tx : Nat → Nat} {s : Nat} : ∀ k, (∀ j, j < k → tx (s + j) ≤ 57) → nv tx s k ≤ 999
  | 0, _ => by show 0 ≤ 999; omega
  | k + 1, h => by
    have h1 := nv_lt k (fun j hj => h j (by omega))
    have h2 := h k (by omega)
    show (if nv tx s k ≤ 99 then nv tx s k * 10 + tx (s + k) - 48 else nv tx s k) ≤ 999
    split <;> omega
/-- kind (0 end, 1 word, 2 number, 3 semicolon, 4 none), value, where it begins, where it ends -/
def tk (tl : Nat) (tx : Nat → Nat) (p : Nat) : Nat × Nat × Nat × Nat :=
  if tl ≤ E tl (sp tl tx) p then (0, 0, E tl (sp tl tx) p, E tl (sp tl tx) p)
  else if tx (E tl (sp tl tx) p) = 59 then (3, 0, E tl (sp tl tx) p, E tl (sp tl tx) p + 1)
  else if lt tl tx (E tl (sp tl tx) p) then
    (if wv (rwd tx (E tl (sp tl tx) p) (E tl (lt tl tx) (E tl (sp tl tx) p) - E tl (sp tl tx) p)) < 11 then (1, wv (rwd tx (E tl (sp tl tx) p) (E tl (lt tl tx) (E tl (sp tl tx) p) - E tl (sp tl tx) p)), E tl (sp tl tx) p, E tl (lt tl tx) (E tl (sp tl tx) p)) else (4, 0, E tl (sp tl tx) p, E tl (lt tl tx) (E tl (sp tl tx) p)))
  else if dg tl tx (E tl (sp tl tx) p) then
    (if 99 < nv tx (E tl (sp tl tx) p) (E tl (dg tl tx) (E tl (sp tl tx) p) - E tl (sp tl tx) p) ∨ (tx (E tl (sp tl tx) p) = 48 ∧ 1 < E tl (dg tl tx) (E tl (sp tl tx) p) - E tl (sp tl tx) p) then (4, 0, E tl (sp tl tx) p, E tl (dg tl tx) (E tl (sp tl tx) p)) else (2, nv tx (E tl (sp tl tx) p) (E tl (dg tl tx) (E tl (sp tl tx) p) - E tl (sp tl tx) p), E tl (sp tl tx) p, E tl (dg tl tx) (E tl (sp tl tx) p)))
  else (4, 0, E tl (sp tl tx) p, E tl (sp tl tx) p)
theorem E_prog {tl p : Nat} {P : Nat → Bool} (hP : ∀ q, P q = true → q < tl) (h : P p = true) : p < E tl P p ∧ E tl P p ≤ tl := by
  have h1 := hP p h
  have h2 := E_ge hP tl (p + 1) (by omega)
  rw [E_t hP h]
  exact ⟨h2.1, h2.2.1 (by omega)⟩
def TkOk (tl p : Nat) (t : Nat × Nat × Nat × Nat) : Prop := t.2.2.1 ≤ tl ∧ p ≤ t.2.2.1 ∧ t.2.2.2 ≤ tl ∧ t.1 ≤ 4 ∧ (t.1 = 1 → t.2.1 < 11) ∧ (t.1 = 2 → t.2.1 ≤ 99) ∧ (t.1 ≠ 0 → t.1 ≠ 4 → p < t.2.2.2) ∧ (t.1 ≠ 0 → t.2.2.1 < tl)
theorem TkOk.mk {tl p a v s e : Nat} (h1 : s ≤ tl) (h2 : p ≤ s) (h3 : e ≤ tl) (h4 : a ≤ 4) (h5 : a = 1 → v < 11) (h6 : a = 2 → v ≤ 99) (h7 : a ≠ 0 → a ≠ 4 → p < e) (h8 : a ≠ 0 → s < tl) : TkOk tl p (a, v, s, e) := ⟨h1, h2, h3, h4, h5, h6, h7, h8⟩
theorem tk_ok {tl p : Nat} {tx : Nat → Nat} (hp : p ≤ tl) : TkOk tl p (tk tl tx p) := by
  obtain ⟨g1, g2, -, -⟩ := E_ge (tl := tl) (P := sp tl tx) sp_lt tl p (by omega)
  have g2 := g2 hp
  unfold tk
  generalize E tl (sp tl tx) p = s at *
  by_cases z0 : tl ≤ s
  · rw [if_pos z0]
    exact TkOk.mk g2 g1 g2 (by omega) (by omega) (by omega) (by omega) (by omega)
  rw [if_neg z0]
  by_cases z1 : tx s = 59
  · rw [if_pos z1]
    exact TkOk.mk g2 g1 (by omega) (by omega) (by omega) (by omega) (by omega) (by omega)
  rw [if_neg z1]
  by_cases z2 : lt tl tx s = true
  · have h2 := E_prog lt_lt z2
    rw [if_pos z2]
    generalize E tl (lt tl tx) s = e at *
    by_cases z3 : wv (rwd tx s (e - s)) < 11
    · rw [if_pos z3]
      exact TkOk.mk g2 g1 h2.2 (by omega) (fun _ => z3) (by omega) (by omega) (by omega)
    · rw [if_neg z3]
      exact TkOk.mk g2 g1 h2.2 (by omega) (by omega) (by omega) (by omega) (by omega)
  rw [if_neg z2]
  by_cases z4 : dg tl tx s = true
  · have h2 := E_prog dg_lt z4
    rw [if_pos z4]
    generalize E tl (dg tl tx) s = e at *
    generalize nv tx s (e - s) = v at *
    by_cases z3 : 99 < v ∨ (tx s = 48 ∧ 1 < e - s)
    · rw [if_pos z3]
      exact TkOk.mk g2 g1 h2.2 (by omega) (by omega) (by omega) (by omega) (by omega)
    · rw [if_neg z3]
      exact TkOk.mk g2 g1 h2.2 (by omega) (by omega) (by omega) (by omega) (by omega)
  · rw [if_neg z4]
    exact TkOk.mk g2 g1 g2 (by omega) (by omega) (by omega) (by omega) (by omega)
