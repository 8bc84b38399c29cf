/-! reading in step: numbers, the semicolon; needs: 0800 0801 0802 0803 0804 0805 0806 0807 0808 0809 0810 0811 0812 0813 0814 0815 0816 0821 0822 0829 0830 0831 0832 0833 -/
def AtX (S : gSt) (q tl : Nat) (tx : Nat → Nat) (r : Nat → Nat) (w : Nat → Nat → Int) (t : Nat × Nat × Nat × Nat) : Prop := gR S 31 2 = nI q ∧ TX S tl tx ∧ Ru S q r w ∧ TkX S t
def AtM (S : gSt) (tl : Nat) (tx : Nat → Nat) (r : Nat → Nat) (w : Nat → Nat → Int) (t : Nat × Nat × Nat × Nat) : Prop := gR S 77 8 = -1 ∧ TM S tl tx ∧ To S 94 r w ∧ TkM S t
/-- only the reader, its numbers and the spare rules have changed -/
def gRd (q : Nat) (S S1 : gSt) : Prop := S1.2 = S.2 ∧ ∀ p k, p ≠ 31 → p ≠ 87 → (p < q ∨ q + 14 ≤ p) → gR S1 p k = gR S p k
theorem gRd.rf {q : Nat} {S : gSt} : gRd q S S := ⟨rfl, fun _ _ _ _ _ => rfl⟩
theorem gRd.tr {q : Nat} {S S1 S2 : gSt} (h : gRd q S S1) (h2 : gRd q S1 S2) : gRd q S S2 := ⟨h2.1.trans h.1, fun p k a b c => (h2.2 p k a b c).trans (h.2 p k a b c)⟩
theorem gA31.rd {q : Nat} {S S1 : gSt} (h : gA31 S S1) : gRd q S S1 := ⟨h.1, fun p k a _ _ => h.2 p k (Or.inl a)⟩
theorem gFr.rd {q : Nat} {S S1 : gSt} (h : gFr q (q + 14) S S1) : gRd q S S1 := ⟨h.1, fun p k _ _ b => h.2 p k b⟩
theorem gRd.w {q : Nat} {S S1 : gSt} {k : Nat} {v : Int32} (h : gRd q S S1) : gRd q S (gW S1 31 k v) := ⟨h.1, fun p j a b c => by rw [gR_Wp a]; exact h.2 p j a b c⟩
theorem gRd.w87 {q : Nat} {S S1 : gSt} {k : Nat} {v : Int32} (h : gRd q S S1) : gRd q S (gW S1 87 k v) := ⟨h.1, fun p j a b c => by rw [gR_Wp b]; exact h.2 p j a b c⟩
def gMd (S S1 : gSt) : Prop := S1.2 = S.2 ∧ ∀ p k, (p ≠ 77 ∨ k = 3) → (p ≠ 79 ∨ k < 94) → gR S1 p k = gR S p k
theorem gMd.rf {S : gSt} : gMd S S := ⟨rfl, fun _ _ _ _ => rfl⟩
theorem gMd.tr {S S1 S2 : gSt} (h : gMd S S1) (h2 : gMd S1 S2) : gMd S S2 := ⟨h2.1.trans h.1, fun p k a b => (h2.2 p k a b).trans (h.2 p k a b)⟩
theorem gA77.md {S S1 : gSt} (h : gA77 S S1) : gMd S S1 := ⟨h.1, fun p k a _ => h.2 p k (by omega)⟩
theorem gMd.w7 {S S1 : gSt} {k : Nat} {v : Int32} (h : gMd S S1) (hk : k ≠ 3) : gMd S (gW S1 77 k v) := ⟨h.1, fun p j a b => by rw [gR_W2, if_neg (by omega)]; exact h.2 p j a b⟩
theorem gMd.w9 {S S1 : gSt} {k : Nat} {v : Int32} (h : gMd S S1) (hk : 94 ≤ k) : gMd S (gW S1 79 k v) := ⟨h.1, fun p j a b => by rw [gR_W2, if_neg (by omega)]; exact h.2 p j a b⟩
theorem gMd.of9 {S S1 : gSt} (h : S1.2 = S.2 ∧ ∀ p k, p ≠ 79 ∨ k < 94 → gR S1 p k = gR S p k) : gMd S S1 := ⟨h.1, fun p k _ b => h.2 p k b⟩
/-- the text, with its numbers -/
def Txt (tl : Nat) (tx : Nat → Nat) : Prop := tl ≤ 300 ∧ ∀ i, i < tl → tx i < 256
theorem c_tok {S : gSt} {q tl : Nat} {tx r : Nat → Nat} {w : Nat → Nat → Int} {t : Nat × Nat × Nat × Nat} (hX : Txt tl tx) (hq : gIsRu q = true) (h : AtX S q tl tx r w t) (h4 : t.1 ≠ 4) (he : t.2.2.2 ≤ tl) : ∃ S1, fX4_advance S = some S1 ∧ gA31 S S1 ∧ AtX S1 q tl tx r w (tk tl tx t.2.2.2) := by
  obtain ⟨h1, h2, h3, k1, k2, k3, k4⟩ := h
  obtain ⟨S1, e1, F1, t1⟩ := c_adv h2 hX.1 hX.2 he (k4 h4)
  have hq2 : q + 14 ≤ 31 := by
    have : q = 1 ∨ q = 15 := by
      unfold gIsRu at hq
      rw [Bool.or_eq_true, beq_iff_eq, beq_iff_eq] at hq
      exact hq
    omega
  refine ⟨S1, e1, F1, by rw [F1.2 31 2 (by omega)]; exact h1, ⟨by rw [F1.2 29 1 (by omega)]; exact h2.1, fun i hi => by rw [F1.2 30 i (by omega)]; exact h2.2 i hi⟩, ?_, t1⟩
  obtain ⟨a1, a2, a3, a4, a5, a6⟩ := h3
  refine ⟨?_, fun g hg => ?_, fun g hg => ?_, fun g hg => ?_, fun g hg => ?_, fun a b ha hb => ?_⟩
  · rw [F1.2 _ _ (by omega)]; exact a1
  · rw [F1.2 _ _ (by omega)]; exact a2 g hg
  · rw [F1.2 _ _ (by omega)]; exact a3 g hg
  · rw [F1.2 _ _ (by omega)]; exact a4 g hg
  · rw [F1.2 _ _ (by omega)]; exact a5 g hg
  · rw [F1.2 _ _ (by omega)]; exact a6 a b ha hb
theorem ru_q {q : Nat} (h : gIsRu q = true) : q = 1 ∨ q = 15 := by
  unfold gIsRu at h
  rw [Bool.or_eq_true, beq_iff_eq, beq_iff_eq] at h
  exact h
theorem AtX.set {S S1 : gSt} {q tl : Nat} {tx r r' : Nat → Nat} {w w' : Nat → Nat → Int} {t : Nat × Nat × Nat × Nat} (h : AtX S q tl tx r w t) (hq : gIsRu q = true) (hF : gFr q (q + 14) S S1) (hR : Ru S1 q r' w') : AtX S1 q tl tx r' w' t := by
  have hq2 := ru_q hq
  obtain ⟨h1, h2, h3, k1, k2, k3, k4⟩ := h
  refine ⟨by rw [hF.2 _ _ (by omega)]; exact h1, ⟨by rw [hF.2 _ _ (by omega)]; exact h2.1, fun i hi => by rw [hF.2 _ _ (by omega)]; exact h2.2 i hi⟩, hR, by rw [hF.2 _ _ (by omega)]; exact k1, by rw [hF.2 _ _ (by omega)]; exact k2, fun z => by rw [hF.2 _ _ (by omega)]; exact k3 z, fun z => by rw [hF.2 _ _ (by omega)]; exact k4 z⟩
theorem AtM.set {S S1 : gSt} {tl : Nat} {tx r r' : Nat → Nat} {w w' : Nat → Nat → Int} {t : Nat × Nat × Nat × Nat} (h : AtM S tl tx r w t) (hF : S1.2 = S.2 ∧ ∀ p k, p ≠ 79 ∨ k < 94 → gR S1 p k = gR S p k) (hR : To S1 94 r' w') : AtM S1 tl tx r' w' t := by
  obtain ⟨h1, h2, h3, k1, k2, k3, k4⟩ := h
  refine ⟨by rw [hF.2 _ _ (by omega)]; exact h1, ⟨by rw [hF.2 _ _ (by omega)]; exact h2.1, fun i hi => by rw [hF.2 _ _ (by omega)]; exact h2.2 i hi⟩, hR, by rw [hF.2 _ _ (by omega)]; exact k1, by rw [hF.2 _ _ (by omega)]; exact k2, fun z => by rw [hF.2 _ _ (by omega)]; exact k3 z, fun z => by rw [hF.2 _ _ (by omega)]; exact k4 z⟩
theorem AtX.q1 {S : gSt} {q tl : Nat} {tx r : Nat → Nat} {w : Nat → Nat → Int} {t : Nat × Nat × Nat × Nat} (h : AtX S q tl tx r w t) (hq : gIsRu q = true) : gN (gR S 31 2) = q := by
  have hq2 := ru_q hq
  rw [h.1, gN_nI (by omega)]
theorem w9 (S : gSt) {k : Nat} {v : Int32} (hk : 94 ≤ k) : (gW S 79 k v).2 = S.2 ∧ ∀ p j, p ≠ 79 ∨ j < 94 → gR (gW S 79 k v) p j = gR S p j := ⟨rfl, fun p j h => by rw [gR_W2, if_neg (by omega)]⟩
theorem lm1s {n : Nat} (h : 1 ≤ n) : nI n - 1 = nI (n - 1) := by
  obtain ⟨m, rfl⟩ : ∃ m, n = m + 1 := ⟨n - 1, by omega⟩
  rw [nI_pred, Nat.add_sub_cancel]
theorem AtX.w87 {S : gSt} {q tl k : Nat} {tx r : Nat → Nat} {w : Nat → Nat → Int} {t : Nat × Nat × Nat × Nat} {v : Int32} (h : AtX S q tl tx r w t) (hq : gIsRu q = true) : AtX (gW S 87 k v) q tl tx r w t := by
  have hq2 := ru_q hq
  obtain ⟨h1, h2, h3, k1, k2, k3, k4⟩ := h
  refine ⟨by rw [gR_Wp (by omega)]; exact h1, ⟨by rw [gR_Wp (by omega)]; exact h2.1, fun i hi => by rw [gR_Wp (by omega)]; exact h2.2 i hi⟩, h3.fr (gFr.w0 (a := 87) (b := 88) (by omega) (by omega)) (by omega), by rw [gR_Wp (by omega)]; exact k1, by rw [gR_Wp (by omega)]; exact k2, fun z => by rw [gR_Wp (by omega)]; exact k3 z, fun z => by rw [gR_Wp (by omega)]; exact k4 z⟩
theorem gBp_Bd {α β τ : Type} (f : Option (α × gSt)) (g : α → gSt → Option β) (k : β → Option τ) : gBp (gBd f g) k = gBd f (fun v S => gBp (g v S) k) := by
  cases f with
  | none => rfl
  | some p => rfl
theorem gBd_Bd {α β τ : Type} (f : Option (α × gSt)) (g : α → gSt → Option (β × gSt)) (k : β → gSt → Option τ) : gBd (gBd f g) k = gBd f (fun v S => gBd (g v S) k) := by
  cases f with
  | none => rfl
  | some p => rfl
theorem gBd_fun {α τ : Type} (f : Option (α × gSt)) {g h : α → gSt → Option τ} (e : ∀ v S, g v S = h v S) : gBd f g = gBd f h := by
  cases f with
  | none => rfl
  | some p => exact e p.1 p.2
/-! the class reads an ITEM: may it begin, its numbers one by one, the semicolon, then it is told -/
def rdN (V i : Int32) (S : gSt) : Option (Int32 × gSt) := gBp (fX4_advance S) (fun S_1 => if (gR S_1 31 4) = 11 then (gBp (fX4_lowest V S_1) (fun v_2 => if (gR S_1 31 6) < v_2 then (some (0, S_1)) else (gBp (fX4_highest V i S_1) (fun v_3 => if (gR S_1 31 6) ≤ v_3 then (some (1, S_1)) else (some (0, S_1)))))) else (some (0, S_1)))
def cFin (V : Int32) (S : gSt) : Option (Int32 × gSt) := gBd (fX4_readSemicolon S) (fun v_5 S_6 => if v_5 = 0 then some (0, S_6) else gBp (fX4_tell V S_6) (fun S_7 => some (1, S_7)))
def cK (V c : Int32) (S : gSt) : Option (Int32 × gSt) := if c = 0 then some (0, S) else cFin V S
def cLoop (n : Nat) (V d i : Int32) (S : gSt) : Option (Int32 × gSt) := gBd (fX4_readNumbers_L7 n V d i S) (cK V)
def L7c (n : Nat) (V d i : Int32) (S : gSt) : Option (Int32 × gSt) := if i = 1 then (if V = 1 then fX4_readNumbers_L71 (fX4_readNumbers_L7 n) V d i 0 S else fX4_readNumbers_L71 (fX4_readNumbers_L7 n) V d i 1 S) else fX4_readNumbers_L71 (fX4_readNumbers_L7 n) V d i 0 S
def cC (n : Nat) (V d i : Int32) (S : gSt) : Option (Int32 × gSt) := gBd (L7c n V d i S) (cK V)
def cRest (V : Int32) (S : gSt) : Option (Int32 × gSt) := gBd (fX4_readNumbers V S) (cK V)
def cItem (V x : Int32) (S : gSt) : Option (Int32 × gSt) := gBp (fX4_mayBegin V x S) (fun v_2 => if v_2 = 0 then some (0, S) else cRest V S)
theorem L7_go {n : Nat} {V d i : Int32} {S : gSt} (hd : ¬ d ≤ i) (hi : ¬ 3 ≤ i) : fX4_readNumbers_L7 (n + 1) V d i S = gBd (rdN V i S) (fun c S1 => if c = 0 then some (0, S1) else L7c n V d i S1) := by
  rw [fX4_readNumbers_L7, if_neg hd, if_neg hi]
  unfold rdN
  cases fX4_advance S with
  | none => rfl
  | some S1 =>
    rw [gBp_s, gBp_s]
    by_cases z : gR S1 31 4 = 11
    · rw [if_pos z, if_pos z]
      cases fX4_lowest V S1 with
      | none => rfl
      | some lo =>
        rw [gBp_s, gBp_s]
        by_cases y : gR S1 31 6 < lo
        · rw [if_pos y, if_pos y, gBd_s, if_pos rfl]
        · rw [if_neg y, if_neg y]
          cases fX4_highest V i S1 with
          | none => rfl
          | some hi =>
            rw [gBp_s, gBp_s]
            by_cases u : gR S1 31 6 ≤ hi
            · rw [if_pos u, if_pos u, gBd_s, if_neg (show ¬ (1 : Int32) = 0 by decide)]
              rfl
            · rw [if_neg u, if_neg u, gBd_s, if_pos rfl]
    · rw [if_neg z, if_neg z, gBd_s, if_pos rfl]
theorem cL_go {n : Nat} {V d i : Int32} {S : gSt} (hd : ¬ d ≤ i) (hi : ¬ 3 ≤ i) : cLoop (n + 1) V d i S = gBd (rdN V i S) (fun c S1 => if c = 0 then some (0, S1) else cC n V d i S1) := by
  unfold cLoop
  rw [L7_go hd hi, gBd_Bd]
  refine gBd_fun _ (fun c S1 => ?_)
  by_cases z : c = 0
  · rw [if_pos z, if_pos z, gBd_s]
    exact if_pos rfl
  · rw [if_neg z, if_neg z]; rfl
theorem cL_e {n : Nat} {V d i : Int32} {S : gSt} (hd : d ≤ i) : cLoop (n + 1) V d i S = cFin V S := by
  unfold cLoop
  rw [fX4_readNumbers_L7, if_pos hd, gBd_s]
  exact if_neg (by decide)
theorem cC_n {n i : Nat} {V d : Int32} {S : gSt} (hi : i < 3) (h : i ≠ 1 ∨ V = 1) : cC n V d (nI i) S = cLoop n V d (nI (i + 1)) (gW S 87 i (gR S 31 6)) := by
  have e : fX4_readNumbers_L71 (fX4_readNumbers_L7 n) V d (nI i) 0 S = fX4_readNumbers_L7 n V d (nI (i + 1)) (gW S 87 i (gR S 31 6)) := by
    unfold fX4_readNumbers_L71
    rw [if_pos rfl, gC_ok (gIn_ok hi (by omega)), gL_s, gN_nI (by omega), nI_1]
  unfold cC cLoop L7c
  by_cases z : nI i = 1
  · rcases h with h | h
    · exact absurd ((nI_eq (b := 1) (by omega) (by omega)).mp z) h
    · rw [if_pos z, if_pos h, e]
  · rw [if_neg z, e]
theorem cC_0 {n : Nat} {V d : Int32} {S : gSt} : cC n V d (nI 0) S = cLoop n V d (nI 1) (gW S 87 0 (gR S 31 6)) := cC_n (i := 0) (by omega) (Or.inl (by omega))
theorem cC_1 {n : Nat} {V d : Int32} {S : gSt} (h : V = 1) : cC n V d (nI 1) S = cLoop n V d (nI 2) (gW S 87 1 (gR S 31 6)) := cC_n (i := 1) (by omega) (Or.inr h)
theorem cC_2 {n : Nat} {V d : Int32} {S : gSt} : cC n V d (nI 2) S = cLoop n V d (nI 3) (gW S 87 2 (gR S 31 6)) := cC_n (i := 2) (by omega) (Or.inl (by omega))
theorem cC_p {n : Nat} {V d : Int32} {S : gSt} (h : ¬ V = 1) : cC n V d (nI 1) S = if gR S 31 6 = gR S 87 0 then some (0, S) else cLoop n V d (nI 2) (gW S 87 1 (gR S 31 6)) := by
  unfold cC L7c fX4_readNumbers_L71
  rw [if_pos (show nI 1 = 1 from rfl), if_neg h, if_neg (show ¬ (1 : Int32) = 0 by decide), gC_ok (show gIn 0 3 = true by decide), show gN 0 = 0 from rfl, gC_ok (gIn_ok (by omega) (by omega)), gL_s, gN_nI (by omega), nI_1]
  by_cases z : gR S 31 6 = gR S 87 0
  · rw [if_pos z, if_pos z, gBd_s]
    exact if_pos rfl
  · rw [if_neg z, if_neg z]; rfl
def nuN (v : Nat) : Nat := if v = 5 ∨ v = 6 then 0 else if v = 0 ∨ (2 ≤ v ∧ v ≤ 4) then 1 else if v = 1 ∨ v = 7 ∨ v = 8 then 2 else 3
def lwN (v : Nat) : Nat := if v = 0 ∨ (2 ≤ v ∧ v ≤ 4) then 1 else 0
def hiN (n v i : Nat) : Nat := if v = 0 ∨ (2 ≤ v ∧ v ≤ 4) then 8 else if v = 1 then (if i = 0 then n - 1 else 5) else if i < 2 then n - 1 else 9
theorem c_numbersOf (S : gSt) {v : Nat} (hv : v < 11) : fX4_numbersOf (nI v) S = some (nI (nuN v)) := by
  have h : ∀ v : Fin 11, fX4_numbersOf (nI v.val) (fun _ _ => 0, fun _ => 0) = some (nI (nuN v.val)) := by decide +kernel
  exact h ⟨v, hv⟩
theorem c_lowest (S : gSt) {v : Nat} (hv : v < 11) : fX4_lowest (nI v) S = some (nI (lwN v)) := by
  have h : ∀ v : Fin 11, fX4_lowest (nI v.val) (fun _ _ => 0, fun _ => 0) = some (nI (lwN v.val)) := by decide +kernel
  exact h ⟨v, hv⟩
theorem c_highest {S : gSt} {q tl v i : Nat} {tx r : Nat → Nat} {w : Nat → Nat → Int} {t : Nat × Nat × Nat × Nat} (h : AtX S q tl tx r w t) (hq : gIsRu q = true) (hW : RW r w) (hv : v < 11) (hi : i < 3) : fX4_highest (nI v) (nI i) S = some (nI (hiN (r 0) v i)) := by
  unfold fX4_highest hiN
  rw [h.q1 hq, gC_ok hq, show fX5_guests q S = some (nI (r 0)) from congrArg some h.2.2.1.1, gBp_s, gL_s, lm1s hW.1]
  generalize r 0 - 1 = m
  have h1 : ∀ k, k < 11 → (nI v = nI k ↔ v = k) := fun k hk => nI_eq (by omega) (by omega)
  have h2 : (2 : Int32) ≤ nI i ↔ 2 ≤ i := nI_leI (a := 2) (by omega) (by omega)
  have h3 : nI i = 0 ↔ i = 0 := nI_eq (b := 0) (by omega) (by omega)
  by_cases z : v = 0 ∨ (2 ≤ v ∧ v ≤ 4)
  · rw [if_pos z]
    by_cases z0 : v = 0
    · rw [if_pos (show nI v = 0 from (h1 0 (by omega)).mpr z0)]; rfl
    rw [if_neg (show ¬ nI v = 0 from fun y => z0 ((h1 0 (by omega)).mp y)), if_neg (show ¬ nI v = 1 from fun y => absurd ((h1 1 (by omega)).mp y) (by omega))]
    by_cases z2 : v = 2
    · rw [if_pos (show nI v = 2 from (h1 2 (by omega)).mpr z2)]; rfl
    rw [if_neg (show ¬ nI v = 2 from fun y => z2 ((h1 2 (by omega)).mp y))]
    by_cases z3 : v = 3
    · rw [if_pos (show nI v = 3 from (h1 3 (by omega)).mpr z3)]; rfl
    rw [if_neg (show ¬ nI v = 3 from fun y => z3 ((h1 3 (by omega)).mp y)), if_pos (show nI v = 4 from (h1 4 (by omega)).mpr (by omega))]
    rfl
  · rw [if_neg z, if_neg (show ¬ nI v = 0 from fun y => absurd ((h1 0 (by omega)).mp y) (by omega))]
    by_cases z1 : v = 1
    · rw [if_pos (show nI v = 1 from (h1 1 (by omega)).mpr z1), if_pos z1]
      by_cases y : i = 0
      · rw [if_pos (h3.mpr y), if_pos y]
      · rw [if_neg (fun x => y (h3.mp x)), if_neg y]; rfl
    · rw [if_neg (show ¬ nI v = 1 from fun y => z1 ((h1 1 (by omega)).mp y)), if_neg z1, if_neg (show ¬ nI v = 2 from fun y => absurd ((h1 2 (by omega)).mp y) (by omega)), if_neg (show ¬ nI v = 3 from fun y => absurd ((h1 3 (by omega)).mp y) (by omega)), if_neg (show ¬ nI v = 4 from fun y => absurd ((h1 4 (by omega)).mp y) (by omega))]
      by_cases y : 2 ≤ i
      · rw [if_pos (h2.mpr y), if_neg (by omega)]; rfl
      · rw [if_neg (fun x => y (h2.mp x)), if_pos (by omega)]
theorem cRest_go {V d : Int32} {S : gSt} (hd : fX4_numbersOf V S = some d) : ∃ n, cRest V S = cLoop (n + 4) V d (nI 0) S := ⟨4996, by
  unfold cRest fX4_readNumbers
  rw [hd, gBp_s]
  rfl⟩
theorem tell_id (f : Option gSt) : gBp f (fun S_1 => fX4_tell_L274 S_1) = f := by
  cases f with
  | none => rfl
  | some S => rfl
theorem tell_0 {S : gSt} {q : Nat} (h : gN (gR S 31 2) = q) (hq : gIsRu q = true) : fX4_tell (nI 0) S = fX5_setGuests q (gR S 87 0) S := by
  unfold fX4_tell
  rw [if_pos (show nI 0 = 0 from rfl), h, gC_ok hq, gC_ok (show gIn 0 3 = true by decide)]
  exact tell_id _
theorem tell_1 {S : gSt} {q : Nat} (h : gN (gR S 31 2) = q) (hq : gIsRu q = true) : fX4_tell (nI 1) S = fX5_setHat q (gR S 87 0) (gR S 87 1) S := by
  unfold fX4_tell
  rw [if_neg (show ¬ nI 1 = 0 by decide), if_pos (show nI 1 = 1 from rfl), h, gC_ok hq, gC_ok (show gIn 0 3 = true by decide), gC_ok (show gIn 1 3 = true by decide)]
  exact tell_id _
theorem tell_2 {S : gSt} {q : Nat} (h : gN (gR S 31 2) = q) (hq : gIsRu q = true) : fX4_tell (nI 2) S = fX5_setLaw q 0 (gR S 87 0) S := by
  unfold fX4_tell
  rw [if_neg (show ¬ nI 2 = 0 by decide), if_neg (show ¬ nI 2 = 1 by decide), if_pos (show nI 2 = 2 from rfl), h, gC_ok hq, gC_ok (show gIn 0 3 = true by decide)]
  exact tell_id _
theorem tell_3 {S : gSt} {q : Nat} (h : gN (gR S 31 2) = q) (hq : gIsRu q = true) : fX4_tell (nI 3) S = fX5_setLaw q 1 (gR S 87 0) S := by
  unfold fX4_tell
  rw [if_neg (show ¬ nI 3 = 0 by decide), if_neg (show ¬ nI 3 = 1 by decide), if_neg (show ¬ nI 3 = 2 by decide), if_pos (show nI 3 = 3 from rfl), h, gC_ok hq, gC_ok (show gIn 0 3 = true by decide)]
  exact tell_id _
theorem tell_4 {S : gSt} {q : Nat} (h : gN (gR S 31 2) = q) (hq : gIsRu q = true) : fX4_tell (nI 4) S = fX5_setLaw q 2 (gR S 87 0) S := by
  unfold fX4_tell
  rw [if_neg (show ¬ nI 4 = 0 by decide), if_neg (show ¬ nI 4 = 1 by decide), if_neg (show ¬ nI 4 = 2 by decide), if_neg (show ¬ nI 4 = 3 by decide), if_pos (show nI 4 = 4 from rfl), h, gC_ok hq, gC_ok (show gIn 0 3 = true by decide)]
  exact tell_id _
theorem tell_5 {S : gSt} {q : Nat} (h : gN (gR S 31 2) = q) (hq : gIsRu q = true) : fX4_tell (nI 5) S = fX5_setLaw q 3 1 S := by
  unfold fX4_tell
  rw [if_neg (show ¬ nI 5 = 0 by decide), if_neg (show ¬ nI 5 = 1 by decide), if_neg (show ¬ nI 5 = 2 by decide), if_neg (show ¬ nI 5 = 3 by decide), if_neg (show ¬ nI 5 = 4 by decide), if_pos (show nI 5 = 5 from rfl), h, gC_ok hq]
  exact tell_id _
theorem tell_6 {S : gSt} {q : Nat} (h : gN (gR S 31 2) = q) (hq : gIsRu q = true) : fX4_tell (nI 6) S = fX5_setLaw q 4 1 S := by
  unfold fX4_tell
  rw [if_neg (show ¬ nI 6 = 0 by decide), if_neg (show ¬ nI 6 = 1 by decide), if_neg (show ¬ nI 6 = 2 by decide), if_neg (show ¬ nI 6 = 3 by decide), if_neg (show ¬ nI 6 = 4 by decide), if_neg (show ¬ nI 6 = 5 by decide), if_pos (show nI 6 = 6 from rfl), h, gC_ok hq]
  exact tell_id _
theorem tell_7 {S : gSt} {q : Nat} (h : gN (gR S 31 2) = q) (hq : gIsRu q = true) : fX4_tell (nI 7) S = fX5_putTogether q (gR S 87 0) (gR S 87 1) S := by
  unfold fX4_tell
  rw [if_neg (show ¬ nI 7 = 0 by decide), if_neg (show ¬ nI 7 = 1 by decide), if_neg (show ¬ nI 7 = 2 by decide), if_neg (show ¬ nI 7 = 3 by decide), if_neg (show ¬ nI 7 = 4 by decide), if_neg (show ¬ nI 7 = 5 by decide), if_neg (show ¬ nI 7 = 6 by decide), if_pos (show nI 7 = 7 from rfl), h, gC_ok hq, gC_ok (show gIn 0 3 = true by decide), gC_ok (show gIn 1 3 = true by decide)]
  exact tell_id _
theorem tell_8 {S : gSt} {q : Nat} (h : gN (gR S 31 2) = q) (hq : gIsRu q = true) : fX4_tell (nI 8) S = fX5_putApart q (gR S 87 0) (gR S 87 1) S := by
  unfold fX4_tell
  rw [if_neg (show ¬ nI 8 = 0 by decide), if_neg (show ¬ nI 8 = 1 by decide), if_neg (show ¬ nI 8 = 2 by decide), if_neg (show ¬ nI 8 = 3 by decide), if_neg (show ¬ nI 8 = 4 by decide), if_neg (show ¬ nI 8 = 5 by decide), if_neg (show ¬ nI 8 = 6 by decide), if_neg (show ¬ nI 8 = 7 by decide), if_pos (show nI 8 = 8 from rfl), h, gC_ok hq, gC_ok (show gIn 0 3 = true by decide), gC_ok (show gIn 1 3 = true by decide)]
  exact tell_id _
theorem tell_9 {S : gSt} {q : Nat} (h : gN (gR S 31 2) = q) (hq : gIsRu q = true) : fX4_tell (nI 9) S = fX5_setWorth q (gR S 87 0) (gR S 87 1) (gR S 87 2) S := by
  unfold fX4_tell
  rw [if_neg (show ¬ nI 9 = 0 by decide), if_neg (show ¬ nI 9 = 1 by decide), if_neg (show ¬ nI 9 = 2 by decide), if_neg (show ¬ nI 9 = 3 by decide), if_neg (show ¬ nI 9 = 4 by decide), if_neg (show ¬ nI 9 = 5 by decide), if_neg (show ¬ nI 9 = 6 by decide), if_neg (show ¬ nI 9 = 7 by decide), if_neg (show ¬ nI 9 = 8 by decide), if_pos (show nI 9 = 9 from rfl), h, gC_ok hq, gC_ok (show gIn 0 3 = true by decide), gC_ok (show gIn 1 3 = true by decide), gC_ok (show gIn 2 3 = true by decide)]
  exact tell_id _
theorem tell_10 {S : gSt} {q : Nat} (h : gN (gR S 31 2) = q) (hq : gIsRu q = true) : fX4_tell (nI 10) S = fX5_setWorth q (gR S 87 0) (gR S 87 1) (-(gR S 87 2)) S := by
  unfold fX4_tell
  rw [if_neg (show ¬ nI 10 = 0 by decide), if_neg (show ¬ nI 10 = 1 by decide), if_neg (show ¬ nI 10 = 2 by decide), if_neg (show ¬ nI 10 = 3 by decide), if_neg (show ¬ nI 10 = 4 by decide), if_neg (show ¬ nI 10 = 5 by decide), if_neg (show ¬ nI 10 = 6 by decide), if_neg (show ¬ nI 10 = 7 by decide), if_neg (show ¬ nI 10 = 8 by decide), if_neg (show ¬ nI 10 = 9 by decide), if_pos (show nI 10 = 10 from rfl), h, gC_ok hq, gC_ok (show gIn 0 3 = true by decide), gC_ok (show gIn 1 3 = true by decide), gC_ok (show gIn 2 3 = true by decide)]
  exact tell_id _
theorem mayB_1 (x : Int32) (S : gSt) : fX4_mayBegin (nI 1) x S = some 1 := by
  unfold fX4_mayBegin
  rw [if_neg (show ¬ nI 1 = 0 by decide), if_neg (show ¬ nI 1 = 2 by decide), if_neg (show ¬ nI 1 = 3 by decide), if_neg (show ¬ nI 1 = 4 by decide), if_neg (show ¬ nI 1 = 5 by decide), if_neg (show ¬ nI 1 = 6 by decide), if_neg (show ¬ (11 : Int32) ≤ nI 1 by decide)]
theorem mayB_7 (x : Int32) (S : gSt) : fX4_mayBegin (nI 7) x S = some 1 := by
  unfold fX4_mayBegin
  rw [if_neg (show ¬ nI 7 = 0 by decide), if_neg (show ¬ nI 7 = 2 by decide), if_neg (show ¬ nI 7 = 3 by decide), if_neg (show ¬ nI 7 = 4 by decide), if_neg (show ¬ nI 7 = 5 by decide), if_neg (show ¬ nI 7 = 6 by decide), if_neg (show ¬ (11 : Int32) ≤ nI 7 by decide)]
theorem mayB_8 (x : Int32) (S : gSt) : fX4_mayBegin (nI 8) x S = some 1 := by
  unfold fX4_mayBegin
  rw [if_neg (show ¬ nI 8 = 0 by decide), if_neg (show ¬ nI 8 = 2 by decide), if_neg (show ¬ nI 8 = 3 by decide), if_neg (show ¬ nI 8 = 4 by decide), if_neg (show ¬ nI 8 = 5 by decide), if_neg (show ¬ nI 8 = 6 by decide), if_neg (show ¬ (11 : Int32) ≤ nI 8 by decide)]
theorem mayB_9 (x : Int32) (S : gSt) : fX4_mayBegin (nI 9) x S = some 1 := by
  unfold fX4_mayBegin
  rw [if_neg (show ¬ nI 9 = 0 by decide), if_neg (show ¬ nI 9 = 2 by decide), if_neg (show ¬ nI 9 = 3 by decide), if_neg (show ¬ nI 9 = 4 by decide), if_neg (show ¬ nI 9 = 5 by decide), if_neg (show ¬ nI 9 = 6 by decide), if_neg (show ¬ (11 : Int32) ≤ nI 9 by decide)]
theorem mayB_10 (x : Int32) (S : gSt) : fX4_mayBegin (nI 10) x S = some 1 := by
  unfold fX4_mayBegin
  rw [if_neg (show ¬ nI 10 = 0 by decide), if_neg (show ¬ nI 10 = 2 by decide), if_neg (show ¬ nI 10 = 3 by decide), if_neg (show ¬ nI 10 = 4 by decide), if_neg (show ¬ nI 10 = 5 by decide), if_neg (show ¬ nI 10 = 6 by decide), if_neg (show ¬ (11 : Int32) ≤ nI 10 by decide)]
theorem mayB_2 {S : gSt} {q : Nat} (x : Int32) (h : gN (gR S 31 2) = q) (hq : gIsRu q = true) : fX4_mayBegin (nI 2) x S = gBp (fX5_lawOf q (nI 0) S) (fun v => if v = 0 then some 1 else some 0) := by
  unfold fX4_mayBegin
  rw [if_neg (show ¬ nI 2 = 0 by decide), if_pos (show nI 2 = 2 from rfl), h, gC_ok hq]
  rfl
theorem mayB_3 {S : gSt} {q : Nat} (x : Int32) (h : gN (gR S 31 2) = q) (hq : gIsRu q = true) : fX4_mayBegin (nI 3) x S = gBp (fX5_lawOf q (nI 1) S) (fun v => if v = 0 then some 1 else some 0) := by
  unfold fX4_mayBegin
  rw [if_neg (show ¬ nI 3 = 0 by decide), if_neg (show ¬ nI 3 = 2 by decide), if_pos (show nI 3 = 3 from rfl), h, gC_ok hq]
  rfl
theorem mayB_4 {S : gSt} {q : Nat} (x : Int32) (h : gN (gR S 31 2) = q) (hq : gIsRu q = true) : fX4_mayBegin (nI 4) x S = gBp (fX5_lawOf q (nI 2) S) (fun v => if v = 0 then some 1 else some 0) := by
  unfold fX4_mayBegin
  rw [if_neg (show ¬ nI 4 = 0 by decide), if_neg (show ¬ nI 4 = 2 by decide), if_neg (show ¬ nI 4 = 3 by decide), if_pos (show nI 4 = 4 from rfl), h, gC_ok hq]
  rfl
theorem mayB_5 {S : gSt} {q : Nat} (x : Int32) (h : gN (gR S 31 2) = q) (hq : gIsRu q = true) : fX4_mayBegin (nI 5) x S = gBp (fX5_lawOf q (nI 3) S) (fun v => if v = 0 then some 1 else some 0) := by
  unfold fX4_mayBegin
  rw [if_neg (show ¬ nI 5 = 0 by decide), if_neg (show ¬ nI 5 = 2 by decide), if_neg (show ¬ nI 5 = 3 by decide), if_neg (show ¬ nI 5 = 4 by decide), if_pos (show nI 5 = 5 from rfl), h, gC_ok hq]
  rfl
theorem mayB_6 {S : gSt} {q : Nat} (x : Int32) (h : gN (gR S 31 2) = q) (hq : gIsRu q = true) : fX4_mayBegin (nI 6) x S = gBp (fX5_lawOf q (nI 4) S) (fun v => if v = 0 then some 1 else some 0) := by
  unfold fX4_mayBegin
  rw [if_neg (show ¬ nI 6 = 0 by decide), if_neg (show ¬ nI 6 = 2 by decide), if_neg (show ¬ nI 6 = 3 by decide), if_neg (show ¬ nI 6 = 4 by decide), if_neg (show ¬ nI 6 = 5 by decide), if_pos (show nI 6 = 6 from rfl), h, gC_ok hq]
  rfl
theorem cI_1 {V x : Int32} {S : gSt} (h : fX4_mayBegin V x S = some 1) : cItem V x S = cRest V S := by
  unfold cItem
  rw [h, gBp_s, if_neg (by decide)]
theorem cI_0 {V x : Int32} {S : gSt} (h : fX4_mayBegin V x S = some 0) : cItem V x S = some (0, S) := by
  unfold cItem
  rw [h, gBp_s, if_pos rfl]
theorem m_tok {S : gSt} {tl : Nat} {tx r : Nat → Nat} {w : Nat → Nat → Int} {t : Nat × Nat × Nat × Nat} (hX : Txt tl tx) (h : AtM S tl tx r w t) (h4 : t.1 ≠ 4) (he : t.2.2.2 ≤ tl) : ∃ S1, fX11_takes 1 S = some (gR S 77 7, S1) ∧ gA77 S S1 ∧ AtM S1 tl tx r w (tk tl tx t.2.2.2) := by
  obtain ⟨h1, h2, h3, k1, k2, k3, k4⟩ := h
  obtain ⟨S1, e1, F1, t1⟩ := m_adv h2 hX.1 hX.2 he (k4 h4)
  refine ⟨S1, ?_, F1, by rw [F1.2 77 8 (by omega)]; exact h1, ⟨by rw [F1.2 77 3 (by omega)]; exact h2.1, fun i hi => by rw [F1.2 78 i (by omega)]; exact h2.2 i hi⟩, ⟨fun k hk => by rw [F1.2 79 _ (by omega)]; exact h3.1 k hk, fun x y hx hy => by rw [F1.2 79 _ (by omega)]; exact h3.2 x y hx hy⟩, t1⟩
  unfold fX11_takes fX11_isWell
  rw [h1, if_neg (by decide), gBp_s, if_neg (by decide), if_neg (by decide), gL_s, e1, gBp_s]
theorem m_well_f {S : gSt} {s : Nat} (h : gR S 77 8 = nI s) (hs : s ≤ 300) : fX11_isWell S = some 0 := by
  unfold fX11_isWell
  rw [h, if_pos (nI_pos' (by omega))]
theorem m_well_t {S : gSt} (h : gR S 77 8 = -1) : fX11_isWell S = some 1 := by
  unfold fX11_isWell
  rw [h, if_neg (by decide)]
theorem m_takes_f {S : gSt} {s : Nat} {a : Int32} (h : gR S 77 8 = nI s) (hs : s ≤ 300) : fX11_takes a S = some (0, S) := by
  unfold fX11_takes
  rw [m_well_f h hs, gBp_s, if_pos rfl]
theorem m_takes_0 {S : gSt} {tl : Nat} {tx r : Nat → Nat} {w : Nat → Nat → Int} {t : Nat × Nat × Nat × Nat} (h : AtM S tl tx r w t) : fX11_takes 0 S = some (0, gW S 77 8 (nI t.2.2.1)) := by
  unfold fX11_takes
  rw [m_well_t h.1, gBp_s, if_neg (by decide), if_pos rfl, gL_s, h.2.2.2.2.1]
theorem m_number_f {S : gSt} {s : Nat} {a b : Int32} (h : gR S 77 8 = nI s) (hs : s ≤ 300) : fX11_number a b S = some (0, S) := by
  unfold fX11_number fX11_number_L26
  rw [m_takes_f h hs, m_takes_f h hs, m_in, gBp_s, gBd_s]
  split
  · split <;> rfl
  · rfl
def okN (t : Nat × Nat × Nat × Nat) (a b : Nat) : Prop := t.1 = 2 ∧ a ≤ t.2.1 ∧ t.2.1 ≤ b
theorem c_number {S : gSt} {q tl a b : Nat} {tx r : Nat → Nat} {w : Nat → Nat → Int} {t : Nat × Nat × Nat × Nat} (hX : Txt tl tx) (hq : gIsRu q = true) (h : AtX S q tl tx r w t) (h4 : t.1 ≠ 4) (he : t.2.2.2 ≤ tl) {V I : Int32} (ha : a < 1000) (hb : b < 1000) (hlo : ∀ S, fX4_lowest V S = some (nI a)) (hhi : ∀ S t, AtX S q tl tx r w t → fX4_highest V I S = some (nI b)) : ∃ S1, gA31 S S1 ∧ AtX S1 q tl tx r w (tk tl tx t.2.2.2) ∧ ((okN (tk tl tx t.2.2.2) a b ∧ rdN V I S = some (1, S1) ∧ gR S1 31 6 = nI (tk tl tx t.2.2.2).2.1) ∨ (¬ okN (tk tl tx t.2.2.2) a b ∧ rdN V I S = some (0, S1))) := by
  obtain ⟨S1, e1, F1, h1⟩ := c_tok hX hq h h4 he
  refine ⟨S1, F1, h1, ?_⟩
  have ok := tk_ok (tx := tx) he
  have hl := hlo S1
  have hh := hhi S1 _ h1
  unfold rdN okN
  rw [e1, gBp_s]
  generalize tk tl tx t.2.2.2 = u at *
  obtain ⟨k1, k2, k3, k4⟩ := h1.2.2.2
  obtain ⟨o1, o2, o3, o4, o5, o6, o7, o8⟩ := ok
  have hck : nI (ck u) = 11 ↔ u.1 = 2 := by
    have e11 : nI (ck u) = 11 ↔ ck u = 11 := nI_eq (b := 11) (by unfold ck; split; omega; split; have := o5 (by assumption); omega; split; omega; split <;> omega) (by omega)
    rw [e11]
    unfold ck
    by_cases z0 : u.1 = 0
    · rw [if_pos z0]; omega
    · rw [if_neg z0]
      by_cases z1 : u.1 = 1
      · have := o5 z1
        rw [if_pos z1]; omega
      · rw [if_neg z1]
        by_cases z2 : u.1 = 2
        · rw [if_pos z2]; omega
        · rw [if_neg z2]
          split <;> omega
  rw [k1]
  by_cases z : u.1 = 2
  · have v := o6 z
    have h5 := k3 z
    rw [if_pos (hck.mpr z), hl, gBp_s, h5]
    by_cases z1 : u.2.1 < a
    · right
      rw [if_pos (nI_lt z1 (by omega))]
      exact ⟨fun y => by omega, rfl⟩
    · rw [if_neg (nI_nlt (by omega) (by omega)), hh, gBp_s]
      by_cases z2 : b < u.2.1
      · right
        rw [if_neg (nI_nleI z2 (by omega))]
        exact ⟨fun y => by omega, rfl⟩
      · left
        rw [if_pos (nI_le (by omega) (by omega))]
        exact ⟨⟨z, by omega, by omega⟩, rfl, rfl⟩
  · right
    rw [if_neg (fun y => z (hck.mp y))]
    exact ⟨fun y => z y.1, rfl⟩
theorem m_number {S : gSt} {tl a b : Nat} {tx r : Nat → Nat} {w : Nat → Nat → Int} {t : Nat × Nat × Nat × Nat} (hX : Txt tl tx) (h : AtM S tl tx r w t) {p : Nat} (ho : TkOk tl p t) (ha : a < 1000) (hb : b < 1000) : (okN t a b ∧ ∃ S1, fX11_number (nI a) (nI b) S = some (nI t.2.1, S1) ∧ gA77 S S1 ∧ AtM S1 tl tx r w (tk tl tx t.2.2.2)) ∨ (¬ okN t a b ∧ fX11_number (nI a) (nI b) S = some (0, gW S 77 8 (nI t.2.2.1))) := by
  obtain ⟨k1, k2, k3, k4⟩ := h.2.2.2
  obtain ⟨o1, o2, o3, o4, o5, o6, o7, o8⟩ := ho
  unfold fX11_number fX11_number_L26
  have h0 := m_takes_0 h
  rw [k1]
  have e2 : nI t.1 = 2 ↔ t.1 = 2 := nI_eq (b := 2) (by omega) (by omega)
  by_cases z : t.1 = 2
  · have v := o6 z
    have h7 := k3 (Or.inr z)
    rw [if_pos (e2.mpr z), h7, m_in]
    by_cases z1 : a ≤ t.2.1 ∧ t.2.1 ≤ b
    · left
      obtain ⟨S1, e1, F1, h1⟩ := m_tok hX h (by omega) o3
      refine ⟨⟨z, z1⟩, S1, ?_, F1, h1⟩
      rw [if_pos ⟨nI_le z1.1 (by omega), nI_le z1.2 (by omega)⟩, gBp_s, if_neg (by decide), e1, gBd_s, h7]
    · right
      refine ⟨fun y => z1 y.2, ?_⟩
      rw [if_neg (fun y => z1 ⟨(nI_leI (by omega) (by omega)).mp y.1, (nI_leI (by omega) (by omega)).mp y.2⟩), gBp_s, if_pos rfl, h0, gBd_s]
  · right
    refine ⟨fun y => z y.1, ?_⟩
    rw [if_neg (fun y => z (e2.mp y)), h0, gBd_s]
/-- both have read an item, or both have stopped at one place -/
def Out (q tl : Nat) (tx : Nat → Nat) (Sx Sm : gSt) (k : gSt → Option (Int32 × gSt)) (e0 : Nat) (F G : Option (Int32 × gSt)) : Prop :=
  (∃ s Sx1 Sm1, s ≤ 300 ∧ F = some (0, Sx1) ∧ gRd q Sx Sx1 ∧ gR Sx1 31 5 = nI s ∧ G = k Sm1 ∧ gMd Sm Sm1 ∧ gR Sm1 77 8 = nI s) ∨
  (∃ r w t Sx1 Sm1, RW r w ∧ (t.1 ≠ 4 ∧ t.2.2.2 ≤ tl ∧ e0 < t.2.2.2) ∧ F = some (1, Sx1) ∧ gRd q Sx Sx1 ∧ AtX Sx1 q tl tx r w t ∧ G = k Sm1 ∧ gMd Sm Sm1 ∧ AtM Sm1 tl tx r w (tk tl tx t.2.2.2))
theorem Out.tr {q tl e0 e1 : Nat} {tx : Nat → Nat} {Sx Sm Sx0 Sm0 : gSt} {k : gSt → Option (Int32 × gSt)} {F G : Option (Int32 × gSt)} (h : Out q tl tx Sx Sm k e0 F G) (h1 : gRd q Sx0 Sx) (h2 : gMd Sm0 Sm) (h3 : e1 ≤ e0) : Out q tl tx Sx0 Sm0 k e1 F G := by
  rcases h with ⟨s, Sx1, Sm1, a, b, c, d, e, f, g⟩ | ⟨r, w, t, Sx1, Sm1, a, b, c, d, e, f, g, i⟩
  · exact Or.inl ⟨s, Sx1, Sm1, a, b, h1.tr c, d, e, h2.tr f, g⟩
  · exact Or.inr ⟨r, w, t, Sx1, Sm1, a, ⟨b.1, b.2.1, by omega⟩, c, h1.tr d, e, f, h2.tr g, i⟩
theorem L141_f {k26 : Int32 → gSt → Option (Int32 × gSt)} {x1 : Int32} {S : gSt} {s : Nat} (h : gR S 77 8 = nI s) (hs : s ≤ 300) : fX11_room_L141 k26 x1 S = k26 (x1 + 1) S := by
  unfold fX11_room_L141 fX11_room_L155
  rw [m_takes_f h hs, m_takes_f h hs, gBd_s]
  split <;> rfl
/-- the semicolon -/
theorem semi {Sx Sm : gSt} {q tl : Nat} {tx r r' : Nat → Nat} {w w' : Nat → Nat → Int} {V : Int32} {t : Nat × Nat × Nat × Nat} {k26 : Int32 → gSt → Option (Int32 × gSt)} {x1 : Int32} (hX : Txt tl tx) (hq : gIsRu q = true) (hW : RW r' w') (h : AtX Sx q tl tx r w t) (hm : AtM Sm tl tx r' w' (tk tl tx t.2.2.2)) (h4 : t.1 ≠ 4) (he : t.2.2.2 ≤ tl) (hT : ∀ S6, gA31 Sx S6 → AtX S6 q tl tx r w (tk tl tx t.2.2.2) → ∃ S7, fX4_tell V S6 = some S7 ∧ gFr q (q + 14) S6 S7 ∧ Ru S7 q r' w') : Out q tl tx Sx Sm (fun S => k26 (x1 + 1) S) t.2.2.2 (cFin V Sx) (fX11_room_L141 k26 x1 Sm) := by
  obtain ⟨S1, e1, F1, h1⟩ := c_tok hX hq h h4 he
  have ok := tk_ok (tx := tx) he
  have h3 := hX.1
  obtain ⟨S7, e7, F7, r7⟩ := hT S1 F1 h1
  have h7 := h1.set hq F7 r7
  unfold cFin fX4_readSemicolon
  rw [e1, gBp_s]
  generalize tk tl tx t.2.2.2 = u at *
  obtain ⟨k1, k2, k3, k4⟩ := h1.2.2.2
  obtain ⟨o1, o2, o3, o4, o5, o6, o7, o8⟩ := ok
  have hck : nI (ck u) = 12 ↔ u.1 = 3 := by
    have e12 : nI (ck u) = 12 ↔ ck u = 12 := nI_eq (b := 12) (by unfold ck; split; omega; split; have := o5 (by assumption); omega; split; omega; split <;> omega) (by omega)
    rw [e12]
    unfold ck
    by_cases z0 : u.1 = 0
    · rw [if_pos z0]; omega
    · rw [if_neg z0]
      by_cases z1 : u.1 = 1
      · have := o5 z1
        rw [if_pos z1]; omega
      · rw [if_neg z1]
        by_cases z2 : u.1 = 2
        · rw [if_pos z2]; omega
        · rw [if_neg z2]
          split <;> omega
  obtain ⟨j1, j2, j3, j4⟩ := hm.2.2.2
  rw [k1]
  by_cases z : u.1 = 3
  · right
    obtain ⟨S2, e2, F2, h2⟩ := m_tok hX hm (by omega) o3
    refine ⟨r', w', u, S7, S2, hW, ⟨by omega, o3, o7 (by omega) (by omega)⟩, ?_, F1.rd.tr F7.rd, h7, ?_, F2.md, h2⟩
    · rw [if_pos (hck.mpr z), gBd_s, if_neg (by decide), e7, gBp_s]
    · unfold fX11_room_L141 fX11_room_L155
      rw [j1, if_pos (show nI u.1 = 3 by rw [z]; rfl), e2, gBd_s]
  · left
    refine ⟨u.2.2.1, S1, gW Sm 77 8 (nI u.2.2.1), by omega, ?_, F1.rd, k2, ?_, gMd.rf.w7 (by omega), gR_Ws _ _ _ _⟩
    · rw [if_neg (fun y => z (hck.mp y)), gBd_s, if_pos rfl]
    · unfold fX11_room_L141 fX11_room_L155
      rw [j1, if_neg (show ¬ nI u.1 = 3 from nI_neI (b := 3) (by omega) (by omega) z), m_takes_0 hm, gBd_s]
/-- a number -/
theorem numb {Sx Sm : gSt} {q tl a b : Nat} {tx r : Nat → Nat} {w : Nat → Nat → Int} {t : Nat × Nat × Nat × Nat} {k : gSt → Option (Int32 × gSt)} {A B V I : Int32} {Kc : gSt → Option (Int32 × gSt)} {Km : Int32 → gSt → Option (Int32 × gSt)} (hX : Txt tl tx) (hq : gIsRu q = true) (h : AtX Sx q tl tx r w t) (hm : AtM Sm tl tx r w (tk tl tx t.2.2.2)) (h4 : t.1 ≠ 4) (he : t.2.2.2 ≤ tl) (hA : A = nI a) (hB : B = nI b) (ha : a < 1000) (hb : b < 1000) (hlo : ∀ S, fX4_lowest V S = some (nI a)) (hhi : ∀ S t, AtX S q tl tx r w t → fX4_highest V I S = some (nI b)) (hf : ∀ S s, s ≤ 300 → gR S 77 8 = nI s → ∃ S1, Km 0 S = k S1 ∧ gMd S S1 ∧ gR S1 77 8 = nI s) (hs : ∀ Sx1 Sm1, okN (tk tl tx t.2.2.2) a b → gA31 Sx Sx1 → gMd Sm Sm1 → AtX Sx1 q tl tx r w (tk tl tx t.2.2.2) → gR Sx1 31 6 = nI (tk tl tx t.2.2.2).2.1 → AtM Sm1 tl tx r w (tk tl tx (tk tl tx t.2.2.2).2.2.2) → Out q tl tx Sx1 Sm1 k (tk tl tx t.2.2.2).2.2.2 (Kc Sx1) (Km (nI (tk tl tx t.2.2.2).2.1) Sm1)) : Out q tl tx Sx Sm k t.2.2.2 (gBd (rdN V I Sx) (fun v_1 S_2 => if v_1 = 0 then some (0, S_2) else Kc S_2)) (gBd (fX11_number A B Sm) Km) := by
  subst hA
  subst hB
  have h3 := hX.1
  obtain ⟨S1, F1, h1, e1⟩ := c_number hX hq h h4 he ha hb hlo hhi
  have ok := tk_ok (tx := tx) he
  rcases m_number (p := t.2.2.2) hX hm ok ha hb with ⟨on, S2, e2, F2, h2⟩ | ⟨on, e2⟩
  · rcases e1 with ⟨-, e1, e5⟩ | ⟨on2, -⟩
    · rw [e1, e2, gBd_s, gBd_s, if_neg (by decide)]
      exact (hs S1 S2 on F1 F2.md h1 e5 h2).tr F1.rd F2.md (by have := ok.2.2.2.2.2.2.1 (by rw [on.1]; omega) (by rw [on.1]; omega); omega)
    · exact absurd on on2
  · rcases e1 with ⟨on2, -⟩ | ⟨-, e1⟩
    · exact absurd on2 on
    · rw [e1, e2, gBd_s, gBd_s, if_pos rfl]
      have hst : (tk tl tx t.2.2.2).2.2.1 ≤ 300 := by have := ok.1; omega
      obtain ⟨S3, e3, F3, f3⟩ := hf (gW Sm 77 8 (nI (tk tl tx t.2.2.2).2.2.1)) _ hst (gR_Ws _ _ _ _)
      exact Or.inl ⟨_, S1, S3, hst, rfl, F1.rd, h1.2.2.2.2.1, e3, (gMd.rf.w7 (by omega)).tr F3, f3⟩
