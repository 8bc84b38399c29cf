/-! one relation for both halves; needs: 0800 0801 0802 0803 0804 0805 0806 0807 0808 0809 0810 0811 0812 0813 0814 0815 0816 -/
abbrev Imt : Type := Option ((Nat → Nat) × Int32 × Nat × (Nat → Nat))
/-- an image of the class at p -/
def ImX (S : gSt) (p n : Nat) : Imt → Prop
  | none => gR S p 3 = nI 0
  | some I => gR S p 3 = nI 1 ∧ St S (p + 1) n I.1 ∧ Si S (p + 5) I.2.2.1 I.2.2.2 ∧ gR S p 2 = I.2.1
/-- the reference's image i -/
def ImM (S : gSt) (i n : Nat) : Imt → Prop
  | none => gR S 82 i = nI 0
  | some I => gR S 82 i = nI 1 ∧ kAt S i n I.1 ∧ gR S 81 (40 * i + 8) = nI I.2.2.1 ∧ (∀ j, j < 3 * I.2.2.1 → gR S 81 (40 * i + (9 + j)) = nI (I.2.2.2 j)) ∧ gR S 81 (40 * i + 39) = I.2.1
def ImOk (n : Nat) : Imt → Prop
  | none => True
  | some I => Can I.1 n ∧ Sg n I.2.2.1 I.2.2.2
/-- images, text and trace -/
abbrev Rst : Type := Imt × Imt × Nat × (Nat → Nat) × Int64
def RX (S : gSt) (o : Nat) (r : Nat → Nat) (w : Nat → Nat → Int) (f : Nat → Nat) (v : Int32) (k : Nat) (σ : Nat → Nat) (Z : Rst) : Prop :=
  (gR S 0 0 = nI o ∧ gR S 0 1 = nI (16 - o) ∧ (o = 1 ∨ o = 15)) ∧ Ru S o r w ∧ Wy S o r w ∧ St S 36 (r 0) f ∧ Si S 40 k σ ∧ gR S 44 0 = v ∧ ImX S 45 (r 0) Z.1 ∧ ImX S 54 (r 0) Z.2.1 ∧ (gR S 29 1 = nI Z.2.2.1 ∧ ∀ i, i < Z.2.2.1 → gR S 30 i = nI (Z.2.2.2.1 i)) ∧ gRL S 0 = Z.2.2.2.2
def RM (S : gSt) (r : Nat → Nat) (w : Nat → Nat → Int) (f : Nat → Nat) (v : Int32) (k : Nat) (σ : Nat → Nat) (Z : Rst) : Prop :=
  To S 0 r w ∧ rowAt S 80 (r 0) f ∧ (gR S 80 8 = nI k ∧ ∀ j, j < 3 * k → gR S 80 (9 + j) = nI (σ j)) ∧ gR S 80 39 = v ∧ ImM S 0 (r 0) Z.1 ∧ ImM S 1 (r 0) Z.2.1 ∧ (gR S 77 3 = nI Z.2.2.1 ∧ ∀ i, i < Z.2.2.1 → gR S 78 i = nI (Z.2.2.2.1 i)) ∧ gRL S 77 = Z.2.2.2.2
def RG (r : Nat → Nat) (w : Nat → Nat → Int) (f : Nat → Nat) (k : Nat) (σ : Nat → Nat) (Z : Rst) : Prop := RW r w ∧ Can f (r 0) ∧ Sg (r 0) k σ ∧ ImOk (r 0) Z.1 ∧ ImOk (r 0) Z.2.1 ∧ Z.2.2.1 ≤ 300 ∧ ∀ i, i < Z.2.2.1 → Z.2.2.2.1 i < 256
def Rel (S : gSt) : Prop := ∃ o r w f v k σ Z, RG r w f k σ Z ∧ RX S o r w f v k σ Z ∧ RM S r w f v k σ Z
/-- both halves answer alike -/
def Tw (F G : gSt → Option (Int32 × gSt)) : Prop := ∀ S, Rel S → ∃ v S1 S2, F S = some (v, S1) ∧ G S1 = some (v, S2) ∧ Rel S2
def Tp (F : gSt → Option Int32) (G : gSt → Option (Int32 × gSt)) : Prop := ∀ S, Rel S → ∃ v S2, F S = some v ∧ G S = some (v, S2) ∧ Rel S2
theorem ImX.fr {S S1 : gSt} {p n a b : Nat} {I : Imt} (h : ImX S p n I) (hf : gFr a b S S1) (hp : p + 9 ≤ a ∨ b ≤ p) : ImX S1 p n I := by
  cases I with
  | none => show gR S1 p 3 = nI 0; rw [hf.2 _ _ (by omega)]; exact h
  | some I =>
    obtain ⟨h1, h2, h3, h4⟩ := h
    exact ⟨by rw [hf.2 _ _ (by omega)]; exact h1, h2.fr hf (by omega), h3.fr hf (by omega), by rw [hf.2 _ _ (by omega)]; exact h4⟩
section
theorem RX.g0 {S : gSt} {o : Nat} {r f σ : Nat → Nat} {w : Nat → Nat → Int} {v : Int32} {k : Nat} {Z : Rst} (h : RX S o r w f v k σ Z) : gN (gR S 0 0) = o := by
  rw [h.1.1, gN_nI (by have := h.1.2.2; omega)]
theorem RX.gi {S : gSt} {o : Nat} {r f σ : Nat → Nat} {w : Nat → Nat → Int} {v : Int32} {k : Nat} {Z : Rst} (h : RX S o r w f v k σ Z) : gIsRu o = true := by
  rcases h.1.2.2 with e | e <;> subst e <;> decide
theorem RX.o18 {S : gSt} {o : Nat} {r f σ : Nat → Nat} {w : Nat → Nat → Int} {v : Int32} {k : Nat} {Z : Rst} (h : RX S o r w f v k σ Z) : o < 18 := by
  have := h.1.2.2; omega
theorem RX.gu {S : gSt} {o : Nat} {r f σ : Nat → Nat} {w : Nat → Nat → Int} {v : Int32} {k : Nat} {Z : Rst} (h : RX S o r w f v k σ Z) : fX5_guests o S = some (nI (r 0)) := congrArg some h.2.1.1
/-- a change from 77 on -/
theorem RX.up {S S1 : gSt} {o a b : Nat} {r f σ : Nat → Nat} {w : Nat → Nat → Int} {v : Int32} {k : Nat} {Z : Rst} (h : RX S o r w f v k σ Z) (hF : gFr a b S S1) (ha : 63 ≤ a) : RX S1 o r w f v k σ Z := by
  obtain ⟨⟨h1, h2, h3⟩, hr, hw, hs, hi, hv, i0, i1, ⟨t1, t2⟩, ht⟩ := h
  refine ⟨⟨?_, ?_, h3⟩, hr.fr hF (by omega), hw.fr hF (by omega), hs.fr hF (by omega), hi.fr hF (by omega), ?_, i0.fr hF (by omega), i1.fr hF (by omega), ⟨?_, fun i hi => ?_⟩, ?_⟩
  · rw [hF.2 _ _ (by omega)]; exact h1
  · rw [hF.2 _ _ (by omega)]; exact h2
  · rw [hF.2 _ _ (by omega)]; exact hv
  · rw [hF.2 _ _ (by omega)]; exact t1
  · rw [hF.2 _ _ (by omega)]; exact t2 i hi
  · show S1.2 0 = _; rw [hF.1]; exact ht
theorem RX.x32 {S S1 : gSt} {o : Nat} {r f σ : Nat → Nat} {w : Nat → Nat → Int} {v : Int32} {k : Nat} {Z : Rst} (h : RX S o r w f v k σ Z) (hF : gFr 32 36 S S1) (hw : Wy S1 o r w) : RX S1 o r w f v k σ Z := by
  obtain ⟨⟨h1, h2, h3⟩, hr, -, hs, hi, hv, i0, i1, ⟨t1, t2⟩, ht⟩ := h
  refine ⟨⟨?_, ?_, h3⟩, hr.fr hF (by omega), hw, hs.fr hF (by omega), hi.fr hF (by omega), ?_, i0.fr hF (by omega), i1.fr hF (by omega), ⟨?_, fun i hi => ?_⟩, ?_⟩
  · rw [hF.2 _ _ (by omega)]; exact h1
  · rw [hF.2 _ _ (by omega)]; exact h2
  · rw [hF.2 _ _ (by omega)]; exact hv
  · rw [hF.2 _ _ (by omega)]; exact t1
  · rw [hF.2 _ _ (by omega)]; exact t2 i hi
  · show S1.2 0 = _; rw [hF.1]; exact ht
theorem RX.x36 {S S1 : gSt} {o : Nat} {r f f' σ : Nat → Nat} {w : Nat → Nat → Int} {v : Int32} {k : Nat} {Z : Rst} (h : RX S o r w f v k σ Z) (hF : gFr 36 40 S S1) (hs : St S1 36 (r 0) f') : RX S1 o r w f' v k σ Z := by
  obtain ⟨⟨h1, h2, h3⟩, hr, hw, -, hi, hv, i0, i1, ⟨t1, t2⟩, ht⟩ := h
  refine ⟨⟨?_, ?_, h3⟩, hr.fr hF (by omega), hw.fr hF (by omega), hs, hi.fr hF (by omega), ?_, i0.fr hF (by omega), i1.fr hF (by omega), ⟨?_, fun i hi => ?_⟩, ?_⟩
  · rw [hF.2 _ _ (by omega)]; exact h1
  · rw [hF.2 _ _ (by omega)]; exact h2
  · rw [hF.2 _ _ (by omega)]; exact hv
  · rw [hF.2 _ _ (by omega)]; exact t1
  · rw [hF.2 _ _ (by omega)]; exact t2 i hi
  · show S1.2 0 = _; rw [hF.1]; exact ht
theorem RX.x40 {S S1 : gSt} {o : Nat} {r f σ σ' : Nat → Nat} {w : Nat → Nat → Int} {v : Int32} {k k' : Nat} {Z : Rst} (h : RX S o r w f v k σ Z) (hF : gFr 40 44 S S1) (hi : Si S1 40 k' σ') : RX S1 o r w f v k' σ' Z := by
  obtain ⟨⟨h1, h2, h3⟩, hr, hw, hs, -, hv, i0, i1, ⟨t1, t2⟩, ht⟩ := h
  refine ⟨⟨?_, ?_, h3⟩, hr.fr hF (by omega), hw.fr hF (by omega), hs.fr hF (by omega), hi, ?_, i0.fr hF (by omega), i1.fr hF (by omega), ⟨?_, fun i hi => ?_⟩, ?_⟩
  · rw [hF.2 _ _ (by omega)]; exact h1
  · rw [hF.2 _ _ (by omega)]; exact h2
  · rw [hF.2 _ _ (by omega)]; exact hv
  · rw [hF.2 _ _ (by omega)]; exact t1
  · rw [hF.2 _ _ (by omega)]; exact t2 i hi
  · show S1.2 0 = _; rw [hF.1]; exact ht
theorem RX.x44 {S S1 : gSt} {o : Nat} {r f σ : Nat → Nat} {w : Nat → Nat → Int} {v v' : Int32} {k : Nat} {Z : Rst} (h : RX S o r w f v k σ Z) (hF : gFr 44 45 S S1) (hv : gR S1 44 0 = v') : RX S1 o r w f v' k σ Z := by
  obtain ⟨⟨h1, h2, h3⟩, hr, hw, hs, hi, -, i0, i1, ⟨t1, t2⟩, ht⟩ := h
  refine ⟨⟨?_, ?_, h3⟩, hr.fr hF (by omega), hw.fr hF (by omega), hs.fr hF (by omega), hi.fr hF (by omega), hv, i0.fr hF (by omega), i1.fr hF (by omega), ⟨?_, fun i hi => ?_⟩, ?_⟩
  · rw [hF.2 _ _ (by omega)]; exact h1
  · rw [hF.2 _ _ (by omega)]; exact h2
  · rw [hF.2 _ _ (by omega)]; exact t1
  · rw [hF.2 _ _ (by omega)]; exact t2 i hi
  · show S1.2 0 = _; rw [hF.1]; exact ht
theorem RX.x45 {S S1 : gSt} {o : Nat} {r f σ : Nat → Nat} {w : Nat → Nat → Int} {v : Int32} {k : Nat} {I : Imt} {Z : Rst} (h : RX S o r w f v k σ Z) (hF : gFr 45 54 S S1) (i0 : ImX S1 45 (r 0) I) : RX S1 o r w f v k σ (I, Z.2) := by
  obtain ⟨⟨h1, h2, h3⟩, hr, hw, hs, hi, hv, -, i1, ⟨t1, t2⟩, ht⟩ := h
  refine ⟨⟨?_, ?_, h3⟩, hr.fr hF (by omega), hw.fr hF (by omega), hs.fr hF (by omega), hi.fr hF (by omega), ?_, i0, i1.fr hF (by omega), ⟨?_, fun i hi => ?_⟩, ?_⟩
  · rw [hF.2 _ _ (by omega)]; exact h1
  · rw [hF.2 _ _ (by omega)]; exact h2
  · rw [hF.2 _ _ (by omega)]; exact hv
  · rw [hF.2 _ _ (by omega)]; exact t1
  · rw [hF.2 _ _ (by omega)]; exact t2 i hi
  · show S1.2 0 = _; rw [hF.1]; exact ht
theorem RX.x54 {S S1 : gSt} {o : Nat} {r f σ : Nat → Nat} {w : Nat → Nat → Int} {v : Int32} {k : Nat} {I : Imt} {Z : Rst} (h : RX S o r w f v k σ Z) (hF : gFr 54 63 S S1) (i1 : ImX S1 54 (r 0) I) : RX S1 o r w f v k σ (Z.1, I, Z.2.2) := by
  obtain ⟨⟨h1, h2, h3⟩, hr, hw, hs, hi, hv, i0, -, ⟨t1, t2⟩, ht⟩ := h
  refine ⟨⟨?_, ?_, h3⟩, hr.fr hF (by omega), hw.fr hF (by omega), hs.fr hF (by omega), hi.fr hF (by omega), ?_, i0.fr hF (by omega), i1, ⟨?_, fun i hi => ?_⟩, ?_⟩
  · rw [hF.2 _ _ (by omega)]; exact h1
  · rw [hF.2 _ _ (by omega)]; exact h2
  · rw [hF.2 _ _ (by omega)]; exact hv
  · rw [hF.2 _ _ (by omega)]; exact t1
  · rw [hF.2 _ _ (by omega)]; exact t2 i hi
  · show S1.2 0 = _; rw [hF.1]; exact ht
theorem RX.x29 {S S1 : gSt} {o : Nat} {r f σ : Nat → Nat} {w : Nat → Nat → Int} {v : Int32} {k tl : Nat} {tx : Nat → Nat} {Z : Rst} (h : RX S o r w f v k σ Z) (hF : gFr 29 32 S S1) (ht : gR S1 29 1 = nI tl ∧ ∀ i, i < tl → gR S1 30 i = nI (tx i)) : RX S1 o r w f v k σ (Z.1, Z.2.1, tl, tx, Z.2.2.2.2) := by
  obtain ⟨⟨h1, h2, h3⟩, hr, hw, hs, hi, hv, i0, i1, -, ht0⟩ := h
  refine ⟨⟨?_, ?_, h3⟩, hr.fr hF (by omega), hw.fr hF (by omega), hs.fr hF (by omega), hi.fr hF (by omega), ?_, i0.fr hF (by omega), i1.fr hF (by omega), ht, ?_⟩
  · rw [hF.2 _ _ (by omega)]; exact h1
  · rw [hF.2 _ _ (by omega)]; exact h2
  · rw [hF.2 _ _ (by omega)]; exact hv
  · show S1.2 0 = _; rw [hF.1]; exact ht0
end
/-- the reference: only what it scribbles on has changed -/
def gSc (S S1 : gSt) : Prop := gFr 77 87 S S1 ∧ ∀ p k, p < 83 → (p ≠ 77 ∨ k = 3) → gR S1 p k = gR S p k
theorem gSc.rf {S : gSt} : gSc S S := ⟨gFr.rf, fun _ _ _ _ => rfl⟩
theorem gSc.tr {S S1 S2 : gSt} (h : gSc S S1) (h2 : gSc S1 S2) : gSc S S2 := ⟨h.1.tr h2.1, fun p k a b => (h2.2 p k a b).trans (h.2 p k a b)⟩
theorem gSc.w7 {S S1 : gSt} {j : Nat} {v : Int32} (h : gSc S S1) (hj : j ≠ 3) : gSc S (gW S1 77 j v) := ⟨h.1.w (by omega) (by omega), fun p k a b => by rw [gR_W2, if_neg (by omega)]; exact h.2 p k a b⟩
theorem gSc.w0 {S : gSt} {j : Nat} {v : Int32} (hj : j ≠ 3) : gSc S (gW S 77 j v) := gSc.rf.w7 hj
theorem gRw.sc {S S1 : gSt} {p n : Nat} (h : gRw p n S S1) (h1 : 83 ≤ p) (h2 : p < 87) : gSc S S1 := ⟨h.fr (by omega) (by omega), fun q k a _ => h.2 q k (by omega)⟩
theorem gB2.sc {S S1 : gSt} (h : gB2 S S1) : gSc S S1 := ⟨⟨h.1, fun p k hp => h.2 p k (by omega) (by omega)⟩, fun q k a _ => h.2 q k (by omega) (by omega)⟩
theorem gSc.of {S S1 : gSt} (h : S1.2 = S.2) (h2 : ∀ a b, a ≠ 86 → gR S1 a b = gR S a b) : gSc S S1 := ⟨⟨h, fun p k hp => h2 p k (by omega)⟩, fun q k a _ => h2 q k (by omega)⟩
theorem RM.sc {S S1 : gSt} {r f σ : Nat → Nat} {w : Nat → Nat → Int} {v : Int32} {k : Nat} {Z : Rst} (h : RM S r w f v k σ Z) (hF : gSc S S1) : RM S1 r w f v k σ Z := by
  obtain ⟨hT, hf, ⟨k1, k2⟩, hv, i0, i1, ⟨t1, t2⟩, ht⟩ := h
  have im : ∀ i I, i < 2 → ImM S i (r 0) I → ImM S1 i (r 0) I := fun i I _ hI => by
    cases I with
    | none => show gR S1 82 i = nI 0; rw [hF.2 _ _ (by omega) (by omega)]; exact hI
    | some I =>
      obtain ⟨a, b, c, d, e⟩ := hI
      refine ⟨?_, fun g hg => ?_, ?_, fun j hj => ?_, ?_⟩
      · rw [hF.2 _ _ (by omega) (by omega)]; exact a
      · rw [hF.2 _ _ (by omega) (by omega)]; exact b g hg
      · rw [hF.2 _ _ (by omega) (by omega)]; exact c
      · rw [hF.2 _ _ (by omega) (by omega)]; exact d j hj
      · rw [hF.2 _ _ (by omega) (by omega)]; exact e
  refine ⟨⟨fun k hk => ?_, fun x y hx hy => ?_⟩, fun g hg => ?_, ⟨?_, fun j hj => ?_⟩, ?_, im 0 _ (by omega) i0, im 1 _ (by omega) i1, ⟨?_, fun i hi => ?_⟩, ?_⟩
  · rw [hF.2 _ _ (by omega) (by omega)]; exact hT.1 k hk
  · rw [hF.2 _ _ (by omega) (by omega)]; exact hT.2 x y hx hy
  · rw [hF.2 _ _ (by omega) (by omega)]; exact hf g hg
  · rw [hF.2 _ _ (by omega) (by omega)]; exact k1
  · rw [hF.2 _ _ (by omega) (by omega)]; exact k2 j hj
  · rw [hF.2 _ _ (by omega) (by omega)]; exact hv
  · rw [hF.2 _ _ (by omega) (by omega)]; exact t1
  · rw [hF.2 _ _ (by omega) (by omega)]; exact t2 i hi
  · show S1.2 77 = _; rw [hF.1.1]; exact ht
/-- a change below 77 -/
theorem RM.fr {S S1 : gSt} {r f σ : Nat → Nat} {w : Nat → Nat → Int} {v : Int32} {k a b : Nat} {Z : Rst} (h : RM S r w f v k σ Z) (hF : gFr a b S S1) (hb : b ≤ 77 ∨ 87 ≤ a) : RM S1 r w f v k σ Z := by
  obtain ⟨hT, hf, ⟨k1, k2⟩, hv, i0, i1, ⟨t1, t2⟩, ht⟩ := h
  have im : ∀ i I, i < 2 → ImM S i (r 0) I → ImM S1 i (r 0) I := fun i I _ hI => by
    cases I with
    | none => show gR S1 82 i = nI 0; rw [hF.2 _ _ (by omega)]; exact hI
    | some I =>
      obtain ⟨a, b, c, d, e⟩ := hI
      refine ⟨?_, fun g hg => ?_, ?_, fun j hj => ?_, ?_⟩
      · rw [hF.2 _ _ (by omega)]; exact a
      · rw [hF.2 _ _ (by omega)]; exact b g hg
      · rw [hF.2 _ _ (by omega)]; exact c
      · rw [hF.2 _ _ (by omega)]; exact d j hj
      · rw [hF.2 _ _ (by omega)]; exact e
  refine ⟨hT.fr hF (by omega), fun g hg => ?_, ⟨?_, fun j hj => ?_⟩, ?_, im 0 _ (by omega) i0, im 1 _ (by omega) i1, ⟨?_, fun i hi => ?_⟩, ?_⟩
  · rw [hF.2 _ _ (by omega)]; exact hf g hg
  · rw [hF.2 _ _ (by omega)]; exact k1
  · rw [hF.2 _ _ (by omega)]; exact k2 j hj
  · rw [hF.2 _ _ (by omega)]; exact hv
  · rw [hF.2 _ _ (by omega)]; exact t1
  · rw [hF.2 _ _ (by omega)]; exact t2 i hi
  · show S1.2 77 = _; rw [hF.1]; exact ht
theorem RM.row {S S1 : gSt} {r f f' σ : Nat → Nat} {w : Nat → Nat → Int} {v : Int32} {k : Nat} {Z : Rst} (h : RM S r w f v k σ Z) (hF : gRw 80 8 S S1) (hf : rowAt S1 80 (r 0) f') : RM S1 r w f' v k σ Z := by
  obtain ⟨hT, -, ⟨k1, k2⟩, hv, i0, i1, ⟨t1, t2⟩, ht⟩ := h
  have im : ∀ i I, i < 2 → ImM S i (r 0) I → ImM S1 i (r 0) I := fun i I _ hI => by
    cases I with
    | none => show gR S1 82 i = nI 0; rw [hF.2 _ _ (by omega)]; exact hI
    | some I =>
      obtain ⟨a, b, c, d, e⟩ := hI
      refine ⟨?_, fun g hg => ?_, ?_, fun j hj => ?_, ?_⟩
      · rw [hF.2 _ _ (by omega)]; exact a
      · rw [hF.2 _ _ (by omega)]; exact b g hg
      · rw [hF.2 _ _ (by omega)]; exact c
      · rw [hF.2 _ _ (by omega)]; exact d j hj
      · rw [hF.2 _ _ (by omega)]; exact e
  refine ⟨hT.rw hF (by omega), hf, ⟨?_, fun j hj => ?_⟩, ?_, im 0 _ (by omega) i0, im 1 _ (by omega) i1, ⟨?_, fun i hi => ?_⟩, ?_⟩
  · rw [hF.2 _ _ (by omega)]; exact k1
  · rw [hF.2 _ _ (by omega)]; exact k2 j hj
  · rw [hF.2 _ _ (by omega)]; exact hv
  · rw [hF.2 _ _ (by omega)]; exact t1
  · rw [hF.2 _ _ (by omega)]; exact t2 i hi
  · show S1.2 77 = _; rw [hF.1]; exact ht
theorem RX.sc {S S1 : gSt} {o : Nat} {r f σ : Nat → Nat} {w : Nat → Nat → Int} {v : Int32} {k : Nat} {Z : Rst} (h : RX S o r w f v k σ Z) (hF : gSc S S1) : RX S1 o r w f v k σ Z := h.up hF.1 (by omega)
theorem Rel.sc {S S1 : gSt} (h : Rel S) (hF : gSc S S1) : Rel S1 := by
  obtain ⟨o, r, w, f, v, k, σ, Z, hG, hX, hM⟩ := h
  exact ⟨o, r, w, f, v, k, σ, Z, hG, hX.sc hF, hM.sc hF⟩
/-- one of n, or not: below, or above -/
theorem cB (x : Int32) {n : Nat} (hn : n < 2 ^ 31) : (∃ g, g < n ∧ x = nI g) ∨ (¬ isB x n ∧ (x < 0 ∨ (¬ x < 0 ∧ nI n ≤ x))) := by
  by_cases h : ¬ x < 0 ∧ x < nI n
  · exact Or.inl ((gIsG x hn).mp h)
  · refine Or.inr ⟨fun z => h ((gIsG x hn).mpr z), ?_⟩
    by_cases q : x < 0
    · exact Or.inl q
    · exact Or.inr ⟨q, Int32.not_lt.mp (fun z => h ⟨q, z⟩)⟩
theorem c_isGuest {S : gSt} {o : Nat} {r f σ : Nat → Nat} {w : Nat → Nat → Int} {v : Int32} {k : Nat} {Z : Rst} (h : RX S o r w f v k σ Z) (hW : RW r w) (x : Int32) : (fX10_isGuest x S = some 1 ∧ isB x (r 0)) ∨ (fX10_isGuest x S = some 0 ∧ ¬ isB x (r 0)) := by
  have h8 := hW.2.1
  unfold fX10_isGuest
  rcases cB x (n := r 0) (by omega) with ⟨g, hg, rfl⟩ | ⟨hn, q | ⟨q1, q2⟩⟩
  · left
    rw [if_neg (nI_pos (by omega)), h.g0, gC_ok h.gi, h.gu, gBp_s, if_neg (nI_nleI hg (by omega))]
    exact ⟨rfl, g, hg, rfl⟩
  · right
    rw [if_pos q]
    exact ⟨rfl, hn⟩
  · right
    rw [if_neg q1, h.g0, gC_ok h.gi, h.gu, gBp_s, if_pos q2]
    exact ⟨rfl, hn⟩
theorem c_areTwo {S : gSt} {o : Nat} {r f σ : Nat → Nat} {w : Nat → Nat → Int} {v : Int32} {k : Nat} {Z : Rst} (h : RX S o r w f v k σ Z) (hW : RW r w) (x y : Int32) : (fX10_areTwoGuests x y S = some 1 ∧ isB x (r 0) ∧ isB y (r 0) ∧ x ≠ y) ∨ (fX10_areTwoGuests x y S = some 0 ∧ ¬ (isB x (r 0) ∧ isB y (r 0) ∧ x ≠ y)) := by
  unfold fX10_areTwoGuests
  rcases c_isGuest h hW x with ⟨e, hb⟩ | ⟨e, hb⟩
  · rw [e, gBp_s, if_neg (by decide)]
    rcases c_isGuest h hW y with ⟨e2, hb2⟩ | ⟨e2, hb2⟩
    · rw [e2, gBp_s, if_neg (by decide)]
      by_cases hxy : x = y
      · right; rw [if_pos hxy]; exact ⟨rfl, fun z => z.2.2 hxy⟩
      · left; rw [if_neg hxy]; exact ⟨rfl, hb, hb2, hxy⟩
    · right; rw [e2, gBp_s, if_pos rfl]; exact ⟨rfl, fun z => hb2 z.2.1⟩
  · right; rw [e, gBp_s, if_pos rfl]; exact ⟨rfl, fun z => hb z.1⟩
theorem RM.mn {S : gSt} {r f σ : Nat → Nat} {w : Nat → Nat → Int} {v : Int32} {k : Nat} {Z : Rst} (h : RM S r w f v k σ Z) (hW : RW r w) : mN S (r 0) := h.1.mN hW
