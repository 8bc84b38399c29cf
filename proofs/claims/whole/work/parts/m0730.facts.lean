/-! what the Statement gives at the law's entry -/
abbrev gGv : Cond := Jvm.Cond.and given_1 narrow_1
def gTm (i : Nat) : Term := .string "GuestParties$Reader" (gSidx.getD i 0)
abbrev gFT : Term := .static "GuestParties$Meeting" "FALLS" "[I"
set_option maxRecDepth 100000 in
theorem gm_f1 : Cond.arrayOf gFT .int ∈ flatC gGv := by decide +kernel
set_option maxRecDepth 100000 in
theorem gm_f2 : Cond.eq (.length gFT) (.int (Int32.ofNat 9)) ∈ flatC gGv := by decide +kernel
set_option maxRecDepth 100000 in
theorem gm_f3 : ∀ j : Fin 9, Cond.eq (.elem gFT (.int (Int32.ofNat j.val))) (.int (gFalls j.val)) ∈ flatC gGv := by decide +kernel
set_option maxRecDepth 100000 in
theorem gm_c : Cond.eq (.static "java/lang/String" "COMPACT_STRINGS" "Z") (.int 1) ∈ flatC gGv := by decide +kernel
set_option maxRecDepth 100000 in
theorem gm_q : Cond.isRef (.static "jdk/internal/util/Preconditions" "SIOOBE_FORMATTER" "Ljava/util/function/BiFunction;") ∈ flatC gGv := by decide +kernel
set_option maxRecDepth 100000 in
theorem gm_s1 : ∀ i : Fin 11, Cond.exactly (gTm i.val) "java/lang/String" ∈ flatC gGv := by decide +kernel
set_option maxRecDepth 100000 in
theorem gm_s2 : ∀ i : Fin 11, Cond.eq (.field (gTm i.val) "java/lang/String" "coder" "B") (.int 0) ∈ flatC gGv := by decide +kernel
set_option maxRecDepth 100000 in
theorem gm_s3 : ∀ i : Fin 11, Cond.arrayOf (.field (gTm i.val) "java/lang/String" "value" "[B") .byte ∈ flatC gGv := by decide +kernel
set_option maxRecDepth 100000 in
theorem gm_s4 : ∀ i : Fin 11, Cond.eq (.length (.field (gTm i.val) "java/lang/String" "value" "[B")) (.int (Int32.ofNat (gSlen.getD i.val 0))) ∈ flatC gGv := by decide +kernel
set_option maxRecDepth 100000 in
theorem gm_s5 : ∀ i : Fin 11, ∀ j : Fin 8, j.val < gSlen.getD i.val 0 → Cond.eq (.elem (.field (gTm i.val) "java/lang/String" "value" "[B") (.int (Int32.ofNat j.val))) (.int ((gSbyt.getD i.val []).getD j.val 0)) ∈ flatC gGv := by decide +kernel
set_option maxRecDepth 100000 in
theorem gm_s6 : ∀ i j : Fin 11, i.val ≠ j.val → Cond.not (Cond.eq (gTm i.val) (gTm j.val)) ∈ flatC gGv ∨ Cond.not (Cond.eq (gTm j.val) (gTm i.val)) ∈ flatC gGv := by decide +kernel
set_option maxRecDepth 100000 in
theorem gt_sr : ∀ i : Fin 11, lw_tbl[412 + i.val]? = some (Cond.stringRef RX4 (gSidx.getD i.val 0) (gStxt.getD i.val "")) := by decide +kernel
set_option maxRecDepth 100000 in
theorem gt_l1 : Cond.laysStatic "java/lang/String" "COMPACT_STRINGS" "Z" ∈ lw_tbl := List.mem_of_getElem? (i := 437) (by decide +kernel)
set_option maxRecDepth 100000 in
theorem gt_l2 : Cond.laysStatic "jdk/internal/util/Preconditions" "SIOOBE_FORMATTER" "Ljava/util/function/BiFunction;" ∈ lw_tbl := List.mem_of_getElem? (i := 453) (by decide +kernel)
set_option maxRecDepth 100000 in
theorem gt_l3 : Cond.laysStatic "GuestParties$Meeting" "FALLS" "[I" ∈ lw_tbl := List.mem_of_getElem? (i := 887) (by decide +kernel)
set_option maxRecDepth 100000 in
theorem gt_i1 : Cond.initialized "java/lang/String" ∈ lw_tbl := by decide +kernel
set_option maxRecDepth 100000 in
theorem gt_i2 : Cond.initialized "jdk/internal/util/Preconditions" ∈ lw_tbl := by decide +kernel
set_option maxRecDepth 100000 in
theorem gt_i3 : Cond.initialized "GuestParties$Meeting" ∈ lw_tbl := by decide +kernel
set_option maxRecDepth 100000 in
theorem gt_a1 : Cond.arrayClass .int ∈ lw_tbl := List.mem_of_getElem? (i := 118) (by decide +kernel)
set_option maxRecDepth 100000 in
theorem gt_a2 : Cond.arrayClass .boolean ∈ lw_tbl := List.mem_of_getElem? (i := 232) (by decide +kernel)
set_option maxRecDepth 100000 in
theorem gt_a3 : Cond.arrayOver (.array .int) ∈ lw_tbl := List.mem_of_getElem? (i := 98) (by decide +kernel)
set_option maxRecDepth 100000 in
theorem gt_n : ∀ q ∈ gNestL, Cond.methodLinkNest q.1 q.2.1 q.2.2 "GuestParties" ∈ lw_tbl := by decide +kernel
set_option maxRecDepth 100000 in
theorem gt_in : ∀ k : Fin 12, ∀ q, vwCl[k.val]? = some q → Cond.instantiable q.1 q.2.2 ∈ lw_tbl := by
  intro k
  match k with
  | ⟨0, _⟩ => intro q hq; cases hq; exact List.mem_of_getElem? (i := 282) (by decide +kernel)
  | ⟨1, _⟩ => intro q hq; cases hq; exact List.mem_of_getElem? (i := 244) (by decide +kernel)
  | ⟨2, _⟩ => intro q hq; cases hq; exact List.mem_of_getElem? (i := 234) (by decide +kernel)
  | ⟨3, _⟩ => intro q hq; cases hq; exact List.mem_of_getElem? (i := 267) (by decide +kernel)
  | ⟨4, _⟩ => intro q hq; cases hq; exact List.mem_of_getElem? (i := 133) (by decide +kernel)
  | ⟨5, _⟩ => intro q hq; cases hq; exact List.mem_of_getElem? (i := 92) (by decide +kernel)
  | ⟨6, _⟩ => intro q hq; cases hq; exact List.mem_of_getElem? (i := 214) (by decide +kernel)
  | ⟨7, _⟩ => intro q hq; cases hq; exact List.mem_of_getElem? (i := 192) (by decide +kernel)
  | ⟨8, _⟩ => intro q hq; cases hq; exact List.mem_of_getElem? (i := 120) (by decide +kernel)
  | ⟨9, _⟩ => intro q hq; cases hq; exact List.mem_of_getElem? (i := 161) (by decide +kernel)
  | ⟨10, _⟩ => intro q hq; cases hq; exact List.mem_of_getElem? (i := 84) (by decide +kernel)
  | ⟨11, _⟩ => intro q hq; cases hq; exact List.mem_of_getElem? (i := 1037) (by decide +kernel)
theorem law_nest {args : Array Value} {s : State} (hts : ∀ w ∈ lw_tbl, w.before args s = true) : gNx s := ⟨fun q hq => va_Nw.of rfl (hts _ (gt_n q hq)), va_AOA.of (hts _ gt_a3)⟩
theorem law_classes {args : Array Value} {s : State} (hts : ∀ w ∈ lw_tbl, w.before args s = true) : ∃ (D : va_G) (cI cZ cQ : ClassId), va_K D vwCl [(cI, .int), (cZ, .boolean), (cQ, .array .int)] s := by
  obtain ⟨c0, i0, h0⟩ := u_known (C := RX0) (T := TX0) (N := 2) (n := 2) hts wlx_0 (hts _ (gt_in ⟨0, by decide⟩ _ rfl))
  obtain ⟨c1, i1, h1⟩ := u_known (C := RX1) (T := TX1) (N := 4) (n := 4) hts wlx_1 (hts _ (gt_in ⟨1, by decide⟩ _ rfl))
  obtain ⟨c2, i2, h2⟩ := u_known (C := RX2) (T := TX2) (N := 1) (n := 1) hts wlx_2 (hts _ (gt_in ⟨2, by decide⟩ _ rfl))
  obtain ⟨c3, i3, h3⟩ := u_known (C := RX3) (T := TX3) (N := 2) (n := 2) hts wlx_3 (hts _ (gt_in ⟨3, by decide⟩ _ rfl))
  obtain ⟨c4, i4, h4⟩ := u_known (C := RX4) (T := TX4) (N := 7) (n := 7) hts wlx_4 (hts _ (gt_in ⟨4, by decide⟩ _ rfl))
  obtain ⟨c5, i5, h5⟩ := u_known (C := RX5) (T := TX5) (N := 6) (n := 6) hts wlx_5 (hts _ (gt_in ⟨5, by decide⟩ _ rfl))
  obtain ⟨c6, i6, h6⟩ := u_known (C := RX6) (T := TX6) (N := 4) (n := 4) hts wlx_6 (hts _ (gt_in ⟨6, by decide⟩ _ rfl))
  obtain ⟨c7, i7, h7⟩ := u_known (C := RX7) (T := TX7) (N := 5) (n := 5) hts wlx_7 (hts _ (gt_in ⟨7, by decide⟩ _ rfl))
  obtain ⟨c8, i8, h8⟩ := u_known (C := RX8) (T := TX8) (N := 2) (n := 2) hts wlx_8 (hts _ (gt_in ⟨8, by decide⟩ _ rfl))
  obtain ⟨c9, i9, h9⟩ := u_known (C := RX9) (T := TX9) (N := 8) (n := 8) hts wlx_9 (hts _ (gt_in ⟨9, by decide⟩ _ rfl))
  obtain ⟨c10, i10, h10⟩ := u_known (C := RX10) (T := TX10) (N := 13) (n := 13) hts wlx_10 (hts _ (gt_in ⟨10, by decide⟩ _ rfl))
  obtain ⟨c11, i11, h11⟩ := u_known (C := RX11) (T := TX11) (N := 17) (n := 17) hts wlx_11 (hts _ (gt_in ⟨11, by decide⟩ _ rfl))
  obtain ⟨dC, dI, hKc⟩ : ∃ (dC : Nat → ClassId) (dI : Nat → Nat → Nat), ∀ (k : Nat) (q : vw_C), vwCl[k]? = some q → u_Kn s q.1 q.2.1 q.2.2 (dC k) (dI k) := by
    refine ⟨fun k => ([c0, c1, c2, c3, c4, c5, c6, c7, c8, c9, c10, c11] : List ClassId).getD k c0, fun k => ([i0, i1, i2, i3, i4, i5, i6, i7, i8, i9, i10, i11] : List (Nat → Nat)).getD k i0, ?_⟩
    intro k q hq
    match k, hq with
    | 0, hq => cases hq; exact h0
    | 1, hq => cases hq; exact h1
    | 2, hq => cases hq; exact h2
    | 3, hq => cases hq; exact h3
    | 4, hq => cases hq; exact h4
    | 5, hq => cases hq; exact h5
    | 6, hq => cases hq; exact h6
    | 7, hq => cases hq; exact h7
    | 8, hq => cases hq; exact h8
    | 9, hq => cases hq; exact h9
    | 10, hq => cases hq; exact h10
    | 11, hq => cases hq; exact h11
    | k + 12, hq => simp [vwCl] at hq
  obtain ⟨cI, kI, pI, a1, a2, a3⟩ := Cond.arrayClass_spec (hts _ gt_a1)
  obtain ⟨cZ, kZ, pZ, b1, b2, b3⟩ := Cond.arrayClass_spec (hts _ gt_a2)
  obtain ⟨pQ, cQ, kQ, d1, d2, d3, d4, d5⟩ := Jvm.Stand.arrayOver_specB (hts _ gt_a3)
  refine ⟨(dC, dI), cI, cZ, cQ, hKc, fun k q hq => ?_⟩
  match k, hq with
  | 0, hq => cases hq; exact ⟨fun n z => ⟨fun k h => (by cases h), kI, a2, pI, a3⟩, a1⟩
  | 1, hq => cases hq; exact ⟨fun n z => ⟨fun k h => (by cases h), kZ, b2, pZ, b3⟩, b1⟩
  | 2, hq => cases hq; exact ⟨fun n z => ⟨fun k h => (by cases h), kQ, d3, pQ, d4⟩, d5⟩
  | k + 3, hq => cases hq
theorem law_static {args : Array Value} {s : State} (hts : ∀ w ∈ lw_tbl, w.before args s = true) (hgv : gGv.before args s = true) (A : Nat → Prop) (hA : ∀ a : Nat, a < s.heap.size → ¬ A a) : ∃ (t : Nat) (adK adV : Nat → Nat), (va_Z "GuestParties$Meeting" "FALLS" "[I" (.ref t) A s s.heap ∧ va_T .int t 9 (fun j => .int (gFalls j)) A s s.heap) ∧ vk_S 11 gSlen gSbyt adK adV A s s.heap ∧ (∀ i : Nat, i < 11 → vk_R RX4 (gSidx.getD i 0) (gStxt.getD i "") (adK i) s) ∧ va_Z "java/lang/String" "COMPACT_STRINGS" "Z" (.int 1) A s s.heap ∧ va_Zq "jdk/internal/util/Preconditions" "SIOOBE_FORMATTER" "Ljava/util/function/BiFunction;" A s s.heap := by
  have hs := flat_of_before _ hgv
  obtain ⟨t, ht, hT⟩ := va_Tof (f := fun j => .int (gFalls j)) (A := A) (N := 9) (by decide) (hs _ gm_f1) (va_eqt (hs _ gm_f2)) (fun j hj => va_eqt (hs _ (gm_f3 ⟨j, hj⟩))) hA
  obtain ⟨adK, adV, hS, hE⟩ := vk_Sof (args := args) (s := s) (N := 11) (tm := gTm) (len := gSlen) (byt := gSbyt) (A := A) (fun i hi => Nat.lt_of_le_of_lt (gSlen_le ⟨i, hi⟩) (by decide)) (fun i hi => hs _ (gm_s1 ⟨i, hi⟩)) (fun i hi => hs _ (gm_s2 ⟨i, hi⟩)) (fun i hi => hs _ (gm_s3 ⟨i, hi⟩)) (fun i hi => hs _ (gm_s4 ⟨i, hi⟩)) (fun i hi j hj => hs _ (gm_s5 ⟨i, hi⟩ ⟨j, Nat.lt_of_lt_of_le hj (gSlen_le ⟨i, hi⟩)⟩ hj)) (fun i j hi hj hn => (gm_s6 ⟨i, hi⟩ ⟨j, hj⟩ hn).elim (fun h => Or.inl (hs _ h)) (fun h => Or.inr (hs _ h))) hA
  exact ⟨t, adK, adV, ⟨va_Zref (hts _ gt_l3) (hts _ gt_i3) ht hA, hT⟩, hS, fun i hi => vk_R.of (hts _ (List.mem_of_getElem? (gt_sr ⟨i, hi⟩))) (hE i hi), va_Zof (hts _ gt_l1) (hts _ gt_i1) (va_eqi (hs _ gm_c)) hA, va_Zqof (hts _ gt_l2) (hts _ gt_i2) (hs _ gm_q) hA⟩
/-- what stands beside the store, in the law -/
def gFLaw (G : gGG) (b L : Nat) (xs : Nat → Int32) : State → Heap → Prop := fun U H => (gVF G U H ∧ vk_S 11 gSlen gSbyt (fun i => gad G (100 + i)) (fun i => gad G (120 + i)) (gA G) U H ∧ (∀ i : Nat, i < 11 → vk_R RX4 (gSidx.getD i 0) (gStxt.getD i "") (gad G (100 + i)) U) ∧ va_Z "java/lang/String" "COMPACT_STRINGS" "Z" (.int 1) (gA G) U H ∧ va_Zq "jdk/internal/util/Preconditions" "SIOOBE_FORMATTER" "Ljava/util/function/BiFunction;" (gA G) U H) ∧ va_X b L xs U H ∧ b < H.size ∧ ¬ gA G b
theorem gFLaw_sb (G : gGG) (b L : Nat) (xs : Nat → Int32) : gSb G (gFLaw G b L xs) := by
  refine ⟨fun u U H hW h => ?_, fun u U H e h => ?_, fun U H H1 h hk => ?_⟩
  · obtain ⟨⟨h1, h2, h3, h4, h5⟩, h6, h7, h8⟩ := h
    exact ⟨⟨⟨va_Z.moved hW.alike h1.1, va_T.moved hW.alike h1.2⟩, vk_S.moved hW.alike h2, fun i hi => vk_R.warm hW (h3 i hi), va_Z.moved hW.alike h4, va_Zq.moved hW.alike h5⟩, va_X.moved hW.alike h6, h7, h8⟩
  · obtain ⟨⟨h1, h2, h3, h4, h5⟩, h6, h7, h8⟩ := h
    have ha : u.vm.Alike U.vm := by rw [e]; exact Vm.Alike.refl u.vm
    exact ⟨⟨⟨va_Z.moved ha h1.1, va_T.moved ha h1.2⟩, vk_S.moved ha h2, fun i hi => vk_R.same e (h3 i hi), va_Z.moved ha h4, va_Zq.moved ha h5⟩, va_X.moved ha h6, h7, h8⟩
  · obtain ⟨⟨h1, h2, h3, h4, h5⟩, h6, h7, h8⟩ := h
    have hb := hk b h7 h8
    obtain ⟨scr, g1, g2⟩ := h6.kept hb
    exact ⟨⟨⟨h1.1.kept hk, h1.2.kept hk⟩, h2.kept hk, h3, h4.kept hk, h5.kept hk⟩, ⟨scr, g1, g2⟩, (Array.getElem?_eq_some_iff.mp g1).1, h8⟩
theorem gFLaw_V (G : gGG) (b L : Nat) (xs : Nat → Int32) : gVX G (gFLaw G b L xs) := fun _ _ h => h.1
theorem gFLaw_S (G : gGG) (b L : Nat) (xs : Nat → Int32) : gVS G (gFLaw G b L xs) b L xs := fun _ _ h => h.2
