/-! X6_init -/
theorem hiX6_init_6 : ∀ w ∈ u_ws RX6 TX6 4, w ∈ wsX6_init := fun _ hw => List.mem_cons_of_mem _ (List.mem_append_right _ (hw))
set_option maxRecDepth 100000 in
set_option maxHeartbeats 8000000 in
theorem kX6_init (l : Launch) (D : va_G) (cI cZ cQ : ClassId) (h0 sz : Nat) : Met l yX6_init wsX6_init ({ frames := 1, cells := 3, slots := 30, locals := 40 }) (va_Pc [.ref h0] (fun U => U.heap.size = sz ∧ va_P D vwCl [(h0, .inr (6, [.null, .null, .null, .int 0]))] U.heap ∧ va_K D vwCl [(cI, .int), (cZ, .boolean), (cQ, .array .int)] U ∧ va_D (fun _ => True) [(h0, .inr (6, [.null, .null, .null, .int 0]))] ∧ gNx U)) (va_Qv (fun _ : Unit => True) (fun _ t => ∃ (v1 v2 v3 : Nat), va_P D vwCl [(h0, .inr (6, [.ref v1, .ref v2, .ref v3, .int 0])), (v1, .inl (cI, 10, .inl (fun _ => 0))), (v2, .inl (cI, 10, .inl (fun _ => 0))), (v3, .inl (cZ, 10, .inl (fun _ => 0)))] t.heap ∧ va_K D vwCl [(cI, .int), (cZ, .boolean), (cQ, .array .int)] t ∧ va_D (va_A [(h0, .inr (6, [.null, .null, .null, .int 0]))] sz) [(h0, .inr (6, [.ref v1, .ref v2, .ref v3, .int 0])), (v1, .inl (cI, 10, .inl (fun _ => 0))), (v2, .inl (cI, 10, .inl (fun _ => 0))), (v3, .inl (cZ, 10, .inl (fun _ => 0)))]) (va_A [(h0, .inr (6, [.null, .null, .null, .int 0]))] sz)) 3 30 (va_A [(h0, .inr (6, [.null, .null, .null, .int 0]))] sz) := by
  refine Met.ofW (cc := cX6_init) (maxL := 1) (ret := none) (by decide +kernel) rfl ?_
  intro p e s m args below meth c s₁ B hml hv
  obtain ⟨rfl, hsz, hP, hK, hD0, hN⟩ := hv
  have hx := B.exec
  have hb := B.bytes
  have hr := B.returns
  have hts := atoms_spec (ws := wsX6_init) B.pre
  have hown : s.vm.findClass RX6 = some m.cls := findClass_of_methodNamed B.named
  have hlocks := B.notSynchronized
  have hin : meth.name = "<init>" := (name_of_methodNamed B.named B.method).1
  subst hsz
  have hD := hD0.self (sz := s.heap.size)
  generalize hAe : va_A [(h0, .inr (6, [.null, .null, .null, .int 0]))] s.heap.size = A at hD ⊢
  have hA : ∀ q : Nat, s.heap.size ≤ q → A q := fun q h => by rw [← hAe]; exact Or.inr h
  have hS : va_S A s.heap s.heap [] := va_S.rf
  have hP : va_P D vwCl [(h0, .inr (6, [.null, .null, .null, .int 0]))] s.heap := hP
  have hl := lv_entry ([.ref h0]) (n := 1) (Nat.le_of_ble_eq_true rfl)
  rw [lg_entry_eq]
  generalize (lg_sl ([.ref h0]) ++ List.replicate (1 - (lg_sl ([.ref h0])).length) Slot.unset).toArray = ls at hl ⊢
  have hl : lv_has ls 1 [(0, .ref h0)] := hl
  refine lv_aload_n hx hb dX6_init_0 rfl (lv_at hl 0 rfl) ?_
  refine W.objInit hx hb hown (hts (.methodLink RX6 1 objectInit) (List.mem_of_getElem? (i := 1) rfl)) (hts (.instanceMethod objectInit) (List.mem_of_getElem? (i := 2) rfl)) (hts (.code objectInit ⟨#[0xb1]⟩ 1 none) (List.mem_of_getElem? (i := 3) rfl)) rfl (by rw [hml]; exact hl.1) rfl dX6_init_1 (Nat.le_of_ble_eq_true rfl) (Nat.le_of_ble_eq_true rfl) ?_
  refine W.eq (g2 := F0 m 4 ls []) rfl ?_
  refine lv_aload_n hx hb dX6_init_4 rfl (lv_at hl 0 rfl) ?_
  refine lv_bipush (v := 10) hx hb dX6_init_5 (by decide) ?_
  refine va_newa (atype := .int) (N' := 10) (a0 := (10, .inl (fun _ => 0))) (ty := .int) hx hb (hts (.arrayClass .int) (List.mem_of_getElem? (i := 4) rfl)) rfl hK hP hD hS hA (fun _ => rfl) (by decide) (by decide) (by decide) (Nat.le_of_ble_eq_true rfl) (Nat.le_of_ble_eq_true rfl) dX6_init_7 (fun q7 cA H hK hP hD hS => ?_)
  have ec : cI = cA := Option.some.inj ((hK.2 0 _ rfl).2.symm.trans (hK.2 3 _ rfl).2)
  subst ec
  have hK : va_K D vwCl [(cI, .int), (cZ, .boolean), (cQ, .array .int)] s := hK.sub [0, 1, 2] rfl
  have hP : va_P D vwCl [(h0, .inr (6, [.null, .null, .null, .int 0])), (q7, .inl (cI, 10, .inl (fun _ => 0)))] H := hP
  have hD : va_D A [(h0, .inr (6, [.null, .null, .null, .int 0])), (q7, .inl (cI, 10, .inl (fun _ => 0)))] := hD
  refine W.widen (k := 1) (n := 10) (by omega) (by omega) ?_
  refine va_putF (D := D) (ci := 6) (v := .ref q7) (ty := (.array .int)) (C := RX6) (T := TX6) (N := 4) hx hb hts hiX6_init_6 tyX6 tyX6_ok nmX6 hown hK hP hD hS 0 rfl rfl 0 (by decide) (hts _ (List.mem_of_getElem? (i := 5) rfl)) (fun _ h9 => h9) rfl hin rfl (by decide +kernel) rfl rfl (Nat.le_of_ble_eq_true rfl) dX6_init_9 (fun H locs hP hD hS => ?_)
  have hP : va_P D vwCl [(h0, .inr (6, [.ref q7, .null, .null, .int 0])), (q7, .inl (cI, 10, .inl (fun _ => 0)))] H := hP
  have hD : va_D A [(h0, .inr (6, [.ref q7, .null, .null, .int 0])), (q7, .inl (cI, 10, .inl (fun _ => 0)))] := hD
  refine lv_aload_n hx hb dX6_init_12 rfl (lv_at hl 0 rfl) ?_
  refine lv_bipush (v := 10) hx hb dX6_init_13 (by decide) ?_
  refine va_newa (atype := .int) (N' := 10) (a0 := (10, .inl (fun _ => 0))) (ty := .int) hx hb (hts (.arrayClass .int) (List.mem_of_getElem? (i := 4) rfl)) rfl hK hP hD hS hA (fun _ => rfl) (by decide) (by decide) (by decide) (Nat.le_of_ble_eq_true rfl) (Nat.le_of_ble_eq_true rfl) dX6_init_15 (fun q15 cA H hK hP hD hS => ?_)
  have ec : cI = cA := Option.some.inj ((hK.2 0 _ rfl).2.symm.trans (hK.2 3 _ rfl).2)
  subst ec
  have hK : va_K D vwCl [(cI, .int), (cZ, .boolean), (cQ, .array .int)] s := hK.sub [0, 1, 2] rfl
  have hP : va_P D vwCl [(h0, .inr (6, [.ref q7, .null, .null, .int 0])), (q7, .inl (cI, 10, .inl (fun _ => 0))), (q15, .inl (cI, 10, .inl (fun _ => 0)))] H := hP
  have hD : va_D A [(h0, .inr (6, [.ref q7, .null, .null, .int 0])), (q7, .inl (cI, 10, .inl (fun _ => 0))), (q15, .inl (cI, 10, .inl (fun _ => 0)))] := hD
  refine W.widen (k := 2) (n := 20) (by omega) (by omega) ?_
  refine va_putF (D := D) (ci := 6) (v := .ref q15) (ty := (.array .int)) (C := RX6) (T := TX6) (N := 4) hx hb hts hiX6_init_6 tyX6 tyX6_ok nmX6 hown hK hP hD hS 0 rfl rfl 1 (by decide) (hts _ (List.mem_of_getElem? (i := 6) rfl)) (fun _ h9 => h9) rfl hin rfl (by decide +kernel) rfl rfl (Nat.le_of_ble_eq_true rfl) dX6_init_17 (fun H locs hP hD hS => ?_)
  have hP : va_P D vwCl [(h0, .inr (6, [.ref q7, .ref q15, .null, .int 0])), (q7, .inl (cI, 10, .inl (fun _ => 0))), (q15, .inl (cI, 10, .inl (fun _ => 0)))] H := hP
  have hD : va_D A [(h0, .inr (6, [.ref q7, .ref q15, .null, .int 0])), (q7, .inl (cI, 10, .inl (fun _ => 0))), (q15, .inl (cI, 10, .inl (fun _ => 0)))] := hD
  refine lv_aload_n hx hb dX6_init_20 rfl (lv_at hl 0 rfl) ?_
  refine lv_bipush (v := 10) hx hb dX6_init_21 (by decide) ?_
  refine va_newa (atype := .boolean) (N' := 10) (a0 := (10, .inl (fun _ => 0))) (ty := .boolean) hx hb (hts (.arrayClass .boolean) (List.mem_of_getElem? (i := 7) rfl)) rfl hK hP hD hS hA (fun _ => rfl) (by decide) (by decide) (by decide) (Nat.le_of_ble_eq_true rfl) (Nat.le_of_ble_eq_true rfl) dX6_init_23 (fun q23 cA H hK hP hD hS => ?_)
  have ec : cZ = cA := Option.some.inj ((hK.2 1 _ rfl).2.symm.trans (hK.2 3 _ rfl).2)
  subst ec
  have hK : va_K D vwCl [(cI, .int), (cZ, .boolean), (cQ, .array .int)] s := hK.sub [0, 1, 2] rfl
  have hP : va_P D vwCl [(h0, .inr (6, [.ref q7, .ref q15, .null, .int 0])), (q7, .inl (cI, 10, .inl (fun _ => 0))), (q15, .inl (cI, 10, .inl (fun _ => 0))), (q23, .inl (cZ, 10, .inl (fun _ => 0)))] H := hP
  have hD : va_D A [(h0, .inr (6, [.ref q7, .ref q15, .null, .int 0])), (q7, .inl (cI, 10, .inl (fun _ => 0))), (q15, .inl (cI, 10, .inl (fun _ => 0))), (q23, .inl (cZ, 10, .inl (fun _ => 0)))] := hD
  refine W.widen (k := 3) (n := 30) (by omega) (by omega) ?_
  refine va_putF (D := D) (ci := 6) (v := .ref q23) (ty := (.array .boolean)) (C := RX6) (T := TX6) (N := 4) hx hb hts hiX6_init_6 tyX6 tyX6_ok nmX6 hown hK hP hD hS 0 rfl rfl 2 (by decide) (hts _ (List.mem_of_getElem? (i := 8) rfl)) (fun _ h9 => h9) rfl hin rfl (by decide +kernel) rfl rfl (Nat.le_of_ble_eq_true rfl) dX6_init_25 (fun H locs hP hD hS => ?_)
  have hP : va_P D vwCl [(h0, .inr (6, [.ref q7, .ref q15, .ref q23, .int 0])), (q7, .inl (cI, 10, .inl (fun _ => 0))), (q15, .inl (cI, 10, .inl (fun _ => 0))), (q23, .inl (cZ, 10, .inl (fun _ => 0)))] H := hP
  have hD : va_D A [(h0, .inr (6, [.ref q7, .ref q15, .ref q23, .int 0])), (q7, .inl (cI, 10, .inl (fun _ => 0))), (q15, .inl (cI, 10, .inl (fun _ => 0))), (q23, .inl (cZ, 10, .inl (fun _ => 0)))] := hD
  refine lv_aload_n hx hb dX6_init_28 rfl (lv_at hl 0 rfl) ?_
  refine lv_iconst (v := 0) hx hb dX6_init_29 (by decide) ?_
  refine va_put (D := D) (ci := 6) (v := .int 0) (ty := .int) (C := RX6) (T := TX6) (N := 4) hx hb hts hiX6_init_6 tyX6 tyX6_ok nmX6 hown hK hP hD hS 0 rfl rfl 3 (by decide) (hts _ (List.mem_of_getElem? (i := 9) rfl)) (fun _ h9 => h9) rfl (by decide +kernel) rfl rfl (Nat.le_of_ble_eq_true rfl) dX6_init_30 (fun H locs hP hD hS => ?_)
  have hP : va_P D vwCl [(h0, .inr (6, [.ref q7, .ref q15, .ref q23, .int 0])), (q7, .inl (cI, 10, .inl (fun _ => 0))), (q15, .inl (cI, 10, .inl (fun _ => 0))), (q23, .inl (cZ, 10, .inl (fun _ => 0)))] H := hP
  have hD : va_D A [(h0, .inr (6, [.ref q7, .ref q15, .ref q23, .int 0])), (q7, .inl (cI, 10, .inl (fun _ => 0))), (q15, .inl (cI, 10, .inl (fun _ => 0))), (q23, .inl (cZ, 10, .inl (fun _ => 0)))] := hD
  have hP9 := hP.sub (ws' := [(h0, .inr (6, [.ref q7, .ref q15, .ref q23, .int 0])), (q7, .inl (cI, 10, .inl (fun _ => 0))), (q15, .inl (cI, 10, .inl (fun _ => 0))), (q23, .inl (cZ, 10, .inl (fun _ => 0)))]) [0, 1, 2, 3] rfl
  have hD9 := hD.sub (ws' := [(h0, .inr (6, [.ref q7, .ref q15, .ref q23, .int 0])), (q7, .inl (cI, 10, .inl (fun _ => 0))), (q15, .inl (cI, 10, .inl (fun _ => 0))), (q23, .inl (cZ, 10, .inl (fun _ => 0)))]) [0, 1, 2, 3] (by decide) rfl
  exact W.vret hx hb hr (fun t ht hW => ⟨⟨(), rfl, trivial, q7, q15, q23, by rw [ht]; exact hP9, va_K.moved hW.alike hK, hD9⟩, hS.F ht⟩) hS.2.2 dX6_init_33
