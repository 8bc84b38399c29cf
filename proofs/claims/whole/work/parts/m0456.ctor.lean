/-! X9_init -/
theorem hiX9_init_9 : ∀ w ∈ u_ws RX9 TX9 8, w ∈ wsX9_init := fun _ hw => List.mem_cons_of_mem _ (List.mem_append_right _ (hw))
set_option maxRecDepth 100000 in
set_option maxHeartbeats 8000000 in
theorem kX9_init (l : Launch) (D : va_G) (cI cZ cQ : ClassId) (h0 sz : Nat) (a1 : Nat) : Met l yX9_init wsX9_init ({ frames := 1, cells := 3, slots := 4157, locals := 40 }) (va_Pc [.ref h0, .ref a1] (fun U => U.heap.size = sz ∧ va_P D vwCl [(h0, .inr (9, [.null, .null, .null, .null, .int 0, .int 0, .int 0, .int 0]))] U.heap ∧ va_K D vwCl [(cI, .int), (cZ, .boolean), (cQ, .array .int)] U ∧ va_D (fun _ => True) [(h0, .inr (9, [.null, .null, .null, .null, .int 0, .int 0, .int 0, .int 0]))] ∧ gNx U)) (va_Qv (fun _ : Unit => True) (fun _ t => ∃ (v1 v2 v3 : Nat), va_P D vwCl [(h0, .inr (9, [.ref v1, .ref v2, .ref v3, .ref a1, .int 0, .int 0, .int 0, .int 0])), (v1, .inl (cI, 4140, .inl (fun _ => 0))), (v2, .inl (cI, 9, .inl (fun _ => 0))), (v3, .inl (cI, 8, .inl (fun _ => 0)))] t.heap ∧ va_K D vwCl [(cI, .int), (cZ, .boolean), (cQ, .array .int)] t ∧ va_D (va_A [(h0, .inr (9, [.null, .null, .null, .null, .int 0, .int 0, .int 0, .int 0]))] sz) [(h0, .inr (9, [.ref v1, .ref v2, .ref v3, .ref a1, .int 0, .int 0, .int 0, .int 0])), (v1, .inl (cI, 4140, .inl (fun _ => 0))), (v2, .inl (cI, 9, .inl (fun _ => 0))), (v3, .inl (cI, 8, .inl (fun _ => 0)))]) (va_A [(h0, .inr (9, [.null, .null, .null, .null, .int 0, .int 0, .int 0, .int 0]))] sz)) 3 4157 (va_A [(h0, .inr (9, [.null, .null, .null, .null, .int 0, .int 0, .int 0, .int 0]))] sz) := by
  refine Met.ofW (cc := cX9_init) (maxL := 2) (ret := none) (by decide +kernel) rfl ?_
  intro p e s m args below meth c s₁ B hml hv
  obtain ⟨rfl, hsz, hP, hK, hD0, hN⟩ := hv
  have hx := B.exec
  have hb := B.bytes
  have hr := B.returns
  have hts := atoms_spec (ws := wsX9_init) B.pre
  have hown : s.vm.findClass RX9 = some m.cls := findClass_of_methodNamed B.named
  have hlocks := B.notSynchronized
  have hin : meth.name = "<init>" := (name_of_methodNamed B.named B.method).1
  subst hsz
  have hD := hD0.self (sz := s.heap.size)
  generalize hAe : va_A [(h0, .inr (9, [.null, .null, .null, .null, .int 0, .int 0, .int 0, .int 0]))] s.heap.size = A at hD ⊢
  have hA : ∀ q : Nat, s.heap.size ≤ q → A q := fun q h => by rw [← hAe]; exact Or.inr h
  have hS : va_S A s.heap s.heap [] := va_S.rf
  have hP : va_P D vwCl [(h0, .inr (9, [.null, .null, .null, .null, .int 0, .int 0, .int 0, .int 0]))] s.heap := hP
  have hl := lv_entry ([.ref h0, .ref a1]) (n := 2) (Nat.le_of_ble_eq_true rfl)
  rw [lg_entry_eq]
  generalize (lg_sl ([.ref h0, .ref a1]) ++ List.replicate (2 - (lg_sl ([.ref h0, .ref a1])).length) Slot.unset).toArray = ls at hl ⊢
  have hl : lv_has ls 2 [(0, .ref h0), (1, .ref a1)] := hl
  refine lv_aload_n hx hb dX9_init_0 rfl (lv_at hl 0 rfl) ?_
  refine W.objInit hx hb hown (hts (.methodLink RX9 3 objectInit) (List.mem_of_getElem? (i := 1) rfl)) (hts (.instanceMethod objectInit) (List.mem_of_getElem? (i := 2) rfl)) (hts (.code objectInit ⟨#[0xb1]⟩ 1 none) (List.mem_of_getElem? (i := 3) rfl)) rfl (by rw [hml]; exact hl.1) rfl dX9_init_1 (Nat.le_of_ble_eq_true rfl) (Nat.le_of_ble_eq_true rfl) ?_
  refine W.eq (g2 := F0 m 4 ls []) rfl ?_
  refine lv_aload_n hx hb dX9_init_4 rfl (lv_at hl 0 rfl) ?_
  refine lv_sipush (v := 4140) hx hb dX9_init_5 (by decide) ?_
  refine va_newa (atype := .int) (N' := 4140) (a0 := (4140, .inl (fun _ => 0))) (ty := .int) hx hb (hts (.arrayClass .int) (List.mem_of_getElem? (i := 4) rfl)) rfl hK hP hD hS hA (fun _ => rfl) (by decide) (by decide) (by decide) (Nat.le_of_ble_eq_true rfl) (Nat.le_of_ble_eq_true rfl) dX9_init_8 (fun q8 cA H hK hP hD hS => ?_)
  have ec : cI = cA := Option.some.inj ((hK.2 0 _ rfl).2.symm.trans (hK.2 3 _ rfl).2)
  subst ec
  have hK : va_K D vwCl [(cI, .int), (cZ, .boolean), (cQ, .array .int)] s := hK.sub [0, 1, 2] rfl
  have hP : va_P D vwCl [(h0, .inr (9, [.null, .null, .null, .null, .int 0, .int 0, .int 0, .int 0])), (q8, .inl (cI, 4140, .inl (fun _ => 0)))] H := hP
  have hD : va_D A [(h0, .inr (9, [.null, .null, .null, .null, .int 0, .int 0, .int 0, .int 0])), (q8, .inl (cI, 4140, .inl (fun _ => 0)))] := hD
  refine W.widen (k := 1) (n := 4140) (by omega) (by omega) ?_
  refine va_putF (D := D) (ci := 9) (v := .ref q8) (ty := (.array .int)) (C := RX9) (T := TX9) (N := 8) hx hb hts hiX9_init_9 tyX9 tyX9_ok nmX9 hown hK hP hD hS 0 rfl rfl 0 (by decide) (hts _ (List.mem_of_getElem? (i := 5) rfl)) (fun _ h9 => h9) rfl hin rfl (by decide +kernel) rfl rfl (Nat.le_of_ble_eq_true rfl) dX9_init_10 (fun H locs hP hD hS => ?_)
  have hP : va_P D vwCl [(h0, .inr (9, [.ref q8, .null, .null, .null, .int 0, .int 0, .int 0, .int 0])), (q8, .inl (cI, 4140, .inl (fun _ => 0)))] H := hP
  have hD : va_D A [(h0, .inr (9, [.ref q8, .null, .null, .null, .int 0, .int 0, .int 0, .int 0])), (q8, .inl (cI, 4140, .inl (fun _ => 0)))] := hD
  refine lv_aload_n hx hb dX9_init_13 rfl (lv_at hl 0 rfl) ?_
  refine lv_bipush (v := 9) hx hb dX9_init_14 (by decide) ?_
  refine va_newa (atype := .int) (N' := 9) (a0 := (9, .inl (fun _ => 0))) (ty := .int) hx hb (hts (.arrayClass .int) (List.mem_of_getElem? (i := 4) rfl)) rfl hK hP hD hS hA (fun _ => rfl) (by decide) (by decide) (by decide) (Nat.le_of_ble_eq_true rfl) (Nat.le_of_ble_eq_true rfl) dX9_init_16 (fun q16 cA H hK hP hD hS => ?_)
  have ec : cI = cA := Option.some.inj ((hK.2 0 _ rfl).2.symm.trans (hK.2 3 _ rfl).2)
  subst ec
  have hK : va_K D vwCl [(cI, .int), (cZ, .boolean), (cQ, .array .int)] s := hK.sub [0, 1, 2] rfl
  have hP : va_P D vwCl [(h0, .inr (9, [.ref q8, .null, .null, .null, .int 0, .int 0, .int 0, .int 0])), (q8, .inl (cI, 4140, .inl (fun _ => 0))), (q16, .inl (cI, 9, .inl (fun _ => 0)))] H := hP
  have hD : va_D A [(h0, .inr (9, [.ref q8, .null, .null, .null, .int 0, .int 0, .int 0, .int 0])), (q8, .inl (cI, 4140, .inl (fun _ => 0))), (q16, .inl (cI, 9, .inl (fun _ => 0)))] := hD
  refine W.widen (k := 2) (n := 4149) (by omega) (by omega) ?_
  refine va_putF (D := D) (ci := 9) (v := .ref q16) (ty := (.array .int)) (C := RX9) (T := TX9) (N := 8) hx hb hts hiX9_init_9 tyX9 tyX9_ok nmX9 hown hK hP hD hS 0 rfl rfl 1 (by decide) (hts _ (List.mem_of_getElem? (i := 6) rfl)) (fun _ h9 => h9) rfl hin rfl (by decide +kernel) rfl rfl (Nat.le_of_ble_eq_true rfl) dX9_init_18 (fun H locs hP hD hS => ?_)
  have hP : va_P D vwCl [(h0, .inr (9, [.ref q8, .ref q16, .null, .null, .int 0, .int 0, .int 0, .int 0])), (q8, .inl (cI, 4140, .inl (fun _ => 0))), (q16, .inl (cI, 9, .inl (fun _ => 0)))] H := hP
  have hD : va_D A [(h0, .inr (9, [.ref q8, .ref q16, .null, .null, .int 0, .int 0, .int 0, .int 0])), (q8, .inl (cI, 4140, .inl (fun _ => 0))), (q16, .inl (cI, 9, .inl (fun _ => 0)))] := hD
  refine lv_aload_n hx hb dX9_init_21 rfl (lv_at hl 0 rfl) ?_
  refine lv_bipush (v := 8) hx hb dX9_init_22 (by decide) ?_
  refine va_newa (atype := .int) (N' := 8) (a0 := (8, .inl (fun _ => 0))) (ty := .int) hx hb (hts (.arrayClass .int) (List.mem_of_getElem? (i := 4) rfl)) rfl hK hP hD hS hA (fun _ => rfl) (by decide) (by decide) (by decide) (Nat.le_of_ble_eq_true rfl) (Nat.le_of_ble_eq_true rfl) dX9_init_24 (fun q24 cA H hK hP hD hS => ?_)
  have ec : cI = cA := Option.some.inj ((hK.2 0 _ rfl).2.symm.trans (hK.2 3 _ rfl).2)
  subst ec
  have hK : va_K D vwCl [(cI, .int), (cZ, .boolean), (cQ, .array .int)] s := hK.sub [0, 1, 2] rfl
  have hP : va_P D vwCl [(h0, .inr (9, [.ref q8, .ref q16, .null, .null, .int 0, .int 0, .int 0, .int 0])), (q8, .inl (cI, 4140, .inl (fun _ => 0))), (q16, .inl (cI, 9, .inl (fun _ => 0))), (q24, .inl (cI, 8, .inl (fun _ => 0)))] H := hP
  have hD : va_D A [(h0, .inr (9, [.ref q8, .ref q16, .null, .null, .int 0, .int 0, .int 0, .int 0])), (q8, .inl (cI, 4140, .inl (fun _ => 0))), (q16, .inl (cI, 9, .inl (fun _ => 0))), (q24, .inl (cI, 8, .inl (fun _ => 0)))] := hD
  refine W.widen (k := 3) (n := 4157) (by omega) (by omega) ?_
  refine va_putF (D := D) (ci := 9) (v := .ref q24) (ty := (.array .int)) (C := RX9) (T := TX9) (N := 8) hx hb hts hiX9_init_9 tyX9 tyX9_ok nmX9 hown hK hP hD hS 0 rfl rfl 2 (by decide) (hts _ (List.mem_of_getElem? (i := 7) rfl)) (fun _ h9 => h9) rfl hin rfl (by decide +kernel) rfl rfl (Nat.le_of_ble_eq_true rfl) dX9_init_26 (fun H locs hP hD hS => ?_)
  have hP : va_P D vwCl [(h0, .inr (9, [.ref q8, .ref q16, .ref q24, .null, .int 0, .int 0, .int 0, .int 0])), (q8, .inl (cI, 4140, .inl (fun _ => 0))), (q16, .inl (cI, 9, .inl (fun _ => 0))), (q24, .inl (cI, 8, .inl (fun _ => 0)))] H := hP
  have hD : va_D A [(h0, .inr (9, [.ref q8, .ref q16, .ref q24, .null, .int 0, .int 0, .int 0, .int 0])), (q8, .inl (cI, 4140, .inl (fun _ => 0))), (q16, .inl (cI, 9, .inl (fun _ => 0))), (q24, .inl (cI, 8, .inl (fun _ => 0)))] := hD
  refine lv_aload_n hx hb dX9_init_29 rfl (lv_at hl 0 rfl) ?_
  refine lv_iconst (v := 0) hx hb dX9_init_30 (by decide) ?_
  refine va_put (D := D) (ci := 9) (v := .int 0) (ty := .boolean) (C := RX9) (T := TX9) (N := 8) hx hb hts hiX9_init_9 tyX9 tyX9_ok nmX9 hown hK hP hD hS 0 rfl rfl 4 (by decide) (hts _ (List.mem_of_getElem? (i := 8) rfl)) (fun _ h9 => h9) rfl (by decide +kernel) rfl rfl (Nat.le_of_ble_eq_true rfl) dX9_init_31 (fun H locs hP hD hS => ?_)
  have hP : va_P D vwCl [(h0, .inr (9, [.ref q8, .ref q16, .ref q24, .null, .int 0, .int 0, .int 0, .int 0])), (q8, .inl (cI, 4140, .inl (fun _ => 0))), (q16, .inl (cI, 9, .inl (fun _ => 0))), (q24, .inl (cI, 8, .inl (fun _ => 0)))] H := hP
  have hD : va_D A [(h0, .inr (9, [.ref q8, .ref q16, .ref q24, .null, .int 0, .int 0, .int 0, .int 0])), (q8, .inl (cI, 4140, .inl (fun _ => 0))), (q16, .inl (cI, 9, .inl (fun _ => 0))), (q24, .inl (cI, 8, .inl (fun _ => 0)))] := hD
  refine lv_aload_n hx hb dX9_init_34 rfl (lv_at hl 0 rfl) ?_
  refine lv_iconst (v := 0) hx hb dX9_init_35 (by decide) ?_
  refine va_put (D := D) (ci := 9) (v := .int 0) (ty := .int) (C := RX9) (T := TX9) (N := 8) hx hb hts hiX9_init_9 tyX9 tyX9_ok nmX9 hown hK hP hD hS 0 rfl rfl 5 (by decide) (hts _ (List.mem_of_getElem? (i := 9) rfl)) (fun _ h9 => h9) rfl (by decide +kernel) rfl rfl (Nat.le_of_ble_eq_true rfl) dX9_init_36 (fun H locs hP hD hS => ?_)
  have hP : va_P D vwCl [(h0, .inr (9, [.ref q8, .ref q16, .ref q24, .null, .int 0, .int 0, .int 0, .int 0])), (q8, .inl (cI, 4140, .inl (fun _ => 0))), (q16, .inl (cI, 9, .inl (fun _ => 0))), (q24, .inl (cI, 8, .inl (fun _ => 0)))] H := hP
  have hD : va_D A [(h0, .inr (9, [.ref q8, .ref q16, .ref q24, .null, .int 0, .int 0, .int 0, .int 0])), (q8, .inl (cI, 4140, .inl (fun _ => 0))), (q16, .inl (cI, 9, .inl (fun _ => 0))), (q24, .inl (cI, 8, .inl (fun _ => 0)))] := hD
  refine lv_aload_n hx hb dX9_init_39 rfl (lv_at hl 0 rfl) ?_
  refine lv_iconst (v := 0) hx hb dX9_init_40 (by decide) ?_
  refine va_put (D := D) (ci := 9) (v := .int 0) (ty := .int) (C := RX9) (T := TX9) (N := 8) hx hb hts hiX9_init_9 tyX9 tyX9_ok nmX9 hown hK hP hD hS 0 rfl rfl 6 (by decide) (hts _ (List.mem_of_getElem? (i := 10) rfl)) (fun _ h9 => h9) rfl (by decide +kernel) rfl rfl (Nat.le_of_ble_eq_true rfl) dX9_init_41 (fun H locs hP hD hS => ?_)
  have hP : va_P D vwCl [(h0, .inr (9, [.ref q8, .ref q16, .ref q24, .null, .int 0, .int 0, .int 0, .int 0])), (q8, .inl (cI, 4140, .inl (fun _ => 0))), (q16, .inl (cI, 9, .inl (fun _ => 0))), (q24, .inl (cI, 8, .inl (fun _ => 0)))] H := hP
  have hD : va_D A [(h0, .inr (9, [.ref q8, .ref q16, .ref q24, .null, .int 0, .int 0, .int 0, .int 0])), (q8, .inl (cI, 4140, .inl (fun _ => 0))), (q16, .inl (cI, 9, .inl (fun _ => 0))), (q24, .inl (cI, 8, .inl (fun _ => 0)))] := hD
  refine lv_aload_n hx hb dX9_init_44 rfl (lv_at hl 0 rfl) ?_
  refine lv_iconst (v := 0) hx hb dX9_init_45 (by decide) ?_
  refine va_put (D := D) (ci := 9) (v := .int 0) (ty := .int) (C := RX9) (T := TX9) (N := 8) hx hb hts hiX9_init_9 tyX9 tyX9_ok nmX9 hown hK hP hD hS 0 rfl rfl 7 (by decide) (hts _ (List.mem_of_getElem? (i := 11) rfl)) (fun _ h9 => h9) rfl (by decide +kernel) rfl rfl (Nat.le_of_ble_eq_true rfl) dX9_init_46 (fun H locs hP hD hS => ?_)
  have hP : va_P D vwCl [(h0, .inr (9, [.ref q8, .ref q16, .ref q24, .null, .int 0, .int 0, .int 0, .int 0])), (q8, .inl (cI, 4140, .inl (fun _ => 0))), (q16, .inl (cI, 9, .inl (fun _ => 0))), (q24, .inl (cI, 8, .inl (fun _ => 0)))] H := hP
  have hD : va_D A [(h0, .inr (9, [.ref q8, .ref q16, .ref q24, .null, .int 0, .int 0, .int 0, .int 0])), (q8, .inl (cI, 4140, .inl (fun _ => 0))), (q16, .inl (cI, 9, .inl (fun _ => 0))), (q24, .inl (cI, 8, .inl (fun _ => 0)))] := hD
  refine lv_aload_n hx hb dX9_init_49 rfl (lv_at hl 0 rfl) ?_
  refine lv_aload_n hx hb dX9_init_50 rfl (lv_at hl 1 rfl) ?_
  refine va_put (D := D) (ci := 9) (v := .ref a1) (ty := (.object "GuestParties$Rules")) (C := RX9) (T := TX9) (N := 8) hx hb hts hiX9_init_9 tyX9 tyX9_ok nmX9 hown hK hP hD hS 0 rfl rfl 3 (by decide) (hts _ (List.mem_of_getElem? (i := 12) rfl)) (fun _ h9 => h9) rfl (by decide +kernel) rfl rfl (Nat.le_of_ble_eq_true rfl) dX9_init_51 (fun H locs hP hD hS => ?_)
  have hP : va_P D vwCl [(h0, .inr (9, [.ref q8, .ref q16, .ref q24, .ref a1, .int 0, .int 0, .int 0, .int 0])), (q8, .inl (cI, 4140, .inl (fun _ => 0))), (q16, .inl (cI, 9, .inl (fun _ => 0))), (q24, .inl (cI, 8, .inl (fun _ => 0)))] H := hP
  have hD : va_D A [(h0, .inr (9, [.ref q8, .ref q16, .ref q24, .ref a1, .int 0, .int 0, .int 0, .int 0])), (q8, .inl (cI, 4140, .inl (fun _ => 0))), (q16, .inl (cI, 9, .inl (fun _ => 0))), (q24, .inl (cI, 8, .inl (fun _ => 0)))] := hD
  have hP9 := hP.sub (ws' := [(h0, .inr (9, [.ref q8, .ref q16, .ref q24, .ref a1, .int 0, .int 0, .int 0, .int 0])), (q8, .inl (cI, 4140, .inl (fun _ => 0))), (q16, .inl (cI, 9, .inl (fun _ => 0))), (q24, .inl (cI, 8, .inl (fun _ => 0)))]) [0, 1, 2, 3] rfl
  have hD9 := hD.sub (ws' := [(h0, .inr (9, [.ref q8, .ref q16, .ref q24, .ref a1, .int 0, .int 0, .int 0, .int 0])), (q8, .inl (cI, 4140, .inl (fun _ => 0))), (q16, .inl (cI, 9, .inl (fun _ => 0))), (q24, .inl (cI, 8, .inl (fun _ => 0)))]) [0, 1, 2, 3] (by decide) rfl
  exact W.vret hx hb hr (fun t ht hW => ⟨⟨(), rfl, trivial, q8, q16, q24, by rw [ht]; exact hP9, va_K.moved hW.alike hK, hD9⟩, hS.F ht⟩) hS.2.2 dX9_init_54
