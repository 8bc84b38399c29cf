/-! X4_init -/
theorem hiX4_init_4 : ∀ w ∈ u_ws RX4 TX4 7, w ∈ wsX4_init := fun _ hw => List.mem_cons_of_mem _ (List.mem_append_right _ (hw))
set_option maxRecDepth 100000 in
set_option maxHeartbeats 8000000 in
theorem kX4_init (l : Launch) (D : va_G) (cI cZ cQ : ClassId) (h0 sz : Nat) (a1 a2 : Nat) : Met l yX4_init wsX4_init ({ frames := 1, cells := 1, slots := 3, locals := 40 }) (va_Pc [.ref h0, .ref a1, .ref a2] (fun U => U.heap.size = sz ∧ va_P D vwCl [(h0, .inr (4, [.null, .null, .null, .int 0, .int 0, .int 0, .int 0]))] U.heap ∧ va_K D vwCl [(cI, .int), (cZ, .boolean), (cQ, .array .int)] U ∧ va_D (fun _ => True) [(h0, .inr (4, [.null, .null, .null, .int 0, .int 0, .int 0, .int 0]))] ∧ gNx U)) (va_Qv (fun _ : Unit => True) (fun _ t => ∃ (v1 : Nat), va_P D vwCl [(h0, .inr (4, [.ref a1, .ref v1, .ref a2, .int 0, .int 13, .int 0, .int 0])), (v1, .inl (cI, 3, .inl (fun _ => 0)))] t.heap ∧ va_K D vwCl [(cI, .int), (cZ, .boolean), (cQ, .array .int)] t ∧ va_D (va_A [(h0, .inr (4, [.null, .null, .null, .int 0, .int 0, .int 0, .int 0]))] sz) [(h0, .inr (4, [.ref a1, .ref v1, .ref a2, .int 0, .int 13, .int 0, .int 0])), (v1, .inl (cI, 3, .inl (fun _ => 0)))]) (va_A [(h0, .inr (4, [.null, .null, .null, .int 0, .int 0, .int 0, .int 0]))] sz)) 1 3 (va_A [(h0, .inr (4, [.null, .null, .null, .int 0, .int 0, .int 0, .int 0]))] sz) := by
  refine Met.ofW (cc := cX4_init) (maxL := 3) (ret := none) (by decide +kernel) rfl ?_
  intro p e s m args below meth c s₁ B hml hv
  obtain ⟨rfl, hsz, hP, hK, hD0, hN⟩ := hv
  have hx := B.exec
  have hb := B.bytes
  have hr := B.returns
  have hts := atoms_spec (ws := wsX4_init) B.pre
  have hown : s.vm.findClass RX4 = some m.cls := findClass_of_methodNamed B.named
  have hlocks := B.notSynchronized
  have hin : meth.name = "<init>" := (name_of_methodNamed B.named B.method).1
  subst hsz
  have hD := hD0.self (sz := s.heap.size)
  generalize hAe : va_A [(h0, .inr (4, [.null, .null, .null, .int 0, .int 0, .int 0, .int 0]))] s.heap.size = A at hD ⊢
  have hA : ∀ q : Nat, s.heap.size ≤ q → A q := fun q h => by rw [← hAe]; exact Or.inr h
  have hS : va_S A s.heap s.heap [] := va_S.rf
  have hP : va_P D vwCl [(h0, .inr (4, [.null, .null, .null, .int 0, .int 0, .int 0, .int 0]))] s.heap := hP
  have hl := lv_entry ([.ref h0, .ref a1, .ref a2]) (n := 3) (Nat.le_of_ble_eq_true rfl)
  rw [lg_entry_eq]
  generalize (lg_sl ([.ref h0, .ref a1, .ref a2]) ++ List.replicate (3 - (lg_sl ([.ref h0, .ref a1, .ref a2])).length) Slot.unset).toArray = ls at hl ⊢
  have hl : lv_has ls 3 [(0, .ref h0), (1, .ref a1), (2, .ref a2)] := hl
  refine lv_aload_n hx hb dX4_init_0 rfl (lv_at hl 0 rfl) ?_
  refine W.objInit hx hb hown (hts (.methodLink RX4 3 objectInit) (List.mem_of_getElem? (i := 1) rfl)) (hts (.instanceMethod objectInit) (List.mem_of_getElem? (i := 2) rfl)) (hts (.code objectInit ⟨#[0xb1]⟩ 1 none) (List.mem_of_getElem? (i := 3) rfl)) rfl (by rw [hml]; exact hl.1) rfl dX4_init_1 (Nat.le_of_ble_eq_true rfl) (Nat.le_of_ble_eq_true rfl) ?_
  refine W.eq (g2 := F0 m 4 ls []) rfl ?_
  refine lv_aload_n hx hb dX4_init_4 rfl (lv_at hl 0 rfl) ?_
  refine lv_iconst (v := 3) hx hb dX4_init_5 (by decide) ?_
  refine va_newa (atype := .int) (N' := 3) (a0 := (3, .inl (fun _ => 0))) (ty := .int) hx hb (hts (.arrayClass .int) (List.mem_of_getElem? (i := 4) rfl)) rfl hK hP hD hS hA (fun _ => rfl) (by decide) (by decide) (by decide) (Nat.le_of_ble_eq_true rfl) (Nat.le_of_ble_eq_true rfl) dX4_init_6 (fun q6 cA H hK hP hD hS => ?_)
  have ec : cI = cA := Option.some.inj ((hK.2 0 _ rfl).2.symm.trans (hK.2 3 _ rfl).2)
  subst ec
  have hK : va_K D vwCl [(cI, .int), (cZ, .boolean), (cQ, .array .int)] s := hK.sub [0, 1, 2] rfl
  have hP : va_P D vwCl [(h0, .inr (4, [.null, .null, .null, .int 0, .int 0, .int 0, .int 0])), (q6, .inl (cI, 3, .inl (fun _ => 0)))] H := hP
  have hD : va_D A [(h0, .inr (4, [.null, .null, .null, .int 0, .int 0, .int 0, .int 0])), (q6, .inl (cI, 3, .inl (fun _ => 0)))] := hD
  refine W.widen (k := 1) (n := 3) (by omega) (by omega) ?_
  refine va_putF (D := D) (ci := 4) (v := .ref q6) (ty := (.array .int)) (C := RX4) (T := TX4) (N := 7) hx hb hts hiX4_init_4 tyX4 tyX4_ok nmX4 hown hK hP hD hS 0 rfl rfl 1 (by decide) (hts _ (List.mem_of_getElem? (i := 5) rfl)) (fun _ h9 => h9) rfl hin rfl (by decide +kernel) rfl rfl (Nat.le_of_ble_eq_true rfl) dX4_init_8 (fun H locs hP hD hS => ?_)
  have hP : va_P D vwCl [(h0, .inr (4, [.null, .ref q6, .null, .int 0, .int 0, .int 0, .int 0])), (q6, .inl (cI, 3, .inl (fun _ => 0)))] H := hP
  have hD : va_D A [(h0, .inr (4, [.null, .ref q6, .null, .int 0, .int 0, .int 0, .int 0])), (q6, .inl (cI, 3, .inl (fun _ => 0)))] := hD
  refine lv_aload_n hx hb dX4_init_11 rfl (lv_at hl 0 rfl) ?_
  refine lv_iconst (v := 0) hx hb dX4_init_12 (by decide) ?_
  refine va_put (D := D) (ci := 4) (v := .int 0) (ty := .int) (C := RX4) (T := TX4) (N := 7) hx hb hts hiX4_init_4 tyX4 tyX4_ok nmX4 hown hK hP hD hS 0 rfl rfl 3 (by decide) (hts _ (List.mem_of_getElem? (i := 6) rfl)) (fun _ h9 => h9) rfl (by decide +kernel) rfl rfl (Nat.le_of_ble_eq_true rfl) dX4_init_13 (fun H locs hP hD hS => ?_)
  have hP : va_P D vwCl [(h0, .inr (4, [.null, .ref q6, .null, .int 0, .int 0, .int 0, .int 0])), (q6, .inl (cI, 3, .inl (fun _ => 0)))] H := hP
  have hD : va_D A [(h0, .inr (4, [.null, .ref q6, .null, .int 0, .int 0, .int 0, .int 0])), (q6, .inl (cI, 3, .inl (fun _ => 0)))] := hD
  refine lv_aload_n hx hb dX4_init_16 rfl (lv_at hl 0 rfl) ?_
  refine lv_bipush (v := 13) hx hb dX4_init_17 (by decide) ?_
  refine va_put (D := D) (ci := 4) (v := .int 13) (ty := .int) (C := RX4) (T := TX4) (N := 7) hx hb hts hiX4_init_4 tyX4 tyX4_ok nmX4 hown hK hP hD hS 0 rfl rfl 4 (by decide) (hts _ (List.mem_of_getElem? (i := 7) rfl)) (fun _ h9 => h9) rfl (by decide +kernel) rfl rfl (Nat.le_of_ble_eq_true rfl) dX4_init_19 (fun H locs hP hD hS => ?_)
  have hP : va_P D vwCl [(h0, .inr (4, [.null, .ref q6, .null, .int 0, .int 13, .int 0, .int 0])), (q6, .inl (cI, 3, .inl (fun _ => 0)))] H := hP
  have hD : va_D A [(h0, .inr (4, [.null, .ref q6, .null, .int 0, .int 13, .int 0, .int 0])), (q6, .inl (cI, 3, .inl (fun _ => 0)))] := hD
  refine lv_aload_n hx hb dX4_init_22 rfl (lv_at hl 0 rfl) ?_
  refine lv_iconst (v := 0) hx hb dX4_init_23 (by decide) ?_
  refine va_put (D := D) (ci := 4) (v := .int 0) (ty := .int) (C := RX4) (T := TX4) (N := 7) hx hb hts hiX4_init_4 tyX4 tyX4_ok nmX4 hown hK hP hD hS 0 rfl rfl 5 (by decide) (hts _ (List.mem_of_getElem? (i := 8) rfl)) (fun _ h9 => h9) rfl (by decide +kernel) rfl rfl (Nat.le_of_ble_eq_true rfl) dX4_init_24 (fun H locs hP hD hS => ?_)
  have hP : va_P D vwCl [(h0, .inr (4, [.null, .ref q6, .null, .int 0, .int 13, .int 0, .int 0])), (q6, .inl (cI, 3, .inl (fun _ => 0)))] H := hP
  have hD : va_D A [(h0, .inr (4, [.null, .ref q6, .null, .int 0, .int 13, .int 0, .int 0])), (q6, .inl (cI, 3, .inl (fun _ => 0)))] := hD
  refine lv_aload_n hx hb dX4_init_27 rfl (lv_at hl 0 rfl) ?_
  refine lv_iconst (v := 0) hx hb dX4_init_28 (by decide) ?_
  refine va_put (D := D) (ci := 4) (v := .int 0) (ty := .int) (C := RX4) (T := TX4) (N := 7) hx hb hts hiX4_init_4 tyX4 tyX4_ok nmX4 hown hK hP hD hS 0 rfl rfl 6 (by decide) (hts _ (List.mem_of_getElem? (i := 9) rfl)) (fun _ h9 => h9) rfl (by decide +kernel) rfl rfl (Nat.le_of_ble_eq_true rfl) dX4_init_29 (fun H locs hP hD hS => ?_)
  have hP : va_P D vwCl [(h0, .inr (4, [.null, .ref q6, .null, .int 0, .int 13, .int 0, .int 0])), (q6, .inl (cI, 3, .inl (fun _ => 0)))] H := hP
  have hD : va_D A [(h0, .inr (4, [.null, .ref q6, .null, .int 0, .int 13, .int 0, .int 0])), (q6, .inl (cI, 3, .inl (fun _ => 0)))] := hD
  refine lv_aload_n hx hb dX4_init_32 rfl (lv_at hl 0 rfl) ?_
  refine lv_aload_n hx hb dX4_init_33 rfl (lv_at hl 1 rfl) ?_
  refine va_putF (D := D) (ci := 4) (v := .ref a1) (ty := (.object "GuestParties$Text")) (C := RX4) (T := TX4) (N := 7) hx hb hts hiX4_init_4 tyX4 tyX4_ok nmX4 hown hK hP hD hS 0 rfl rfl 0 (by decide) (hts _ (List.mem_of_getElem? (i := 10) rfl)) (fun _ h9 => h9) rfl hin rfl (by decide +kernel) rfl rfl (Nat.le_of_ble_eq_true rfl) dX4_init_34 (fun H locs hP hD hS => ?_)
  have hP : va_P D vwCl [(h0, .inr (4, [.ref a1, .ref q6, .null, .int 0, .int 13, .int 0, .int 0])), (q6, .inl (cI, 3, .inl (fun _ => 0)))] H := hP
  have hD : va_D A [(h0, .inr (4, [.ref a1, .ref q6, .null, .int 0, .int 13, .int 0, .int 0])), (q6, .inl (cI, 3, .inl (fun _ => 0)))] := hD
  refine lv_aload_n hx hb dX4_init_37 rfl (lv_at hl 0 rfl) ?_
  refine lv_aload_n hx hb dX4_init_38 rfl (lv_at hl 2 rfl) ?_
  refine va_put (D := D) (ci := 4) (v := .ref a2) (ty := (.object "GuestParties$Rules")) (C := RX4) (T := TX4) (N := 7) hx hb hts hiX4_init_4 tyX4 tyX4_ok nmX4 hown hK hP hD hS 0 rfl rfl 2 (by decide) (hts _ (List.mem_of_getElem? (i := 11) rfl)) (fun _ h9 => h9) rfl (by decide +kernel) rfl rfl (Nat.le_of_ble_eq_true rfl) dX4_init_39 (fun H locs hP hD hS => ?_)
  have hP : va_P D vwCl [(h0, .inr (4, [.ref a1, .ref q6, .ref a2, .int 0, .int 13, .int 0, .int 0])), (q6, .inl (cI, 3, .inl (fun _ => 0)))] H := hP
  have hD : va_D A [(h0, .inr (4, [.ref a1, .ref q6, .ref a2, .int 0, .int 13, .int 0, .int 0])), (q6, .inl (cI, 3, .inl (fun _ => 0)))] := hD
  have hP9 := hP.sub (ws' := [(h0, .inr (4, [.ref a1, .ref q6, .ref a2, .int 0, .int 13, .int 0, .int 0])), (q6, .inl (cI, 3, .inl (fun _ => 0)))]) [0, 1] rfl
  have hD9 := hD.sub (ws' := [(h0, .inr (4, [.ref a1, .ref q6, .ref a2, .int 0, .int 13, .int 0, .int 0])), (q6, .inl (cI, 3, .inl (fun _ => 0)))]) [0, 1] (by decide) rfl
  exact W.vret hx hb hr (fun t ht hW => ⟨⟨(), rfl, trivial, q6, by rw [ht]; exact hP9, va_K.moved hW.alike hK, hD9⟩, hS.F ht⟩) hS.2.2 dX4_init_42
