/-! X5_init -/
theorem hiX5_init_5 : ∀ w ∈ u_ws RX5 TX5 6, w ∈ wsX5_init := fun _ hw => List.mem_cons_of_mem _ (List.mem_append_right _ (hw))
set_option maxRecDepth 100000 in
set_option maxHeartbeats 8000000 in
theorem kX5_init (l : Launch) (D : va_G) (cI cZ cQ : ClassId) (h0 sz : Nat) : Met l yX5_init wsX5_init ({ frames := 1, cells := 13, slots := 101, locals := 40 }) (va_Pc [.ref h0] (fun U => U.heap.size = sz ∧ va_P D vwCl [(h0, .inr (5, [.null, .null, .null, .null, .null, .int 0]))] U.heap ∧ va_K D vwCl [(cI, .int), (cZ, .boolean), (cQ, .array .int)] U ∧ va_D (fun _ => True) [(h0, .inr (5, [.null, .null, .null, .null, .null, .int 0]))] ∧ gNx U)) (va_Qv (fun _ : Unit => True) (fun _ t => ∃ (v1 v2 v3 v4 v5 : Nat), ∃ (vr : Nat → Nat), va_P D vwCl [(h0, .inr (5, [.ref v1, .ref v2, .ref v3, .ref v4, .ref v5, .int 4])), (v1, .inl (cI, 8, .inl (fun _ => 0))), (v2, .inl (cI, 5, .inl (fun _ => 0))), (v3, .inl (cI, 8, .inl (fun _ => 0))), (v4, .inl (cI, 8, .inl (fun _ => 0))), (v5, .inl (cQ, 8, .inr (.inr (.inr (.inr (fun i => if i < 8 then some (vr i) else none)))))), (vr 0, .inl (cI, 8, .inl (fun _ => 0))), (vr 1, .inl (cI, 8, .inl (fun _ => 0))), (vr 2, .inl (cI, 8, .inl (fun _ => 0))), (vr 3, .inl (cI, 8, .inl (fun _ => 0))), (vr 4, .inl (cI, 8, .inl (fun _ => 0))), (vr 5, .inl (cI, 8, .inl (fun _ => 0))), (vr 6, .inl (cI, 8, .inl (fun _ => 0))), (vr 7, .inl (cI, 8, .inl (fun _ => 0)))] t.heap ∧ va_K D vwCl [(cI, .int), (cZ, .boolean), (cQ, .array .int)] t ∧ va_D (va_A [(h0, .inr (5, [.null, .null, .null, .null, .null, .int 0]))] sz) [(h0, .inr (5, [.ref v1, .ref v2, .ref v3, .ref v4, .ref v5, .int 4])), (v1, .inl (cI, 8, .inl (fun _ => 0))), (v2, .inl (cI, 5, .inl (fun _ => 0))), (v3, .inl (cI, 8, .inl (fun _ => 0))), (v4, .inl (cI, 8, .inl (fun _ => 0))), (v5, .inl (cQ, 8, .inr (.inr (.inr (.inr (fun i => if i < 8 then some (vr i) else none)))))), (vr 0, .inl (cI, 8, .inl (fun _ => 0))), (vr 1, .inl (cI, 8, .inl (fun _ => 0))), (vr 2, .inl (cI, 8, .inl (fun _ => 0))), (vr 3, .inl (cI, 8, .inl (fun _ => 0))), (vr 4, .inl (cI, 8, .inl (fun _ => 0))), (vr 5, .inl (cI, 8, .inl (fun _ => 0))), (vr 6, .inl (cI, 8, .inl (fun _ => 0))), (vr 7, .inl (cI, 8, .inl (fun _ => 0)))]) (va_A [(h0, .inr (5, [.null, .null, .null, .null, .null, .int 0]))] sz)) 13 101 (va_A [(h0, .inr (5, [.null, .null, .null, .null, .null, .int 0]))] sz) := by
  refine Met.ofW (cc := cX5_init) (maxL := 1) (ret := none) (by decide +kernel) rfl ?_
  intro p e s m args below meth c s₁ B hml hv
  obtain ⟨rfl, hsz, hP, hK, hD0, hN⟩ := hv
  have hx := B.exec
  have hb := B.bytes
  have hr := B.returns
  have hts := atoms_spec (ws := wsX5_init) B.pre
  have hown : s.vm.findClass RX5 = some m.cls := findClass_of_methodNamed B.named
  have hlocks := B.notSynchronized
  have hin : meth.name = "<init>" := (name_of_methodNamed B.named B.method).1
  subst hsz
  have hD := hD0.self (sz := s.heap.size)
  generalize hAe : va_A [(h0, .inr (5, [.null, .null, .null, .null, .null, .int 0]))] s.heap.size = A at hD ⊢
  have hA : ∀ q : Nat, s.heap.size ≤ q → A q := fun q h => by rw [← hAe]; exact Or.inr h
  have hS : va_S A s.heap s.heap [] := va_S.rf
  have hP : va_P D vwCl [(h0, .inr (5, [.null, .null, .null, .null, .null, .int 0]))] s.heap := hP
  have hl := lv_entry ([.ref h0]) (n := 1) (Nat.le_of_ble_eq_true rfl)
  rw [lg_entry_eq]
  generalize (lg_sl ([.ref h0]) ++ List.replicate (1 - (lg_sl ([.ref h0])).length) Slot.unset).toArray = ls at hl ⊢
  have hl : lv_has ls 1 [(0, .ref h0)] := hl
  refine lv_aload_n hx hb dX5_init_0 rfl (lv_at hl 0 rfl) ?_
  refine W.objInit hx hb hown (hts (.methodLink RX5 3 objectInit) (List.mem_of_getElem? (i := 1) rfl)) (hts (.instanceMethod objectInit) (List.mem_of_getElem? (i := 2) rfl)) (hts (.code objectInit ⟨#[0xb1]⟩ 1 none) (List.mem_of_getElem? (i := 3) rfl)) rfl (by rw [hml]; exact hl.1) rfl dX5_init_1 (Nat.le_of_ble_eq_true rfl) (Nat.le_of_ble_eq_true rfl) ?_
  refine W.eq (g2 := F0 m 4 ls []) rfl ?_
  refine lv_aload_n hx hb dX5_init_4 rfl (lv_at hl 0 rfl) ?_
  refine lv_bipush (v := 8) hx hb dX5_init_5 (by decide) ?_
  refine va_newa (atype := .int) (N' := 8) (a0 := (8, .inl (fun _ => 0))) (ty := .int) hx hb (hts (.arrayClass .int) (List.mem_of_getElem? (i := 4) rfl)) rfl hK hP hD hS hA (fun _ => rfl) (by decide) (by decide) (by decide) (Nat.le_of_ble_eq_true rfl) (Nat.le_of_ble_eq_true rfl) dX5_init_7 (fun q7 cA H hK hP hD hS => ?_)
  have ec : cI = cA := Option.some.inj ((hK.2 0 _ rfl).2.symm.trans (hK.2 3 _ rfl).2)
  subst ec
  have hK : va_K D vwCl [(cI, .int), (cZ, .boolean), (cQ, .array .int)] s := hK.sub [0, 1, 2] rfl
  have hP : va_P D vwCl [(h0, .inr (5, [.null, .null, .null, .null, .null, .int 0])), (q7, .inl (cI, 8, .inl (fun _ => 0)))] H := hP
  have hD : va_D A [(h0, .inr (5, [.null, .null, .null, .null, .null, .int 0])), (q7, .inl (cI, 8, .inl (fun _ => 0)))] := hD
  refine W.widen (k := 1) (n := 8) (by omega) (by omega) ?_
  refine va_putF (D := D) (ci := 5) (v := .ref q7) (ty := (.array .int)) (C := RX5) (T := TX5) (N := 6) hx hb hts hiX5_init_5 tyX5 tyX5_ok nmX5 hown hK hP hD hS 0 rfl rfl 0 (by decide) (hts _ (List.mem_of_getElem? (i := 5) rfl)) (fun _ h9 => h9) rfl hin rfl (by decide +kernel) rfl rfl (Nat.le_of_ble_eq_true rfl) dX5_init_9 (fun H locs hP hD hS => ?_)
  have hP : va_P D vwCl [(h0, .inr (5, [.ref q7, .null, .null, .null, .null, .int 0])), (q7, .inl (cI, 8, .inl (fun _ => 0)))] H := hP
  have hD : va_D A [(h0, .inr (5, [.ref q7, .null, .null, .null, .null, .int 0])), (q7, .inl (cI, 8, .inl (fun _ => 0)))] := hD
  refine lv_aload_n hx hb dX5_init_12 rfl (lv_at hl 0 rfl) ?_
  refine lv_iconst (v := 5) hx hb dX5_init_13 (by decide) ?_
  refine va_newa (atype := .int) (N' := 5) (a0 := (5, .inl (fun _ => 0))) (ty := .int) hx hb (hts (.arrayClass .int) (List.mem_of_getElem? (i := 4) rfl)) rfl hK hP hD hS hA (fun _ => rfl) (by decide) (by decide) (by decide) (Nat.le_of_ble_eq_true rfl) (Nat.le_of_ble_eq_true rfl) dX5_init_14 (fun q14 cA H hK hP hD hS => ?_)
  have ec : cI = cA := Option.some.inj ((hK.2 0 _ rfl).2.symm.trans (hK.2 3 _ rfl).2)
  subst ec
  have hK : va_K D vwCl [(cI, .int), (cZ, .boolean), (cQ, .array .int)] s := hK.sub [0, 1, 2] rfl
  have hP : va_P D vwCl [(h0, .inr (5, [.ref q7, .null, .null, .null, .null, .int 0])), (q7, .inl (cI, 8, .inl (fun _ => 0))), (q14, .inl (cI, 5, .inl (fun _ => 0)))] H := hP
  have hD : va_D A [(h0, .inr (5, [.ref q7, .null, .null, .null, .null, .int 0])), (q7, .inl (cI, 8, .inl (fun _ => 0))), (q14, .inl (cI, 5, .inl (fun _ => 0)))] := hD
  refine W.widen (k := 2) (n := 13) (by omega) (by omega) ?_
  refine va_putF (D := D) (ci := 5) (v := .ref q14) (ty := (.array .int)) (C := RX5) (T := TX5) (N := 6) hx hb hts hiX5_init_5 tyX5 tyX5_ok nmX5 hown hK hP hD hS 0 rfl rfl 1 (by decide) (hts _ (List.mem_of_getElem? (i := 6) rfl)) (fun _ h9 => h9) rfl hin rfl (by decide +kernel) rfl rfl (Nat.le_of_ble_eq_true rfl) dX5_init_16 (fun H locs hP hD hS => ?_)
  have hP : va_P D vwCl [(h0, .inr (5, [.ref q7, .ref q14, .null, .null, .null, .int 0])), (q7, .inl (cI, 8, .inl (fun _ => 0))), (q14, .inl (cI, 5, .inl (fun _ => 0)))] H := hP
  have hD : va_D A [(h0, .inr (5, [.ref q7, .ref q14, .null, .null, .null, .int 0])), (q7, .inl (cI, 8, .inl (fun _ => 0))), (q14, .inl (cI, 5, .inl (fun _ => 0)))] := hD
  refine lv_aload_n hx hb dX5_init_19 rfl (lv_at hl 0 rfl) ?_
  refine lv_bipush (v := 8) hx hb dX5_init_20 (by decide) ?_
  refine va_newa (atype := .int) (N' := 8) (a0 := (8, .inl (fun _ => 0))) (ty := .int) hx hb (hts (.arrayClass .int) (List.mem_of_getElem? (i := 4) rfl)) rfl hK hP hD hS hA (fun _ => rfl) (by decide) (by decide) (by decide) (Nat.le_of_ble_eq_true rfl) (Nat.le_of_ble_eq_true rfl) dX5_init_22 (fun q22 cA H hK hP hD hS => ?_)
  have ec : cI = cA := Option.some.inj ((hK.2 0 _ rfl).2.symm.trans (hK.2 3 _ rfl).2)
  subst ec
  have hK : va_K D vwCl [(cI, .int), (cZ, .boolean), (cQ, .array .int)] s := hK.sub [0, 1, 2] rfl
  have hP : va_P D vwCl [(h0, .inr (5, [.ref q7, .ref q14, .null, .null, .null, .int 0])), (q7, .inl (cI, 8, .inl (fun _ => 0))), (q14, .inl (cI, 5, .inl (fun _ => 0))), (q22, .inl (cI, 8, .inl (fun _ => 0)))] H := hP
  have hD : va_D A [(h0, .inr (5, [.ref q7, .ref q14, .null, .null, .null, .int 0])), (q7, .inl (cI, 8, .inl (fun _ => 0))), (q14, .inl (cI, 5, .inl (fun _ => 0))), (q22, .inl (cI, 8, .inl (fun _ => 0)))] := hD
  refine W.widen (k := 3) (n := 21) (by omega) (by omega) ?_
  refine va_putF (D := D) (ci := 5) (v := .ref q22) (ty := (.array .int)) (C := RX5) (T := TX5) (N := 6) hx hb hts hiX5_init_5 tyX5 tyX5_ok nmX5 hown hK hP hD hS 0 rfl rfl 2 (by decide) (hts _ (List.mem_of_getElem? (i := 7) rfl)) (fun _ h9 => h9) rfl hin rfl (by decide +kernel) rfl rfl (Nat.le_of_ble_eq_true rfl) dX5_init_24 (fun H locs hP hD hS => ?_)
  have hP : va_P D vwCl [(h0, .inr (5, [.ref q7, .ref q14, .ref q22, .null, .null, .int 0])), (q7, .inl (cI, 8, .inl (fun _ => 0))), (q14, .inl (cI, 5, .inl (fun _ => 0))), (q22, .inl (cI, 8, .inl (fun _ => 0)))] H := hP
  have hD : va_D A [(h0, .inr (5, [.ref q7, .ref q14, .ref q22, .null, .null, .int 0])), (q7, .inl (cI, 8, .inl (fun _ => 0))), (q14, .inl (cI, 5, .inl (fun _ => 0))), (q22, .inl (cI, 8, .inl (fun _ => 0)))] := hD
  refine lv_aload_n hx hb dX5_init_27 rfl (lv_at hl 0 rfl) ?_
  refine lv_bipush (v := 8) hx hb dX5_init_28 (by decide) ?_
  refine va_newa (atype := .int) (N' := 8) (a0 := (8, .inl (fun _ => 0))) (ty := .int) hx hb (hts (.arrayClass .int) (List.mem_of_getElem? (i := 4) rfl)) rfl hK hP hD hS hA (fun _ => rfl) (by decide) (by decide) (by decide) (Nat.le_of_ble_eq_true rfl) (Nat.le_of_ble_eq_true rfl) dX5_init_30 (fun q30 cA H hK hP hD hS => ?_)
  have ec : cI = cA := Option.some.inj ((hK.2 0 _ rfl).2.symm.trans (hK.2 3 _ rfl).2)
  subst ec
  have hK : va_K D vwCl [(cI, .int), (cZ, .boolean), (cQ, .array .int)] s := hK.sub [0, 1, 2] rfl
  have hP : va_P D vwCl [(h0, .inr (5, [.ref q7, .ref q14, .ref q22, .null, .null, .int 0])), (q7, .inl (cI, 8, .inl (fun _ => 0))), (q14, .inl (cI, 5, .inl (fun _ => 0))), (q22, .inl (cI, 8, .inl (fun _ => 0))), (q30, .inl (cI, 8, .inl (fun _ => 0)))] H := hP
  have hD : va_D A [(h0, .inr (5, [.ref q7, .ref q14, .ref q22, .null, .null, .int 0])), (q7, .inl (cI, 8, .inl (fun _ => 0))), (q14, .inl (cI, 5, .inl (fun _ => 0))), (q22, .inl (cI, 8, .inl (fun _ => 0))), (q30, .inl (cI, 8, .inl (fun _ => 0)))] := hD
  refine W.widen (k := 4) (n := 29) (by omega) (by omega) ?_
  refine va_putF (D := D) (ci := 5) (v := .ref q30) (ty := (.array .int)) (C := RX5) (T := TX5) (N := 6) hx hb hts hiX5_init_5 tyX5 tyX5_ok nmX5 hown hK hP hD hS 0 rfl rfl 3 (by decide) (hts _ (List.mem_of_getElem? (i := 8) rfl)) (fun _ h9 => h9) rfl hin rfl (by decide +kernel) rfl rfl (Nat.le_of_ble_eq_true rfl) dX5_init_32 (fun H locs hP hD hS => ?_)
  have hP : va_P D vwCl [(h0, .inr (5, [.ref q7, .ref q14, .ref q22, .ref q30, .null, .int 0])), (q7, .inl (cI, 8, .inl (fun _ => 0))), (q14, .inl (cI, 5, .inl (fun _ => 0))), (q22, .inl (cI, 8, .inl (fun _ => 0))), (q30, .inl (cI, 8, .inl (fun _ => 0)))] H := hP
  have hD : va_D A [(h0, .inr (5, [.ref q7, .ref q14, .ref q22, .ref q30, .null, .int 0])), (q7, .inl (cI, 8, .inl (fun _ => 0))), (q14, .inl (cI, 5, .inl (fun _ => 0))), (q22, .inl (cI, 8, .inl (fun _ => 0))), (q30, .inl (cI, 8, .inl (fun _ => 0)))] := hD
  refine lv_aload_n hx hb dX5_init_35 rfl (lv_at hl 0 rfl) ?_
  refine lv_bipush (v := 8) hx hb dX5_init_36 (by decide) ?_
  refine lv_bipush (v := 8) hx hb dX5_init_38 (by decide) ?_
  refine va_mna (X := [(h0, .inr (5, [.ref q7, .ref q14, .ref q22, .ref q30, .null, .int 0])), (q7, .inl (cI, 8, .inl (fun _ => 0))), (q14, .inl (cI, 5, .inl (fun _ => 0))), (q22, .inl (cI, 8, .inl (fun _ => 0))), (q30, .inl (cI, 8, .inl (fun _ => 0)))]) (L := []) (f := fun _ => .inr (0, [])) (N' := 8) (K' := 8) (z := (8, .inl (fun _ => 0))) (ty := .int) (cy := cI) hx hb hown (hts (.classLink RX5 24 ("[" ++ (FieldType.array .int).toString)) (List.mem_of_getElem? (i := 9) rfl)) hN.2 (hts (.arrayClass .int) (List.mem_of_getElem? (i := 4) rfl)) (hK.2 0 _ rfl).2 hK hP hD hS hA (by decide) (by decide) (by decide) (by decide) (by decide) (by decide) (by decide) rfl rfl (Nat.le_of_ble_eq_true rfl) (Nat.le_of_ble_eq_true rfl) (fun c => by show ({ cls := c, slots := Array.replicate 8 (.int 0), vm := .none } : Cell) = arrV c 8 (fun _ => .int 0); rw [arrV_new]) dX5_init_40 (fun q40 xr cA H _ _ hK hP hD hS => ?_)
  have ec : cQ = cA := Option.some.inj ((hK.2 2 _ rfl).2.symm.trans (hK.2 3 _ rfl).2)
  subst ec
  have hrow : va_pl ([] ++ (List.range 8).map xr) (vr_up (fun _ => .inr (0, [])) ((List.range 8).map xr) (.inl (cI, (8, .inl (fun _ => 0))))) = [(xr 0, .inl (cI, 8, .inl (fun _ => 0))), (xr 1, .inl (cI, 8, .inl (fun _ => 0))), (xr 2, .inl (cI, 8, .inl (fun _ => 0))), (xr 3, .inl (cI, 8, .inl (fun _ => 0))), (xr 4, .inl (cI, 8, .inl (fun _ => 0))), (xr 5, .inl (cI, 8, .inl (fun _ => 0))), (xr 6, .inl (cI, 8, .inl (fun _ => 0))), (xr 7, .inl (cI, 8, .inl (fun _ => 0)))] := by
    have hm : ∀ i : Nat, i < 8 → xr i ∈ (List.range 8).map xr := fun i hi => List.mem_map.mpr ⟨i, List.mem_range.mpr hi, rfl⟩
    show (List.map (fun a => (a, _)) [xr 0, xr 1, xr 2, xr 3, xr 4, xr 5, xr 6, xr 7]) = _
    simp only [List.map_cons, List.map_nil, vr_up_in (hm 0 (by decide)), vr_up_in (hm 1 (by decide)), vr_up_in (hm 2 (by decide)), vr_up_in (hm 3 (by decide)), vr_up_in (hm 4 (by decide)), vr_up_in (hm 5 (by decide)), vr_up_in (hm 6 (by decide)), vr_up_in (hm 7 (by decide))]
  rw [hrow] at hP hD
  have hK : va_K D vwCl [(cI, .int), (cZ, .boolean), (cQ, .array .int)] s := hK.sub [0, 1, 2] rfl
  have hP : va_P D vwCl [(h0, .inr (5, [.ref q7, .ref q14, .ref q22, .ref q30, .null, .int 0])), (q7, .inl (cI, 8, .inl (fun _ => 0))), (q14, .inl (cI, 5, .inl (fun _ => 0))), (q22, .inl (cI, 8, .inl (fun _ => 0))), (q30, .inl (cI, 8, .inl (fun _ => 0))), (q40, .inl (cQ, 8, .inr (.inr (.inr (.inr (fun i => if i < 8 then some (xr i) else none)))))), (xr 0, .inl (cI, 8, .inl (fun _ => 0))), (xr 1, .inl (cI, 8, .inl (fun _ => 0))), (xr 2, .inl (cI, 8, .inl (fun _ => 0))), (xr 3, .inl (cI, 8, .inl (fun _ => 0))), (xr 4, .inl (cI, 8, .inl (fun _ => 0))), (xr 5, .inl (cI, 8, .inl (fun _ => 0))), (xr 6, .inl (cI, 8, .inl (fun _ => 0))), (xr 7, .inl (cI, 8, .inl (fun _ => 0)))] H := hP
  have hD : va_D A [(h0, .inr (5, [.ref q7, .ref q14, .ref q22, .ref q30, .null, .int 0])), (q7, .inl (cI, 8, .inl (fun _ => 0))), (q14, .inl (cI, 5, .inl (fun _ => 0))), (q22, .inl (cI, 8, .inl (fun _ => 0))), (q30, .inl (cI, 8, .inl (fun _ => 0))), (q40, .inl (cQ, 8, .inr (.inr (.inr (.inr (fun i => if i < 8 then some (xr i) else none)))))), (xr 0, .inl (cI, 8, .inl (fun _ => 0))), (xr 1, .inl (cI, 8, .inl (fun _ => 0))), (xr 2, .inl (cI, 8, .inl (fun _ => 0))), (xr 3, .inl (cI, 8, .inl (fun _ => 0))), (xr 4, .inl (cI, 8, .inl (fun _ => 0))), (xr 5, .inl (cI, 8, .inl (fun _ => 0))), (xr 6, .inl (cI, 8, .inl (fun _ => 0))), (xr 7, .inl (cI, 8, .inl (fun _ => 0)))] := hD
  refine W.widen (k := 13) (n := 101) (by omega) (by omega) ?_
  refine va_putF (D := D) (ci := 5) (v := .ref q40) (ty := (.array (.array .int))) (C := RX5) (T := TX5) (N := 6) hx hb hts hiX5_init_5 tyX5 tyX5_ok nmX5 hown hK hP hD hS 0 rfl rfl 4 (by decide) (hts _ (List.mem_of_getElem? (i := 10) rfl)) (fun _ h9 => h9) rfl hin rfl (by decide +kernel) rfl rfl (Nat.le_of_ble_eq_true rfl) dX5_init_44 (fun H locs hP hD hS => ?_)
  have hP : va_P D vwCl [(h0, .inr (5, [.ref q7, .ref q14, .ref q22, .ref q30, .ref q40, .int 0])), (q7, .inl (cI, 8, .inl (fun _ => 0))), (q14, .inl (cI, 5, .inl (fun _ => 0))), (q22, .inl (cI, 8, .inl (fun _ => 0))), (q30, .inl (cI, 8, .inl (fun _ => 0))), (q40, .inl (cQ, 8, .inr (.inr (.inr (.inr (fun i => if i < 8 then some (xr i) else none)))))), (xr 0, .inl (cI, 8, .inl (fun _ => 0))), (xr 1, .inl (cI, 8, .inl (fun _ => 0))), (xr 2, .inl (cI, 8, .inl (fun _ => 0))), (xr 3, .inl (cI, 8, .inl (fun _ => 0))), (xr 4, .inl (cI, 8, .inl (fun _ => 0))), (xr 5, .inl (cI, 8, .inl (fun _ => 0))), (xr 6, .inl (cI, 8, .inl (fun _ => 0))), (xr 7, .inl (cI, 8, .inl (fun _ => 0)))] H := hP
  have hD : va_D A [(h0, .inr (5, [.ref q7, .ref q14, .ref q22, .ref q30, .ref q40, .int 0])), (q7, .inl (cI, 8, .inl (fun _ => 0))), (q14, .inl (cI, 5, .inl (fun _ => 0))), (q22, .inl (cI, 8, .inl (fun _ => 0))), (q30, .inl (cI, 8, .inl (fun _ => 0))), (q40, .inl (cQ, 8, .inr (.inr (.inr (.inr (fun i => if i < 8 then some (xr i) else none)))))), (xr 0, .inl (cI, 8, .inl (fun _ => 0))), (xr 1, .inl (cI, 8, .inl (fun _ => 0))), (xr 2, .inl (cI, 8, .inl (fun _ => 0))), (xr 3, .inl (cI, 8, .inl (fun _ => 0))), (xr 4, .inl (cI, 8, .inl (fun _ => 0))), (xr 5, .inl (cI, 8, .inl (fun _ => 0))), (xr 6, .inl (cI, 8, .inl (fun _ => 0))), (xr 7, .inl (cI, 8, .inl (fun _ => 0)))] := hD
  refine lv_aload_n hx hb dX5_init_47 rfl (lv_at hl 0 rfl) ?_
  refine lv_iconst (v := 4) hx hb dX5_init_48 (by decide) ?_
  refine va_put (D := D) (ci := 5) (v := .int 4) (ty := .int) (C := RX5) (T := TX5) (N := 6) hx hb hts hiX5_init_5 tyX5 tyX5_ok nmX5 hown hK hP hD hS 0 rfl rfl 5 (by decide) (hts _ (List.mem_of_getElem? (i := 11) rfl)) (fun _ h9 => h9) rfl (by decide +kernel) rfl rfl (Nat.le_of_ble_eq_true rfl) dX5_init_49 (fun H locs hP hD hS => ?_)
  have hP : va_P D vwCl [(h0, .inr (5, [.ref q7, .ref q14, .ref q22, .ref q30, .ref q40, .int 4])), (q7, .inl (cI, 8, .inl (fun _ => 0))), (q14, .inl (cI, 5, .inl (fun _ => 0))), (q22, .inl (cI, 8, .inl (fun _ => 0))), (q30, .inl (cI, 8, .inl (fun _ => 0))), (q40, .inl (cQ, 8, .inr (.inr (.inr (.inr (fun i => if i < 8 then some (xr i) else none)))))), (xr 0, .inl (cI, 8, .inl (fun _ => 0))), (xr 1, .inl (cI, 8, .inl (fun _ => 0))), (xr 2, .inl (cI, 8, .inl (fun _ => 0))), (xr 3, .inl (cI, 8, .inl (fun _ => 0))), (xr 4, .inl (cI, 8, .inl (fun _ => 0))), (xr 5, .inl (cI, 8, .inl (fun _ => 0))), (xr 6, .inl (cI, 8, .inl (fun _ => 0))), (xr 7, .inl (cI, 8, .inl (fun _ => 0)))] H := hP
  have hD : va_D A [(h0, .inr (5, [.ref q7, .ref q14, .ref q22, .ref q30, .ref q40, .int 4])), (q7, .inl (cI, 8, .inl (fun _ => 0))), (q14, .inl (cI, 5, .inl (fun _ => 0))), (q22, .inl (cI, 8, .inl (fun _ => 0))), (q30, .inl (cI, 8, .inl (fun _ => 0))), (q40, .inl (cQ, 8, .inr (.inr (.inr (.inr (fun i => if i < 8 then some (xr i) else none)))))), (xr 0, .inl (cI, 8, .inl (fun _ => 0))), (xr 1, .inl (cI, 8, .inl (fun _ => 0))), (xr 2, .inl (cI, 8, .inl (fun _ => 0))), (xr 3, .inl (cI, 8, .inl (fun _ => 0))), (xr 4, .inl (cI, 8, .inl (fun _ => 0))), (xr 5, .inl (cI, 8, .inl (fun _ => 0))), (xr 6, .inl (cI, 8, .inl (fun _ => 0))), (xr 7, .inl (cI, 8, .inl (fun _ => 0)))] := hD
  have hP9 := hP.sub (ws' := [(h0, .inr (5, [.ref q7, .ref q14, .ref q22, .ref q30, .ref q40, .int 4])), (q7, .inl (cI, 8, .inl (fun _ => 0))), (q14, .inl (cI, 5, .inl (fun _ => 0))), (q22, .inl (cI, 8, .inl (fun _ => 0))), (q30, .inl (cI, 8, .inl (fun _ => 0))), (q40, .inl (cQ, 8, .inr (.inr (.inr (.inr (fun i => if i < 8 then some (xr i) else none)))))), (xr 0, .inl (cI, 8, .inl (fun _ => 0))), (xr 1, .inl (cI, 8, .inl (fun _ => 0))), (xr 2, .inl (cI, 8, .inl (fun _ => 0))), (xr 3, .inl (cI, 8, .inl (fun _ => 0))), (xr 4, .inl (cI, 8, .inl (fun _ => 0))), (xr 5, .inl (cI, 8, .inl (fun _ => 0))), (xr 6, .inl (cI, 8, .inl (fun _ => 0))), (xr 7, .inl (cI, 8, .inl (fun _ => 0)))]) [0, 1, 2, 3, 4, 5, 6, 7, 8, 9, 10, 11, 12, 13] rfl
  have hD9 := hD.sub (ws' := [(h0, .inr (5, [.ref q7, .ref q14, .ref q22, .ref q30, .ref q40, .int 4])), (q7, .inl (cI, 8, .inl (fun _ => 0))), (q14, .inl (cI, 5, .inl (fun _ => 0))), (q22, .inl (cI, 8, .inl (fun _ => 0))), (q30, .inl (cI, 8, .inl (fun _ => 0))), (q40, .inl (cQ, 8, .inr (.inr (.inr (.inr (fun i => if i < 8 then some (xr i) else none)))))), (xr 0, .inl (cI, 8, .inl (fun _ => 0))), (xr 1, .inl (cI, 8, .inl (fun _ => 0))), (xr 2, .inl (cI, 8, .inl (fun _ => 0))), (xr 3, .inl (cI, 8, .inl (fun _ => 0))), (xr 4, .inl (cI, 8, .inl (fun _ => 0))), (xr 5, .inl (cI, 8, .inl (fun _ => 0))), (xr 6, .inl (cI, 8, .inl (fun _ => 0))), (xr 7, .inl (cI, 8, .inl (fun _ => 0)))]) [0, 1, 2, 3, 4, 5, 6, 7, 8, 9, 10, 11, 12, 13] (by decide) rfl
  exact W.vret hx hb hr (fun t ht hW => ⟨⟨(), rfl, trivial, q7, q14, q22, q30, q40, xr, by rw [ht]; exact hP9, va_K.moved hW.alike hK, hD9⟩, hS.F ht⟩) hS.2.2 dX5_init_52
