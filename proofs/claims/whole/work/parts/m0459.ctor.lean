/-! X0_init -/
theorem hiX0_init_0 : ∀ w ∈ u_ws RX0 TX0 2, w ∈ wsX0_init := fun _ hw => List.mem_cons_of_mem _ (List.mem_append_right _ (hw))
theorem hiX0_init_7 : ∀ w ∈ u_ws RX7 TX7 5, w ∈ wsX0_init := fun _ hw => List.mem_cons_of_mem _ (List.mem_append_left _ (List.mem_append_right _ (hw)))
set_option maxRecDepth 100000 in
set_option maxHeartbeats 8000000 in
theorem kX0_init (l : Launch) (D : va_G) (cI cZ cQ : ClassId) (h0 sz : Nat) : Met l yX0_init wsX0_init ({ frames := 2, cells := 4, slots := 29, locals := 100 }) (va_Pc [.ref h0] (fun U => U.heap.size = sz ∧ va_P D vwCl [(h0, .inr (0, [.null, .int 0]))] U.heap ∧ va_K D vwCl [(cI, .int), (cZ, .boolean), (cQ, .array .int)] U ∧ va_D (fun _ => True) [(h0, .inr (0, [.null, .int 0]))] ∧ gNx U)) (va_Qv (fun _ : Unit => True) (fun _ t => ∃ (v1 vs1 vs2 vs3 : Nat), va_P D vwCl [(h0, .inr (0, [.ref v1, .int 0])), (v1, .inr (7, [.ref vs1, .ref vs2, .ref vs3, .int 1, .int 1])), (vs1, .inl (cI, 8, .inl (fun _ => 0))), (vs2, .inl (cI, 8, .inl (fun _ => 0))), (vs3, .inl (cI, 8, .inl (fun _ => 0)))] t.heap ∧ va_K D vwCl [(cI, .int), (cZ, .boolean), (cQ, .array .int)] t ∧ va_D (va_A [(h0, .inr (0, [.null, .int 0]))] sz) [(h0, .inr (0, [.ref v1, .int 0])), (v1, .inr (7, [.ref vs1, .ref vs2, .ref vs3, .int 1, .int 1])), (vs1, .inl (cI, 8, .inl (fun _ => 0))), (vs2, .inl (cI, 8, .inl (fun _ => 0))), (vs3, .inl (cI, 8, .inl (fun _ => 0)))]) (va_A [(h0, .inr (0, [.null, .int 0]))] sz)) 4 29 (va_A [(h0, .inr (0, [.null, .int 0]))] sz) := by
  refine Met.ofW (cc := cX0_init) (maxL := 1) (ret := none) (by decide +kernel) rfl ?_
  intro p e s m args below meth c s₁ B hml hv
  obtain ⟨rfl, hsz, hP, hK, hD0, hN⟩ := hv
  have hx := B.exec
  have hb := B.bytes
  have hr := B.returns
  have hts := atoms_spec (ws := wsX0_init) B.pre
  have hown : s.vm.findClass RX0 = some m.cls := findClass_of_methodNamed B.named
  have hlocks := B.notSynchronized
  have hin : meth.name = "<init>" := (name_of_methodNamed B.named B.method).1
  subst hsz
  have hD := hD0.self (sz := s.heap.size)
  generalize hAe : va_A [(h0, .inr (0, [.null, .int 0]))] s.heap.size = A at hD ⊢
  have hA : ∀ q : Nat, s.heap.size ≤ q → A q := fun q h => by rw [← hAe]; exact Or.inr h
  have hS : va_S A s.heap s.heap [] := va_S.rf
  have hP : va_P D vwCl [(h0, .inr (0, [.null, .int 0]))] s.heap := hP
  have hl := lv_entry ([.ref h0]) (n := 1) (Nat.le_of_ble_eq_true rfl)
  rw [lg_entry_eq]
  generalize (lg_sl ([.ref h0]) ++ List.replicate (1 - (lg_sl ([.ref h0])).length) Slot.unset).toArray = ls at hl ⊢
  have hl : lv_has ls 1 [(0, .ref h0)] := hl
  refine lv_aload_n hx hb dX0_init_0 rfl (lv_at hl 0 rfl) ?_
  refine W.objInit hx hb hown (hts (.methodLink RX0 5 objectInit) (List.mem_of_getElem? (i := 1) rfl)) (hts (.instanceMethod objectInit) (List.mem_of_getElem? (i := 2) rfl)) (hts (.code objectInit ⟨#[0xb1]⟩ 1 none) (List.mem_of_getElem? (i := 3) rfl)) rfl (by rw [hml]; exact hl.1) rfl dX0_init_1 (Nat.le_of_ble_eq_true rfl) (Nat.le_of_ble_eq_true rfl) ?_
  refine W.eq (g2 := F0 m 4 ls []) rfl ?_
  refine lv_aload_n hx hb dX0_init_4 rfl (lv_at hl 0 rfl) ?_
  refine va_new (ci := 7) (fs := [.null, .null, .null, .int 0, .int 0]) (C := RX7) (T := TX7) (N := 5) hx hb hts hiX0_init_7 tyX7 tyX7_ok hown (hts (.classLink RX0 11 RX7) (List.mem_of_getElem? (i := 4) rfl)) (hts (.instantiable RX7 5) (List.mem_of_getElem? (i := 5) rfl)) (hts (.initialized RX7) (List.mem_of_getElem? (i := 6) rfl)) hK hP hD hS hA rfl (fun j hj => by rcases (show j = 0 ∨ j = 1 ∨ j = 2 ∨ j = 3 ∨ j = 4 by omega) with rfl | rfl | rfl | rfl | rfl <;> rfl) (Nat.le_of_ble_eq_true rfl) (Nat.le_of_ble_eq_true rfl) dX0_init_5 (fun q5 H hP hD hS => ?_)
  have hP : va_P D vwCl [(h0, .inr (0, [.null, .int 0])), (q5, .inr (7, [.null, .null, .null, .int 0, .int 0]))] H := hP
  have hD : va_D A [(h0, .inr (0, [.null, .int 0])), (q5, .inr (7, [.null, .null, .null, .int 0, .int 0]))] := hD
  refine W.widen (k := 1) (n := 5) (by omega) (by omega) ?_
  refine lv_dup hx hb dX0_init_8 rfl ?_
  have hPc := hP.sub (ws' := [(q5, .inr (7, [.null, .null, .null, .int 0, .int 0]))]) [1] rfl
  have hDc := hD.sub (ws' := [(q5, .inr (7, [.null, .null, .null, .int 0, .int 0]))]) [1] (by decide) rfl
  have hKc := hK.sub (tys' := [(cI, .int), (cZ, .boolean), (cQ, .array .int)]) [0, 1, 2] rfl
  have hFc := va_free (wc := [(q5, .inr (7, [.null, .null, .null, .int 0, .int 0]))]) hD hS hA [1] rfl
  refine va_callv (va_runIN (As := []) (rest := [.ref q5, .ref h0]) ⟨hx, hb, hml, hown, hts⟩ (kX7_init l D cI cZ cQ q5 H.size ) ⟨va_cnB 0 hts gX0_init_X7_init_n13 rfl rfl rfl (hN.1 (RX0, 13, yX7_init) (List.mem_of_getElem? (i := 11) rfl)) (hts (.initialized RX7) (List.mem_of_getElem? (i := 6) rfl)) (by decide +kernel) ⟨Nat.le_of_ble_eq_true rfl, Nat.le_of_ble_eq_true rfl⟩, rfl, hts (.instanceMethod yX7_init) (List.mem_of_getElem? (i := 9) rfl)⟩ ⟨fun a U g mk q => by obtain ⟨q0, q1, qP, qK, qD, qO⟩ := q; exact ⟨q0, q1, qP, va_K.moved (u := U) (U := U.calling g mk a) (Vm.Alike.refl U.vm) qK, qD, gNx.same rfl qO⟩, fun U hU hW => ⟨rfl, by rw [hU], by rw [hU]; exact hPc, va_K.moved hW.alike hKc, hDc.weaken (fun _ _ _ _ => trivial), hN.warm hW⟩⟩ rfl rfl hl.1 rfl (lv_room (Nat.le_of_ble_eq_true rfl)) dX0_init_9 ⟨Nat.le_of_ble_eq_true rfl, Nat.le_of_ble_eq_true rfl⟩) hS (fun q _ h => hFc q h) hFc (fun u t H1 locs ht hvm hw hB hz1 hk1 hS => ?_)
  obtain ⟨u9_1, u9_2, u9_3, hP1, hK1, hD1⟩ := hB
  rw [ht] at hP1
  have hK1 := va_K.moved hvm.symm hK1
  obtain ⟨hP, hD⟩ := va_join (wr := [(h0, .inr (0, [.null, .int 0]))]) (w1 := [(q5, .inr (7, [.ref u9_1, .ref u9_2, .ref u9_3, .int 1, .int 1])), (u9_1, .inl (cI, 8, .inl (fun _ => 0))), (u9_2, .inl (cI, 8, .inl (fun _ => 0))), (u9_3, .inl (cI, 8, .inl (fun _ => 0)))]) hP hD [1] [0] rfl rfl (by decide) (by decide) hk1 hFc hP1 hD1
  generalize H1 = H at hP hS ⊢
  have hP : va_P D vwCl [(h0, .inr (0, [.null, .int 0])), (q5, .inr (7, [.ref u9_1, .ref u9_2, .ref u9_3, .int 1, .int 1])), (u9_1, .inl (cI, 8, .inl (fun _ => 0))), (u9_2, .inl (cI, 8, .inl (fun _ => 0))), (u9_3, .inl (cI, 8, .inl (fun _ => 0)))] H := hP
  have hD : va_D A [(h0, .inr (0, [.null, .int 0])), (q5, .inr (7, [.ref u9_1, .ref u9_2, .ref u9_3, .int 1, .int 1])), (u9_1, .inl (cI, 8, .inl (fun _ => 0))), (u9_2, .inl (cI, 8, .inl (fun _ => 0))), (u9_3, .inl (cI, 8, .inl (fun _ => 0)))] := hD
  refine W.widen (k := 4) (n := 29) (by omega) (by omega) ?_
  refine va_putF (D := D) (ci := 0) (v := .ref q5) (ty := (.object "GuestParties$Standing")) (C := RX0) (T := TX0) (N := 2) hx hb hts hiX0_init_0 tyX0 tyX0_ok nmX0 hown hK hP hD hS 0 rfl rfl 0 (by decide) (hts _ (List.mem_of_getElem? (i := 7) rfl)) (fun _ h9 => h9) rfl hin rfl (by decide +kernel) rfl rfl (Nat.le_of_ble_eq_true rfl) dX0_init_12 (fun H locs hP hD hS => ?_)
  have hP : va_P D vwCl [(h0, .inr (0, [.ref q5, .int 0])), (q5, .inr (7, [.ref u9_1, .ref u9_2, .ref u9_3, .int 1, .int 1])), (u9_1, .inl (cI, 8, .inl (fun _ => 0))), (u9_2, .inl (cI, 8, .inl (fun _ => 0))), (u9_3, .inl (cI, 8, .inl (fun _ => 0)))] H := hP
  have hD : va_D A [(h0, .inr (0, [.ref q5, .int 0])), (q5, .inr (7, [.ref u9_1, .ref u9_2, .ref u9_3, .int 1, .int 1])), (u9_1, .inl (cI, 8, .inl (fun _ => 0))), (u9_2, .inl (cI, 8, .inl (fun _ => 0))), (u9_3, .inl (cI, 8, .inl (fun _ => 0)))] := hD
  refine lv_aload_n hx hb dX0_init_15 rfl (lv_at hl 0 rfl) ?_
  refine lv_iconst (v := 0) hx hb dX0_init_16 (by decide) ?_
  refine va_put (D := D) (ci := 0) (v := .int 0) (ty := .int) (C := RX0) (T := TX0) (N := 2) hx hb hts hiX0_init_0 tyX0 tyX0_ok nmX0 hown hK hP hD hS 0 rfl rfl 1 (by decide) (hts _ (List.mem_of_getElem? (i := 8) rfl)) (fun _ h9 => h9) rfl (by decide +kernel) rfl rfl (Nat.le_of_ble_eq_true rfl) dX0_init_17 (fun H locs hP hD hS => ?_)
  have hP : va_P D vwCl [(h0, .inr (0, [.ref q5, .int 0])), (q5, .inr (7, [.ref u9_1, .ref u9_2, .ref u9_3, .int 1, .int 1])), (u9_1, .inl (cI, 8, .inl (fun _ => 0))), (u9_2, .inl (cI, 8, .inl (fun _ => 0))), (u9_3, .inl (cI, 8, .inl (fun _ => 0)))] H := hP
  have hD : va_D A [(h0, .inr (0, [.ref q5, .int 0])), (q5, .inr (7, [.ref u9_1, .ref u9_2, .ref u9_3, .int 1, .int 1])), (u9_1, .inl (cI, 8, .inl (fun _ => 0))), (u9_2, .inl (cI, 8, .inl (fun _ => 0))), (u9_3, .inl (cI, 8, .inl (fun _ => 0)))] := hD
  have hP9 := hP.sub (ws' := [(h0, .inr (0, [.ref q5, .int 0])), (q5, .inr (7, [.ref u9_1, .ref u9_2, .ref u9_3, .int 1, .int 1])), (u9_1, .inl (cI, 8, .inl (fun _ => 0))), (u9_2, .inl (cI, 8, .inl (fun _ => 0))), (u9_3, .inl (cI, 8, .inl (fun _ => 0)))]) [0, 1, 2, 3, 4] rfl
  have hD9 := hD.sub (ws' := [(h0, .inr (0, [.ref q5, .int 0])), (q5, .inr (7, [.ref u9_1, .ref u9_2, .ref u9_3, .int 1, .int 1])), (u9_1, .inl (cI, 8, .inl (fun _ => 0))), (u9_2, .inl (cI, 8, .inl (fun _ => 0))), (u9_3, .inl (cI, 8, .inl (fun _ => 0)))]) [0, 1, 2, 3, 4] (by decide) rfl
  exact W.vret hx hb hr (fun t ht hW => ⟨⟨(), rfl, trivial, q5, u9_1, u9_2, u9_3, by rw [ht]; exact hP9, va_K.moved hW.alike hK, hD9⟩, hS.F ht⟩) hS.2.2 dX0_init_20
