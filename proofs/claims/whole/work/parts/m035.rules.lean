/-! X5_reset -/
theorem hiX5_reset_5 : ∀ w ∈ u_ws RX5 TX5 6, w ∈ wsX5_reset := fun _ hw => List.mem_cons_of_mem _ (List.mem_append_right _ (hw))
set_option maxRecDepth 100000 in
set_option maxHeartbeats 4000000 in
theorem tX5_reset_L56 {G : gGG} {F : State → Heap → Prop} (hG : gOK G) (hF : gSb G F) (hX : gPX G) (hQ : gOQ G) {o : Nat} (ho : gIsRu o = true) (k27 : Int32 → gSt → Option (gSt)) (hk27 : ∀ (x1 : Int32) (S : gSt), Gof G F RX5 cX5_reset 3 wsX5_reset none (gRm 0) 0 0 (gQ G (fun x => (none, x))) 27 [(0, .ref (gad G o)), (1, .int x1)] [] S (k27 x1 S)) : ∀ (n : Nat) (x1 : Int32) (x2 : Int32) (S : gSt), Gof G F RX5 cX5_reset 3 wsX5_reset none (gRm 0) 0 0 (gQ G (fun x => (none, x))) 56 [(0, .ref (gad G o)), (1, .int x1), (2, .int x2)] [] S (fX5_reset_L56 k27 o n x1 x2 S) := by
  intro n
  induction n with
  | zero => intro x1 x2 S; exact g_none
  | succ n ih =>
    intro x1 x2 S
    unfold fX5_reset_L56
    refine g_iload_n 2 dX5_reset_56 rfl ?_
    refine g_bipush (v := 8) dX5_reset_57 (by decide) ?_
    refine g_icmp_ge (tgt := 77) dX5_reset_59 (by decide) (fun h_1 => ?_) (fun h_1 => ?_)
    · refine g_iinc 1 (v := (x1 + 1)) (env' := [(1, .int (x1 + 1)), (0, .ref (gad G o)), (2, .int x2)]) dX5_reset_77 rfl rfl (by decide) rfl ?_
      refine g_goto (tgt := 27) dX5_reset_80 (by decide) ?_
      refine g_env (env' := [(0, .ref (gad G o)), (1, .int (x1 + 1))]) [1, 0] rfl ?_
      exact hk27 (x1 + 1) S
    · refine g_aload_n 0 dX5_reset_62 rfl ?_
      refine g_getQ (ci := 5) (k0 := 4) (C0 := RX5) (T := TX5) (N := 6) (gRu_m hX ho) (gRu_l ho) rfl hiX5_reset_5 (by decide) (List.mem_of_getElem? (i := 6) rfl) rfl dX5_reset_63 ?_
      refine g_iload_n 1 dX5_reset_66 rfl ?_
      refine g_gC (fun h_2 => ?_)
      refine g_aald hQ (gRu_m5 hX ho) (gRu_l5 ho) h_2 dX5_reset_67 ?_
      refine g_iload_n 2 dX5_reset_68 rfl ?_
      refine g_iconst (v := 0) dX5_reset_69 (by decide) ?_
      refine g_iast hG (gRu_mr hX ho h_2) (gRu_lr ho h_2) dX5_reset_70 ?_
      refine g_nS (fun S_1 => ?_)
      refine g_iinc 2 (v := (x2 + 1)) (env' := [(2, .int (x2 + 1)), (0, .ref (gad G o)), (1, .int x1)]) dX5_reset_71 rfl rfl (by decide) rfl ?_
      refine g_goto (tgt := 56) dX5_reset_74 (by decide) ?_
      refine g_env (env' := [(0, .ref (gad G o)), (1, .int x1), (2, .int (x2 + 1))]) [1, 2, 0] rfl ?_
      exact ih x1 (x2 + 1) S_1
set_option maxRecDepth 100000 in
set_option maxHeartbeats 4000000 in
theorem tX5_reset_L27 {G : gGG} {F : State → Heap → Prop} (hG : gOK G) (hF : gSb G F) (hX : gPX G) (hQ : gOQ G) {o : Nat} (ho : gIsRu o = true) : ∀ (n : Nat) (x1 : Int32) (S : gSt), Gof G F RX5 cX5_reset 3 wsX5_reset none (gRm 0) 0 0 (gQ G (fun x => (none, x))) 27 [(0, .ref (gad G o)), (1, .int x1)] [] S (fX5_reset_L27 o n x1 S) := by
  intro n
  induction n with
  | zero => intro x1 S; exact g_none
  | succ n ih =>
    intro x1 S
    unfold fX5_reset_L27
    refine g_iload_n 1 dX5_reset_27 rfl ?_
    refine g_bipush (v := 8) dX5_reset_28 (by decide) ?_
    refine g_icmp_ge (tgt := 83) dX5_reset_30 (by decide) (fun h_1 => ?_) (fun h_1 => ?_)
    · exact g_vret dX5_reset_83 rfl
    · refine g_aload_n 0 dX5_reset_33 rfl ?_
      refine g_getQ (ci := 5) (k0 := 0) (C0 := RX5) (T := TX5) (N := 6) (gRu_m hX ho) (gRu_l ho) rfl hiX5_reset_5 (by decide) (List.mem_of_getElem? (i := 3) rfl) rfl dX5_reset_34 ?_
      refine g_iload_n 1 dX5_reset_37 rfl ?_
      refine g_iconst (v := 0) dX5_reset_38 (by decide) ?_
      refine g_iast hG (gRu_m1 hX ho) (gRu_l1 ho) dX5_reset_39 ?_
      refine g_nS (fun S_1 => ?_)
      refine g_aload_n 0 dX5_reset_40 rfl ?_
      refine g_getQ (ci := 5) (k0 := 2) (C0 := RX5) (T := TX5) (N := 6) (gRu_m hX ho) (gRu_l ho) rfl hiX5_reset_5 (by decide) (List.mem_of_getElem? (i := 4) rfl) rfl dX5_reset_41 ?_
      refine g_iload_n 1 dX5_reset_44 rfl ?_
      refine g_iconst (v := 0) dX5_reset_45 (by decide) ?_
      refine g_iast hG (gRu_m3 hX ho) (gRu_l3 ho) dX5_reset_46 ?_
      refine g_nS (fun S_2 => ?_)
      refine g_aload_n 0 dX5_reset_47 rfl ?_
      refine g_getQ (ci := 5) (k0 := 3) (C0 := RX5) (T := TX5) (N := 6) (gRu_m hX ho) (gRu_l ho) rfl hiX5_reset_5 (by decide) (List.mem_of_getElem? (i := 5) rfl) rfl dX5_reset_48 ?_
      refine g_iload_n 1 dX5_reset_51 rfl ?_
      refine g_iconst (v := 0) dX5_reset_52 (by decide) ?_
      refine g_iast hG (gRu_m4 hX ho) (gRu_l4 ho) dX5_reset_53 ?_
      refine g_nS (fun S_3 => ?_)
      refine g_iconst (v := 0) dX5_reset_54 (by decide) ?_
      refine g_istore_n (i := 2) (env' := [(2, .int 0), (0, .ref (gad G o)), (1, .int x1)]) dX5_reset_55 rfl (by decide) rfl ?_
      refine g_env (env' := [(0, .ref (gad G o)), (1, .int x1), (2, .int 0)]) [1, 2, 0] rfl ?_
      exact tX5_reset_L56 hG hF hX hQ ho (fX5_reset_L27 o n) ih gFU x1 0 S_3
set_option maxRecDepth 100000 in
set_option maxHeartbeats 4000000 in
theorem tX5_reset_L7 {G : gGG} {F : State → Heap → Prop} (hG : gOK G) (hF : gSb G F) (hX : gPX G) (hQ : gOQ G) {o : Nat} (ho : gIsRu o = true) : ∀ (n : Nat) (x1 : Int32) (S : gSt), Gof G F RX5 cX5_reset 3 wsX5_reset none (gRm 0) 0 0 (gQ G (fun x => (none, x))) 7 [(0, .ref (gad G o)), (1, .int x1)] [] S (fX5_reset_L7 o n x1 S) := by
  intro n
  induction n with
  | zero => intro x1 S; exact g_none
  | succ n ih =>
    intro x1 S
    unfold fX5_reset_L7
    refine g_iload_n 1 dX5_reset_7 rfl ?_
    refine g_iconst (v := 5) dX5_reset_8 (by decide) ?_
    refine g_icmp_ge (tgt := 25) dX5_reset_9 (by decide) (fun h_1 => ?_) (fun h_1 => ?_)
    · refine g_iconst (v := 0) dX5_reset_25 (by decide) ?_
      refine g_istore_n (i := 1) (env' := [(1, .int 0), (0, .ref (gad G o))]) dX5_reset_26 rfl (by decide) rfl ?_
      refine g_env (env' := [(0, .ref (gad G o)), (1, .int 0)]) [1, 0] rfl ?_
      exact tX5_reset_L27 hG hF hX hQ ho gFU 0 S
    · refine g_aload_n 0 dX5_reset_12 rfl ?_
      refine g_getQ (ci := 5) (k0 := 1) (C0 := RX5) (T := TX5) (N := 6) (gRu_m hX ho) (gRu_l ho) rfl hiX5_reset_5 (by decide) (List.mem_of_getElem? (i := 2) rfl) rfl dX5_reset_13 ?_
      refine g_iload_n 1 dX5_reset_16 rfl ?_
      refine g_iconst (v := 0) dX5_reset_17 (by decide) ?_
      refine g_iast hG (gRu_m2 hX ho) (gRu_l2 ho) dX5_reset_18 ?_
      refine g_nS (fun S_1 => ?_)
      refine g_iinc 1 (v := (x1 + 1)) (env' := [(1, .int (x1 + 1)), (0, .ref (gad G o))]) dX5_reset_19 rfl rfl (by decide) rfl ?_
      refine g_goto (tgt := 7) dX5_reset_22 (by decide) ?_
      refine g_env (env' := [(0, .ref (gad G o)), (1, .int (x1 + 1))]) [1, 0] rfl ?_
      exact ih (x1 + 1) S_1
set_option maxRecDepth 100000 in
set_option maxHeartbeats 4000000 in
theorem tX5_reset_L {G : gGG} {F : State → Heap → Prop} (hG : gOK G) (hF : gSb G F) (hX : gPX G) (hQ : gOQ G) {o : Nat} (ho : gIsRu o = true) (S : gSt) : Gof G F RX5 cX5_reset 3 wsX5_reset none (gRm 0) 0 0 (gQ G (fun x => (none, x))) 0 [(0, .ref (gad G o))] [] S (fX5_reset o S) := by
  unfold fX5_reset
  refine g_aload_n 0 dX5_reset_0 rfl ?_
  refine g_iconst (v := 4) dX5_reset_1 (by decide) ?_
  refine g_putI hG (ci := 5) (k0 := 5) (C0 := RX5) (T := TX5) (N := 6) (gRu_m hX ho) (gRu_l ho) rfl hiX5_reset_5 (by decide) (List.mem_of_getElem? (i := 1) rfl) tyX5 tyX5_ok nmX5 rfl rfl rfl rfl dX5_reset_2 ?_
  refine g_nS (fun S_1 => ?_)
  refine g_iconst (v := 0) dX5_reset_5 (by decide) ?_
  refine g_istore_n (i := 1) (env' := [(1, .int 0), (0, .ref (gad G o))]) dX5_reset_6 rfl (by decide) rfl ?_
  refine g_env (env' := [(0, .ref (gad G o)), (1, .int 0)]) [1, 0] rfl ?_
  exact tX5_reset_L7 hG hF hX hQ ho gFU 0 S_1
set_option maxRecDepth 100000 in
set_option maxHeartbeats 4000000 in
theorem tX5_reset {G : gGG} {F : State → Heap → Prop} (hG : gOK G) (hF : gSb G F) (hX : gPX G) (hQ : gOQ G) {o : Nat} (ho : gIsRu o = true) (S : gSt) : gCt G F yX5_reset wsX5_reset 0 [.ref (gad G o)] S ((fX5_reset o S).map (fun x => (none, x))) := g_met (by decide +kernel) rfl (Nat.le_of_ble_eq_true rfl) (tX5_reset_L hG hF hX hQ ho S)
/-! X5_guests -/
theorem hiX5_guests_5 : ∀ w ∈ u_ws RX5 TX5 6, w ∈ wsX5_guests := fun _ hw => List.mem_cons_of_mem _ (List.mem_append_right _ (hw))
set_option maxRecDepth 100000 in
set_option maxHeartbeats 4000000 in
theorem tX5_guests_L {G : gGG} {F : State → Heap → Prop} (hG : gOK G) (hF : gSb G F) (hX : gPX G) (hQ : gOQ G) {o : Nat} (ho : gIsRu o = true) (S : gSt) : Gof G F RX5 cX5_guests 1 wsX5_guests (some .int) (gRm 0) 0 0 (gQ G (fun x => (some (.int x), S))) 0 [(0, .ref (gad G o))] [] S (fX5_guests o S) := by
  unfold fX5_guests
  refine g_aload_n 0 dX5_guests_0 rfl ?_
  refine g_getI (ci := 5) (k0 := 5) (C0 := RX5) (T := TX5) (N := 6) (gRu_m hX ho) (gRu_l ho) rfl hiX5_guests_5 (by decide) (List.mem_of_getElem? (i := 1) rfl) rfl dX5_guests_1 ?_
  exact g_iret dX5_guests_4 rfl
set_option maxRecDepth 100000 in
set_option maxHeartbeats 4000000 in
theorem tX5_guests {G : gGG} {F : State → Heap → Prop} (hG : gOK G) (hF : gSb G F) (hX : gPX G) (hQ : gOQ G) {o : Nat} (ho : gIsRu o = true) (S : gSt) : gCt G F yX5_guests wsX5_guests 0 [.ref (gad G o)] S ((fX5_guests o S).map (fun x => (some (.int x), S))) := g_met (by decide +kernel) rfl (Nat.le_of_ble_eq_true rfl) (tX5_guests_L hG hF hX hQ ho S)
/-! X5_setGuests -/
theorem hiX5_setGuests_5 : ∀ w ∈ u_ws RX5 TX5 6, w ∈ wsX5_setGuests := fun _ hw => List.mem_cons_of_mem _ (List.mem_append_right _ (hw))
set_option maxRecDepth 100000 in
set_option maxHeartbeats 4000000 in
theorem tX5_setGuests_L {G : gGG} {F : State → Heap → Prop} (hG : gOK G) (hF : gSb G F) (hX : gPX G) (hQ : gOQ G) {o : Nat} (ho : gIsRu o = true) (a1 : Int32) (S : gSt) : Gof G F RX5 cX5_setGuests 2 wsX5_setGuests none (gRm 0) 0 0 (gQ G (fun x => (none, x))) 0 [(0, .ref (gad G o)), (1, .int a1)] [] S (fX5_setGuests o a1 S) := by
  unfold fX5_setGuests
  refine g_iload_n 1 dX5_setGuests_0 rfl ?_
  refine g_iconst (v := 1) dX5_setGuests_1 (by decide) ?_
  refine g_icmp_lt (tgt := 16) dX5_setGuests_2 (by decide) (fun h_1 => ?_) (fun h_1 => ?_)
  · exact g_vret dX5_setGuests_16 rfl
  · refine g_iload_n 1 dX5_setGuests_5 rfl ?_
    refine g_bipush (v := 8) dX5_setGuests_6 (by decide) ?_
    refine g_icmp_gt (tgt := 16) dX5_setGuests_8 (by decide) (fun h_2 => ?_) (fun h_2 => ?_)
    · exact g_vret dX5_setGuests_16 rfl
    · refine g_aload_n 0 dX5_setGuests_11 rfl ?_
      refine g_iload_n 1 dX5_setGuests_12 rfl ?_
      refine g_putI hG (ci := 5) (k0 := 5) (C0 := RX5) (T := TX5) (N := 6) (gRu_m hX ho) (gRu_l ho) rfl hiX5_setGuests_5 (by decide) (List.mem_of_getElem? (i := 1) rfl) tyX5 tyX5_ok nmX5 rfl rfl rfl rfl dX5_setGuests_13 ?_
      refine g_nS (fun S_1 => ?_)
      exact g_vret dX5_setGuests_16 rfl
set_option maxRecDepth 100000 in
set_option maxHeartbeats 4000000 in
theorem tX5_setGuests {G : gGG} {F : State → Heap → Prop} (hG : gOK G) (hF : gSb G F) (hX : gPX G) (hQ : gOQ G) {o : Nat} (ho : gIsRu o = true) (a1 : Int32) (S : gSt) : gCt G F yX5_setGuests wsX5_setGuests 0 [.ref (gad G o), .int a1] S ((fX5_setGuests o a1 S).map (fun x => (none, x))) := g_met (by decide +kernel) rfl (Nat.le_of_ble_eq_true rfl) (tX5_setGuests_L hG hF hX hQ ho a1 S)
/-! X5_isOne -/
set_option maxRecDepth 100000 in
set_option maxHeartbeats 4000000 in
theorem tX5_isOne_L {G : gGG} {F : State → Heap → Prop} (hG : gOK G) (hF : gSb G F) (hX : gPX G) (hQ : gOQ G) (a0 : Int32) (S : gSt) : Gof G F RX5 cX5_isOne 1 wsX5_isOne (some .boolean) (gRm 0) 0 0 (gQ G (fun x => (some (.int x), S))) 0 [(0, .int a0)] [] S (fX5_isOne a0 S) := by
  unfold fX5_isOne
  refine g_iload_n 0 dX5_isOne_0 rfl ?_
  refine g_if_lt (tgt := 14) dX5_isOne_1 (by decide) (fun h_1 => ?_) (fun h_1 => ?_)
  · refine g_iconst (v := 0) dX5_isOne_14 (by decide) ?_
    exact g_zret (by decide) dX5_isOne_15 rfl
  · refine g_iload_n 0 dX5_isOne_4 rfl ?_
    refine g_bipush (v := 8) dX5_isOne_5 (by decide) ?_
    refine g_icmp_ge (tgt := 14) dX5_isOne_7 (by decide) (fun h_2 => ?_) (fun h_2 => ?_)
    · refine g_iconst (v := 0) dX5_isOne_14 (by decide) ?_
      exact g_zret (by decide) dX5_isOne_15 rfl
    · refine g_iconst (v := 1) dX5_isOne_10 (by decide) ?_
      refine g_goto (tgt := 15) dX5_isOne_11 (by decide) ?_
      exact g_zret (by decide) dX5_isOne_15 rfl
set_option maxRecDepth 100000 in
set_option maxHeartbeats 4000000 in
theorem tX5_isOne {G : gGG} {F : State → Heap → Prop} (hG : gOK G) (hF : gSb G F) (hX : gPX G) (hQ : gOQ G) (a0 : Int32) (S : gSt) : gCt G F yX5_isOne wsX5_isOne 0 [.int a0] S ((fX5_isOne a0 S).map (fun x => (some (.int x), S))) := g_met (by decide +kernel) rfl (Nat.le_of_ble_eq_true rfl) (tX5_isOne_L hG hF hX hQ a0 S)
/-! X5_hatOf -/
theorem hiX5_hatOf_5 : ∀ w ∈ u_ws RX5 TX5 6, w ∈ wsX5_hatOf := fun _ hw => List.mem_cons_of_mem _ (List.mem_append_right _ (hw))
set_option maxRecDepth 100000 in
set_option maxHeartbeats 4000000 in
theorem tX5_hatOf_L {G : gGG} {F : State → Heap → Prop} (hG : gOK G) (hF : gSb G F) (hX : gPX G) (hQ : gOQ G) {o : Nat} (ho : gIsRu o = true) (a1 : Int32) (S : gSt) : Gof G F RX5 cX5_hatOf 2 wsX5_hatOf (some .int) (gRm 1) 0 0 (gQ G (fun x => (some (.int x), S))) 0 [(0, .ref (gad G o)), (1, .int a1)] [] S (fX5_hatOf o a1 S) := by
  unfold fX5_hatOf
  refine g_iload_n 1 dX5_hatOf_0 rfl ?_
  refine g_cSp (n := 1) (As := [.int a1]) (rest := []) hF (tX5_isOne hG hF hX hQ a1 S) gX5_hatOf_X5_isOne rfl ⟨by decide +kernel, by decide +kernel, by decide +kernel⟩ rfl (gRm_ok (by decide) (by decide)) rfl (Nat.le_of_ble_eq_true rfl) dX5_hatOf_1 (fun v_1 => ?_)
  refine g_if_eq (tgt := 16) dX5_hatOf_4 (by decide) (fun h_1 => ?_) (fun h_1 => ?_)
  · refine g_iconst (v := 0) dX5_hatOf_16 (by decide) ?_
    exact g_iret dX5_hatOf_17 rfl
  · refine g_aload_n 0 dX5_hatOf_7 rfl ?_
    refine g_getQ (ci := 5) (k0 := 0) (C0 := RX5) (T := TX5) (N := 6) (gRu_m hX ho) (gRu_l ho) rfl hiX5_hatOf_5 (by decide) (List.mem_of_getElem? (i := 1) rfl) rfl dX5_hatOf_8 ?_
    refine g_iload_n 1 dX5_hatOf_11 rfl ?_
    refine g_iald hG (gRu_m1 hX ho) (gRu_l1 ho) dX5_hatOf_12 ?_
    refine g_goto (tgt := 17) dX5_hatOf_13 (by decide) ?_
    exact g_iret dX5_hatOf_17 rfl
set_option maxRecDepth 100000 in
set_option maxHeartbeats 4000000 in
theorem tX5_hatOf {G : gGG} {F : State → Heap → Prop} (hG : gOK G) (hF : gSb G F) (hX : gPX G) (hQ : gOQ G) {o : Nat} (ho : gIsRu o = true) (a1 : Int32) (S : gSt) : gCt G F yX5_hatOf wsX5_hatOf 1 [.ref (gad G o), .int a1] S ((fX5_hatOf o a1 S).map (fun x => (some (.int x), S))) := g_met (by decide +kernel) rfl (Nat.le_of_ble_eq_true rfl) (tX5_hatOf_L hG hF hX hQ ho a1 S)
/-! X5_setHat -/
theorem hiX5_setHat_5 : ∀ w ∈ u_ws RX5 TX5 6, w ∈ wsX5_setHat := fun _ hw => List.mem_cons_of_mem _ (List.mem_append_right _ (hw))
set_option maxRecDepth 100000 in
set_option maxHeartbeats 4000000 in
theorem tX5_setHat_L {G : gGG} {F : State → Heap → Prop} (hG : gOK G) (hF : gSb G F) (hX : gPX G) (hQ : gOQ G) {o : Nat} (ho : gIsRu o = true) (a1 : Int32) (a2 : Int32) (S : gSt) : Gof G F RX5 cX5_setHat 3 wsX5_setHat none (gRm 1) 0 0 (gQ G (fun x => (none, x))) 0 [(0, .ref (gad G o)), (1, .int a1), (2, .int a2)] [] S (fX5_setHat o a1 a2 S) := by
  unfold fX5_setHat
  refine g_iload_n 1 dX5_setHat_0 rfl ?_
  refine g_cSp (n := 1) (As := [.int a1]) (rest := []) hF (tX5_isOne hG hF hX hQ a1 S) gX5_setHat_X5_isOne rfl ⟨by decide +kernel, by decide +kernel, by decide +kernel⟩ rfl (gRm_ok (by decide) (by decide)) rfl (Nat.le_of_ble_eq_true rfl) dX5_setHat_1 (fun v_1 => ?_)
  refine g_if_eq (tgt := 14) dX5_setHat_4 (by decide) (fun h_1 => ?_) (fun h_1 => ?_)
  · exact g_vret dX5_setHat_14 rfl
  · refine g_aload_n 0 dX5_setHat_7 rfl ?_
    refine g_getQ (ci := 5) (k0 := 0) (C0 := RX5) (T := TX5) (N := 6) (gRu_m hX ho) (gRu_l ho) rfl hiX5_setHat_5 (by decide) (List.mem_of_getElem? (i := 1) rfl) rfl dX5_setHat_8 ?_
    refine g_iload_n 1 dX5_setHat_11 rfl ?_
    refine g_iload_n 2 dX5_setHat_12 rfl ?_
    refine g_iast hG (gRu_m1 hX ho) (gRu_l1 ho) dX5_setHat_13 ?_
    refine g_nS (fun S_2 => ?_)
    exact g_vret dX5_setHat_14 rfl
set_option maxRecDepth 100000 in
set_option maxHeartbeats 4000000 in
theorem tX5_setHat {G : gGG} {F : State → Heap → Prop} (hG : gOK G) (hF : gSb G F) (hX : gPX G) (hQ : gOQ G) {o : Nat} (ho : gIsRu o = true) (a1 : Int32) (a2 : Int32) (S : gSt) : gCt G F yX5_setHat wsX5_setHat 1 [.ref (gad G o), .int a1, .int a2] S ((fX5_setHat o a1 a2 S).map (fun x => (none, x))) := g_met (by decide +kernel) rfl (Nat.le_of_ble_eq_true rfl) (tX5_setHat_L hG hF hX hQ ho a1 a2 S)
/-! X5_lawOf -/
theorem hiX5_lawOf_5 : ∀ w ∈ u_ws RX5 TX5 6, w ∈ wsX5_lawOf := fun _ hw => List.mem_cons_of_mem _ (List.mem_append_right _ (hw))
set_option maxRecDepth 100000 in
set_option maxHeartbeats 4000000 in
theorem tX5_lawOf_L {G : gGG} {F : State → Heap → Prop} (hG : gOK G) (hF : gSb G F) (hX : gPX G) (hQ : gOQ G) {o : Nat} (ho : gIsRu o = true) (a1 : Int32) (S : gSt) : Gof G F RX5 cX5_lawOf 2 wsX5_lawOf (some .int) (gRm 0) 0 0 (gQ G (fun x => (some (.int x), S))) 0 [(0, .ref (gad G o)), (1, .int a1)] [] S (fX5_lawOf o a1 S) := by
  unfold fX5_lawOf
  refine g_iload_n 1 dX5_lawOf_0 rfl ?_
  refine g_if_lt (tgt := 18) dX5_lawOf_1 (by decide) (fun h_1 => ?_) (fun h_1 => ?_)
  · refine g_iconst (v := 0) dX5_lawOf_18 (by decide) ?_
    exact g_iret dX5_lawOf_19 rfl
  · refine g_iload_n 1 dX5_lawOf_4 rfl ?_
    refine g_iconst (v := 5) dX5_lawOf_5 (by decide) ?_
    refine g_icmp_ge (tgt := 18) dX5_lawOf_6 (by decide) (fun h_2 => ?_) (fun h_2 => ?_)
    · refine g_iconst (v := 0) dX5_lawOf_18 (by decide) ?_
      exact g_iret dX5_lawOf_19 rfl
    · refine g_aload_n 0 dX5_lawOf_9 rfl ?_
      refine g_getQ (ci := 5) (k0 := 1) (C0 := RX5) (T := TX5) (N := 6) (gRu_m hX ho) (gRu_l ho) rfl hiX5_lawOf_5 (by decide) (List.mem_of_getElem? (i := 1) rfl) rfl dX5_lawOf_10 ?_
      refine g_iload_n 1 dX5_lawOf_13 rfl ?_
      refine g_iald hG (gRu_m2 hX ho) (gRu_l2 ho) dX5_lawOf_14 ?_
      refine g_goto (tgt := 19) dX5_lawOf_15 (by decide) ?_
      exact g_iret dX5_lawOf_19 rfl
set_option maxRecDepth 100000 in
set_option maxHeartbeats 4000000 in
theorem tX5_lawOf {G : gGG} {F : State → Heap → Prop} (hG : gOK G) (hF : gSb G F) (hX : gPX G) (hQ : gOQ G) {o : Nat} (ho : gIsRu o = true) (a1 : Int32) (S : gSt) : gCt G F yX5_lawOf wsX5_lawOf 0 [.ref (gad G o), .int a1] S ((fX5_lawOf o a1 S).map (fun x => (some (.int x), S))) := g_met (by decide +kernel) rfl (Nat.le_of_ble_eq_true rfl) (tX5_lawOf_L hG hF hX hQ ho a1 S)
/-! X5_setLaw -/
theorem hiX5_setLaw_5 : ∀ w ∈ u_ws RX5 TX5 6, w ∈ wsX5_setLaw := fun _ hw => List.mem_cons_of_mem _ (List.mem_append_right _ (hw))
set_option maxRecDepth 100000 in
set_option maxHeartbeats 4000000 in
theorem tX5_setLaw_L {G : gGG} {F : State → Heap → Prop} (hG : gOK G) (hF : gSb G F) (hX : gPX G) (hQ : gOQ G) {o : Nat} (ho : gIsRu o = true) (a1 : Int32) (a2 : Int32) (S : gSt) : Gof G F RX5 cX5_setLaw 3 wsX5_setLaw none (gRm 0) 0 0 (gQ G (fun x => (none, x))) 0 [(0, .ref (gad G o)), (1, .int a1), (2, .int a2)] [] S (fX5_setLaw o a1 a2 S) := by
  unfold fX5_setLaw
  refine g_iload_n 1 dX5_setLaw_0 rfl ?_
  refine g_if_lt (tgt := 16) dX5_setLaw_1 (by decide) (fun h_1 => ?_) (fun h_1 => ?_)
  · exact g_vret dX5_setLaw_16 rfl
  · refine g_iload_n 1 dX5_setLaw_4 rfl ?_
    refine g_iconst (v := 5) dX5_setLaw_5 (by decide) ?_
    refine g_icmp_ge (tgt := 16) dX5_setLaw_6 (by decide) (fun h_2 => ?_) (fun h_2 => ?_)
    · exact g_vret dX5_setLaw_16 rfl
    · refine g_aload_n 0 dX5_setLaw_9 rfl ?_
      refine g_getQ (ci := 5) (k0 := 1) (C0 := RX5) (T := TX5) (N := 6) (gRu_m hX ho) (gRu_l ho) rfl hiX5_setLaw_5 (by decide) (List.mem_of_getElem? (i := 1) rfl) rfl dX5_setLaw_10 ?_
      refine g_iload_n 1 dX5_setLaw_13 rfl ?_
      refine g_iload_n 2 dX5_setLaw_14 rfl ?_
      refine g_iast hG (gRu_m2 hX ho) (gRu_l2 ho) dX5_setLaw_15 ?_
      refine g_nS (fun S_1 => ?_)
      exact g_vret dX5_setLaw_16 rfl
set_option maxRecDepth 100000 in
set_option maxHeartbeats 4000000 in
theorem tX5_setLaw {G : gGG} {F : State → Heap → Prop} (hG : gOK G) (hF : gSb G F) (hX : gPX G) (hQ : gOQ G) {o : Nat} (ho : gIsRu o = true) (a1 : Int32) (a2 : Int32) (S : gSt) : gCt G F yX5_setLaw wsX5_setLaw 0 [.ref (gad G o), .int a1, .int a2] S ((fX5_setLaw o a1 a2 S).map (fun x => (none, x))) := g_met (by decide +kernel) rfl (Nat.le_of_ble_eq_true rfl) (tX5_setLaw_L hG hF hX hQ ho a1 a2 S)
/-! X5_areTogether -/
theorem hiX5_areTogether_5 : ∀ w ∈ u_ws RX5 TX5 6, w ∈ wsX5_areTogether := fun _ hw => List.mem_cons_of_mem _ (List.mem_append_right _ (hw))
set_option maxRecDepth 100000 in
set_option maxHeartbeats 4000000 in
theorem tX5_areTogether_L {G : gGG} {F : State → Heap → Prop} (hG : gOK G) (hF : gSb G F) (hX : gPX G) (hQ : gOQ G) {o : Nat} (ho : gIsRu o = true) (a1 : Int32) (a2 : Int32) (S : gSt) : Gof G F RX5 cX5_areTogether 3 wsX5_areTogether (some .boolean) (gRm 1) 0 0 (gQ G (fun x => (some (.int x), S))) 0 [(0, .ref (gad G o)), (1, .int a1), (2, .int a2)] [] S (fX5_areTogether o a1 a2 S) := by
  unfold fX5_areTogether
  refine g_iload_n 1 dX5_areTogether_0 rfl ?_
  refine g_cSp (n := 1) (As := [.int a1]) (rest := []) hF (tX5_isOne hG hF hX hQ a1 S) gX5_areTogether_X5_isOne rfl ⟨by decide +kernel, by decide +kernel, by decide +kernel⟩ rfl (gRm_ok (by decide) (by decide)) rfl (Nat.le_of_ble_eq_true rfl) dX5_areTogether_1 (fun v_1 => ?_)
  refine g_if_eq (tgt := 24) dX5_areTogether_4 (by decide) (fun h_1 => ?_) (fun h_1 => ?_)
  · refine g_iconst (v := 0) dX5_areTogether_24 (by decide) ?_
    exact g_zret (by decide) dX5_areTogether_25 rfl
  · refine g_aload_n 0 dX5_areTogether_7 rfl ?_
    refine g_getQ (ci := 5) (k0 := 2) (C0 := RX5) (T := TX5) (N := 6) (gRu_m hX ho) (gRu_l ho) rfl hiX5_areTogether_5 (by decide) (List.mem_of_getElem? (i := 1) rfl) rfl dX5_areTogether_8 ?_
    refine g_iload_n 1 dX5_areTogether_11 rfl ?_
    refine g_iald hG (gRu_m3 hX ho) (gRu_l3 ho) dX5_areTogether_12 ?_
    refine g_iconst (v := 1) dX5_areTogether_13 (by decide) ?_
    refine g_iload_n 2 dX5_areTogether_14 rfl ?_
    refine g_ishl dX5_areTogether_15 ?_
    refine g_iand dX5_areTogether_16 ?_
    refine g_if_eq (tgt := 24) dX5_areTogether_17 (by decide) (fun h_2 => ?_) (fun h_2 => ?_)
    · refine g_iconst (v := 0) dX5_areTogether_24 (by decide) ?_
      exact g_zret (by decide) dX5_areTogether_25 rfl
    · refine g_iconst (v := 1) dX5_areTogether_20 (by decide) ?_
      refine g_goto (tgt := 25) dX5_areTogether_21 (by decide) ?_
      exact g_zret (by decide) dX5_areTogether_25 rfl
set_option maxRecDepth 100000 in
set_option maxHeartbeats 4000000 in
theorem tX5_areTogether {G : gGG} {F : State → Heap → Prop} (hG : gOK G) (hF : gSb G F) (hX : gPX G) (hQ : gOQ G) {o : Nat} (ho : gIsRu o = true) (a1 : Int32) (a2 : Int32) (S : gSt) : gCt G F yX5_areTogether wsX5_areTogether 1 [.ref (gad G o), .int a1, .int a2] S ((fX5_areTogether o a1 a2 S).map (fun x => (some (.int x), S))) := g_met (by decide +kernel) rfl (Nat.le_of_ble_eq_true rfl) (tX5_areTogether_L hG hF hX hQ ho a1 a2 S)
/-! X5_putTogether -/
theorem hiX5_putTogether_5 : ∀ w ∈ u_ws RX5 TX5 6, w ∈ wsX5_putTogether := fun _ hw => List.mem_cons_of_mem _ (List.mem_append_right _ (hw))
set_option maxRecDepth 100000 in
set_option maxHeartbeats 4000000 in
theorem tX5_putTogether_L {G : gGG} {F : State → Heap → Prop} (hG : gOK G) (hF : gSb G F) (hX : gPX G) (hQ : gOQ G) {o : Nat} (ho : gIsRu o = true) (a1 : Int32) (a2 : Int32) (S : gSt) : Gof G F RX5 cX5_putTogether 3 wsX5_putTogether none (gRm 1) 0 0 (gQ G (fun x => (none, x))) 0 [(0, .ref (gad G o)), (1, .int a1), (2, .int a2)] [] S (fX5_putTogether o a1 a2 S) := by
  unfold fX5_putTogether
  refine g_iload_n 1 dX5_putTogether_0 rfl ?_
  refine g_cSp (n := 1) (As := [.int a1]) (rest := []) hF (tX5_isOne hG hF hX hQ a1 S) gX5_putTogether_X5_isOne rfl ⟨by decide +kernel, by decide +kernel, by decide +kernel⟩ rfl (gRm_ok (by decide) (by decide)) rfl (Nat.le_of_ble_eq_true rfl) dX5_putTogether_1 (fun v_1 => ?_)
  refine g_if_eq (tgt := 38) dX5_putTogether_4 (by decide) (fun h_1 => ?_) (fun h_1 => ?_)
  · exact g_vret dX5_putTogether_38 rfl
  · refine g_iload_n 2 dX5_putTogether_7 rfl ?_
    refine g_cSp (n := 1) (As := [.int a2]) (rest := []) hF (tX5_isOne hG hF hX hQ a2 S) gX5_putTogether_X5_isOne rfl ⟨by decide +kernel, by decide +kernel, by decide +kernel⟩ rfl (gRm_ok (by decide) (by decide)) rfl (Nat.le_of_ble_eq_true rfl) dX5_putTogether_8 (fun v_2 => ?_)
    refine g_if_eq (tgt := 38) dX5_putTogether_11 (by decide) (fun h_2 => ?_) (fun h_2 => ?_)
    · exact g_vret dX5_putTogether_38 rfl
    · refine g_aload_n 0 dX5_putTogether_14 rfl ?_
      refine g_getQ (ci := 5) (k0 := 2) (C0 := RX5) (T := TX5) (N := 6) (gRu_m hX ho) (gRu_l ho) rfl hiX5_putTogether_5 (by decide) (List.mem_of_getElem? (i := 1) rfl) rfl dX5_putTogether_15 ?_
      refine g_iload_n 1 dX5_putTogether_18 rfl ?_
      refine g_dup2 dX5_putTogether_19 rfl rfl ?_
      refine g_iald hG (gRu_m3 hX ho) (gRu_l3 ho) dX5_putTogether_20 ?_
      refine g_iconst (v := 1) dX5_putTogether_21 (by decide) ?_
      refine g_iload_n 2 dX5_putTogether_22 rfl ?_
      refine g_ishl dX5_putTogether_23 ?_
      refine g_ior dX5_putTogether_24 ?_
      refine g_iast hG (gRu_m3 hX ho) (gRu_l3 ho) dX5_putTogether_25 ?_
      refine g_nS (fun S_3 => ?_)
      refine g_aload_n 0 dX5_putTogether_26 rfl ?_
      refine g_getQ (ci := 5) (k0 := 2) (C0 := RX5) (T := TX5) (N := 6) (gRu_m hX ho) (gRu_l ho) rfl hiX5_putTogether_5 (by decide) (List.mem_of_getElem? (i := 1) rfl) rfl dX5_putTogether_27 ?_
      refine g_iload_n 2 dX5_putTogether_30 rfl ?_
      refine g_dup2 dX5_putTogether_31 rfl rfl ?_
      refine g_iald hG (gRu_m3 hX ho) (gRu_l3 ho) dX5_putTogether_32 ?_
      refine g_iconst (v := 1) dX5_putTogether_33 (by decide) ?_
      refine g_iload_n 1 dX5_putTogether_34 rfl ?_
      refine g_ishl dX5_putTogether_35 ?_
      refine g_ior dX5_putTogether_36 ?_
      refine g_iast hG (gRu_m3 hX ho) (gRu_l3 ho) dX5_putTogether_37 ?_
      refine g_nS (fun S_4 => ?_)
      exact g_vret dX5_putTogether_38 rfl
set_option maxRecDepth 100000 in
set_option maxHeartbeats 4000000 in
theorem tX5_putTogether {G : gGG} {F : State → Heap → Prop} (hG : gOK G) (hF : gSb G F) (hX : gPX G) (hQ : gOQ G) {o : Nat} (ho : gIsRu o = true) (a1 : Int32) (a2 : Int32) (S : gSt) : gCt G F yX5_putTogether wsX5_putTogether 1 [.ref (gad G o), .int a1, .int a2] S ((fX5_putTogether o a1 a2 S).map (fun x => (none, x))) := g_met (by decide +kernel) rfl (Nat.le_of_ble_eq_true rfl) (tX5_putTogether_L hG hF hX hQ ho a1 a2 S)
/-! X5_areApart -/
theorem hiX5_areApart_5 : ∀ w ∈ u_ws RX5 TX5 6, w ∈ wsX5_areApart := fun _ hw => List.mem_cons_of_mem _ (List.mem_append_right _ (hw))
set_option maxRecDepth 100000 in
set_option maxHeartbeats 4000000 in
theorem tX5_areApart_L {G : gGG} {F : State → Heap → Prop} (hG : gOK G) (hF : gSb G F) (hX : gPX G) (hQ : gOQ G) {o : Nat} (ho : gIsRu o = true) (a1 : Int32) (a2 : Int32) (S : gSt) : Gof G F RX5 cX5_areApart 3 wsX5_areApart (some .boolean) (gRm 1) 0 0 (gQ G (fun x => (some (.int x), S))) 0 [(0, .ref (gad G o)), (1, .int a1), (2, .int a2)] [] S (fX5_areApart o a1 a2 S) := by
  unfold fX5_areApart
  refine g_iload_n 1 dX5_areApart_0 rfl ?_
  refine g_cSp (n := 1) (As := [.int a1]) (rest := []) hF (tX5_isOne hG hF hX hQ a1 S) gX5_areApart_X5_isOne rfl ⟨by decide +kernel, by decide +kernel, by decide +kernel⟩ rfl (gRm_ok (by decide) (by decide)) rfl (Nat.le_of_ble_eq_true rfl) dX5_areApart_1 (fun v_1 => ?_)
  refine g_if_eq (tgt := 24) dX5_areApart_4 (by decide) (fun h_1 => ?_) (fun h_1 => ?_)
  · refine g_iconst (v := 0) dX5_areApart_24 (by decide) ?_
    exact g_zret (by decide) dX5_areApart_25 rfl
  · refine g_aload_n 0 dX5_areApart_7 rfl ?_
    refine g_getQ (ci := 5) (k0 := 3) (C0 := RX5) (T := TX5) (N := 6) (gRu_m hX ho) (gRu_l ho) rfl hiX5_areApart_5 (by decide) (List.mem_of_getElem? (i := 1) rfl) rfl dX5_areApart_8 ?_
    refine g_iload_n 1 dX5_areApart_11 rfl ?_
    refine g_iald hG (gRu_m4 hX ho) (gRu_l4 ho) dX5_areApart_12 ?_
    refine g_iconst (v := 1) dX5_areApart_13 (by decide) ?_
    refine g_iload_n 2 dX5_areApart_14 rfl ?_
    refine g_ishl dX5_areApart_15 ?_
    refine g_iand dX5_areApart_16 ?_
    refine g_if_eq (tgt := 24) dX5_areApart_17 (by decide) (fun h_2 => ?_) (fun h_2 => ?_)
    · refine g_iconst (v := 0) dX5_areApart_24 (by decide) ?_
      exact g_zret (by decide) dX5_areApart_25 rfl
    · refine g_iconst (v := 1) dX5_areApart_20 (by decide) ?_
      refine g_goto (tgt := 25) dX5_areApart_21 (by decide) ?_
      exact g_zret (by decide) dX5_areApart_25 rfl
set_option maxRecDepth 100000 in
set_option maxHeartbeats 4000000 in
theorem tX5_areApart {G : gGG} {F : State → Heap → Prop} (hG : gOK G) (hF : gSb G F) (hX : gPX G) (hQ : gOQ G) {o : Nat} (ho : gIsRu o = true) (a1 : Int32) (a2 : Int32) (S : gSt) : gCt G F yX5_areApart wsX5_areApart 1 [.ref (gad G o), .int a1, .int a2] S ((fX5_areApart o a1 a2 S).map (fun x => (some (.int x), S))) := g_met (by decide +kernel) rfl (Nat.le_of_ble_eq_true rfl) (tX5_areApart_L hG hF hX hQ ho a1 a2 S)
/-! X5_putApart -/
theorem hiX5_putApart_5 : ∀ w ∈ u_ws RX5 TX5 6, w ∈ wsX5_putApart := fun _ hw => List.mem_cons_of_mem _ (List.mem_append_right _ (hw))
set_option maxRecDepth 100000 in
set_option maxHeartbeats 4000000 in
theorem tX5_putApart_L {G : gGG} {F : State → Heap → Prop} (hG : gOK G) (hF : gSb G F) (hX : gPX G) (hQ : gOQ G) {o : Nat} (ho : gIsRu o = true) (a1 : Int32) (a2 : Int32) (S : gSt) : Gof G F RX5 cX5_putApart 3 wsX5_putApart none (gRm 1) 0 0 (gQ G (fun x => (none, x))) 0 [(0, .ref (gad G o)), (1, .int a1), (2, .int a2)] [] S (fX5_putApart o a1 a2 S) := by
  unfold fX5_putApart
  refine g_iload_n 1 dX5_putApart_0 rfl ?_
  refine g_cSp (n := 1) (As := [.int a1]) (rest := []) hF (tX5_isOne hG hF hX hQ a1 S) gX5_putApart_X5_isOne rfl ⟨by decide +kernel, by decide +kernel, by decide +kernel⟩ rfl (gRm_ok (by decide) (by decide)) rfl (Nat.le_of_ble_eq_true rfl) dX5_putApart_1 (fun v_1 => ?_)
  refine g_if_eq (tgt := 38) dX5_putApart_4 (by decide) (fun h_1 => ?_) (fun h_1 => ?_)
  · exact g_vret dX5_putApart_38 rfl
  · refine g_iload_n 2 dX5_putApart_7 rfl ?_
    refine g_cSp (n := 1) (As := [.int a2]) (rest := []) hF (tX5_isOne hG hF hX hQ a2 S) gX5_putApart_X5_isOne rfl ⟨by decide +kernel, by decide +kernel, by decide +kernel⟩ rfl (gRm_ok (by decide) (by decide)) rfl (Nat.le_of_ble_eq_true rfl) dX5_putApart_8 (fun v_2 => ?_)
    refine g_if_eq (tgt := 38) dX5_putApart_11 (by decide) (fun h_2 => ?_) (fun h_2 => ?_)
    · exact g_vret dX5_putApart_38 rfl
    · refine g_aload_n 0 dX5_putApart_14 rfl ?_
      refine g_getQ (ci := 5) (k0 := 3) (C0 := RX5) (T := TX5) (N := 6) (gRu_m hX ho) (gRu_l ho) rfl hiX5_putApart_5 (by decide) (List.mem_of_getElem? (i := 1) rfl) rfl dX5_putApart_15 ?_
      refine g_iload_n 1 dX5_putApart_18 rfl ?_
      refine g_dup2 dX5_putApart_19 rfl rfl ?_
      refine g_iald hG (gRu_m4 hX ho) (gRu_l4 ho) dX5_putApart_20 ?_
      refine g_iconst (v := 1) dX5_putApart_21 (by decide) ?_
      refine g_iload_n 2 dX5_putApart_22 rfl ?_
      refine g_ishl dX5_putApart_23 ?_
      refine g_ior dX5_putApart_24 ?_
      refine g_iast hG (gRu_m4 hX ho) (gRu_l4 ho) dX5_putApart_25 ?_
      refine g_nS (fun S_3 => ?_)
      refine g_aload_n 0 dX5_putApart_26 rfl ?_
      refine g_getQ (ci := 5) (k0 := 3) (C0 := RX5) (T := TX5) (N := 6) (gRu_m hX ho) (gRu_l ho) rfl hiX5_putApart_5 (by decide) (List.mem_of_getElem? (i := 1) rfl) rfl dX5_putApart_27 ?_
      refine g_iload_n 2 dX5_putApart_30 rfl ?_
      refine g_dup2 dX5_putApart_31 rfl rfl ?_
      refine g_iald hG (gRu_m4 hX ho) (gRu_l4 ho) dX5_putApart_32 ?_
      refine g_iconst (v := 1) dX5_putApart_33 (by decide) ?_
      refine g_iload_n 1 dX5_putApart_34 rfl ?_
      refine g_ishl dX5_putApart_35 ?_
      refine g_ior dX5_putApart_36 ?_
      refine g_iast hG (gRu_m4 hX ho) (gRu_l4 ho) dX5_putApart_37 ?_
      refine g_nS (fun S_4 => ?_)
      exact g_vret dX5_putApart_38 rfl
set_option maxRecDepth 100000 in
set_option maxHeartbeats 4000000 in
theorem tX5_putApart {G : gGG} {F : State → Heap → Prop} (hG : gOK G) (hF : gSb G F) (hX : gPX G) (hQ : gOQ G) {o : Nat} (ho : gIsRu o = true) (a1 : Int32) (a2 : Int32) (S : gSt) : gCt G F yX5_putApart wsX5_putApart 1 [.ref (gad G o), .int a1, .int a2] S ((fX5_putApart o a1 a2 S).map (fun x => (none, x))) := g_met (by decide +kernel) rfl (Nat.le_of_ble_eq_true rfl) (tX5_putApart_L hG hF hX hQ ho a1 a2 S)
/-! X5_worthOf -/
theorem hiX5_worthOf_5 : ∀ w ∈ u_ws RX5 TX5 6, w ∈ wsX5_worthOf := fun _ hw => List.mem_cons_of_mem _ (List.mem_append_right _ (hw))
set_option maxRecDepth 100000 in
set_option maxHeartbeats 4000000 in
theorem tX5_worthOf_L {G : gGG} {F : State → Heap → Prop} (hG : gOK G) (hF : gSb G F) (hX : gPX G) (hQ : gOQ G) {o : Nat} (ho : gIsRu o = true) (a1 : Int32) (a2 : Int32) (S : gSt) : Gof G F RX5 cX5_worthOf 3 wsX5_worthOf (some .int) (gRm 1) 0 0 (gQ G (fun x => (some (.int x), S))) 0 [(0, .ref (gad G o)), (1, .int a1), (2, .int a2)] [] S (fX5_worthOf o a1 a2 S) := by
  unfold fX5_worthOf
  refine g_iload_n 1 dX5_worthOf_0 rfl ?_
  refine g_cSp (n := 1) (As := [.int a1]) (rest := []) hF (tX5_isOne hG hF hX hQ a1 S) gX5_worthOf_X5_isOne rfl ⟨by decide +kernel, by decide +kernel, by decide +kernel⟩ rfl (gRm_ok (by decide) (by decide)) rfl (Nat.le_of_ble_eq_true rfl) dX5_worthOf_1 (fun v_1 => ?_)
  refine g_if_eq (tgt := 25) dX5_worthOf_4 (by decide) (fun h_1 => ?_) (fun h_1 => ?_)
  · refine g_iconst (v := 0) dX5_worthOf_25 (by decide) ?_
    exact g_iret dX5_worthOf_26 rfl
  · refine g_iload_n 2 dX5_worthOf_7 rfl ?_
    refine g_cSp (n := 1) (As := [.int a2]) (rest := []) hF (tX5_isOne hG hF hX hQ a2 S) gX5_worthOf_X5_isOne rfl ⟨by decide +kernel, by decide +kernel, by decide +kernel⟩ rfl (gRm_ok (by decide) (by decide)) rfl (Nat.le_of_ble_eq_true rfl) dX5_worthOf_8 (fun v_2 => ?_)
    refine g_if_eq (tgt := 25) dX5_worthOf_11 (by decide) (fun h_2 => ?_) (fun h_2 => ?_)
    · refine g_iconst (v := 0) dX5_worthOf_25 (by decide) ?_
      exact g_iret dX5_worthOf_26 rfl
    · refine g_aload_n 0 dX5_worthOf_14 rfl ?_
      refine g_getQ (ci := 5) (k0 := 4) (C0 := RX5) (T := TX5) (N := 6) (gRu_m hX ho) (gRu_l ho) rfl hiX5_worthOf_5 (by decide) (List.mem_of_getElem? (i := 1) rfl) rfl dX5_worthOf_15 ?_
      refine g_iload_n 1 dX5_worthOf_18 rfl ?_
      refine g_gC (fun h_3 => ?_)
      refine g_aald hQ (gRu_m5 hX ho) (gRu_l5 ho) h_3 dX5_worthOf_19 ?_
      refine g_iload_n 2 dX5_worthOf_20 rfl ?_
      refine g_iald hG (gRu_mr hX ho h_3) (gRu_lr ho h_3) dX5_worthOf_21 ?_
      refine g_goto (tgt := 26) dX5_worthOf_22 (by decide) ?_
      exact g_iret dX5_worthOf_26 rfl
set_option maxRecDepth 100000 in
set_option maxHeartbeats 4000000 in
theorem tX5_worthOf {G : gGG} {F : State → Heap → Prop} (hG : gOK G) (hF : gSb G F) (hX : gPX G) (hQ : gOQ G) {o : Nat} (ho : gIsRu o = true) (a1 : Int32) (a2 : Int32) (S : gSt) : gCt G F yX5_worthOf wsX5_worthOf 1 [.ref (gad G o), .int a1, .int a2] S ((fX5_worthOf o a1 a2 S).map (fun x => (some (.int x), S))) := g_met (by decide +kernel) rfl (Nat.le_of_ble_eq_true rfl) (tX5_worthOf_L hG hF hX hQ ho a1 a2 S)
/-! X5_setWorth -/
theorem hiX5_setWorth_5 : ∀ w ∈ u_ws RX5 TX5 6, w ∈ wsX5_setWorth := fun _ hw => List.mem_cons_of_mem _ (List.mem_append_right _ (hw))
set_option maxRecDepth 100000 in
set_option maxHeartbeats 4000000 in
theorem tX5_setWorth_L {G : gGG} {F : State → Heap → Prop} (hG : gOK G) (hF : gSb G F) (hX : gPX G) (hQ : gOQ G) {o : Nat} (ho : gIsRu o = true) (a1 : Int32) (a2 : Int32) (a3 : Int32) (S : gSt) : Gof G F RX5 cX5_setWorth 4 wsX5_setWorth none (gRm 1) 0 0 (gQ G (fun x => (none, x))) 0 [(0, .ref (gad G o)), (1, .int a1), (2, .int a2), (3, .int a3)] [] S (fX5_setWorth o a1 a2 a3 S) := by
  unfold fX5_setWorth
  refine g_iload_n 1 dX5_setWorth_0 rfl ?_
  refine g_cSp (n := 1) (As := [.int a1]) (rest := []) hF (tX5_isOne hG hF hX hQ a1 S) gX5_setWorth_X5_isOne rfl ⟨by decide +kernel, by decide +kernel, by decide +kernel⟩ rfl (gRm_ok (by decide) (by decide)) rfl (Nat.le_of_ble_eq_true rfl) dX5_setWorth_1 (fun v_1 => ?_)
  refine g_if_eq (tgt := 32) dX5_setWorth_4 (by decide) (fun h_1 => ?_) (fun h_1 => ?_)
  · exact g_vret dX5_setWorth_32 rfl
  · refine g_iload_n 2 dX5_setWorth_7 rfl ?_
    refine g_cSp (n := 1) (As := [.int a2]) (rest := []) hF (tX5_isOne hG hF hX hQ a2 S) gX5_setWorth_X5_isOne rfl ⟨by decide +kernel, by decide +kernel, by decide +kernel⟩ rfl (gRm_ok (by decide) (by decide)) rfl (Nat.le_of_ble_eq_true rfl) dX5_setWorth_8 (fun v_2 => ?_)
    refine g_if_eq (tgt := 32) dX5_setWorth_11 (by decide) (fun h_2 => ?_) (fun h_2 => ?_)
    · exact g_vret dX5_setWorth_32 rfl
    · refine g_aload_n 0 dX5_setWorth_14 rfl ?_
      refine g_getQ (ci := 5) (k0 := 4) (C0 := RX5) (T := TX5) (N := 6) (gRu_m hX ho) (gRu_l ho) rfl hiX5_setWorth_5 (by decide) (List.mem_of_getElem? (i := 1) rfl) rfl dX5_setWorth_15 ?_
      refine g_iload_n 1 dX5_setWorth_18 rfl ?_
      refine g_gC (fun h_3 => ?_)
      refine g_aald hQ (gRu_m5 hX ho) (gRu_l5 ho) h_3 dX5_setWorth_19 ?_
      refine g_iload_n 2 dX5_setWorth_20 rfl ?_
      refine g_iload_n 3 dX5_setWorth_21 rfl ?_
      refine g_iast hG (gRu_mr hX ho h_3) (gRu_lr ho h_3) dX5_setWorth_22 ?_
      refine g_nS (fun S_3 => ?_)
      refine g_aload_n 0 dX5_setWorth_23 rfl ?_
      refine g_getQ (ci := 5) (k0 := 4) (C0 := RX5) (T := TX5) (N := 6) (gRu_m hX ho) (gRu_l ho) rfl hiX5_setWorth_5 (by decide) (List.mem_of_getElem? (i := 1) rfl) rfl dX5_setWorth_24 ?_
      refine g_iload_n 2 dX5_setWorth_27 rfl ?_
      refine g_gC (fun h_4 => ?_)
      refine g_aald hQ (gRu_m5 hX ho) (gRu_l5 ho) h_4 dX5_setWorth_28 ?_
      refine g_iload_n 1 dX5_setWorth_29 rfl ?_
      refine g_iload_n 3 dX5_setWorth_30 rfl ?_
      refine g_iast hG (gRu_mr hX ho h_4) (gRu_lr ho h_4) dX5_setWorth_31 ?_
      refine g_nS (fun S_4 => ?_)
      exact g_vret dX5_setWorth_32 rfl
set_option maxRecDepth 100000 in
set_option maxHeartbeats 4000000 in
theorem tX5_setWorth {G : gGG} {F : State → Heap → Prop} (hG : gOK G) (hF : gSb G F) (hX : gPX G) (hQ : gOQ G) {o : Nat} (ho : gIsRu o = true) (a1 : Int32) (a2 : Int32) (a3 : Int32) (S : gSt) : gCt G F yX5_setWorth wsX5_setWorth 1 [.ref (gad G o), .int a1, .int a2, .int a3] S ((fX5_setWorth o a1 a2 a3 S).map (fun x => (none, x))) := g_met (by decide +kernel) rfl (Nat.le_of_ble_eq_true rfl) (tX5_setWorth_L hG hF hX hQ ho a1 a2 a3 S)
/-! X5_worthWith -/
theorem hiX5_worthWith_5 : ∀ w ∈ u_ws RX5 TX5 6, w ∈ wsX5_worthWith := fun _ hw => List.mem_cons_of_mem _ (List.mem_append_right _ (hw))
set_option maxRecDepth 100000 in
set_option maxHeartbeats 4000000 in
theorem tX5_worthWith_L14 {G : gGG} {F : State → Heap → Prop} (hG : gOK G) (hF : gSb G F) (hX : gPX G) (hQ : gOQ G) {o : Nat} (ho : gIsRu o = true) (S : gSt) : ∀ (n : Nat) (x1 : Int32) (x2 : Int32) (x3 : Int32) (x4 : Int32), Gof G F RX5 cX5_worthWith 5 wsX5_worthWith (some .int) (gRm 1) 0 0 (gQ G (fun x => (some (.int x), S))) 14 [(0, .ref (gad G o)), (1, .int x1), (2, .int x2), (3, .int x3), (4, .int x4)] [] S (fX5_worthWith_L14 o S n x1 x2 x3 x4) := by
  intro n
  induction n with
  | zero => intro x1 x2 x3 x4; exact g_none
  | succ n ih =>
    intro x1 x2 x3 x4
    unfold fX5_worthWith_L14
    refine g_iload 4 dX5_worthWith_14 rfl ?_
    refine g_aload_n 0 dX5_worthWith_16 rfl ?_
    refine g_getI (ci := 5) (k0 := 5) (C0 := RX5) (T := TX5) (N := 6) (gRu_m hX ho) (gRu_l ho) rfl hiX5_worthWith_5 (by decide) (List.mem_of_getElem? (i := 1) rfl) rfl dX5_worthWith_17 ?_
    refine g_icmp_ge (tgt := 63) dX5_worthWith_20 (by decide) (fun h_1 => ?_) (fun h_1 => ?_)
    · refine g_iload_n 3 dX5_worthWith_63 rfl ?_
      exact g_iret dX5_worthWith_64 rfl
    · refine g_iload 4 dX5_worthWith_23 rfl ?_
      refine g_bipush (v := 8) dX5_worthWith_25 (by decide) ?_
      refine g_icmp_ge (tgt := 63) dX5_worthWith_27 (by decide) (fun h_2 => ?_) (fun h_2 => ?_)
      · refine g_iload_n 3 dX5_worthWith_63 rfl ?_
        exact g_iret dX5_worthWith_64 rfl
      · refine g_iload 4 dX5_worthWith_30 rfl ?_
        refine g_iload_n 1 dX5_worthWith_32 rfl ?_
        refine g_icmp_eq (tgt := 57) dX5_worthWith_33 (by decide) (fun h_3 => ?_) (fun h_3 => ?_)
        · refine g_iinc 4 (v := (x4 + 1)) (env' := [(4, .int (x4 + 1)), (0, .ref (gad G o)), (1, .int x1), (2, .int x2), (3, .int x3)]) dX5_worthWith_57 rfl rfl (by decide) rfl ?_
          refine g_goto (tgt := 14) dX5_worthWith_60 (by decide) ?_
          refine g_env (env' := [(0, .ref (gad G o)), (1, .int x1), (2, .int x2), (3, .int x3), (4, .int (x4 + 1))]) [1, 2, 3, 4, 0] rfl ?_
          exact ih x1 x2 x3 (x4 + 1)
        · refine g_iload_n 2 dX5_worthWith_36 rfl ?_
          refine g_iconst (v := 1) dX5_worthWith_37 (by decide) ?_
          refine g_iload 4 dX5_worthWith_38 rfl ?_
          refine g_ishl dX5_worthWith_40 ?_
          refine g_iand dX5_worthWith_41 ?_
          refine g_if_eq (tgt := 57) dX5_worthWith_42 (by decide) (fun h_4 => ?_) (fun h_4 => ?_)
          · refine g_iinc 4 (v := (x4 + 1)) (env' := [(4, .int (x4 + 1)), (0, .ref (gad G o)), (1, .int x1), (2, .int x2), (3, .int x3)]) dX5_worthWith_57 rfl rfl (by decide) rfl ?_
            refine g_goto (tgt := 14) dX5_worthWith_60 (by decide) ?_
            refine g_env (env' := [(0, .ref (gad G o)), (1, .int x1), (2, .int x2), (3, .int x3), (4, .int (x4 + 1))]) [1, 2, 3, 4, 0] rfl ?_
            exact ih x1 x2 x3 (x4 + 1)
          · refine g_iload_n 3 dX5_worthWith_45 rfl ?_
            refine g_aload_n 0 dX5_worthWith_46 rfl ?_
            refine g_getQ (ci := 5) (k0 := 4) (C0 := RX5) (T := TX5) (N := 6) (gRu_m hX ho) (gRu_l ho) rfl hiX5_worthWith_5 (by decide) (List.mem_of_getElem? (i := 2) rfl) rfl dX5_worthWith_47 ?_
            refine g_iload_n 1 dX5_worthWith_50 rfl ?_
            refine g_gC (fun h_5 => ?_)
            refine g_aald hQ (gRu_m5 hX ho) (gRu_l5 ho) h_5 dX5_worthWith_51 ?_
            refine g_iload 4 dX5_worthWith_52 rfl ?_
            refine g_iald hG (gRu_mr hX ho h_5) (gRu_lr ho h_5) dX5_worthWith_54 ?_
            refine g_iadd dX5_worthWith_55 ?_
            refine g_nI (fun v_1 => ?_)
            refine g_istore_n (i := 3) (env' := [(3, .int v_1), (0, .ref (gad G o)), (1, .int x1), (2, .int x2), (4, .int x4)]) dX5_worthWith_56 rfl (by decide) rfl ?_
            refine g_iinc 4 (v := (x4 + 1)) (env' := [(4, .int (x4 + 1)), (3, .int v_1), (0, .ref (gad G o)), (1, .int x1), (2, .int x2)]) dX5_worthWith_57 rfl rfl (by decide) rfl ?_
            refine g_goto (tgt := 14) dX5_worthWith_60 (by decide) ?_
            refine g_env (env' := [(0, .ref (gad G o)), (1, .int x1), (2, .int x2), (3, .int v_1), (4, .int (x4 + 1))]) [2, 3, 4, 1, 0] rfl ?_
            exact ih x1 x2 v_1 (x4 + 1)
set_option maxRecDepth 100000 in
set_option maxHeartbeats 4000000 in
theorem tX5_worthWith_L {G : gGG} {F : State → Heap → Prop} (hG : gOK G) (hF : gSb G F) (hX : gPX G) (hQ : gOQ G) {o : Nat} (ho : gIsRu o = true) (a1 : Int32) (a2 : Int32) (S : gSt) : Gof G F RX5 cX5_worthWith 5 wsX5_worthWith (some .int) (gRm 1) 0 0 (gQ G (fun x => (some (.int x), S))) 0 [(0, .ref (gad G o)), (1, .int a1), (2, .int a2)] [] S (fX5_worthWith o a1 a2 S) := by
  unfold fX5_worthWith
  refine g_iload_n 1 dX5_worthWith_0 rfl ?_
  refine g_cSp (n := 1) (As := [.int a1]) (rest := []) hF (tX5_isOne hG hF hX hQ a1 S) gX5_worthWith_X5_isOne rfl ⟨by decide +kernel, by decide +kernel, by decide +kernel⟩ rfl (gRm_ok (by decide) (by decide)) rfl (Nat.le_of_ble_eq_true rfl) dX5_worthWith_1 (fun v_1 => ?_)
  refine g_if_ne (tgt := 9) dX5_worthWith_4 (by decide) (fun h_1 => ?_) (fun h_1 => ?_)
  · refine g_iconst (v := 0) dX5_worthWith_9 (by decide) ?_
    refine g_istore_n (i := 3) (env' := [(3, .int 0), (0, .ref (gad G o)), (1, .int a1), (2, .int a2)]) dX5_worthWith_10 rfl (by decide) rfl ?_
    refine g_iconst (v := 0) dX5_worthWith_11 (by decide) ?_
    refine g_istore (i := 4) (env' := [(4, .int 0), (3, .int 0), (0, .ref (gad G o)), (1, .int a1), (2, .int a2)]) dX5_worthWith_12 (by decide) rfl ?_
    refine g_env (env' := [(0, .ref (gad G o)), (1, .int a1), (2, .int a2), (3, .int 0), (4, .int 0)]) [2, 3, 4, 1, 0] rfl ?_
    exact tX5_worthWith_L14 hG hF hX hQ ho S gFU a1 a2 0 0
  · refine g_iconst (v := 0) dX5_worthWith_7 (by decide) ?_
    exact g_iret dX5_worthWith_8 rfl
set_option maxRecDepth 100000 in
set_option maxHeartbeats 4000000 in
theorem tX5_worthWith {G : gGG} {F : State → Heap → Prop} (hG : gOK G) (hF : gSb G F) (hX : gPX G) (hQ : gOQ G) {o : Nat} (ho : gIsRu o = true) (a1 : Int32) (a2 : Int32) (S : gSt) : gCt G F yX5_worthWith wsX5_worthWith 1 [.ref (gad G o), .int a1, .int a2] S ((fX5_worthWith o a1 a2 S).map (fun x => (some (.int x), S))) := g_met (by decide +kernel) rfl (Nat.le_of_ble_eq_true rfl) (tX5_worthWith_L hG hF hX hQ ho a1 a2 S)
/-! X5_worthOfAll -/
theorem hiX5_worthOfAll_5 : ∀ w ∈ u_ws RX5 TX5 6, w ∈ wsX5_worthOfAll := fun _ hw => List.mem_cons_of_mem _ (List.mem_append_left _ (List.mem_append_right _ (hw)))
set_option maxRecDepth 100000 in
set_option maxHeartbeats 4000000 in
theorem tX5_worthOfAll_L4 {G : gGG} {F : State → Heap → Prop} (hG : gOK G) (hF : gSb G F) (hX : gPX G) (hQ : gOQ G) {o : Nat} (ho : gIsRu o = true) {a1 : Nat} (h1 : gIsSt a1 = true) (S : gSt) : ∀ (n : Nat) (x2 : Int32) (x3 : Int32), Gof G F RX5 cX5_worthOfAll 4 wsX5_worthOfAll (some .int) (gRm 2) 0 0 (gQ G (fun x => (some (.int x), S))) 4 [(0, .ref (gad G o)), (1, .ref (gad G a1)), (2, .int x2), (3, .int x3)] [] S (fX5_worthOfAll_L4 o a1 S n x2 x3) := by
  intro n
  induction n with
  | zero => intro x2 x3; exact g_none
  | succ n ih =>
    intro x2 x3
    unfold fX5_worthOfAll_L4
    refine g_iload_n 3 dX5_worthOfAll_4 rfl ?_
    refine g_aload_n 0 dX5_worthOfAll_5 rfl ?_
    refine g_getI (ci := 5) (k0 := 5) (C0 := RX5) (T := TX5) (N := 6) (gRu_m hX ho) (gRu_l ho) rfl hiX5_worthOfAll_5 (by decide) (List.mem_of_getElem? (i := 1) rfl) rfl dX5_worthOfAll_6 ?_
    refine g_icmp_ge (tgt := 35) dX5_worthOfAll_9 (by decide) (fun h_1 => ?_) (fun h_1 => ?_)
    · refine g_iload_n 2 dX5_worthOfAll_35 rfl ?_
      refine g_iconst (v := 2) dX5_worthOfAll_36 (by decide) ?_
      refine g_idiv dX5_worthOfAll_37 ?_
      exact g_iret dX5_worthOfAll_38 rfl
    · refine g_iload_n 2 dX5_worthOfAll_12 rfl ?_
      refine g_aload_n 0 dX5_worthOfAll_13 rfl ?_
      refine g_iload_n 3 dX5_worthOfAll_14 rfl ?_
      refine g_aload_n 1 dX5_worthOfAll_15 rfl ?_
      refine g_aload_n 1 dX5_worthOfAll_16 rfl ?_
      refine g_iload_n 3 dX5_worthOfAll_17 rfl ?_
      refine g_cVp (ci := 7) (C0 := RX7) (T := TX7) (N := 5) (n := 1) (As := [.int x3]) (rest := [.ref (gad G a1), .int x3, .ref (gad G o), .int x2]) hF (tX7_partyOf hG hF hX hQ h1 x3 S) gX5_worthOfAll_X7_partyOf rfl (gSt_m hX h1) (gSt_l h1) rfl ⟨rfl, by decide +kernel, by decide +kernel, by decide +kernel⟩ rfl (gRm_ok (by decide) (by decide)) rfl (Nat.le_of_ble_eq_true rfl) dX5_worthOfAll_18 (fun v_1 => ?_)
      refine g_cVp (ci := 7) (C0 := RX7) (T := TX7) (N := 5) (n := 1) (As := [.int v_1]) (rest := [.int x3, .ref (gad G o), .int x2]) hF (tX7_setOf hG hF hX hQ h1 v_1 S) gX5_worthOfAll_X7_setOf rfl (gSt_m hX h1) (gSt_l h1) rfl ⟨rfl, by decide +kernel, by decide +kernel, by decide +kernel⟩ rfl (gRm_ok (by decide) (by decide)) rfl (Nat.le_of_ble_eq_true rfl) dX5_worthOfAll_21 (fun v_2 => ?_)
      refine g_cVp (ci := 5) (C0 := RX5) (T := TX5) (N := 6) (n := 2) (As := [.int x3, .int v_2]) (rest := [.int x2]) hF (tX5_worthWith hG hF hX hQ ho x3 v_2 S) gX5_worthOfAll_X5_worthWith rfl (gRu_m hX ho) (gRu_l ho) rfl ⟨rfl, by decide +kernel, by decide +kernel, by decide +kernel⟩ rfl (gRm_ok (by decide) (by decide)) rfl (Nat.le_of_ble_eq_true rfl) dX5_worthOfAll_24 (fun v_3 => ?_)
      refine g_iadd dX5_worthOfAll_27 ?_
      refine g_nI (fun v_4 => ?_)
      refine g_istore_n (i := 2) (env' := [(2, .int v_4), (0, .ref (gad G o)), (1, .ref (gad G a1)), (3, .int x3)]) dX5_worthOfAll_28 rfl (by decide) rfl ?_
      refine g_iinc 3 (v := (x3 + 1)) (env' := [(3, .int (x3 + 1)), (2, .int v_4), (0, .ref (gad G o)), (1, .ref (gad G a1))]) dX5_worthOfAll_29 rfl rfl (by decide) rfl ?_
      refine g_goto (tgt := 4) dX5_worthOfAll_32 (by decide) ?_
      refine g_env (env' := [(0, .ref (gad G o)), (1, .ref (gad G a1)), (2, .int v_4), (3, .int (x3 + 1))]) [2, 3, 1, 0] rfl ?_
      exact ih v_4 (x3 + 1)
set_option maxRecDepth 100000 in
set_option maxHeartbeats 4000000 in
theorem tX5_worthOfAll_L {G : gGG} {F : State → Heap → Prop} (hG : gOK G) (hF : gSb G F) (hX : gPX G) (hQ : gOQ G) {o : Nat} (ho : gIsRu o = true) {a1 : Nat} (h1 : gIsSt a1 = true) (S : gSt) : Gof G F RX5 cX5_worthOfAll 4 wsX5_worthOfAll (some .int) (gRm 2) 0 0 (gQ G (fun x => (some (.int x), S))) 0 [(0, .ref (gad G o)), (1, .ref (gad G a1))] [] S (fX5_worthOfAll o a1 S) := by
  unfold fX5_worthOfAll
  refine g_iconst (v := 0) dX5_worthOfAll_0 (by decide) ?_
  refine g_istore_n (i := 2) (env' := [(2, .int 0), (0, .ref (gad G o)), (1, .ref (gad G a1))]) dX5_worthOfAll_1 rfl (by decide) rfl ?_
  refine g_iconst (v := 0) dX5_worthOfAll_2 (by decide) ?_
  refine g_istore_n (i := 3) (env' := [(3, .int 0), (2, .int 0), (0, .ref (gad G o)), (1, .ref (gad G a1))]) dX5_worthOfAll_3 rfl (by decide) rfl ?_
  refine g_env (env' := [(0, .ref (gad G o)), (1, .ref (gad G a1)), (2, .int 0), (3, .int 0)]) [2, 3, 1, 0] rfl ?_
  exact tX5_worthOfAll_L4 hG hF hX hQ ho h1 S gFU 0 0
set_option maxRecDepth 100000 in
set_option maxHeartbeats 4000000 in
theorem tX5_worthOfAll {G : gGG} {F : State → Heap → Prop} (hG : gOK G) (hF : gSb G F) (hX : gPX G) (hQ : gOQ G) {o : Nat} (ho : gIsRu o = true) {a1 : Nat} (h1 : gIsSt a1 = true) (S : gSt) : gCt G F yX5_worthOfAll wsX5_worthOfAll 2 [.ref (gad G o), .ref (gad G a1)] S ((fX5_worthOfAll o a1 S).map (fun x => (some (.int x), S))) := g_met (by decide +kernel) rfl (Nat.le_of_ble_eq_true rfl) (tX5_worthOfAll_L hG hF hX hQ ho h1 S)
/-! X5_pairsIn -/
set_option maxRecDepth 100000 in
set_option maxHeartbeats 4000000 in
theorem tX5_pairsIn_L10 {G : gGG} {F : State → Heap → Prop} (hG : gOK G) (hF : gSb G F) (hX : gPX G) (hQ : gOQ G) {a0 : Nat} (h0 : gArX a0 = true) (S : gSt) : ∀ (n : Nat) (x1 : Int32) (x3 : Int32) (x4 : Int32), Gof G F RX5 cX5_pairsIn 6 wsX5_pairsIn (some .int) (gRm 1) 0 0 (gQ G (fun x => (some (.int x), S))) 10 [(1, .int x1), (2, .ref (gad G a0)), (3, .int x3), (4, .int x4)] [] S (fX5_pairsIn_L10 a0 S n x1 x3 x4) := by
  intro n
  induction n with
  | zero => intro x1 x3 x4; exact g_none
  | succ n ih =>
    intro x1 x3 x4
    unfold fX5_pairsIn_L10
    refine g_iload 3 dX5_pairsIn_10 rfl ?_
    refine g_iload_n 2 dX5_pairsIn_12 rfl ?_
    refine g_icmp_ge (tgt := 36) dX5_pairsIn_13 (by decide) (fun h_1 => ?_) (fun h_1 => ?_)
    · refine g_iload_n 0 dX5_pairsIn_36 rfl ?_
      refine g_iconst (v := 2) dX5_pairsIn_37 (by decide) ?_
      refine g_idiv dX5_pairsIn_38 ?_
      exact g_iret dX5_pairsIn_39 rfl
    · refine g_aload_n 1 dX5_pairsIn_16 rfl ?_
      refine g_iload 3 dX5_pairsIn_17 rfl ?_
      refine g_iald hG (gAr_mX hX h0) (gAr_lX h0) dX5_pairsIn_19 ?_
      refine g_nI (fun v_1 => ?_)
      refine g_istore (i := 5) (env' := [(5, .int v_1), (1, .int x1), (2, .ref (gad G a0)), (3, .int x3), (4, .int x4)]) dX5_pairsIn_20 (by decide) rfl ?_
      refine g_iload_n 1 dX5_pairsIn_22 rfl ?_
      refine g_iload 0 dX5_pairsIn_23 rfl ?_
      refine g_cSp (n := 1) (As := [.int v_1]) (rest := [.int x1]) hF (tJ6_bitCount_0f7a4 v_1 S) gX5_pairsIn_J6_bitCount_0f7a4 rfl ⟨by decide +kernel, by decide +kernel, by decide +kernel⟩ rfl (gRm_ok (by decide) (by decide)) rfl (Nat.le_of_ble_eq_true rfl) dX5_pairsIn_25 (fun v_2 => ?_)
      refine g_iadd dX5_pairsIn_28 ?_
      refine g_nI (fun v_3 => ?_)
      refine g_istore_n (i := 1) (env' := [(1, .int v_3), (5, .int v_1), (2, .ref (gad G a0)), (3, .int x3), (4, .int x4)]) dX5_pairsIn_29 rfl (by decide) rfl ?_
      refine g_iinc 4 (v := (x4 + 1)) (env' := [(4, .int (x4 + 1)), (1, .int v_3), (5, .int v_1), (2, .ref (gad G a0)), (3, .int x3)]) dX5_pairsIn_30 rfl rfl (by decide) rfl ?_
      refine g_goto (tgt := 10) dX5_pairsIn_33 (by decide) ?_
      refine g_env (env' := [(1, .int v_3), (2, .ref (gad G a0)), (3, .int x3), (4, .int (x4 + 1))]) [1, 3, 4, 0] rfl ?_
      exact ih v_3 x3 (x4 + 1)
set_option maxRecDepth 100000 in
set_option maxHeartbeats 4000000 in
theorem tX5_pairsIn_L {G : gGG} {F : State → Heap → Prop} (hG : gOK G) (hF : gSb G F) (hX : gPX G) (hQ : gOQ G) {a0 : Nat} (h0 : gArX a0 = true) (S : gSt) : Gof G F RX5 cX5_pairsIn 6 wsX5_pairsIn (some .int) (gRm 1) 0 0 (gQ G (fun x => (some (.int x), S))) 0 [(0, .ref (gad G a0))] [] S (fX5_pairsIn a0 S) := by
  unfold fX5_pairsIn
  refine g_iconst (v := 0) dX5_pairsIn_0 (by decide) ?_
  refine g_istore_n (i := 1) (env' := [(1, .int 0), (0, .ref (gad G a0))]) dX5_pairsIn_1 rfl (by decide) rfl ?_
  refine g_aload_n 1 dX5_pairsIn_2 rfl ?_
  refine g_astore_n (i := 2) (env' := [(2, .ref (gad G a0)), (1, .int 0), (0, .ref (gad G a0))]) dX5_pairsIn_3 rfl (by decide) rfl ?_
  refine g_aload_n 0 dX5_pairsIn_4 rfl ?_
  refine g_alen (t0 := 0) (v := (Int32.ofNat ((gLay a0).2))) hG.2.2.1 (gAr_mX hX h0) (gEnt_I (gAr_lX h0)) (by first | rfl | decide) dX5_pairsIn_5 ?_
  refine g_nI (fun v_1 => ?_)
  refine g_istore_n (i := 3) (env' := [(3, .int v_1), (2, .ref (gad G a0)), (1, .int 0), (0, .ref (gad G a0))]) dX5_pairsIn_6 rfl (by decide) rfl ?_
  refine g_iconst (v := 0) dX5_pairsIn_7 (by decide) ?_
  refine g_istore (i := 4) (env' := [(4, .int 0), (3, .int v_1), (2, .ref (gad G a0)), (1, .int 0), (0, .ref (gad G a0))]) dX5_pairsIn_8 (by decide) rfl ?_
  refine g_env (env' := [(1, .int 0), (2, .ref (gad G a0)), (3, .int v_1), (4, .int 0)]) [3, 2, 1, 0] rfl ?_
  exact tX5_pairsIn_L10 hG hF hX hQ h0 S gFU 0 v_1 0
set_option maxRecDepth 100000 in
set_option maxHeartbeats 4000000 in
theorem tX5_pairsIn {G : gGG} {F : State → Heap → Prop} (hG : gOK G) (hF : gSb G F) (hX : gPX G) (hQ : gOQ G) {a0 : Nat} (h0 : gArX a0 = true) (S : gSt) : gCt G F yX5_pairsIn wsX5_pairsIn 1 [.ref (gad G a0)] S ((fX5_pairsIn a0 S).map (fun x => (some (.int x), S))) := g_met (by decide +kernel) rfl (Nat.le_of_ble_eq_true rfl) (tX5_pairsIn_L hG hF hX hQ h0 S)
/-! X5_pairsTogether -/
theorem hiX5_pairsTogether_5 : ∀ w ∈ u_ws RX5 TX5 6, w ∈ wsX5_pairsTogether := fun _ hw => List.mem_cons_of_mem _ (List.mem_append_right _ (hw))
set_option maxRecDepth 100000 in
set_option maxHeartbeats 4000000 in
theorem tX5_pairsTogether_L {G : gGG} {F : State → Heap → Prop} (hG : gOK G) (hF : gSb G F) (hX : gPX G) (hQ : gOQ G) {o : Nat} (ho : gIsRu o = true) (S : gSt) : Gof G F RX5 cX5_pairsTogether 1 wsX5_pairsTogether (some .int) (gRm 2) 0 0 (gQ G (fun x => (some (.int x), S))) 0 [(0, .ref (gad G o))] [] S (fX5_pairsTogether o S) := by
  unfold fX5_pairsTogether
  refine g_aload_n 0 dX5_pairsTogether_0 rfl ?_
  refine g_getQ (ci := 5) (k0 := 2) (C0 := RX5) (T := TX5) (N := 6) (gRu_m hX ho) (gRu_l ho) rfl hiX5_pairsTogether_5 (by decide) (List.mem_of_getElem? (i := 1) rfl) rfl dX5_pairsTogether_1 ?_
  refine g_cSp (n := 1) (As := [.ref (gad G (o + 3))]) (rest := []) hF (tX5_pairsIn hG hF hX hQ (gArX_3 ho) S) gX5_pairsTogether_X5_pairsIn rfl ⟨by decide +kernel, by decide +kernel, by decide +kernel⟩ rfl (gRm_ok (by decide) (by decide)) rfl (Nat.le_of_ble_eq_true rfl) dX5_pairsTogether_4 (fun v_1 => ?_)
  exact g_iret dX5_pairsTogether_7 rfl
set_option maxRecDepth 100000 in
set_option maxHeartbeats 4000000 in
theorem tX5_pairsTogether {G : gGG} {F : State → Heap → Prop} (hG : gOK G) (hF : gSb G F) (hX : gPX G) (hQ : gOQ G) {o : Nat} (ho : gIsRu o = true) (S : gSt) : gCt G F yX5_pairsTogether wsX5_pairsTogether 2 [.ref (gad G o)] S ((fX5_pairsTogether o S).map (fun x => (some (.int x), S))) := g_met (by decide +kernel) rfl (Nat.le_of_ble_eq_true rfl) (tX5_pairsTogether_L hG hF hX hQ ho S)
/-! X5_pairsApart -/
theorem hiX5_pairsApart_5 : ∀ w ∈ u_ws RX5 TX5 6, w ∈ wsX5_pairsApart := fun _ hw => List.mem_cons_of_mem _ (List.mem_append_right _ (hw))
set_option maxRecDepth 100000 in
set_option maxHeartbeats 4000000 in
theorem tX5_pairsApart_L {G : gGG} {F : State → Heap → Prop} (hG : gOK G) (hF : gSb G F) (hX : gPX G) (hQ : gOQ G) {o : Nat} (ho : gIsRu o = true) (S : gSt) : Gof G F RX5 cX5_pairsApart 1 wsX5_pairsApart (some .int) (gRm 2) 0 0 (gQ G (fun x => (some (.int x), S))) 0 [(0, .ref (gad G o))] [] S (fX5_pairsApart o S) := by
  unfold fX5_pairsApart
  refine g_aload_n 0 dX5_pairsApart_0 rfl ?_
  refine g_getQ (ci := 5) (k0 := 3) (C0 := RX5) (T := TX5) (N := 6) (gRu_m hX ho) (gRu_l ho) rfl hiX5_pairsApart_5 (by decide) (List.mem_of_getElem? (i := 1) rfl) rfl dX5_pairsApart_1 ?_
  refine g_cSp (n := 1) (As := [.ref (gad G (o + 4))]) (rest := []) hF (tX5_pairsIn hG hF hX hQ (gArX_4 ho) S) gX5_pairsApart_X5_pairsIn rfl ⟨by decide +kernel, by decide +kernel, by decide +kernel⟩ rfl (gRm_ok (by decide) (by decide)) rfl (Nat.le_of_ble_eq_true rfl) dX5_pairsApart_4 (fun v_1 => ?_)
  exact g_iret dX5_pairsApart_7 rfl
set_option maxRecDepth 100000 in
set_option maxHeartbeats 4000000 in
theorem tX5_pairsApart {G : gGG} {F : State → Heap → Prop} (hG : gOK G) (hF : gSb G F) (hX : gPX G) (hQ : gOQ G) {o : Nat} (ho : gIsRu o = true) (S : gSt) : gCt G F yX5_pairsApart wsX5_pairsApart 2 [.ref (gad G o)] S ((fX5_pairsApart o S).map (fun x => (some (.int x), S))) := g_met (by decide +kernel) rfl (Nat.le_of_ble_eq_true rfl) (tX5_pairsApart_L hG hF hX hQ ho S)
/-! X5_meetsItsHat -/
theorem hiX5_meetsItsHat_5 : ∀ w ∈ u_ws RX5 TX5 6, w ∈ wsX5_meetsItsHat := fun _ hw => List.mem_cons_of_mem _ (List.mem_append_right _ (hw))
set_option maxRecDepth 100000 in
set_option maxHeartbeats 4000000 in
theorem tX5_meetsItsHat_L13 {G : gGG} {F : State → Heap → Prop} (hG : gOK G) (hF : gSb G F) (hX : gPX G) (hQ : gOQ G) {o : Nat} (ho : gIsRu o = true) (S : gSt) : ∀ (n : Nat) (x1 : Int32) (x2 : Int32) (x3 : Int32), Gof G F RX5 cX5_meetsItsHat 4 wsX5_meetsItsHat (some .boolean) (gRm 0) 0 0 (gQ G (fun x => (some (.int x), S))) 13 [(0, .ref (gad G o)), (1, .int x1), (2, .int x2), (3, .int x3)] [] S (fX5_meetsItsHat_L13 o S n x1 x2 x3) := by
  intro n
  induction n with
  | zero => intro x1 x2 x3; exact g_none
  | succ n ih =>
    intro x1 x2 x3
    unfold fX5_meetsItsHat_L13
    refine g_iload_n 3 dX5_meetsItsHat_13 rfl ?_
    refine g_iload_n 1 dX5_meetsItsHat_14 rfl ?_
    refine g_icmp_ge (tgt := 55) dX5_meetsItsHat_15 (by decide) (fun h_1 => ?_) (fun h_1 => ?_)
    · refine g_iconst (v := 0) dX5_meetsItsHat_55 (by decide) ?_
      exact g_zret (by decide) dX5_meetsItsHat_56 rfl
    · refine g_iload_n 1 dX5_meetsItsHat_18 rfl ?_
      refine g_bipush (v := 8) dX5_meetsItsHat_19 (by decide) ?_
      refine g_icmp_ge (tgt := 55) dX5_meetsItsHat_21 (by decide) (fun h_2 => ?_) (fun h_2 => ?_)
      · refine g_iconst (v := 0) dX5_meetsItsHat_55 (by decide) ?_
        exact g_zret (by decide) dX5_meetsItsHat_56 rfl
      · refine g_iload_n 2 dX5_meetsItsHat_24 rfl ?_
        refine g_iconst (v := 1) dX5_meetsItsHat_25 (by decide) ?_
        refine g_iload_n 3 dX5_meetsItsHat_26 rfl ?_
        refine g_ishl dX5_meetsItsHat_27 ?_
        refine g_iand dX5_meetsItsHat_28 ?_
        refine g_if_eq (tgt := 49) dX5_meetsItsHat_29 (by decide) (fun h_3 => ?_) (fun h_3 => ?_)
        · refine g_iinc 3 (v := (x3 + 1)) (env' := [(3, .int (x3 + 1)), (0, .ref (gad G o)), (1, .int x1), (2, .int x2)]) dX5_meetsItsHat_49 rfl rfl (by decide) rfl ?_
          refine g_goto (tgt := 13) dX5_meetsItsHat_52 (by decide) ?_
          refine g_env (env' := [(0, .ref (gad G o)), (1, .int x1), (2, .int x2), (3, .int (x3 + 1))]) [1, 2, 3, 0] rfl ?_
          exact ih x1 x2 (x3 + 1)
        · refine g_aload_n 0 dX5_meetsItsHat_32 rfl ?_
          refine g_getQ (ci := 5) (k0 := 0) (C0 := RX5) (T := TX5) (N := 6) (gRu_m hX ho) (gRu_l ho) rfl hiX5_meetsItsHat_5 (by decide) (List.mem_of_getElem? (i := 2) rfl) rfl dX5_meetsItsHat_33 ?_
          refine g_iload_n 3 dX5_meetsItsHat_36 rfl ?_
          refine g_iald hG (gRu_m1 hX ho) (gRu_l1 ho) dX5_meetsItsHat_37 ?_
          refine g_aload_n 0 dX5_meetsItsHat_38 rfl ?_
          refine g_getQ (ci := 5) (k0 := 0) (C0 := RX5) (T := TX5) (N := 6) (gRu_m hX ho) (gRu_l ho) rfl hiX5_meetsItsHat_5 (by decide) (List.mem_of_getElem? (i := 2) rfl) rfl dX5_meetsItsHat_39 ?_
          refine g_iload_n 1 dX5_meetsItsHat_42 rfl ?_
          refine g_iald hG (gRu_m1 hX ho) (gRu_l1 ho) dX5_meetsItsHat_43 ?_
          refine g_icmp_ne (tgt := 49) dX5_meetsItsHat_44 (by decide) (fun h_4 => ?_) (fun h_4 => ?_)
          · refine g_iinc 3 (v := (x3 + 1)) (env' := [(3, .int (x3 + 1)), (0, .ref (gad G o)), (1, .int x1), (2, .int x2)]) dX5_meetsItsHat_49 rfl rfl (by decide) rfl ?_
            refine g_goto (tgt := 13) dX5_meetsItsHat_52 (by decide) ?_
            refine g_env (env' := [(0, .ref (gad G o)), (1, .int x1), (2, .int x2), (3, .int (x3 + 1))]) [1, 2, 3, 0] rfl ?_
            exact ih x1 x2 (x3 + 1)
          · refine g_iconst (v := 1) dX5_meetsItsHat_47 (by decide) ?_
            exact g_zret (by decide) dX5_meetsItsHat_48 rfl
set_option maxRecDepth 100000 in
set_option maxHeartbeats 4000000 in
theorem tX5_meetsItsHat_L {G : gGG} {F : State → Heap → Prop} (hG : gOK G) (hF : gSb G F) (hX : gPX G) (hQ : gOQ G) {o : Nat} (ho : gIsRu o = true) (a1 : Int32) (a2 : Int32) (S : gSt) : Gof G F RX5 cX5_meetsItsHat 4 wsX5_meetsItsHat (some .boolean) (gRm 0) 0 0 (gQ G (fun x => (some (.int x), S))) 0 [(0, .ref (gad G o)), (1, .int a1), (2, .int a2)] [] S (fX5_meetsItsHat o a1 a2 S) := by
  unfold fX5_meetsItsHat
  refine g_aload_n 0 dX5_meetsItsHat_0 rfl ?_
  refine g_getQ (ci := 5) (k0 := 1) (C0 := RX5) (T := TX5) (N := 6) (gRu_m hX ho) (gRu_l ho) rfl hiX5_meetsItsHat_5 (by decide) (List.mem_of_getElem? (i := 1) rfl) rfl dX5_meetsItsHat_1 ?_
  refine g_iconst (v := 3) dX5_meetsItsHat_4 (by decide) ?_
  refine g_iald hG (gRu_m2 hX ho) (gRu_l2 ho) dX5_meetsItsHat_5 ?_
  refine g_if_ne (tgt := 11) dX5_meetsItsHat_6 (by decide) (fun h_1 => ?_) (fun h_1 => ?_)
  · refine g_iconst (v := 0) dX5_meetsItsHat_11 (by decide) ?_
    refine g_istore_n (i := 3) (env' := [(3, .int 0), (0, .ref (gad G o)), (1, .int a1), (2, .int a2)]) dX5_meetsItsHat_12 rfl (by decide) rfl ?_
    refine g_env (env' := [(0, .ref (gad G o)), (1, .int a1), (2, .int a2), (3, .int 0)]) [1, 2, 3, 0] rfl ?_
    exact tX5_meetsItsHat_L13 hG hF hX hQ ho S gFU a1 a2 0
  · refine g_iconst (v := 0) dX5_meetsItsHat_9 (by decide) ?_
    exact g_zret (by decide) dX5_meetsItsHat_10 rfl
set_option maxRecDepth 100000 in
set_option maxHeartbeats 4000000 in
theorem tX5_meetsItsHat {G : gGG} {F : State → Heap → Prop} (hG : gOK G) (hF : gSb G F) (hX : gPX G) (hQ : gOQ G) {o : Nat} (ho : gIsRu o = true) (a1 : Int32) (a2 : Int32) (S : gSt) : gCt G F yX5_meetsItsHat wsX5_meetsItsHat 0 [.ref (gad G o), .int a1, .int a2] S ((fX5_meetsItsHat o a1 a2 S).map (fun x => (some (.int x), S))) := g_met (by decide +kernel) rfl (Nat.le_of_ble_eq_true rfl) (tX5_meetsItsHat_L hG hF hX hQ ho a1 a2 S)
/-! X5_mayCome -/
theorem hiX5_mayCome_5 : ∀ w ∈ u_ws RX5 TX5 6, w ∈ wsX5_mayCome := fun _ hw => List.mem_cons_of_mem _ (List.mem_append_right _ (hw))
set_option maxRecDepth 100000 in
set_option maxHeartbeats 4000000 in
theorem tX5_mayCome_L35 {G : gGG} {F : State → Heap → Prop} (hG : gOK G) (hF : gSb G F) (hX : gPX G) (hQ : gOQ G) {o : Nat} (ho : gIsRu o = true) (S : gSt) (x1 : Int32) (x2 : Int32) (s0 : Int32) : Gof G F RX5 cX5_mayCome 5 wsX5_mayCome (some .boolean) (gRm 1) 0 0 (gQ G (fun x => (some (.int x), S))) 35 [(0, .ref (gad G o)), (1, .int x1), (2, .int x2)] [.int s0] S (fX5_mayCome_L35 o S x1 x2 s0) := by
  unfold fX5_mayCome_L35
  refine g_istore (i := 4) (env' := [(4, .int s0), (0, .ref (gad G o)), (1, .int x1), (2, .int x2)]) dX5_mayCome_35 (by decide) rfl ?_
  refine g_iload 0 dX5_mayCome_37 rfl ?_
  refine g_if_ne (tgt := 66) dX5_mayCome_39 (by decide) (fun h_1 => ?_) (fun h_1 => ?_)
  · refine g_iconst (v := 0) dX5_mayCome_66 (by decide) ?_
    exact g_zret (by decide) dX5_mayCome_67 rfl
  · refine g_aload_n 1 dX5_mayCome_42 rfl ?_
    refine g_getQ (ci := 5) (k0 := 3) (C0 := RX5) (T := TX5) (N := 6) (gRu_m hX ho) (gRu_l ho) rfl hiX5_mayCome_5 (by decide) (List.mem_of_getElem? (i := 2) rfl) rfl dX5_mayCome_43 ?_
    refine g_iload_n 2 dX5_mayCome_46 rfl ?_
    refine g_iald hG (gRu_m4 hX ho) (gRu_l4 ho) dX5_mayCome_47 ?_
    refine g_iload_n 3 dX5_mayCome_48 rfl ?_
    refine g_iand dX5_mayCome_49 ?_
    refine g_if_ne (tgt := 66) dX5_mayCome_50 (by decide) (fun h_2 => ?_) (fun h_2 => ?_)
    · refine g_iconst (v := 0) dX5_mayCome_66 (by decide) ?_
      exact g_zret (by decide) dX5_mayCome_67 rfl
    · refine g_aload_n 1 dX5_mayCome_53 rfl ?_
      refine g_iload_n 2 dX5_mayCome_54 rfl ?_
      refine g_iload_n 3 dX5_mayCome_55 rfl ?_
      refine g_cVp (ci := 5) (C0 := RX5) (T := TX5) (N := 6) (n := 2) (As := [.int x1, .int x2]) (rest := []) hF (tX5_meetsItsHat hG hF hX hQ ho x1 x2 S) gX5_mayCome_X5_meetsItsHat rfl (gRu_m hX ho) (gRu_l ho) rfl ⟨rfl, by decide +kernel, by decide +kernel, by decide +kernel⟩ rfl (gRm_ok (by decide) (by decide)) rfl (Nat.le_of_ble_eq_true rfl) dX5_mayCome_56 (fun v_1 => ?_)
      refine g_if_ne (tgt := 66) dX5_mayCome_59 (by decide) (fun h_3 => ?_) (fun h_3 => ?_)
      · refine g_iconst (v := 0) dX5_mayCome_66 (by decide) ?_
        exact g_zret (by decide) dX5_mayCome_67 rfl
      · refine g_iconst (v := 1) dX5_mayCome_62 (by decide) ?_
        refine g_goto (tgt := 67) dX5_mayCome_63 (by decide) ?_
        exact g_zret (by decide) dX5_mayCome_67 rfl
set_option maxRecDepth 100000 in
set_option maxHeartbeats 4000000 in
theorem tX5_mayCome_L {G : gGG} {F : State → Heap → Prop} (hG : gOK G) (hF : gSb G F) (hX : gPX G) (hQ : gOQ G) {o : Nat} (ho : gIsRu o = true) (a1 : Int32) (a2 : Int32) (S : gSt) : Gof G F RX5 cX5_mayCome 5 wsX5_mayCome (some .boolean) (gRm 1) 0 0 (gQ G (fun x => (some (.int x), S))) 0 [(0, .ref (gad G o)), (1, .int a1), (2, .int a2)] [] S (fX5_mayCome o a1 a2 S) := by
  unfold fX5_mayCome
  refine g_iload_n 1 dX5_mayCome_0 rfl ?_
  refine g_cSp (n := 1) (As := [.int a1]) (rest := []) hF (tX5_isOne hG hF hX hQ a1 S) gX5_mayCome_X5_isOne rfl ⟨by decide +kernel, by decide +kernel, by decide +kernel⟩ rfl (gRm_ok (by decide) (by decide)) rfl (Nat.le_of_ble_eq_true rfl) dX5_mayCome_1 (fun v_1 => ?_)
  refine g_if_ne (tgt := 9) dX5_mayCome_4 (by decide) (fun h_1 => ?_) (fun h_1 => ?_)
  · refine g_iconst (v := 1) dX5_mayCome_9 (by decide) ?_
    refine g_iload_n 1 dX5_mayCome_10 rfl ?_
    refine g_ishl dX5_mayCome_11 ?_
    refine g_iconst (v := 1) dX5_mayCome_12 (by decide) ?_
    refine g_isub dX5_mayCome_13 ?_
    refine g_nI (fun v_2 => ?_)
    refine g_istore_n (i := 3) (env' := [(3, .int v_2), (0, .ref (gad G o)), (1, .int a1), (2, .int a2)]) dX5_mayCome_14 rfl (by decide) rfl ?_
    refine g_aload_n 1 dX5_mayCome_15 rfl ?_
    refine g_getQ (ci := 5) (k0 := 2) (C0 := RX5) (T := TX5) (N := 6) (gRu_m hX ho) (gRu_l ho) rfl hiX5_mayCome_5 (by decide) (List.mem_of_getElem? (i := 1) rfl) rfl dX5_mayCome_16 ?_
    refine g_iload_n 2 dX5_mayCome_19 rfl ?_
    refine g_iald hG (gRu_m3 hX ho) (gRu_l3 ho) dX5_mayCome_20 ?_
    refine g_iload_n 0 dX5_mayCome_21 rfl ?_
    refine g_iand dX5_mayCome_22 ?_
    refine g_iload_n 3 dX5_mayCome_23 rfl ?_
    refine g_iconst (v := (-1)) dX5_mayCome_24 (by decide) ?_
    refine g_ixor dX5_mayCome_25 ?_
    refine g_iand dX5_mayCome_26 ?_
    refine g_if_eq (tgt := 34) dX5_mayCome_27 (by decide) (fun h_2 => ?_) (fun h_2 => ?_)
    · refine g_iconst (v := 0) dX5_mayCome_34 (by decide) ?_
      refine g_env (env' := [(0, .ref (gad G o)), (1, .int a1), (2, .int a2)]) [1, 2, 3] rfl ?_
      exact tX5_mayCome_L35 hG hF hX hQ ho S a1 a2 0
    · refine g_iconst (v := 1) dX5_mayCome_30 (by decide) ?_
      refine g_goto (tgt := 35) dX5_mayCome_31 (by decide) ?_
      refine g_env (env' := [(0, .ref (gad G o)), (1, .int a1), (2, .int a2)]) [1, 2, 3] rfl ?_
      exact tX5_mayCome_L35 hG hF hX hQ ho S a1 a2 1
  · refine g_iconst (v := 0) dX5_mayCome_7 (by decide) ?_
    exact g_zret (by decide) dX5_mayCome_8 rfl
set_option maxRecDepth 100000 in
set_option maxHeartbeats 4000000 in
theorem tX5_mayCome {G : gGG} {F : State → Heap → Prop} (hG : gOK G) (hF : gSb G F) (hX : gPX G) (hQ : gOQ G) {o : Nat} (ho : gIsRu o = true) (a1 : Int32) (a2 : Int32) (S : gSt) : gCt G F yX5_mayCome wsX5_mayCome 1 [.ref (gad G o), .int a1, .int a2] S ((fX5_mayCome o a1 a2 S).map (fun x => (some (.int x), S))) := g_met (by decide +kernel) rfl (Nat.le_of_ble_eq_true rfl) (tX5_mayCome_L hG hF hX hQ ho a1 a2 S)
