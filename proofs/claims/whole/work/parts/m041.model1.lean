/-! X11_in -/
set_option maxRecDepth 100000 in
set_option maxHeartbeats 4000000 in
theorem tX11_in_L {G : gGG} {F : State → Heap → Prop} (hG : gOK G) (hF : gSb G F) (hM : gPM G) (a0 : Int32) (a1 : Int32) (a2 : Int32) (S : gSt) : Gof G F RX11 cX11_in 3 wsX11_in (some .boolean) (gRm 0) 0 0 (gQ G (fun x => (some (.int x), S))) 0 [(0, .int a0), (1, .int a1), (2, .int a2)] [] S (fX11_in a0 a1 a2 S) := by
  unfold fX11_in
  refine g_iload_n 0 dX11_in_0 rfl ?_
  refine g_iload_n 1 dX11_in_1 rfl ?_
  refine g_icmp_lt (tgt := 14) dX11_in_2 (by decide) (fun h_1 => ?_) (fun h_1 => ?_)
  · refine g_iconst (v := 0) dX11_in_14 (by decide) ?_
    exact g_zret (by decide) dX11_in_15 rfl
  · refine g_iload_n 0 dX11_in_5 rfl ?_
    refine g_iload_n 2 dX11_in_6 rfl ?_
    refine g_icmp_gt (tgt := 14) dX11_in_7 (by decide) (fun h_2 => ?_) (fun h_2 => ?_)
    · refine g_iconst (v := 0) dX11_in_14 (by decide) ?_
      exact g_zret (by decide) dX11_in_15 rfl
    · refine g_iconst (v := 1) dX11_in_10 (by decide) ?_
      refine g_goto (tgt := 15) dX11_in_11 (by decide) ?_
      exact g_zret (by decide) dX11_in_15 rfl
set_option maxRecDepth 100000 in
set_option maxHeartbeats 4000000 in
theorem tX11_in {G : gGG} {F : State → Heap → Prop} (hG : gOK G) (hF : gSb G F) (hM : gPM G) (a0 : Int32) (a1 : Int32) (a2 : Int32) (S : gSt) : gCt G F yX11_in wsX11_in 0 [.int a0, .int a1, .int a2] S ((fX11_in a0 a1 a2 S).map (fun x => (some (.int x), S))) := g_met (by decide +kernel) rfl (Nat.le_of_ble_eq_true rfl) (tX11_in_L hG hF hM a0 a1 a2 S)
/-! X11_type -/
theorem hiX11_type_11 : ∀ w ∈ u_ws RX11 TX11 17, w ∈ wsX11_type := fun _ hw => List.mem_cons_of_mem _ (List.mem_append_right _ (hw))
set_option maxRecDepth 100000 in
set_option maxHeartbeats 4000000 in
theorem tX11_type_L37 {G : gGG} {F : State → Heap → Prop} (hG : gOK G) (hF : gSb G F) (hM : gPM G) : ∀ (n : Nat) (x1 : Int64) (x4 : Int32) (S : gSt), Gof G F RX11 cX11_type 5 wsX11_type (some .int) (gRm 1) 0 0 (gQ G (fun x => (some (.int x.1), x.2))) 37 [(0, .ref (gad G 77)), (1, .long x1), (4, .int x4)] [] S (fX11_type_L37 n x1 x4 S) := by
  intro n
  induction n with
  | zero => intro x1 x4 S; exact g_none
  | succ n ih =>
    intro x1 x4 S
    unfold fX11_type_L37
    refine g_iload 2 dX11_type_37 rfl ?_
    refine g_if_lt (tgt := 79) dX11_type_39 (by decide) (fun h_1 => ?_) (fun h_1 => ?_)
    · refine g_aload_n 0 dX11_type_79 rfl ?_
      refine g_getI (ci := 11) (k0 := 3) (C0 := RX11) (T := TX11) (N := 17) (hM 77 (by decide)) rfl rfl hiX11_type_11 (by decide) (List.mem_of_getElem? (i := 2) rfl) rfl dX11_type_80 ?_
      exact g_iret dX11_type_83 rfl
    · refine g_aload_n 0 dX11_type_42 rfl ?_
      refine g_getK (ci := 11) (k0 := 2) (C0 := RX11) (T := TX11) (N := 17) (hM 77 (by decide)) rfl rfl hiX11_type_11 (by decide) (List.mem_of_getElem? (i := 3) rfl) rfl dX11_type_43 ?_
      refine g_aload_n 0 dX11_type_46 rfl ?_
      refine g_getI (ci := 11) (k0 := 3) (C0 := RX11) (T := TX11) (N := 17) (hM 77 (by decide)) rfl rfl hiX11_type_11 (by decide) (List.mem_of_getElem? (i := 2) rfl) rfl dX11_type_47 ?_
      refine g_lload_n 1 dX11_type_50 rfl ?_
      refine g_bipush (v := 8) dX11_type_51 (by decide) ?_
      refine g_iload 2 dX11_type_53 rfl ?_
      refine g_imul dX11_type_55 ?_
      refine g_lshr dX11_type_56 ?_
      refine g_ldc2 (List.mem_of_getElem? (i := 4) rfl) dX11_type_57 ?_
      refine g_land dX11_type_60 ?_
      refine g_l2i dX11_type_61 ?_
      refine g_iast hG (hM 78 (by decide)) rfl dX11_type_62 ?_
      refine g_nS (fun S_1 => ?_)
      refine g_aload_n 0 dX11_type_63 rfl ?_
      refine g_dup dX11_type_64 rfl ?_
      refine g_getI (ci := 11) (k0 := 3) (C0 := RX11) (T := TX11) (N := 17) (hM 77 (by decide)) rfl rfl hiX11_type_11 (by decide) (List.mem_of_getElem? (i := 2) rfl) rfl dX11_type_65 ?_
      refine g_iconst (v := 1) dX11_type_68 (by decide) ?_
      refine g_iadd dX11_type_69 ?_
      refine g_putI hG (ci := 11) (k0 := 3) (C0 := RX11) (T := TX11) (N := 17) (hM 77 (by decide)) rfl rfl hiX11_type_11 (by decide) (List.mem_of_getElem? (i := 2) rfl) tyX11 tyX11_ok nmX11 rfl rfl rfl rfl dX11_type_70 ?_
      refine g_nS (fun S_2 => ?_)
      refine g_iinc 2 (v := (x4 + (-1))) (env' := [(4, .int (x4 + (-1))), (0, .ref (gad G 77)), (1, .long x1)]) dX11_type_73 rfl rfl (by decide) rfl ?_
      refine g_goto (tgt := 37) dX11_type_76 (by decide) ?_
      refine g_env (env' := [(0, .ref (gad G 77)), (1, .long x1), (4, .int (x4 + (-1)))]) [1, 2, 0] rfl ?_
      exact ih x1 (x4 + (-1)) S_2
set_option maxRecDepth 100000 in
set_option maxHeartbeats 4000000 in
theorem tX11_type_L {G : gGG} {F : State → Heap → Prop} (hG : gOK G) (hF : gSb G F) (hM : gPM G) (a1 : Int64) (a3 : Int32) (S : gSt) : Gof G F RX11 cX11_type 5 wsX11_type (some .int) (gRm 1) 0 0 (gQ G (fun x => (some (.int x.1), x.2))) 0 [(0, .ref (gad G 77)), (1, .long a1), (3, .int a3)] [] S (fX11_type a1 a3 S) := by
  unfold fX11_type
  refine g_aload_n 0 dX11_type_0 rfl ?_
  refine g_iconst (v := 0) dX11_type_1 (by decide) ?_
  refine g_putI hG (ci := 11) (k0 := 0) (C0 := RX11) (T := TX11) (N := 17) (hM 77 (by decide)) rfl rfl hiX11_type_11 (by decide) (List.mem_of_getElem? (i := 1) rfl) tyX11 tyX11_ok nmX11 rfl rfl rfl rfl dX11_type_2 ?_
  refine g_nS (fun S_1 => ?_)
  refine g_iload_n 2 dX11_type_5 rfl ?_
  refine g_iconst (v := 1) dX11_type_6 (by decide) ?_
  refine g_bipush (v := 8) dX11_type_7 (by decide) ?_
  refine g_cSp (n := 3) (As := [.int a3, .int 1, .int 8]) (rest := []) hF (tX11_in hG hF hM a3 1 8 S_1) gX11_type_X11_in rfl ⟨by decide +kernel, by decide +kernel, by decide +kernel⟩ rfl (gRm_ok (by decide) (by decide)) rfl (Nat.le_of_ble_eq_true rfl) dX11_type_9 (fun v_2 => ?_)
  refine g_if_ne (tgt := 17) dX11_type_12 (by decide) (fun h_1 => ?_) (fun h_1 => ?_)
  · refine g_aload_n 0 dX11_type_17 rfl ?_
    refine g_getI (ci := 11) (k0 := 3) (C0 := RX11) (T := TX11) (N := 17) (hM 77 (by decide)) rfl rfl hiX11_type_11 (by decide) (List.mem_of_getElem? (i := 2) rfl) rfl dX11_type_18 ?_
    refine g_iload_n 2 dX11_type_21 rfl ?_
    refine g_iadd dX11_type_22 ?_
    refine g_sipush (v := 300) dX11_type_23 (by decide) ?_
    refine g_icmp_le (tgt := 32) dX11_type_26 (by decide) (fun h_2 => ?_) (fun h_2 => ?_)
    · refine g_iload_n 2 dX11_type_32 rfl ?_
      refine g_iconst (v := 1) dX11_type_33 (by decide) ?_
      refine g_isub dX11_type_34 ?_
      refine g_nI (fun v_3 => ?_)
      refine g_istore (i := 4) (env' := [(4, .int v_3), (0, .ref (gad G 77)), (1, .long a1), (3, .int a3)]) dX11_type_35 (by decide) rfl ?_
      refine g_env (env' := [(0, .ref (gad G 77)), (1, .long a1), (4, .int v_3)]) [1, 2, 0] rfl ?_
      exact tX11_type_L37 hG hF hM gFU a1 v_3 S_1
    · refine g_bipush (v := (-3)) dX11_type_29 (by decide) ?_
      exact g_iret dX11_type_31 rfl
  · refine g_iconst (v := (-1)) dX11_type_15 (by decide) ?_
    exact g_iret dX11_type_16 rfl
set_option maxRecDepth 100000 in
set_option maxHeartbeats 4000000 in
theorem tX11_type {G : gGG} {F : State → Heap → Prop} (hG : gOK G) (hF : gSb G F) (hM : gPM G) (a1 : Int64) (a3 : Int32) (S : gSt) : gCt G F yX11_type wsX11_type 1 [.ref (gad G 77), .long a1, .int a3] S ((fX11_type a1 a3 S).map (fun x => (some (.int x.1), x.2))) := g_met (by decide +kernel) rfl (Nat.le_of_ble_eq_true rfl) (tX11_type_L hG hF hM a1 a3 S)
/-! X11_clear -/
theorem hiX11_clear_11 : ∀ w ∈ u_ws RX11 TX11 17, w ∈ wsX11_clear := fun _ hw => List.mem_cons_of_mem _ (List.mem_append_right _ (hw))
set_option maxRecDepth 100000 in
set_option maxHeartbeats 4000000 in
theorem tX11_clear_L {G : gGG} {F : State → Heap → Prop} (hG : gOK G) (hF : gSb G F) (hM : gPM G) (S : gSt) : Gof G F RX11 cX11_clear 2 wsX11_clear (some .int) (gRm 0) 0 0 (gQ G (fun x => (some (.int x.1), x.2))) 0 [(0, .ref (gad G 77))] [] S (fX11_clear S) := by
  unfold fX11_clear
  refine g_aload_n 0 dX11_clear_0 rfl ?_
  refine g_iconst (v := 0) dX11_clear_1 (by decide) ?_
  refine g_putI hG (ci := 11) (k0 := 0) (C0 := RX11) (T := TX11) (N := 17) (hM 77 (by decide)) rfl rfl hiX11_clear_11 (by decide) (List.mem_of_getElem? (i := 1) rfl) tyX11 tyX11_ok nmX11 rfl rfl rfl rfl dX11_clear_2 ?_
  refine g_nS (fun S_1 => ?_)
  refine g_aload_n 0 dX11_clear_5 rfl ?_
  refine g_getI (ci := 11) (k0 := 3) (C0 := RX11) (T := TX11) (N := 17) (hM 77 (by decide)) rfl rfl hiX11_clear_11 (by decide) (List.mem_of_getElem? (i := 2) rfl) rfl dX11_clear_6 ?_
  refine g_nI (fun v_2 => ?_)
  refine g_istore_n (i := 1) (env' := [(1, .int v_2), (0, .ref (gad G 77))]) dX11_clear_9 rfl (by decide) rfl ?_
  refine g_aload_n 1 dX11_clear_10 rfl ?_
  refine g_iconst (v := 0) dX11_clear_11 (by decide) ?_
  refine g_putI hG (ci := 11) (k0 := 3) (C0 := RX11) (T := TX11) (N := 17) (hM 77 (by decide)) rfl rfl hiX11_clear_11 (by decide) (List.mem_of_getElem? (i := 2) rfl) tyX11 tyX11_ok nmX11 rfl rfl rfl rfl dX11_clear_12 ?_
  refine g_nS (fun S_3 => ?_)
  refine g_iload_n 0 dX11_clear_15 rfl ?_
  exact g_iret dX11_clear_16 rfl
set_option maxRecDepth 100000 in
set_option maxHeartbeats 4000000 in
theorem tX11_clear {G : gGG} {F : State → Heap → Prop} (hG : gOK G) (hF : gSb G F) (hM : gPM G) (S : gSt) : gCt G F yX11_clear wsX11_clear 0 [.ref (gad G 77)] S ((fX11_clear S).map (fun x => (some (.int x.1), x.2))) := g_met (by decide +kernel) rfl (Nat.le_of_ble_eq_true rfl) (tX11_clear_L hG hF hM S)
/-! X11_byteAt -/
theorem hiX11_byteAt_11 : ∀ w ∈ u_ws RX11 TX11 17, w ∈ wsX11_byteAt := fun _ hw => List.mem_cons_of_mem _ (List.mem_append_right _ (hw))
set_option maxRecDepth 100000 in
set_option maxHeartbeats 4000000 in
theorem tX11_byteAt_L {G : gGG} {F : State → Heap → Prop} (hG : gOK G) (hF : gSb G F) (hM : gPM G) (a1 : Int32) (S : gSt) : Gof G F RX11 cX11_byteAt 2 wsX11_byteAt (some .int) (gRm 0) 0 0 (gQ G (fun x => (some (.int x), S))) 0 [(0, .ref (gad G 77)), (1, .int a1)] [] S (fX11_byteAt a1 S) := by
  unfold fX11_byteAt
  refine g_iload_n 1 dX11_byteAt_0 rfl ?_
  refine g_aload_n 0 dX11_byteAt_1 rfl ?_
  refine g_getI (ci := 11) (k0 := 3) (C0 := RX11) (T := TX11) (N := 17) (hM 77 (by decide)) rfl rfl hiX11_byteAt_11 (by decide) (List.mem_of_getElem? (i := 1) rfl) rfl dX11_byteAt_2 ?_
  refine g_icmp_ge (tgt := 17) dX11_byteAt_5 (by decide) (fun h_1 => ?_) (fun h_1 => ?_)
  · refine g_iconst (v := (-1)) dX11_byteAt_17 (by decide) ?_
    exact g_iret dX11_byteAt_18 rfl
  · refine g_aload_n 0 dX11_byteAt_8 rfl ?_
    refine g_getK (ci := 11) (k0 := 2) (C0 := RX11) (T := TX11) (N := 17) (hM 77 (by decide)) rfl rfl hiX11_byteAt_11 (by decide) (List.mem_of_getElem? (i := 2) rfl) rfl dX11_byteAt_9 ?_
    refine g_iload_n 1 dX11_byteAt_12 rfl ?_
    refine g_iald hG (hM 78 (by decide)) rfl dX11_byteAt_13 ?_
    refine g_goto (tgt := 18) dX11_byteAt_14 (by decide) ?_
    exact g_iret dX11_byteAt_18 rfl
set_option maxRecDepth 100000 in
set_option maxHeartbeats 4000000 in
theorem tX11_byteAt {G : gGG} {F : State → Heap → Prop} (hG : gOK G) (hF : gSb G F) (hM : gPM G) (a1 : Int32) (S : gSt) : gCt G F yX11_byteAt wsX11_byteAt 0 [.ref (gad G 77), .int a1] S ((fX11_byteAt a1 S).map (fun x => (some (.int x), S))) := g_met (by decide +kernel) rfl (Nat.le_of_ble_eq_true rfl) (tX11_byteAt_L hG hF hM a1 S)
/-! X11_add -/
set_option maxRecDepth 100000 in
set_option maxHeartbeats 4000000 in
theorem tX11_add_L {G : gGG} {F : State → Heap → Prop} (hG : gOK G) (hF : gSb G F) (hM : gPM G) (a0 : Int64) (a2 : Int32) (S : gSt) : Gof G F RX11 cX11_add 3 wsX11_add (some .long) (gRm 0) 0 0 (gQ G (fun x => (some (.long x), S))) 0 [(0, .long a0), (2, .int a2)] [] S (fX11_add a0 a2 S) := by
  unfold fX11_add
  refine g_iload_n 1 dX11_add_0 rfl ?_
  refine g_if_ne (tgt := 8) dX11_add_1 (by decide) (fun h_1 => ?_) (fun h_1 => ?_)
  · refine g_ldc2 (List.mem_of_getElem? (i := 1) rfl) dX11_add_8 ?_
    refine g_lload_n 0 dX11_add_11 rfl ?_
    refine g_lmul dX11_add_12 ?_
    refine g_iload_n 1 dX11_add_13 rfl ?_
    refine g_i2l dX11_add_14 ?_
    refine g_ladd dX11_add_15 ?_
    exact g_lret dX11_add_16 rfl
  · refine g_lload_n 0 dX11_add_4 rfl ?_
    refine g_goto (tgt := 16) dX11_add_5 (by decide) ?_
    exact g_lret dX11_add_16 rfl
set_option maxRecDepth 100000 in
set_option maxHeartbeats 4000000 in
theorem tX11_add {G : gGG} {F : State → Heap → Prop} (hG : gOK G) (hF : gSb G F) (hM : gPM G) (a0 : Int64) (a2 : Int32) (S : gSt) : gCt G F yX11_add wsX11_add 0 [.long a0, .int a2] S ((fX11_add a0 a2 S).map (fun x => (some (.long x), S))) := g_met (by decide +kernel) rfl (Nat.le_of_ble_eq_true rfl) (tX11_add_L hG hF hM a0 a2 S)
/-! X11_named -/
set_option maxRecDepth 100000 in
set_option maxHeartbeats 4000000 in
theorem tX11_named_L {G : gGG} {F : State → Heap → Prop} (hG : gOK G) (hF : gSb G F) (hM : gPM G) (a0 : Int32) (a1 : Int32) (a2 : Int32) (a3 : Int32) (a4 : Int32) (a5 : Int32) (S : gSt) : Gof G F RX11 cX11_named 6 wsX11_named (some .long) (gRm 1) 0 0 (gQ G (fun x => (some (.long x), S))) 0 [(0, .int a0), (1, .int a1), (2, .int a2), (3, .int a3), (4, .int a4), (5, .int a5)] [] S (fX11_named a0 a1 a2 a3 a4 a5 S) := by
  unfold fX11_named
  refine g_lconst (v := 0) dX11_named_0 rfl ?_
  refine g_iload_n 0 dX11_named_1 rfl ?_
  refine g_cSj (n := 2) (As := [.long 0, .int a0]) (rest := []) hF (tX11_add hG hF hM 0 a0 S) gX11_named_X11_add rfl ⟨by decide +kernel, by decide +kernel, by decide +kernel⟩ rfl (gRm_ok (by decide) (by decide)) rfl (Nat.le_of_ble_eq_true rfl) dX11_named_2 (fun v_1 => ?_)
  refine g_iload_n 1 dX11_named_5 rfl ?_
  refine g_cSj (n := 2) (As := [.long v_1, .int a1]) (rest := []) hF (tX11_add hG hF hM v_1 a1 S) gX11_named_X11_add rfl ⟨by decide +kernel, by decide +kernel, by decide +kernel⟩ rfl (gRm_ok (by decide) (by decide)) rfl (Nat.le_of_ble_eq_true rfl) dX11_named_6 (fun v_2 => ?_)
  refine g_iload_n 2 dX11_named_9 rfl ?_
  refine g_cSj (n := 2) (As := [.long v_2, .int a2]) (rest := []) hF (tX11_add hG hF hM v_2 a2 S) gX11_named_X11_add rfl ⟨by decide +kernel, by decide +kernel, by decide +kernel⟩ rfl (gRm_ok (by decide) (by decide)) rfl (Nat.le_of_ble_eq_true rfl) dX11_named_10 (fun v_3 => ?_)
  refine g_iload_n 3 dX11_named_13 rfl ?_
  refine g_cSj (n := 2) (As := [.long v_3, .int a3]) (rest := []) hF (tX11_add hG hF hM v_3 a3 S) gX11_named_X11_add rfl ⟨by decide +kernel, by decide +kernel, by decide +kernel⟩ rfl (gRm_ok (by decide) (by decide)) rfl (Nat.le_of_ble_eq_true rfl) dX11_named_14 (fun v_4 => ?_)
  refine g_iload 4 dX11_named_17 rfl ?_
  refine g_cSj (n := 2) (As := [.long v_4, .int a4]) (rest := []) hF (tX11_add hG hF hM v_4 a4 S) gX11_named_X11_add rfl ⟨by decide +kernel, by decide +kernel, by decide +kernel⟩ rfl (gRm_ok (by decide) (by decide)) rfl (Nat.le_of_ble_eq_true rfl) dX11_named_19 (fun v_5 => ?_)
  refine g_iload 5 dX11_named_22 rfl ?_
  refine g_cSj (n := 2) (As := [.long v_5, .int a5]) (rest := []) hF (tX11_add hG hF hM v_5 a5 S) gX11_named_X11_add rfl ⟨by decide +kernel, by decide +kernel, by decide +kernel⟩ rfl (gRm_ok (by decide) (by decide)) rfl (Nat.le_of_ble_eq_true rfl) dX11_named_24 (fun v_6 => ?_)
  exact g_lret dX11_named_27 rfl
set_option maxRecDepth 100000 in
set_option maxHeartbeats 4000000 in
theorem tX11_named {G : gGG} {F : State → Heap → Prop} (hG : gOK G) (hF : gSb G F) (hM : gPM G) (a0 : Int32) (a1 : Int32) (a2 : Int32) (a3 : Int32) (a4 : Int32) (a5 : Int32) (S : gSt) : gCt G F yX11_named wsX11_named 1 [.int a0, .int a1, .int a2, .int a3, .int a4, .int a5] S ((fX11_named a0 a1 a2 a3 a4 a5 S).map (fun x => (some (.long x), S))) := g_met (by decide +kernel) rfl (Nat.le_of_ble_eq_true rfl) (tX11_named_L hG hF hM a0 a1 a2 a3 a4 a5 S)
/-! X11_wordOf -/
set_option maxRecDepth 100000 in
set_option maxHeartbeats 4000000 in
theorem tX11_wordOf_L238 {G : gGG} {F : State → Heap → Prop} (hG : gOK G) (hF : gSb G F) (hM : gPM G) (S : gSt) (x0 : Int64) (s0 : Int32) : Gof G F RX11 cX11_wordOf 4 wsX11_wordOf (some .int) (gRm 2) 0 0 (gQ G (fun x => (some (.int x), S))) 238 [(0, .long x0)] [.int s0] S (fX11_wordOf_L238 S x0 s0) := by
  unfold fX11_wordOf_L238
  refine g_istore_n (i := 3) (env' := [(3, .int s0), (0, .long x0)]) dX11_wordOf_238 rfl (by decide) rfl ?_
  refine g_iload_n 0 dX11_wordOf_239 rfl ?_
  refine g_bipush (v := (-9)) dX11_wordOf_240 (by decide) ?_
  refine g_icmp_eq (tgt := 249) dX11_wordOf_242 (by decide) (fun h_1 => ?_) (fun h_1 => ?_)
  · refine g_lload_n 1 dX11_wordOf_249 rfl ?_
    refine g_bipush (v := 119) dX11_wordOf_250 (by decide) ?_
    refine g_bipush (v := 111) dX11_wordOf_252 (by decide) ?_
    refine g_bipush (v := 114) dX11_wordOf_254 (by decide) ?_
    refine g_bipush (v := 116) dX11_wordOf_256 (by decide) ?_
    refine g_bipush (v := 104) dX11_wordOf_258 (by decide) ?_
    refine g_iconst (v := 0) dX11_wordOf_260 (by decide) ?_
    refine g_cSj (n := 6) (As := [.int 119, .int 111, .int 114, .int 116, .int 104, .int 0]) (rest := [.long x0]) hF (tX11_named hG hF hM 119 111 114 116 104 0 S) gX11_wordOf_X11_named rfl ⟨by decide +kernel, by decide +kernel, by decide +kernel⟩ rfl (gRm_ok (by decide) (by decide)) rfl (Nat.le_of_ble_eq_true rfl) dX11_wordOf_261 (fun v_1 => ?_)
    refine g_lcmp dX11_wordOf_264 ?_
    refine g_if_ne (tgt := 273) dX11_wordOf_265 (by decide) (fun h_2 => ?_) (fun h_2 => ?_)
    · refine g_lload_n 1 dX11_wordOf_273 rfl ?_
      refine g_bipush (v := 99) dX11_wordOf_274 (by decide) ?_
      refine g_bipush (v := 111) dX11_wordOf_276 (by decide) ?_
      refine g_bipush (v := 115) dX11_wordOf_278 (by decide) ?_
      refine g_bipush (v := 116) dX11_wordOf_280 (by decide) ?_
      refine g_iconst (v := 0) dX11_wordOf_282 (by decide) ?_
      refine g_iconst (v := 0) dX11_wordOf_283 (by decide) ?_
      refine g_cSj (n := 6) (As := [.int 99, .int 111, .int 115, .int 116, .int 0, .int 0]) (rest := [.long x0]) hF (tX11_named hG hF hM 99 111 115 116 0 0 S) gX11_wordOf_X11_named rfl ⟨by decide +kernel, by decide +kernel, by decide +kernel⟩ rfl (gRm_ok (by decide) (by decide)) rfl (Nat.le_of_ble_eq_true rfl) dX11_wordOf_284 (fun v_2 => ?_)
      refine g_lcmp dX11_wordOf_287 ?_
      refine g_if_ne (tgt := 296) dX11_wordOf_288 (by decide) (fun h_3 => ?_) (fun h_3 => ?_)
      · refine g_bipush (v := (-9)) dX11_wordOf_296 (by decide) ?_
        exact g_iret dX11_wordOf_298 rfl
      · refine g_bipush (v := 10) dX11_wordOf_291 (by decide) ?_
        refine g_goto (tgt := 298) dX11_wordOf_293 (by decide) ?_
        exact g_iret dX11_wordOf_298 rfl
    · refine g_bipush (v := 9) dX11_wordOf_268 (by decide) ?_
      refine g_goto (tgt := 298) dX11_wordOf_270 (by decide) ?_
      exact g_iret dX11_wordOf_298 rfl
  · refine g_iload_n 0 dX11_wordOf_245 rfl ?_
    refine g_goto (tgt := 298) dX11_wordOf_246 (by decide) ?_
    exact g_iret dX11_wordOf_298 rfl
set_option maxRecDepth 100000 in
set_option maxHeartbeats 4000000 in
theorem tX11_wordOf_L156 {G : gGG} {F : State → Heap → Prop} (hG : gOK G) (hF : gSb G F) (hM : gPM G) (S : gSt) (x0 : Int64) (s0 : Int32) : Gof G F RX11 cX11_wordOf 4 wsX11_wordOf (some .int) (gRm 2) 0 0 (gQ G (fun x => (some (.int x), S))) 156 [(0, .long x0)] [.int s0] S (fX11_wordOf_L156 S x0 s0) := by
  unfold fX11_wordOf_L156
  refine g_istore_n (i := 2) (env' := [(2, .int s0), (0, .long x0)]) dX11_wordOf_156 rfl (by decide) rfl ?_
  refine g_iload_n 0 dX11_wordOf_157 rfl ?_
  refine g_bipush (v := (-9)) dX11_wordOf_158 (by decide) ?_
  refine g_icmp_eq (tgt := 165) dX11_wordOf_160 (by decide) (fun h_1 => ?_) (fun h_1 => ?_)
  · refine g_lload_n 1 dX11_wordOf_165 rfl ?_
    refine g_bipush (v := 117) dX11_wordOf_166 (by decide) ?_
    refine g_bipush (v := 110) dX11_wordOf_168 (by decide) ?_
    refine g_bipush (v := 108) dX11_wordOf_170 (by decide) ?_
    refine g_bipush (v := 105) dX11_wordOf_172 (by decide) ?_
    refine g_bipush (v := 107) dX11_wordOf_174 (by decide) ?_
    refine g_bipush (v := 101) dX11_wordOf_176 (by decide) ?_
    refine g_cSj (n := 6) (As := [.int 117, .int 110, .int 108, .int 105, .int 107, .int 101]) (rest := [.long x0]) hF (tX11_named hG hF hM 117 110 108 105 107 101 S) gX11_wordOf_X11_named rfl ⟨by decide +kernel, by decide +kernel, by decide +kernel⟩ rfl (gRm_ok (by decide) (by decide)) rfl (Nat.le_of_ble_eq_true rfl) dX11_wordOf_178 (fun v_1 => ?_)
    refine g_lcmp dX11_wordOf_181 ?_
    refine g_if_ne (tgt := 189) dX11_wordOf_182 (by decide) (fun h_2 => ?_) (fun h_2 => ?_)
    · refine g_lload_n 1 dX11_wordOf_189 rfl ?_
      refine g_bipush (v := 114) dX11_wordOf_190 (by decide) ?_
      refine g_bipush (v := 105) dX11_wordOf_192 (by decide) ?_
      refine g_bipush (v := 110) dX11_wordOf_194 (by decide) ?_
      refine g_bipush (v := 103) dX11_wordOf_196 (by decide) ?_
      refine g_iconst (v := 0) dX11_wordOf_198 (by decide) ?_
      refine g_iconst (v := 0) dX11_wordOf_199 (by decide) ?_
      refine g_cSj (n := 6) (As := [.int 114, .int 105, .int 110, .int 103, .int 0, .int 0]) (rest := [.long x0]) hF (tX11_named hG hF hM 114 105 110 103 0 0 S) gX11_wordOf_X11_named rfl ⟨by decide +kernel, by decide +kernel, by decide +kernel⟩ rfl (gRm_ok (by decide) (by decide)) rfl (Nat.le_of_ble_eq_true rfl) dX11_wordOf_200 (fun v_2 => ?_)
      refine g_lcmp dX11_wordOf_203 ?_
      refine g_if_ne (tgt := 212) dX11_wordOf_204 (by decide) (fun h_3 => ?_) (fun h_3 => ?_)
      · refine g_lload_n 1 dX11_wordOf_212 rfl ?_
        refine g_bipush (v := 97) dX11_wordOf_213 (by decide) ?_
        refine g_bipush (v := 112) dX11_wordOf_215 (by decide) ?_
        refine g_bipush (v := 97) dX11_wordOf_217 (by decide) ?_
        refine g_bipush (v := 114) dX11_wordOf_219 (by decide) ?_
        refine g_bipush (v := 116) dX11_wordOf_221 (by decide) ?_
        refine g_iconst (v := 0) dX11_wordOf_223 (by decide) ?_
        refine g_cSj (n := 6) (As := [.int 97, .int 112, .int 97, .int 114, .int 116, .int 0]) (rest := [.long x0]) hF (tX11_named hG hF hM 97 112 97 114 116 0 S) gX11_wordOf_X11_named rfl ⟨by decide +kernel, by decide +kernel, by decide +kernel⟩ rfl (gRm_ok (by decide) (by decide)) rfl (Nat.le_of_ble_eq_true rfl) dX11_wordOf_224 (fun v_3 => ?_)
        refine g_lcmp dX11_wordOf_227 ?_
        refine g_if_ne (tgt := 236) dX11_wordOf_228 (by decide) (fun h_4 => ?_) (fun h_4 => ?_)
        · refine g_bipush (v := (-9)) dX11_wordOf_236 (by decide) ?_
          refine g_env (env' := [(0, .long x0)]) [1] rfl ?_
          exact tX11_wordOf_L238 hG hF hM S x0 (-9)
        · refine g_bipush (v := 8) dX11_wordOf_231 (by decide) ?_
          refine g_goto (tgt := 238) dX11_wordOf_233 (by decide) ?_
          refine g_env (env' := [(0, .long x0)]) [1] rfl ?_
          exact tX11_wordOf_L238 hG hF hM S x0 8
      · refine g_bipush (v := 6) dX11_wordOf_207 (by decide) ?_
        refine g_goto (tgt := 238) dX11_wordOf_209 (by decide) ?_
        refine g_env (env' := [(0, .long x0)]) [1] rfl ?_
        exact tX11_wordOf_L238 hG hF hM S x0 6
    · refine g_iconst (v := 5) dX11_wordOf_185 (by decide) ?_
      refine g_goto (tgt := 238) dX11_wordOf_186 (by decide) ?_
      refine g_env (env' := [(0, .long x0)]) [1] rfl ?_
      exact tX11_wordOf_L238 hG hF hM S x0 5
  · refine g_iload_n 0 dX11_wordOf_163 rfl ?_
    exact g_iret dX11_wordOf_164 rfl
set_option maxRecDepth 100000 in
set_option maxHeartbeats 4000000 in
theorem tX11_wordOf_L {G : gGG} {F : State → Heap → Prop} (hG : gOK G) (hF : gSb G F) (hM : gPM G) (a0 : Int64) (S : gSt) : Gof G F RX11 cX11_wordOf 4 wsX11_wordOf (some .int) (gRm 2) 0 0 (gQ G (fun x => (some (.int x), S))) 0 [(0, .long a0)] [] S (fX11_wordOf a0 S) := by
  unfold fX11_wordOf
  refine g_lload_n 0 dX11_wordOf_0 rfl ?_
  refine g_bipush (v := 112) dX11_wordOf_1 (by decide) ?_
  refine g_bipush (v := 97) dX11_wordOf_3 (by decide) ?_
  refine g_bipush (v := 114) dX11_wordOf_5 (by decide) ?_
  refine g_bipush (v := 116) dX11_wordOf_7 (by decide) ?_
  refine g_bipush (v := 105) dX11_wordOf_9 (by decide) ?_
  refine g_bipush (v := 101) dX11_wordOf_11 (by decide) ?_
  refine g_cSj (n := 6) (As := [.int 112, .int 97, .int 114, .int 116, .int 105, .int 101]) (rest := [.long a0]) hF (tX11_named hG hF hM 112 97 114 116 105 101 S) gX11_wordOf_X11_named rfl ⟨by decide +kernel, by decide +kernel, by decide +kernel⟩ rfl (gRm_ok (by decide) (by decide)) rfl (Nat.le_of_ble_eq_true rfl) dX11_wordOf_13 (fun v_1 => ?_)
  refine g_bipush (v := 115) dX11_wordOf_16 (by decide) ?_
  refine g_cSj (n := 2) (As := [.long v_1, .int 115]) (rest := [.long a0]) hF (tX11_add hG hF hM v_1 115 S) gX11_wordOf_X11_add rfl ⟨by decide +kernel, by decide +kernel, by decide +kernel⟩ rfl (gRm_ok (by decide) (by decide)) rfl (Nat.le_of_ble_eq_true rfl) dX11_wordOf_18 (fun v_2 => ?_)
  refine g_iconst (v := 0) dX11_wordOf_21 (by decide) ?_
  refine g_cSj (n := 2) (As := [.long v_2, .int 0]) (rest := [.long a0]) hF (tX11_add hG hF hM v_2 0 S) gX11_wordOf_X11_add rfl ⟨by decide +kernel, by decide +kernel, by decide +kernel⟩ rfl (gRm_ok (by decide) (by decide)) rfl (Nat.le_of_ble_eq_true rfl) dX11_wordOf_22 (fun v_3 => ?_)
  refine g_lcmp dX11_wordOf_25 ?_
  refine g_if_ne (tgt := 31) dX11_wordOf_26 (by decide) (fun h_1 => ?_) (fun h_1 => ?_)
  · refine g_lload_n 0 dX11_wordOf_31 rfl ?_
    refine g_bipush (v := 116) dX11_wordOf_32 (by decide) ?_
    refine g_bipush (v := 111) dX11_wordOf_34 (by decide) ?_
    refine g_bipush (v := 103) dX11_wordOf_36 (by decide) ?_
    refine g_bipush (v := 101) dX11_wordOf_38 (by decide) ?_
    refine g_bipush (v := 116) dX11_wordOf_40 (by decide) ?_
    refine g_bipush (v := 104) dX11_wordOf_42 (by decide) ?_
    refine g_cSj (n := 6) (As := [.int 116, .int 111, .int 103, .int 101, .int 116, .int 104]) (rest := [.long a0]) hF (tX11_named hG hF hM 116 111 103 101 116 104 S) gX11_wordOf_X11_named rfl ⟨by decide +kernel, by decide +kernel, by decide +kernel⟩ rfl (gRm_ok (by decide) (by decide)) rfl (Nat.le_of_ble_eq_true rfl) dX11_wordOf_44 (fun v_4 => ?_)
    refine g_bipush (v := 101) dX11_wordOf_47 (by decide) ?_
    refine g_cSj (n := 2) (As := [.long v_4, .int 101]) (rest := [.long a0]) hF (tX11_add hG hF hM v_4 101 S) gX11_wordOf_X11_add rfl ⟨by decide +kernel, by decide +kernel, by decide +kernel⟩ rfl (gRm_ok (by decide) (by decide)) rfl (Nat.le_of_ble_eq_true rfl) dX11_wordOf_49 (fun v_5 => ?_)
    refine g_bipush (v := 114) dX11_wordOf_52 (by decide) ?_
    refine g_cSj (n := 2) (As := [.long v_5, .int 114]) (rest := [.long a0]) hF (tX11_add hG hF hM v_5 114 S) gX11_wordOf_X11_add rfl ⟨by decide +kernel, by decide +kernel, by decide +kernel⟩ rfl (gRm_ok (by decide) (by decide)) rfl (Nat.le_of_ble_eq_true rfl) dX11_wordOf_54 (fun v_6 => ?_)
    refine g_lcmp dX11_wordOf_57 ?_
    refine g_if_ne (tgt := 64) dX11_wordOf_58 (by decide) (fun h_2 => ?_) (fun h_2 => ?_)
    · refine g_lload_n 0 dX11_wordOf_64 rfl ?_
      refine g_bipush (v := 103) dX11_wordOf_65 (by decide) ?_
      refine g_bipush (v := 117) dX11_wordOf_67 (by decide) ?_
      refine g_bipush (v := 101) dX11_wordOf_69 (by decide) ?_
      refine g_bipush (v := 115) dX11_wordOf_71 (by decide) ?_
      refine g_bipush (v := 116) dX11_wordOf_73 (by decide) ?_
      refine g_bipush (v := 115) dX11_wordOf_75 (by decide) ?_
      refine g_cSj (n := 6) (As := [.int 103, .int 117, .int 101, .int 115, .int 116, .int 115]) (rest := [.long a0]) hF (tX11_named hG hF hM 103 117 101 115 116 115 S) gX11_wordOf_X11_named rfl ⟨by decide +kernel, by decide +kernel, by decide +kernel⟩ rfl (gRm_ok (by decide) (by decide)) rfl (Nat.le_of_ble_eq_true rfl) dX11_wordOf_77 (fun v_7 => ?_)
      refine g_lcmp dX11_wordOf_80 ?_
      refine g_if_ne (tgt := 88) dX11_wordOf_81 (by decide) (fun h_3 => ?_) (fun h_3 => ?_)
      · refine g_lload_n 0 dX11_wordOf_88 rfl ?_
        refine g_bipush (v := 104) dX11_wordOf_89 (by decide) ?_
        refine g_bipush (v := 97) dX11_wordOf_91 (by decide) ?_
        refine g_bipush (v := 116) dX11_wordOf_93 (by decide) ?_
        refine g_iconst (v := 0) dX11_wordOf_95 (by decide) ?_
        refine g_iconst (v := 0) dX11_wordOf_96 (by decide) ?_
        refine g_iconst (v := 0) dX11_wordOf_97 (by decide) ?_
        refine g_cSj (n := 6) (As := [.int 104, .int 97, .int 116, .int 0, .int 0, .int 0]) (rest := [.long a0]) hF (tX11_named hG hF hM 104 97 116 0 0 0 S) gX11_wordOf_X11_named rfl ⟨by decide +kernel, by decide +kernel, by decide +kernel⟩ rfl (gRm_ok (by decide) (by decide)) rfl (Nat.le_of_ble_eq_true rfl) dX11_wordOf_98 (fun v_8 => ?_)
        refine g_lcmp dX11_wordOf_101 ?_
        refine g_if_ne (tgt := 109) dX11_wordOf_102 (by decide) (fun h_4 => ?_) (fun h_4 => ?_)
        · refine g_lload_n 0 dX11_wordOf_109 rfl ?_
          refine g_bipush (v := 108) dX11_wordOf_110 (by decide) ?_
          refine g_bipush (v := 101) dX11_wordOf_112 (by decide) ?_
          refine g_bipush (v := 97) dX11_wordOf_114 (by decide) ?_
          refine g_bipush (v := 115) dX11_wordOf_116 (by decide) ?_
          refine g_bipush (v := 116) dX11_wordOf_118 (by decide) ?_
          refine g_iconst (v := 0) dX11_wordOf_120 (by decide) ?_
          refine g_cSj (n := 6) (As := [.int 108, .int 101, .int 97, .int 115, .int 116, .int 0]) (rest := [.long a0]) hF (tX11_named hG hF hM 108 101 97 115 116 0 S) gX11_wordOf_X11_named rfl ⟨by decide +kernel, by decide +kernel, by decide +kernel⟩ rfl (gRm_ok (by decide) (by decide)) rfl (Nat.le_of_ble_eq_true rfl) dX11_wordOf_121 (fun v_9 => ?_)
          refine g_lcmp dX11_wordOf_124 ?_
          refine g_if_ne (tgt := 132) dX11_wordOf_125 (by decide) (fun h_5 => ?_) (fun h_5 => ?_)
          · refine g_lload_n 0 dX11_wordOf_132 rfl ?_
            refine g_bipush (v := 109) dX11_wordOf_133 (by decide) ?_
            refine g_bipush (v := 111) dX11_wordOf_135 (by decide) ?_
            refine g_bipush (v := 115) dX11_wordOf_137 (by decide) ?_
            refine g_bipush (v := 116) dX11_wordOf_139 (by decide) ?_
            refine g_iconst (v := 0) dX11_wordOf_141 (by decide) ?_
            refine g_iconst (v := 0) dX11_wordOf_142 (by decide) ?_
            refine g_cSj (n := 6) (As := [.int 109, .int 111, .int 115, .int 116, .int 0, .int 0]) (rest := [.long a0]) hF (tX11_named hG hF hM 109 111 115 116 0 0 S) gX11_wordOf_X11_named rfl ⟨by decide +kernel, by decide +kernel, by decide +kernel⟩ rfl (gRm_ok (by decide) (by decide)) rfl (Nat.le_of_ble_eq_true rfl) dX11_wordOf_143 (fun v_10 => ?_)
            refine g_lcmp dX11_wordOf_146 ?_
            refine g_if_ne (tgt := 154) dX11_wordOf_147 (by decide) (fun h_6 => ?_) (fun h_6 => ?_)
            · refine g_bipush (v := (-9)) dX11_wordOf_154 (by decide) ?_
              exact tX11_wordOf_L156 hG hF hM S a0 (-9)
            · refine g_iconst (v := 4) dX11_wordOf_150 (by decide) ?_
              refine g_goto (tgt := 156) dX11_wordOf_151 (by decide) ?_
              exact tX11_wordOf_L156 hG hF hM S a0 4
          · refine g_iconst (v := 3) dX11_wordOf_128 (by decide) ?_
            refine g_goto (tgt := 156) dX11_wordOf_129 (by decide) ?_
            exact tX11_wordOf_L156 hG hF hM S a0 3
        · refine g_iconst (v := 1) dX11_wordOf_105 (by decide) ?_
          refine g_goto (tgt := 156) dX11_wordOf_106 (by decide) ?_
          exact tX11_wordOf_L156 hG hF hM S a0 1
      · refine g_iconst (v := 0) dX11_wordOf_84 (by decide) ?_
        refine g_goto (tgt := 156) dX11_wordOf_85 (by decide) ?_
        exact tX11_wordOf_L156 hG hF hM S a0 0
    · refine g_bipush (v := 7) dX11_wordOf_61 (by decide) ?_
      exact g_iret dX11_wordOf_63 rfl
  · refine g_iconst (v := 2) dX11_wordOf_29 (by decide) ?_
    exact g_iret dX11_wordOf_30 rfl
set_option maxRecDepth 100000 in
set_option maxHeartbeats 4000000 in
theorem tX11_wordOf {G : gGG} {F : State → Heap → Prop} (hG : gOK G) (hF : gSb G F) (hM : gPM G) (a0 : Int64) (S : gSt) : gCt G F yX11_wordOf wsX11_wordOf 2 [.long a0] S ((fX11_wordOf a0 S).map (fun x => (some (.int x), S))) := g_met (by decide +kernel) rfl (Nat.le_of_ble_eq_true rfl) (tX11_wordOf_L hG hF hM a0 S)
/-! X11_advances -/
theorem hiX11_advances_11 : ∀ w ∈ u_ws RX11 TX11 17, w ∈ wsX11_advances := fun _ hw => List.mem_cons_of_mem _ (List.mem_append_right _ (hw))
set_option maxRecDepth 100000 in
set_option maxHeartbeats 4000000 in
theorem tX11_advances_L194 {G : gGG} {F : State → Heap → Prop} (hG : gOK G) (hF : gSb G F) (hM : gPM G) : ∀ (n : Nat) (x1 : Int32) (S : gSt), Gof G F RX11 cX11_advances 4 wsX11_advances none (gRm 3) 0 0 (gQ G (fun x => (none, x))) 194 [(0, .ref (gad G 77)), (1, .int x1)] [] S (fX11_advances_L194 n x1 S) := by
  intro n
  induction n with
  | zero => intro x1 S; exact g_none
  | succ n ih =>
    intro x1 S
    unfold fX11_advances_L194
    refine g_aload_n 0 dX11_advances_194 rfl ?_
    refine g_aload_n 0 dX11_advances_195 rfl ?_
    refine g_getI (ci := 11) (k0 := 4) (C0 := RX11) (T := TX11) (N := 17) (hM 77 (by decide)) rfl rfl hiX11_advances_11 (by decide) (List.mem_of_getElem? (i := 1) rfl) rfl dX11_advances_196 ?_
    refine g_cVp (ci := 11) (C0 := RX11) (T := TX11) (N := 17) (n := 1) (As := [.int (gR S 77 4)]) (rest := []) hF (tX11_byteAt hG hF hM (gR S 77 4) S) gX11_advances_X11_byteAt rfl (hM 77 (by decide)) rfl rfl ⟨rfl, by decide +kernel, by decide +kernel, by decide +kernel⟩ rfl (gRm_ok (by decide) (by decide)) rfl (Nat.le_of_ble_eq_true rfl) dX11_advances_199 (fun v_1 => ?_)
    refine g_bipush (v := 48) dX11_advances_202 (by decide) ?_
    refine g_bipush (v := 57) dX11_advances_204 (by decide) ?_
    refine g_cSp (n := 3) (As := [.int v_1, .int 48, .int 57]) (rest := []) hF (tX11_in hG hF hM v_1 48 57 S) gX11_advances_X11_in rfl ⟨by decide +kernel, by decide +kernel, by decide +kernel⟩ rfl (gRm_ok (by decide) (by decide)) rfl (Nat.le_of_ble_eq_true rfl) dX11_advances_206 (fun v_2 => ?_)
    refine g_if_eq (tgt := 264) dX11_advances_209 (by decide) (fun h_1 => ?_) (fun h_1 => ?_)
    · refine g_aload_n 0 dX11_advances_264 rfl ?_
      refine g_aload_n 0 dX11_advances_265 rfl ?_
      refine g_getI (ci := 11) (k0 := 7) (C0 := RX11) (T := TX11) (N := 17) (hM 77 (by decide)) rfl rfl hiX11_advances_11 (by decide) (List.mem_of_getElem? (i := 4) rfl) rfl dX11_advances_266 ?_
      refine g_bipush (v := 99) dX11_advances_269 (by decide) ?_
      refine g_icmp_gt (tgt := 293) dX11_advances_271 (by decide) (fun h_2 => ?_) (fun h_2 => ?_)
      · refine g_iconst (v := 4) dX11_advances_293 (by decide) ?_
        refine g_goto (tgt := 298) dX11_advances_294 (by decide) ?_
        refine g_putI hG (ci := 11) (k0 := 5) (C0 := RX11) (T := TX11) (N := 17) (hM 77 (by decide)) rfl rfl hiX11_advances_11 (by decide) (List.mem_of_getElem? (i := 3) rfl) tyX11 tyX11_ok nmX11 rfl rfl rfl rfl dX11_advances_298 ?_
        refine g_nS (fun S_3 => ?_)
        refine g_goto (tgt := 329) dX11_advances_301 (by decide) ?_
        exact g_vret dX11_advances_329 rfl
      · refine g_iload_n 1 dX11_advances_274 rfl ?_
        refine g_bipush (v := 48) dX11_advances_275 (by decide) ?_
        refine g_icmp_ne (tgt := 297) dX11_advances_277 (by decide) (fun h_3 => ?_) (fun h_3 => ?_)
        · refine g_iconst (v := 2) dX11_advances_297 (by decide) ?_
          refine g_putI hG (ci := 11) (k0 := 5) (C0 := RX11) (T := TX11) (N := 17) (hM 77 (by decide)) rfl rfl hiX11_advances_11 (by decide) (List.mem_of_getElem? (i := 3) rfl) tyX11 tyX11_ok nmX11 rfl rfl rfl rfl dX11_advances_298 ?_
          refine g_nS (fun S_4 => ?_)
          refine g_goto (tgt := 329) dX11_advances_301 (by decide) ?_
          exact g_vret dX11_advances_329 rfl
        · refine g_aload_n 0 dX11_advances_280 rfl ?_
          refine g_getI (ci := 11) (k0 := 4) (C0 := RX11) (T := TX11) (N := 17) (hM 77 (by decide)) rfl rfl hiX11_advances_11 (by decide) (List.mem_of_getElem? (i := 1) rfl) rfl dX11_advances_281 ?_
          refine g_aload_n 0 dX11_advances_284 rfl ?_
          refine g_getI (ci := 11) (k0 := 6) (C0 := RX11) (T := TX11) (N := 17) (hM 77 (by decide)) rfl rfl hiX11_advances_11 (by decide) (List.mem_of_getElem? (i := 2) rfl) rfl dX11_advances_285 ?_
          refine g_isub dX11_advances_288 ?_
          refine g_iconst (v := 1) dX11_advances_289 (by decide) ?_
          refine g_icmp_le (tgt := 297) dX11_advances_290 (by decide) (fun h_4 => ?_) (fun h_4 => ?_)
          · refine g_iconst (v := 2) dX11_advances_297 (by decide) ?_
            refine g_putI hG (ci := 11) (k0 := 5) (C0 := RX11) (T := TX11) (N := 17) (hM 77 (by decide)) rfl rfl hiX11_advances_11 (by decide) (List.mem_of_getElem? (i := 3) rfl) tyX11 tyX11_ok nmX11 rfl rfl rfl rfl dX11_advances_298 ?_
            refine g_nS (fun S_5 => ?_)
            refine g_goto (tgt := 329) dX11_advances_301 (by decide) ?_
            exact g_vret dX11_advances_329 rfl
          · refine g_iconst (v := 4) dX11_advances_293 (by decide) ?_
            refine g_goto (tgt := 298) dX11_advances_294 (by decide) ?_
            refine g_putI hG (ci := 11) (k0 := 5) (C0 := RX11) (T := TX11) (N := 17) (hM 77 (by decide)) rfl rfl hiX11_advances_11 (by decide) (List.mem_of_getElem? (i := 3) rfl) tyX11 tyX11_ok nmX11 rfl rfl rfl rfl dX11_advances_298 ?_
            refine g_nS (fun S_6 => ?_)
            refine g_goto (tgt := 329) dX11_advances_301 (by decide) ?_
            exact g_vret dX11_advances_329 rfl
    · refine g_aload_n 0 dX11_advances_212 rfl ?_
      refine g_aload_n 0 dX11_advances_213 rfl ?_
      refine g_getI (ci := 11) (k0 := 7) (C0 := RX11) (T := TX11) (N := 17) (hM 77 (by decide)) rfl rfl hiX11_advances_11 (by decide) (List.mem_of_getElem? (i := 4) rfl) rfl dX11_advances_214 ?_
      refine g_bipush (v := 99) dX11_advances_217 (by decide) ?_
      refine g_icmp_le (tgt := 229) dX11_advances_219 (by decide) (fun h_5 => ?_) (fun h_5 => ?_)
      · refine g_bipush (v := 10) dX11_advances_229 (by decide) ?_
        refine g_aload_n 0 dX11_advances_231 rfl ?_
        refine g_getI (ci := 11) (k0 := 7) (C0 := RX11) (T := TX11) (N := 17) (hM 77 (by decide)) rfl rfl hiX11_advances_11 (by decide) (List.mem_of_getElem? (i := 4) rfl) rfl dX11_advances_232 ?_
        refine g_imul dX11_advances_235 ?_
        refine g_aload_n 0 dX11_advances_236 rfl ?_
        refine g_aload_n 0 dX11_advances_237 rfl ?_
        refine g_getI (ci := 11) (k0 := 4) (C0 := RX11) (T := TX11) (N := 17) (hM 77 (by decide)) rfl rfl hiX11_advances_11 (by decide) (List.mem_of_getElem? (i := 1) rfl) rfl dX11_advances_238 ?_
        refine g_cVp (ci := 11) (C0 := RX11) (T := TX11) (N := 17) (n := 1) (As := [.int (gR S 77 4)]) (rest := [.int (10 * (gR S 77 7)), .ref (gad G 77)]) hF (tX11_byteAt hG hF hM (gR S 77 4) S) gX11_advances_X11_byteAt rfl (hM 77 (by decide)) rfl rfl ⟨rfl, by decide +kernel, by decide +kernel, by decide +kernel⟩ rfl (gRm_ok (by decide) (by decide)) rfl (Nat.le_of_ble_eq_true rfl) dX11_advances_241 (fun v_7 => ?_)
        refine g_iadd dX11_advances_244 ?_
        refine g_bipush (v := 48) dX11_advances_245 (by decide) ?_
        refine g_isub dX11_advances_247 ?_
        refine g_putI hG (ci := 11) (k0 := 7) (C0 := RX11) (T := TX11) (N := 17) (hM 77 (by decide)) rfl rfl hiX11_advances_11 (by decide) (List.mem_of_getElem? (i := 4) rfl) tyX11 tyX11_ok nmX11 rfl rfl rfl rfl dX11_advances_248 ?_
        refine g_nS (fun S_8 => ?_)
        refine g_aload_n 0 dX11_advances_251 rfl ?_
        refine g_dup dX11_advances_252 rfl ?_
        refine g_getI (ci := 11) (k0 := 4) (C0 := RX11) (T := TX11) (N := 17) (hM 77 (by decide)) rfl rfl hiX11_advances_11 (by decide) (List.mem_of_getElem? (i := 1) rfl) rfl dX11_advances_253 ?_
        refine g_iconst (v := 1) dX11_advances_256 (by decide) ?_
        refine g_iadd dX11_advances_257 ?_
        refine g_putI hG (ci := 11) (k0 := 4) (C0 := RX11) (T := TX11) (N := 17) (hM 77 (by decide)) rfl rfl hiX11_advances_11 (by decide) (List.mem_of_getElem? (i := 1) rfl) tyX11 tyX11_ok nmX11 rfl rfl rfl rfl dX11_advances_258 ?_
        refine g_nS (fun S_9 => ?_)
        refine g_goto (tgt := 194) dX11_advances_261 (by decide) ?_
        exact ih x1 S_9
      · refine g_aload_n 0 dX11_advances_222 rfl ?_
        refine g_getI (ci := 11) (k0 := 7) (C0 := RX11) (T := TX11) (N := 17) (hM 77 (by decide)) rfl rfl hiX11_advances_11 (by decide) (List.mem_of_getElem? (i := 4) rfl) rfl dX11_advances_223 ?_
        refine g_goto (tgt := 248) dX11_advances_226 (by decide) ?_
        refine g_putI hG (ci := 11) (k0 := 7) (C0 := RX11) (T := TX11) (N := 17) (hM 77 (by decide)) rfl rfl hiX11_advances_11 (by decide) (List.mem_of_getElem? (i := 4) rfl) tyX11 tyX11_ok nmX11 rfl rfl rfl rfl dX11_advances_248 ?_
        refine g_nS (fun S_10 => ?_)
        refine g_aload_n 0 dX11_advances_251 rfl ?_
        refine g_dup dX11_advances_252 rfl ?_
        refine g_getI (ci := 11) (k0 := 4) (C0 := RX11) (T := TX11) (N := 17) (hM 77 (by decide)) rfl rfl hiX11_advances_11 (by decide) (List.mem_of_getElem? (i := 1) rfl) rfl dX11_advances_253 ?_
        refine g_iconst (v := 1) dX11_advances_256 (by decide) ?_
        refine g_iadd dX11_advances_257 ?_
        refine g_putI hG (ci := 11) (k0 := 4) (C0 := RX11) (T := TX11) (N := 17) (hM 77 (by decide)) rfl rfl hiX11_advances_11 (by decide) (List.mem_of_getElem? (i := 1) rfl) tyX11 tyX11_ok nmX11 rfl rfl rfl rfl dX11_advances_258 ?_
        refine g_nS (fun S_11 => ?_)
        refine g_goto (tgt := 194) dX11_advances_261 (by decide) ?_
        exact ih x1 S_11
set_option maxRecDepth 100000 in
set_option maxHeartbeats 4000000 in
theorem tX11_advances_L154 {G : gGG} {F : State → Heap → Prop} (hG : gOK G) (hF : gSb G F) (hM : gPM G) (s1 : Int32) (S : gSt) : Gof G F RX11 cX11_advances 4 wsX11_advances none (gRm 3) 0 0 (gQ G (fun x => (none, x))) 154 [(0, .ref (gad G 77))] [.int s1, .ref (gad G 77)] S (fX11_advances_L154 s1 S) := by
  unfold fX11_advances_L154
  refine g_putI hG (ci := 11) (k0 := 7) (C0 := RX11) (T := TX11) (N := 17) (hM 77 (by decide)) rfl rfl hiX11_advances_11 (by decide) (List.mem_of_getElem? (i := 4) rfl) tyX11 tyX11_ok nmX11 rfl rfl rfl rfl dX11_advances_154 ?_
  refine g_nS (fun S_1 => ?_)
  refine g_aload_n 0 dX11_advances_157 rfl ?_
  refine g_aload_n 0 dX11_advances_158 rfl ?_
  refine g_getI (ci := 11) (k0 := 7) (C0 := RX11) (T := TX11) (N := 17) (hM 77 (by decide)) rfl rfl hiX11_advances_11 (by decide) (List.mem_of_getElem? (i := 4) rfl) rfl dX11_advances_159 ?_
  refine g_bipush (v := (-9)) dX11_advances_162 (by decide) ?_
  refine g_icmp_ne (tgt := 171) dX11_advances_164 (by decide) (fun h_1 => ?_) (fun h_1 => ?_)
  · refine g_iconst (v := 1) dX11_advances_171 (by decide) ?_
    refine g_putI hG (ci := 11) (k0 := 5) (C0 := RX11) (T := TX11) (N := 17) (hM 77 (by decide)) rfl rfl hiX11_advances_11 (by decide) (List.mem_of_getElem? (i := 3) rfl) tyX11 tyX11_ok nmX11 rfl rfl rfl rfl dX11_advances_172 ?_
    refine g_nS (fun S_2 => ?_)
    refine g_goto (tgt := 329) dX11_advances_175 (by decide) ?_
    exact g_vret dX11_advances_329 rfl
  · refine g_iconst (v := 4) dX11_advances_167 (by decide) ?_
    refine g_goto (tgt := 172) dX11_advances_168 (by decide) ?_
    refine g_putI hG (ci := 11) (k0 := 5) (C0 := RX11) (T := TX11) (N := 17) (hM 77 (by decide)) rfl rfl hiX11_advances_11 (by decide) (List.mem_of_getElem? (i := 3) rfl) tyX11 tyX11_ok nmX11 rfl rfl rfl rfl dX11_advances_172 ?_
    refine g_nS (fun S_3 => ?_)
    refine g_goto (tgt := 329) dX11_advances_175 (by decide) ?_
    exact g_vret dX11_advances_329 rfl
set_option maxRecDepth 100000 in
set_option maxHeartbeats 4000000 in
theorem tX11_advances_L68 {G : gGG} {F : State → Heap → Prop} (hG : gOK G) (hF : gSb G F) (hM : gPM G) : ∀ (n : Nat) (x2 : Int64) (S : gSt), Gof G F RX11 cX11_advances 4 wsX11_advances none (gRm 3) 0 0 (gQ G (fun x => (none, x))) 68 [(0, .ref (gad G 77)), (2, .long x2)] [] S (fX11_advances_L68 n x2 S) := by
  intro n
  induction n with
  | zero => intro x2 S; exact g_none
  | succ n ih =>
    intro x2 S
    unfold fX11_advances_L68
    refine g_aload_n 0 dX11_advances_68 rfl ?_
    refine g_aload_n 0 dX11_advances_69 rfl ?_
    refine g_getI (ci := 11) (k0 := 4) (C0 := RX11) (T := TX11) (N := 17) (hM 77 (by decide)) rfl rfl hiX11_advances_11 (by decide) (List.mem_of_getElem? (i := 1) rfl) rfl dX11_advances_70 ?_
    refine g_cVp (ci := 11) (C0 := RX11) (T := TX11) (N := 17) (n := 1) (As := [.int (gR S 77 4)]) (rest := []) hF (tX11_byteAt hG hF hM (gR S 77 4) S) gX11_advances_X11_byteAt rfl (hM 77 (by decide)) rfl rfl ⟨rfl, by decide +kernel, by decide +kernel, by decide +kernel⟩ rfl (gRm_ok (by decide) (by decide)) rfl (Nat.le_of_ble_eq_true rfl) dX11_advances_73 (fun v_1 => ?_)
    refine g_bipush (v := 97) dX11_advances_76 (by decide) ?_
    refine g_bipush (v := 122) dX11_advances_78 (by decide) ?_
    refine g_cSp (n := 3) (As := [.int v_1, .int 97, .int 122]) (rest := []) hF (tX11_in hG hF hM v_1 97 122 S) gX11_advances_X11_in rfl ⟨by decide +kernel, by decide +kernel, by decide +kernel⟩ rfl (gRm_ok (by decide) (by decide)) rfl (Nat.le_of_ble_eq_true rfl) dX11_advances_80 (fun v_2 => ?_)
    refine g_if_eq (tgt := 130) dX11_advances_83 (by decide) (fun h_1 => ?_) (fun h_1 => ?_)
    · refine g_aload_n 0 dX11_advances_130 rfl ?_
      refine g_aload_n 0 dX11_advances_131 rfl ?_
      refine g_getI (ci := 11) (k0 := 4) (C0 := RX11) (T := TX11) (N := 17) (hM 77 (by decide)) rfl rfl hiX11_advances_11 (by decide) (List.mem_of_getElem? (i := 1) rfl) rfl dX11_advances_132 ?_
      refine g_aload_n 0 dX11_advances_135 rfl ?_
      refine g_getI (ci := 11) (k0 := 6) (C0 := RX11) (T := TX11) (N := 17) (hM 77 (by decide)) rfl rfl hiX11_advances_11 (by decide) (List.mem_of_getElem? (i := 2) rfl) rfl dX11_advances_136 ?_
      refine g_isub dX11_advances_139 ?_
      refine g_bipush (v := 8) dX11_advances_140 (by decide) ?_
      refine g_icmp_le (tgt := 150) dX11_advances_142 (by decide) (fun h_2 => ?_) (fun h_2 => ?_)
      · refine g_lload_n 1 dX11_advances_150 rfl ?_
        refine g_cSp (n := 1) (As := [.long x2]) (rest := [.ref (gad G 77)]) hF (tX11_wordOf hG hF hM x2 S) gX11_advances_X11_wordOf rfl ⟨by decide +kernel, by decide +kernel, by decide +kernel⟩ rfl (gRm_ok (by decide) (by decide)) rfl (Nat.le_of_ble_eq_true rfl) dX11_advances_151 (fun v_3 => ?_)
        refine g_env (env' := [(0, .ref (gad G 77))]) [0] rfl ?_
        exact tX11_advances_L154 hG hF hM v_3 S
      · refine g_bipush (v := (-9)) dX11_advances_145 (by decide) ?_
        refine g_goto (tgt := 154) dX11_advances_147 (by decide) ?_
        refine g_env (env' := [(0, .ref (gad G 77))]) [0] rfl ?_
        exact tX11_advances_L154 hG hF hM (-9) S
    · refine g_aload_n 0 dX11_advances_86 rfl ?_
      refine g_getI (ci := 11) (k0 := 4) (C0 := RX11) (T := TX11) (N := 17) (hM 77 (by decide)) rfl rfl hiX11_advances_11 (by decide) (List.mem_of_getElem? (i := 1) rfl) rfl dX11_advances_87 ?_
      refine g_aload_n 0 dX11_advances_90 rfl ?_
      refine g_getI (ci := 11) (k0 := 6) (C0 := RX11) (T := TX11) (N := 17) (hM 77 (by decide)) rfl rfl hiX11_advances_11 (by decide) (List.mem_of_getElem? (i := 2) rfl) rfl dX11_advances_91 ?_
      refine g_isub dX11_advances_94 ?_
      refine g_bipush (v := 8) dX11_advances_95 (by decide) ?_
      refine g_icmp_ge (tgt := 115) dX11_advances_97 (by decide) (fun h_3 => ?_) (fun h_3 => ?_)
      · refine g_lload_n 1 dX11_advances_115 rfl ?_
        refine g_lstore_n (i := 2) (env' := [(2, .long x2), (0, .ref (gad G 77))]) dX11_advances_116 rfl (by decide) rfl ?_
        refine g_aload_n 1 dX11_advances_117 rfl ?_
        refine g_dup dX11_advances_118 rfl ?_
        refine g_getI (ci := 11) (k0 := 4) (C0 := RX11) (T := TX11) (N := 17) (hM 77 (by decide)) rfl rfl hiX11_advances_11 (by decide) (List.mem_of_getElem? (i := 1) rfl) rfl dX11_advances_119 ?_
        refine g_iconst (v := 1) dX11_advances_122 (by decide) ?_
        refine g_iadd dX11_advances_123 ?_
        refine g_putI hG (ci := 11) (k0 := 4) (C0 := RX11) (T := TX11) (N := 17) (hM 77 (by decide)) rfl rfl hiX11_advances_11 (by decide) (List.mem_of_getElem? (i := 1) rfl) tyX11 tyX11_ok nmX11 rfl rfl rfl rfl dX11_advances_124 ?_
        refine g_nS (fun S_4 => ?_)
        refine g_goto (tgt := 68) dX11_advances_127 (by decide) ?_
        refine g_env (env' := [(0, .ref (gad G 77)), (2, .long x2)]) [1, 0] rfl ?_
        exact ih x2 S_4
      · refine g_lload_n 1 dX11_advances_100 rfl ?_
        refine g_aload_n 0 dX11_advances_101 rfl ?_
        refine g_aload_n 0 dX11_advances_102 rfl ?_
        refine g_getI (ci := 11) (k0 := 4) (C0 := RX11) (T := TX11) (N := 17) (hM 77 (by decide)) rfl rfl hiX11_advances_11 (by decide) (List.mem_of_getElem? (i := 1) rfl) rfl dX11_advances_103 ?_
        refine g_cVp (ci := 11) (C0 := RX11) (T := TX11) (N := 17) (n := 1) (As := [.int (gR S 77 4)]) (rest := [.long x2]) hF (tX11_byteAt hG hF hM (gR S 77 4) S) gX11_advances_X11_byteAt rfl (hM 77 (by decide)) rfl rfl ⟨rfl, by decide +kernel, by decide +kernel, by decide +kernel⟩ rfl (gRm_ok (by decide) (by decide)) rfl (Nat.le_of_ble_eq_true rfl) dX11_advances_106 (fun v_5 => ?_)
        refine g_cSj (n := 2) (As := [.long x2, .int v_5]) (rest := []) hF (tX11_add hG hF hM x2 v_5 S) gX11_advances_X11_add rfl ⟨by decide +kernel, by decide +kernel, by decide +kernel⟩ rfl (gRm_ok (by decide) (by decide)) rfl (Nat.le_of_ble_eq_true rfl) dX11_advances_109 (fun v_6 => ?_)
        refine g_goto (tgt := 116) dX11_advances_112 (by decide) ?_
        refine g_lstore_n (i := 2) (env' := [(2, .long v_6), (0, .ref (gad G 77))]) dX11_advances_116 rfl (by decide) rfl ?_
        refine g_aload_n 1 dX11_advances_117 rfl ?_
        refine g_dup dX11_advances_118 rfl ?_
        refine g_getI (ci := 11) (k0 := 4) (C0 := RX11) (T := TX11) (N := 17) (hM 77 (by decide)) rfl rfl hiX11_advances_11 (by decide) (List.mem_of_getElem? (i := 1) rfl) rfl dX11_advances_119 ?_
        refine g_iconst (v := 1) dX11_advances_122 (by decide) ?_
        refine g_iadd dX11_advances_123 ?_
        refine g_putI hG (ci := 11) (k0 := 4) (C0 := RX11) (T := TX11) (N := 17) (hM 77 (by decide)) rfl rfl hiX11_advances_11 (by decide) (List.mem_of_getElem? (i := 1) rfl) tyX11 tyX11_ok nmX11 rfl rfl rfl rfl dX11_advances_124 ?_
        refine g_nS (fun S_7 => ?_)
        refine g_goto (tgt := 68) dX11_advances_127 (by decide) ?_
        refine g_env (env' := [(0, .ref (gad G 77)), (2, .long v_6)]) [1, 0] rfl ?_
        exact ih v_6 S_7
set_option maxRecDepth 100000 in
set_option maxHeartbeats 4000000 in
theorem tX11_advances_L0 {G : gGG} {F : State → Heap → Prop} (hG : gOK G) (hF : gSb G F) (hM : gPM G) : ∀ (n : Nat)  (S : gSt), Gof G F RX11 cX11_advances 4 wsX11_advances none (gRm 3) 0 0 (gQ G (fun x => (none, x))) 0 [(0, .ref (gad G 77))] [] S (fX11_advances_L0 n S) := by
  intro n
  induction n with
  | zero => intro  S; exact g_none
  | succ n ih =>
    intro  S
    unfold fX11_advances_L0
    refine g_aload_n 0 dX11_advances_0 rfl ?_
    refine g_aload_n 0 dX11_advances_1 rfl ?_
    refine g_getI (ci := 11) (k0 := 4) (C0 := RX11) (T := TX11) (N := 17) (hM 77 (by decide)) rfl rfl hiX11_advances_11 (by decide) (List.mem_of_getElem? (i := 1) rfl) rfl dX11_advances_2 ?_
    refine g_cVp (ci := 11) (C0 := RX11) (T := TX11) (N := 17) (n := 1) (As := [.int (gR S 77 4)]) (rest := []) hF (tX11_byteAt hG hF hM (gR S 77 4) S) gX11_advances_X11_byteAt rfl (hM 77 (by decide)) rfl rfl ⟨rfl, by decide +kernel, by decide +kernel, by decide +kernel⟩ rfl (gRm_ok (by decide) (by decide)) rfl (Nat.le_of_ble_eq_true rfl) dX11_advances_5 (fun v_1 => ?_)
    refine g_bipush (v := 32) dX11_advances_8 (by decide) ?_
    refine g_icmp_ne (tgt := 26) dX11_advances_10 (by decide) (fun h_1 => ?_) (fun h_1 => ?_)
    · refine g_aload_n 0 dX11_advances_26 rfl ?_
      refine g_aload_n 0 dX11_advances_27 rfl ?_
      refine g_getI (ci := 11) (k0 := 4) (C0 := RX11) (T := TX11) (N := 17) (hM 77 (by decide)) rfl rfl hiX11_advances_11 (by decide) (List.mem_of_getElem? (i := 1) rfl) rfl dX11_advances_28 ?_
      refine g_putI hG (ci := 11) (k0 := 6) (C0 := RX11) (T := TX11) (N := 17) (hM 77 (by decide)) rfl rfl hiX11_advances_11 (by decide) (List.mem_of_getElem? (i := 2) rfl) tyX11 tyX11_ok nmX11 rfl rfl rfl rfl dX11_advances_31 ?_
      refine g_nS (fun S_2 => ?_)
      refine g_aload_n 0 dX11_advances_34 rfl ?_
      refine g_aload_n 0 dX11_advances_35 rfl ?_
      refine g_getI (ci := 11) (k0 := 4) (C0 := RX11) (T := TX11) (N := 17) (hM 77 (by decide)) rfl rfl hiX11_advances_11 (by decide) (List.mem_of_getElem? (i := 1) rfl) rfl dX11_advances_36 ?_
      refine g_cVp (ci := 11) (C0 := RX11) (T := TX11) (N := 17) (n := 1) (As := [.int (gR S_2 77 4)]) (rest := []) hF (tX11_byteAt hG hF hM (gR S_2 77 4) S_2) gX11_advances_X11_byteAt rfl (hM 77 (by decide)) rfl rfl ⟨rfl, by decide +kernel, by decide +kernel, by decide +kernel⟩ rfl (gRm_ok (by decide) (by decide)) rfl (Nat.le_of_ble_eq_true rfl) dX11_advances_39 (fun v_3 => ?_)
      refine g_istore_n (i := 1) (env' := [(1, .int v_3), (0, .ref (gad G 77))]) dX11_advances_42 rfl (by decide) rfl ?_
      refine g_iload_n 0 dX11_advances_43 rfl ?_
      refine g_if_ge (tgt := 55) dX11_advances_44 (by decide) (fun h_2 => ?_) (fun h_2 => ?_)
      · refine g_iload_n 0 dX11_advances_55 rfl ?_
        refine g_bipush (v := 97) dX11_advances_56 (by decide) ?_
        refine g_bipush (v := 122) dX11_advances_58 (by decide) ?_
        refine g_cSp (n := 3) (As := [.int v_3, .int 97, .int 122]) (rest := []) hF (tX11_in hG hF hM v_3 97 122 S_2) gX11_advances_X11_in rfl ⟨by decide +kernel, by decide +kernel, by decide +kernel⟩ rfl (gRm_ok (by decide) (by decide)) rfl (Nat.le_of_ble_eq_true rfl) dX11_advances_60 (fun v_4 => ?_)
        refine g_if_eq (tgt := 178) dX11_advances_63 (by decide) (fun h_3 => ?_) (fun h_3 => ?_)
        · refine g_iload_n 0 dX11_advances_178 rfl ?_
          refine g_bipush (v := 48) dX11_advances_179 (by decide) ?_
          refine g_bipush (v := 57) dX11_advances_181 (by decide) ?_
          refine g_cSp (n := 3) (As := [.int v_3, .int 48, .int 57]) (rest := []) hF (tX11_in hG hF hM v_3 48 57 S_2) gX11_advances_X11_in rfl ⟨by decide +kernel, by decide +kernel, by decide +kernel⟩ rfl (gRm_ok (by decide) (by decide)) rfl (Nat.le_of_ble_eq_true rfl) dX11_advances_183 (fun v_5 => ?_)
          refine g_if_eq (tgt := 304) dX11_advances_186 (by decide) (fun h_4 => ?_) (fun h_4 => ?_)
          · refine g_aload_n 1 dX11_advances_304 rfl ?_
            refine g_dup dX11_advances_305 rfl ?_
            refine g_getI (ci := 11) (k0 := 4) (C0 := RX11) (T := TX11) (N := 17) (hM 77 (by decide)) rfl rfl hiX11_advances_11 (by decide) (List.mem_of_getElem? (i := 1) rfl) rfl dX11_advances_306 ?_
            refine g_iconst (v := 1) dX11_advances_309 (by decide) ?_
            refine g_iadd dX11_advances_310 ?_
            refine g_putI hG (ci := 11) (k0 := 4) (C0 := RX11) (T := TX11) (N := 17) (hM 77 (by decide)) rfl rfl hiX11_advances_11 (by decide) (List.mem_of_getElem? (i := 1) rfl) tyX11 tyX11_ok nmX11 rfl rfl rfl rfl dX11_advances_311 ?_
            refine g_nS (fun S_6 => ?_)
            refine g_aload_n 1 dX11_advances_314 rfl ?_
            refine g_iload_n 0 dX11_advances_315 rfl ?_
            refine g_bipush (v := 59) dX11_advances_316 (by decide) ?_
            refine g_icmp_ne (tgt := 325) dX11_advances_318 (by decide) (fun h_5 => ?_) (fun h_5 => ?_)
            · refine g_iconst (v := 4) dX11_advances_325 (by decide) ?_
              refine g_putI hG (ci := 11) (k0 := 5) (C0 := RX11) (T := TX11) (N := 17) (hM 77 (by decide)) rfl rfl hiX11_advances_11 (by decide) (List.mem_of_getElem? (i := 3) rfl) tyX11 tyX11_ok nmX11 rfl rfl rfl rfl dX11_advances_326 ?_
              refine g_nS (fun S_7 => ?_)
              exact g_vret dX11_advances_329 rfl
            · refine g_iconst (v := 3) dX11_advances_321 (by decide) ?_
              refine g_goto (tgt := 326) dX11_advances_322 (by decide) ?_
              refine g_putI hG (ci := 11) (k0 := 5) (C0 := RX11) (T := TX11) (N := 17) (hM 77 (by decide)) rfl rfl hiX11_advances_11 (by decide) (List.mem_of_getElem? (i := 3) rfl) tyX11 tyX11_ok nmX11 rfl rfl rfl rfl dX11_advances_326 ?_
              refine g_nS (fun S_8 => ?_)
              exact g_vret dX11_advances_329 rfl
          · refine g_aload_n 1 dX11_advances_189 rfl ?_
            refine g_iconst (v := 0) dX11_advances_190 (by decide) ?_
            refine g_putI hG (ci := 11) (k0 := 7) (C0 := RX11) (T := TX11) (N := 17) (hM 77 (by decide)) rfl rfl hiX11_advances_11 (by decide) (List.mem_of_getElem? (i := 4) rfl) tyX11 tyX11_ok nmX11 rfl rfl rfl rfl dX11_advances_191 ?_
            refine g_nS (fun S_9 => ?_)
            refine g_env (env' := [(0, .ref (gad G 77)), (1, .int v_3)]) [1, 0] rfl ?_
            exact tX11_advances_L194 hG hF hM gFU v_3 S_9
        · refine g_lconst (v := 0) dX11_advances_66 rfl ?_
          refine g_lstore_n (i := 2) (env' := [(2, .long 0), (1, .int v_3), (0, .ref (gad G 77))]) dX11_advances_67 rfl (by decide) rfl ?_
          refine g_env (env' := [(0, .ref (gad G 77)), (2, .long 0)]) [2, 0] rfl ?_
          exact tX11_advances_L68 hG hF hM gFU 0 S_2
      · refine g_aload_n 1 dX11_advances_47 rfl ?_
        refine g_iconst (v := 0) dX11_advances_48 (by decide) ?_
        refine g_putI hG (ci := 11) (k0 := 5) (C0 := RX11) (T := TX11) (N := 17) (hM 77 (by decide)) rfl rfl hiX11_advances_11 (by decide) (List.mem_of_getElem? (i := 3) rfl) tyX11 tyX11_ok nmX11 rfl rfl rfl rfl dX11_advances_49 ?_
        refine g_nS (fun S_10 => ?_)
        refine g_goto (tgt := 329) dX11_advances_52 (by decide) ?_
        exact g_vret dX11_advances_329 rfl
    · refine g_aload_n 0 dX11_advances_13 rfl ?_
      refine g_dup dX11_advances_14 rfl ?_
      refine g_getI (ci := 11) (k0 := 4) (C0 := RX11) (T := TX11) (N := 17) (hM 77 (by decide)) rfl rfl hiX11_advances_11 (by decide) (List.mem_of_getElem? (i := 1) rfl) rfl dX11_advances_15 ?_
      refine g_iconst (v := 1) dX11_advances_18 (by decide) ?_
      refine g_iadd dX11_advances_19 ?_
      refine g_putI hG (ci := 11) (k0 := 4) (C0 := RX11) (T := TX11) (N := 17) (hM 77 (by decide)) rfl rfl hiX11_advances_11 (by decide) (List.mem_of_getElem? (i := 1) rfl) tyX11 tyX11_ok nmX11 rfl rfl rfl rfl dX11_advances_20 ?_
      refine g_nS (fun S_11 => ?_)
      refine g_goto (tgt := 0) dX11_advances_23 (by decide) ?_
      exact ih S_11
set_option maxRecDepth 100000 in
set_option maxHeartbeats 4000000 in
theorem tX11_advances_L {G : gGG} {F : State → Heap → Prop} (hG : gOK G) (hF : gSb G F) (hM : gPM G) (S : gSt) : Gof G F RX11 cX11_advances 4 wsX11_advances none (gRm 3) 0 0 (gQ G (fun x => (none, x))) 0 [(0, .ref (gad G 77))] [] S (fX11_advances S) := by
  unfold fX11_advances
  exact tX11_advances_L0 hG hF hM gFU S
set_option maxRecDepth 100000 in
set_option maxHeartbeats 4000000 in
theorem tX11_advances {G : gGG} {F : State → Heap → Prop} (hG : gOK G) (hF : gSb G F) (hM : gPM G) (S : gSt) : gCt G F yX11_advances wsX11_advances 3 [.ref (gad G 77)] S ((fX11_advances S).map (fun x => (none, x))) := g_met (by decide +kernel) rfl (Nat.le_of_ble_eq_true rfl) (tX11_advances_L hG hF hM S)
/-! X11_isWell -/
theorem hiX11_isWell_11 : ∀ w ∈ u_ws RX11 TX11 17, w ∈ wsX11_isWell := fun _ hw => List.mem_cons_of_mem _ (List.mem_append_right _ (hw))
set_option maxRecDepth 100000 in
set_option maxHeartbeats 4000000 in
theorem tX11_isWell_L {G : gGG} {F : State → Heap → Prop} (hG : gOK G) (hF : gSb G F) (hM : gPM G) (S : gSt) : Gof G F RX11 cX11_isWell 1 wsX11_isWell (some .boolean) (gRm 0) 0 0 (gQ G (fun x => (some (.int x), S))) 0 [(0, .ref (gad G 77))] [] S (fX11_isWell S) := by
  unfold fX11_isWell
  refine g_aload_n 0 dX11_isWell_0 rfl ?_
  refine g_getI (ci := 11) (k0 := 8) (C0 := RX11) (T := TX11) (N := 17) (hM 77 (by decide)) rfl rfl hiX11_isWell_11 (by decide) (List.mem_of_getElem? (i := 1) rfl) rfl dX11_isWell_1 ?_
  refine g_if_ge (tgt := 11) dX11_isWell_4 (by decide) (fun h_1 => ?_) (fun h_1 => ?_)
  · refine g_iconst (v := 0) dX11_isWell_11 (by decide) ?_
    exact g_zret (by decide) dX11_isWell_12 rfl
  · refine g_iconst (v := 1) dX11_isWell_7 (by decide) ?_
    refine g_goto (tgt := 12) dX11_isWell_8 (by decide) ?_
    exact g_zret (by decide) dX11_isWell_12 rfl
set_option maxRecDepth 100000 in
set_option maxHeartbeats 4000000 in
theorem tX11_isWell {G : gGG} {F : State → Heap → Prop} (hG : gOK G) (hF : gSb G F) (hM : gPM G) (S : gSt) : gCt G F yX11_isWell wsX11_isWell 0 [.ref (gad G 77)] S ((fX11_isWell S).map (fun x => (some (.int x), S))) := g_met (by decide +kernel) rfl (Nat.le_of_ble_eq_true rfl) (tX11_isWell_L hG hF hM S)
/-! X11_takes -/
theorem hiX11_takes_11 : ∀ w ∈ u_ws RX11 TX11 17, w ∈ wsX11_takes := fun _ hw => List.mem_cons_of_mem _ (List.mem_append_right _ (hw))
set_option maxRecDepth 100000 in
set_option maxHeartbeats 4000000 in
theorem tX11_takes_L {G : gGG} {F : State → Heap → Prop} (hG : gOK G) (hF : gSb G F) (hM : gPM G) (a1 : Int32) (S : gSt) : Gof G F RX11 cX11_takes 3 wsX11_takes (some .int) (gRm 4) 0 0 (gQ G (fun x => (some (.int x.1), x.2))) 0 [(0, .ref (gad G 77)), (1, .int a1)] [] S (fX11_takes a1 S) := by
  unfold fX11_takes
  refine g_aload_n 0 dX11_takes_0 rfl ?_
  refine g_cVp (ci := 11) (C0 := RX11) (T := TX11) (N := 17) (n := 0) (As := []) (rest := []) hF (tX11_isWell hG hF hM S) gX11_takes_X11_isWell rfl (hM 77 (by decide)) rfl rfl ⟨rfl, by decide +kernel, by decide +kernel, by decide +kernel⟩ rfl (gRm_ok (by decide) (by decide)) rfl (Nat.le_of_ble_eq_true rfl) dX11_takes_1 (fun v_1 => ?_)
  refine g_if_ne (tgt := 9) dX11_takes_4 (by decide) (fun h_1 => ?_) (fun h_1 => ?_)
  · refine g_iload_n 1 dX11_takes_9 rfl ?_
    refine g_if_ne (tgt := 23) dX11_takes_10 (by decide) (fun h_2 => ?_) (fun h_2 => ?_)
    · refine g_aload_n 0 dX11_takes_23 rfl ?_
      refine g_getI (ci := 11) (k0 := 7) (C0 := RX11) (T := TX11) (N := 17) (hM 77 (by decide)) rfl rfl hiX11_takes_11 (by decide) (List.mem_of_getElem? (i := 3) rfl) rfl dX11_takes_24 ?_
      refine g_nI (fun v_2 => ?_)
      refine g_istore_n (i := 2) (env' := [(2, .int v_2), (0, .ref (gad G 77)), (1, .int a1)]) dX11_takes_27 rfl (by decide) rfl ?_
      refine g_aload_n 1 dX11_takes_28 rfl ?_
      refine g_cVv (ci := 11) (C0 := RX11) (T := TX11) (N := 17) (n := 0) (As := []) (rest := []) hF (tX11_advances hG hF hM S) gX11_takes_X11_advances rfl (hM 77 (by decide)) rfl rfl ⟨rfl, by decide +kernel, by decide +kernel, by decide +kernel⟩ rfl (gRm_ok (by decide) (by decide)) rfl (Nat.le_of_ble_eq_true rfl) dX11_takes_29 (fun S_3 => ?_)
      refine g_iload_n 0 dX11_takes_32 rfl ?_
      exact g_iret dX11_takes_33 rfl
    · refine g_aload_n 0 dX11_takes_13 rfl ?_
      refine g_aload_n 0 dX11_takes_14 rfl ?_
      refine g_getI (ci := 11) (k0 := 6) (C0 := RX11) (T := TX11) (N := 17) (hM 77 (by decide)) rfl rfl hiX11_takes_11 (by decide) (List.mem_of_getElem? (i := 1) rfl) rfl dX11_takes_15 ?_
      refine g_putI hG (ci := 11) (k0 := 8) (C0 := RX11) (T := TX11) (N := 17) (hM 77 (by decide)) rfl rfl hiX11_takes_11 (by decide) (List.mem_of_getElem? (i := 2) rfl) tyX11 tyX11_ok nmX11 rfl rfl rfl rfl dX11_takes_18 ?_
      refine g_nS (fun S_4 => ?_)
      refine g_iconst (v := 0) dX11_takes_21 (by decide) ?_
      exact g_iret dX11_takes_22 rfl
  · refine g_iconst (v := 0) dX11_takes_7 (by decide) ?_
    exact g_iret dX11_takes_8 rfl
set_option maxRecDepth 100000 in
set_option maxHeartbeats 4000000 in
theorem tX11_takes {G : gGG} {F : State → Heap → Prop} (hG : gOK G) (hF : gSb G F) (hM : gPM G) (a1 : Int32) (S : gSt) : gCt G F yX11_takes wsX11_takes 4 [.ref (gad G 77), .int a1] S ((fX11_takes a1 S).map (fun x => (some (.int x.1), x.2))) := g_met (by decide +kernel) rfl (Nat.le_of_ble_eq_true rfl) (tX11_takes_L hG hF hM a1 S)
/-! X11_number -/
theorem hiX11_number_11 : ∀ w ∈ u_ws RX11 TX11 17, w ∈ wsX11_number := fun _ hw => List.mem_cons_of_mem _ (List.mem_append_right _ (hw))
set_option maxRecDepth 100000 in
set_option maxHeartbeats 4000000 in
theorem tX11_number_L26 {G : gGG} {F : State → Heap → Prop} (hG : gOK G) (hF : gSb G F) (hM : gPM G) (s1 : Int32) (S : gSt) : Gof G F RX11 cX11_number 3 wsX11_number (some .int) (gRm 5) 0 0 (gQ G (fun x => (some (.int x.1), x.2))) 26 [] [.int s1, .ref (gad G 77)] S (fX11_number_L26 s1 S) := by
  unfold fX11_number_L26
  refine g_cVi (ci := 11) (C0 := RX11) (T := TX11) (N := 17) (n := 1) (As := [.int s1]) (rest := []) hF (tX11_takes hG hF hM s1 S) gX11_number_X11_takes rfl (hM 77 (by decide)) rfl rfl ⟨rfl, by decide +kernel, by decide +kernel, by decide +kernel⟩ rfl (gRm_ok (by decide) (by decide)) rfl (Nat.le_of_ble_eq_true rfl) dX11_number_26 (fun v_1 S_2 => ?_)
  exact g_iret dX11_number_29 rfl
set_option maxRecDepth 100000 in
set_option maxHeartbeats 4000000 in
theorem tX11_number_L {G : gGG} {F : State → Heap → Prop} (hG : gOK G) (hF : gSb G F) (hM : gPM G) (a1 : Int32) (a2 : Int32) (S : gSt) : Gof G F RX11 cX11_number 3 wsX11_number (some .int) (gRm 5) 0 0 (gQ G (fun x => (some (.int x.1), x.2))) 0 [(0, .ref (gad G 77)), (1, .int a1), (2, .int a2)] [] S (fX11_number a1 a2 S) := by
  unfold fX11_number
  refine g_aload_n 0 dX11_number_0 rfl ?_
  refine g_aload_n 0 dX11_number_1 rfl ?_
  refine g_getI (ci := 11) (k0 := 5) (C0 := RX11) (T := TX11) (N := 17) (hM 77 (by decide)) rfl rfl hiX11_number_11 (by decide) (List.mem_of_getElem? (i := 1) rfl) rfl dX11_number_2 ?_
  refine g_iconst (v := 2) dX11_number_5 (by decide) ?_
  refine g_icmp_ne (tgt := 25) dX11_number_6 (by decide) (fun h_1 => ?_) (fun h_1 => ?_)
  · refine g_iconst (v := 0) dX11_number_25 (by decide) ?_
    refine g_env (env' := []) [] rfl ?_
    exact tX11_number_L26 hG hF hM 0 S
  · refine g_aload_n 0 dX11_number_9 rfl ?_
    refine g_getI (ci := 11) (k0 := 7) (C0 := RX11) (T := TX11) (N := 17) (hM 77 (by decide)) rfl rfl hiX11_number_11 (by decide) (List.mem_of_getElem? (i := 2) rfl) rfl dX11_number_10 ?_
    refine g_iload_n 1 dX11_number_13 rfl ?_
    refine g_iload_n 2 dX11_number_14 rfl ?_
    refine g_cSp (n := 3) (As := [.int (gR S 77 7), .int a1, .int a2]) (rest := [.ref (gad G 77)]) hF (tX11_in hG hF hM (gR S 77 7) a1 a2 S) gX11_number_X11_in rfl ⟨by decide +kernel, by decide +kernel, by decide +kernel⟩ rfl (gRm_ok (by decide) (by decide)) rfl (Nat.le_of_ble_eq_true rfl) dX11_number_15 (fun v_1 => ?_)
    refine g_if_eq (tgt := 25) dX11_number_18 (by decide) (fun h_2 => ?_) (fun h_2 => ?_)
    · refine g_iconst (v := 0) dX11_number_25 (by decide) ?_
      refine g_env (env' := []) [] rfl ?_
      exact tX11_number_L26 hG hF hM 0 S
    · refine g_iconst (v := 1) dX11_number_21 (by decide) ?_
      refine g_goto (tgt := 26) dX11_number_22 (by decide) ?_
      refine g_env (env' := []) [] rfl ?_
      exact tX11_number_L26 hG hF hM 1 S
set_option maxRecDepth 100000 in
set_option maxHeartbeats 4000000 in
theorem tX11_number {G : gGG} {F : State → Heap → Prop} (hG : gOK G) (hF : gSb G F) (hM : gPM G) (a1 : Int32) (a2 : Int32) (S : gSt) : gCt G F yX11_number wsX11_number 5 [.ref (gad G 77), .int a1, .int a2] S ((fX11_number a1 a2 S).map (fun x => (some (.int x.1), x.2))) := g_met (by decide +kernel) rfl (Nat.le_of_ble_eq_true rfl) (tX11_number_L hG hF hM a1 a2 S)
/-! X11_drafts -/
theorem hiX11_drafts_11 : ∀ w ∈ u_ws RX11 TX11 17, w ∈ wsX11_drafts := fun _ hw => List.mem_cons_of_mem _ (List.mem_append_right _ (hw))
set_option maxRecDepth 100000 in
set_option maxHeartbeats 4000000 in
theorem tX11_drafts_L2 {G : gGG} {F : State → Heap → Prop} (hG : gOK G) (hF : gSb G F) (hM : gPM G) : ∀ (n : Nat) (x1 : Int32) (x2 : Int32) (S : gSt), Gof G F RX11 cX11_drafts 3 wsX11_drafts none (gRm 0) 0 0 (gQ G (fun x => (none, x))) 2 [(0, .ref (gad G 77)), (1, .int x1), (2, .int x2)] [] S (fX11_drafts_L2 n x1 x2 S) := by
  intro n
  induction n with
  | zero => intro x1 x2 S; exact g_none
  | succ n ih =>
    intro x1 x2 S
    unfold fX11_drafts_L2
    refine g_iload_n 2 dX11_drafts_2 rfl ?_
    refine g_bipush (v := 94) dX11_drafts_3 (by decide) ?_
    refine g_icmp_ge (tgt := 24) dX11_drafts_5 (by decide) (fun h_1 => ?_) (fun h_1 => ?_)
    · refine g_aload_n 0 dX11_drafts_24 rfl ?_
      refine g_getK (ci := 11) (k0 := 9) (C0 := RX11) (T := TX11) (N := 17) (hM 77 (by decide)) rfl rfl hiX11_drafts_11 (by decide) (List.mem_of_getElem? (i := 1) rfl) rfl dX11_drafts_25 ?_
      refine g_bipush (v := 94) dX11_drafts_28 (by decide) ?_
      refine g_iload_n 1 dX11_drafts_30 rfl ?_
      refine g_iast hG (hM 79 (by decide)) rfl dX11_drafts_31 ?_
      refine g_nS (fun S_1 => ?_)
      exact g_vret dX11_drafts_32 rfl
    · refine g_aload_n 0 dX11_drafts_8 rfl ?_
      refine g_getK (ci := 11) (k0 := 9) (C0 := RX11) (T := TX11) (N := 17) (hM 77 (by decide)) rfl rfl hiX11_drafts_11 (by decide) (List.mem_of_getElem? (i := 1) rfl) rfl dX11_drafts_9 ?_
      refine g_bipush (v := 94) dX11_drafts_12 (by decide) ?_
      refine g_iload_n 2 dX11_drafts_14 rfl ?_
      refine g_iadd dX11_drafts_15 ?_
      refine g_iconst (v := 0) dX11_drafts_16 (by decide) ?_
      refine g_iast hG (hM 79 (by decide)) rfl dX11_drafts_17 ?_
      refine g_nS (fun S_2 => ?_)
      refine g_iinc 2 (v := (x2 + 1)) (env' := [(2, .int (x2 + 1)), (0, .ref (gad G 77)), (1, .int x1)]) dX11_drafts_18 rfl rfl (by decide) rfl ?_
      refine g_goto (tgt := 2) dX11_drafts_21 (by decide) ?_
      refine g_env (env' := [(0, .ref (gad G 77)), (1, .int x1), (2, .int (x2 + 1))]) [1, 2, 0] rfl ?_
      exact ih x1 (x2 + 1) S_2
set_option maxRecDepth 100000 in
set_option maxHeartbeats 4000000 in
theorem tX11_drafts_L {G : gGG} {F : State → Heap → Prop} (hG : gOK G) (hF : gSb G F) (hM : gPM G) (a1 : Int32) (S : gSt) : Gof G F RX11 cX11_drafts 3 wsX11_drafts none (gRm 0) 0 0 (gQ G (fun x => (none, x))) 0 [(0, .ref (gad G 77)), (1, .int a1)] [] S (fX11_drafts a1 S) := by
  unfold fX11_drafts
  refine g_iconst (v := 0) dX11_drafts_0 (by decide) ?_
  refine g_istore_n (i := 2) (env' := [(2, .int 0), (0, .ref (gad G 77)), (1, .int a1)]) dX11_drafts_1 rfl (by decide) rfl ?_
  refine g_env (env' := [(0, .ref (gad G 77)), (1, .int a1), (2, .int 0)]) [1, 2, 0] rfl ?_
  exact tX11_drafts_L2 hG hF hM gFU a1 0 S
set_option maxRecDepth 100000 in
set_option maxHeartbeats 4000000 in
theorem tX11_drafts {G : gGG} {F : State → Heap → Prop} (hG : gOK G) (hF : gSb G F) (hM : gPM G) (a1 : Int32) (S : gSt) : gCt G F yX11_drafts wsX11_drafts 0 [.ref (gad G 77), .int a1] S ((fX11_drafts a1 S).map (fun x => (none, x))) := g_met (by decide +kernel) rfl (Nat.le_of_ble_eq_true rfl) (tX11_drafts_L hG hF hM a1 S)
/-! X11_readsTwo -/
theorem hiX11_readsTwo_11 : ∀ w ∈ u_ws RX11 TX11 17, w ∈ wsX11_readsTwo := fun _ hw => List.mem_cons_of_mem _ (List.mem_append_right _ (hw))
set_option maxRecDepth 100000 in
set_option maxHeartbeats 4000000 in
theorem tX11_readsTwo_L121 {G : gGG} {F : State → Heap → Prop} (hG : gOK G) (hF : gSb G F) (hM : gPM G) (x2 : Int32) (x3 : Int32) (s0 : Int32) (s1 : Int32) (S : gSt) : Gof G F RX11 cX11_readsTwo 6 wsX11_readsTwo none (gRm 6) 0 0 (gQ G (fun x => (none, x))) 121 [(0, .ref (gad G 77)), (2, .int x2), (3, .int x3)] [.int s1, .int s0] S (fX11_readsTwo_L121 x2 x3 s0 s1 S) := by
  unfold fX11_readsTwo_L121
  refine g_iadd dX11_readsTwo_121 ?_
  refine g_nI (fun v_1 => ?_)
  refine g_istore (i := 5) (env' := [(5, .int v_1), (0, .ref (gad G 77)), (2, .int x2), (3, .int x3)]) dX11_readsTwo_122 (by decide) rfl ?_
  refine g_aload_n 1 dX11_readsTwo_124 rfl ?_
  refine g_getK (ci := 11) (k0 := 9) (C0 := RX11) (T := TX11) (N := 17) (hM 77 (by decide)) rfl rfl hiX11_readsTwo_11 (by decide) (List.mem_of_getElem? (i := 1) rfl) rfl dX11_readsTwo_125 ?_
  refine g_iload 0 dX11_readsTwo_128 rfl ?_
  refine g_iload_n 2 dX11_readsTwo_130 rfl ?_
  refine g_iadd dX11_readsTwo_131 ?_
  refine g_dup2 dX11_readsTwo_132 rfl rfl ?_
  refine g_iald hG (hM 79 (by decide)) rfl dX11_readsTwo_133 ?_
  refine g_iconst (v := 1) dX11_readsTwo_134 (by decide) ?_
  refine g_iload_n 3 dX11_readsTwo_135 rfl ?_
  refine g_ishl dX11_readsTwo_136 ?_
  refine g_ior dX11_readsTwo_137 ?_
  refine g_iast hG (hM 79 (by decide)) rfl dX11_readsTwo_138 ?_
  refine g_nS (fun S_2 => ?_)
  refine g_aload_n 1 dX11_readsTwo_139 rfl ?_
  refine g_getK (ci := 11) (k0 := 9) (C0 := RX11) (T := TX11) (N := 17) (hM 77 (by decide)) rfl rfl hiX11_readsTwo_11 (by decide) (List.mem_of_getElem? (i := 1) rfl) rfl dX11_readsTwo_140 ?_
  refine g_iload 0 dX11_readsTwo_143 rfl ?_
  refine g_iload_n 3 dX11_readsTwo_145 rfl ?_
  refine g_iadd dX11_readsTwo_146 ?_
  refine g_dup2 dX11_readsTwo_147 rfl rfl ?_
  refine g_iald hG (hM 79 (by decide)) rfl dX11_readsTwo_148 ?_
  refine g_iconst (v := 1) dX11_readsTwo_149 (by decide) ?_
  refine g_iload_n 2 dX11_readsTwo_150 rfl ?_
  refine g_ishl dX11_readsTwo_151 ?_
  refine g_ior dX11_readsTwo_152 ?_
  refine g_iast hG (hM 79 (by decide)) rfl dX11_readsTwo_153 ?_
  refine g_nS (fun S_3 => ?_)
  refine g_goto (tgt := 213) dX11_readsTwo_154 (by decide) ?_
  exact g_vret dX11_readsTwo_213 rfl
set_option maxRecDepth 100000 in
set_option maxHeartbeats 4000000 in
theorem tX11_readsTwo_L106 {G : gGG} {F : State → Heap → Prop} (hG : gOK G) (hF : gSb G F) (hM : gPM G) (x1 : Int32) (x2 : Int32) (x3 : Int32) (S : gSt) : Gof G F RX11 cX11_readsTwo 6 wsX11_readsTwo none (gRm 6) 0 0 (gQ G (fun x => (none, x))) 106 [(0, .ref (gad G 77)), (1, .int x1), (2, .int x2), (3, .int x3)] [] S (fX11_readsTwo_L106 x1 x2 x3 S) := by
  unfold fX11_readsTwo_L106
  refine g_bipush (v := 94) dX11_readsTwo_106 (by decide) ?_
  refine g_iload_n 1 dX11_readsTwo_108 rfl ?_
  refine g_bipush (v := 7) dX11_readsTwo_109 (by decide) ?_
  refine g_icmp_ne (tgt := 119) dX11_readsTwo_111 (by decide) (fun h_1 => ?_) (fun h_1 => ?_)
  · refine g_bipush (v := 22) dX11_readsTwo_119 (by decide) ?_
    refine g_env (env' := [(0, .ref (gad G 77)), (2, .int x2), (3, .int x3)]) [0, 2, 3] rfl ?_
    exact tX11_readsTwo_L121 hG hF hM x2 x3 94 22 S
  · refine g_bipush (v := 14) dX11_readsTwo_114 (by decide) ?_
    refine g_goto (tgt := 121) dX11_readsTwo_116 (by decide) ?_
    refine g_env (env' := [(0, .ref (gad G 77)), (2, .int x2), (3, .int x3)]) [0, 2, 3] rfl ?_
    exact tX11_readsTwo_L121 hG hF hM x2 x3 94 14 S
set_option maxRecDepth 100000 in
set_option maxHeartbeats 4000000 in
theorem tX11_readsTwo_L184 {G : gGG} {F : State → Heap → Prop} (hG : gOK G) (hF : gSb G F) (hM : gPM G) (x1 : Int32) (x2 : Int32) (x3 : Int32) (x4 : Int32) (s1 : Int32) (s2 : Int32) (S : gSt) : Gof G F RX11 cX11_readsTwo 6 wsX11_readsTwo none (gRm 6) 0 0 (gQ G (fun x => (none, x))) 184 [(0, .ref (gad G 77)), (1, .int x1), (2, .int x2), (3, .int x3), (4, .int x4)] [.int s2, .int s1, .ref (gad G 79)] S (fX11_readsTwo_L184 x1 x2 x3 x4 s1 s2 S) := by
  unfold fX11_readsTwo_L184
  refine g_iast hG (hM 79 (by decide)) rfl dX11_readsTwo_184 ?_
  refine g_nS (fun S_1 => ?_)
  refine g_aload_n 0 dX11_readsTwo_185 rfl ?_
  refine g_getK (ci := 11) (k0 := 9) (C0 := RX11) (T := TX11) (N := 17) (hM 77 (by decide)) rfl rfl hiX11_readsTwo_11 (by decide) (List.mem_of_getElem? (i := 1) rfl) rfl dX11_readsTwo_186 ?_
  refine g_bipush (v := 124) dX11_readsTwo_189 (by decide) ?_
  refine g_bipush (v := 8) dX11_readsTwo_191 (by decide) ?_
  refine g_iload_n 3 dX11_readsTwo_193 rfl ?_
  refine g_imul dX11_readsTwo_194 ?_
  refine g_iadd dX11_readsTwo_195 ?_
  refine g_iload_n 2 dX11_readsTwo_196 rfl ?_
  refine g_iadd dX11_readsTwo_197 ?_
  refine g_iload_n 1 dX11_readsTwo_198 rfl ?_
  refine g_bipush (v := 9) dX11_readsTwo_199 (by decide) ?_
  refine g_icmp_ne (tgt := 209) dX11_readsTwo_201 (by decide) (fun h_1 => ?_) (fun h_1 => ?_)
  · refine g_iload 4 dX11_readsTwo_209 rfl ?_
    refine g_ineg dX11_readsTwo_211 ?_
    refine g_iast hG (hM 79 (by decide)) rfl dX11_readsTwo_212 ?_
    refine g_nS (fun S_2 => ?_)
    exact g_vret dX11_readsTwo_213 rfl
  · refine g_iload 4 dX11_readsTwo_204 rfl ?_
    refine g_goto (tgt := 212) dX11_readsTwo_206 (by decide) ?_
    refine g_iast hG (hM 79 (by decide)) rfl dX11_readsTwo_212 ?_
    refine g_nS (fun S_3 => ?_)
    exact g_vret dX11_readsTwo_213 rfl
set_option maxRecDepth 100000 in
set_option maxHeartbeats 4000000 in
theorem tX11_readsTwo_L84 {G : gGG} {F : State → Heap → Prop} (hG : gOK G) (hF : gSb G F) (hM : gPM G) (x1 : Int32) (x2 : Int32) (x3 : Int32) (s0 : Int32) (S : gSt) : Gof G F RX11 cX11_readsTwo 6 wsX11_readsTwo none (gRm 6) 0 0 (gQ G (fun x => (none, x))) 84 [(0, .ref (gad G 77)), (1, .int x1), (2, .int x2), (3, .int x3)] [.int s0] S (fX11_readsTwo_L84 x1 x2 x3 s0 S) := by
  unfold fX11_readsTwo_L84
  refine g_istore (i := 4) (env' := [(4, .int s0), (0, .ref (gad G 77)), (1, .int x1), (2, .int x2), (3, .int x3)]) dX11_readsTwo_84 (by decide) rfl ?_
  refine g_aload_n 1 dX11_readsTwo_86 rfl ?_
  refine g_cVp (ci := 11) (C0 := RX11) (T := TX11) (N := 17) (n := 0) (As := []) (rest := []) hF (tX11_isWell hG hF hM S) gX11_readsTwo_X11_isWell rfl (hM 77 (by decide)) rfl rfl ⟨rfl, by decide +kernel, by decide +kernel, by decide +kernel⟩ rfl (gRm_ok (by decide) (by decide)) rfl (Nat.le_of_ble_eq_true rfl) dX11_readsTwo_87 (fun v_1 => ?_)
  refine g_if_ne (tgt := 94) dX11_readsTwo_90 (by decide) (fun h_1 => ?_) (fun h_1 => ?_)
  · refine g_iload_n 2 dX11_readsTwo_94 rfl ?_
    refine g_bipush (v := 7) dX11_readsTwo_95 (by decide) ?_
    refine g_icmp_eq (tgt := 106) dX11_readsTwo_97 (by decide) (fun h_2 => ?_) (fun h_2 => ?_)
    · refine g_env (env' := [(0, .ref (gad G 77)), (1, .int x1), (2, .int x2), (3, .int x3)]) [1, 2, 3, 4] rfl ?_
      exact tX11_readsTwo_L106 hG hF hM x1 x2 x3 S
    · refine g_iload_n 2 dX11_readsTwo_100 rfl ?_
      refine g_bipush (v := 8) dX11_readsTwo_101 (by decide) ?_
      refine g_icmp_ne (tgt := 157) dX11_readsTwo_103 (by decide) (fun h_3 => ?_) (fun h_3 => ?_)
      · refine g_aload_n 1 dX11_readsTwo_157 rfl ?_
        refine g_getK (ci := 11) (k0 := 9) (C0 := RX11) (T := TX11) (N := 17) (hM 77 (by decide)) rfl rfl hiX11_readsTwo_11 (by decide) (List.mem_of_getElem? (i := 1) rfl) rfl dX11_readsTwo_158 ?_
        refine g_bipush (v := 124) dX11_readsTwo_161 (by decide) ?_
        refine g_bipush (v := 8) dX11_readsTwo_163 (by decide) ?_
        refine g_iload_n 3 dX11_readsTwo_165 rfl ?_
        refine g_imul dX11_readsTwo_166 ?_
        refine g_iadd dX11_readsTwo_167 ?_
        refine g_iload_n 4 dX11_readsTwo_168 rfl ?_
        refine g_iadd dX11_readsTwo_169 ?_
        refine g_iload_n 2 dX11_readsTwo_170 rfl ?_
        refine g_bipush (v := 9) dX11_readsTwo_171 (by decide) ?_
        refine g_icmp_ne (tgt := 181) dX11_readsTwo_173 (by decide) (fun h_4 => ?_) (fun h_4 => ?_)
        · refine g_iload 0 dX11_readsTwo_181 rfl ?_
          refine g_ineg dX11_readsTwo_183 ?_
          refine g_env (env' := [(0, .ref (gad G 77)), (1, .int x1), (2, .int x2), (3, .int x3), (4, .int s0)]) [1, 2, 3, 4, 0] rfl ?_
          exact tX11_readsTwo_L184 hG hF hM x1 x2 x3 s0 ((124 + (8 * x2)) + x3) (-s0) S
        · refine g_iload 0 dX11_readsTwo_176 rfl ?_
          refine g_goto (tgt := 184) dX11_readsTwo_178 (by decide) ?_
          refine g_env (env' := [(0, .ref (gad G 77)), (1, .int x1), (2, .int x2), (3, .int x3), (4, .int s0)]) [1, 2, 3, 4, 0] rfl ?_
          exact tX11_readsTwo_L184 hG hF hM x1 x2 x3 s0 ((124 + (8 * x2)) + x3) s0 S
      · refine g_env (env' := [(0, .ref (gad G 77)), (1, .int x1), (2, .int x2), (3, .int x3)]) [1, 2, 3, 4] rfl ?_
        exact tX11_readsTwo_L106 hG hF hM x1 x2 x3 S
  · exact g_vret dX11_readsTwo_93 rfl
set_option maxRecDepth 100000 in
set_option maxHeartbeats 4000000 in
theorem tX11_readsTwo_L73 {G : gGG} {F : State → Heap → Prop} (hG : gOK G) (hF : gSb G F) (hM : gPM G) (x1 : Int32) (x2 : Int32) (x3 : Int32) (S : gSt) : Gof G F RX11 cX11_readsTwo 6 wsX11_readsTwo none (gRm 6) 0 0 (gQ G (fun x => (none, x))) 73 [(0, .ref (gad G 77)), (1, .int x1), (2, .int x2), (3, .int x3)] [] S (fX11_readsTwo_L73 x1 x2 x3 S) := by
  unfold fX11_readsTwo_L73
  refine g_aload_n 0 dX11_readsTwo_73 rfl ?_
  refine g_iconst (v := 0) dX11_readsTwo_74 (by decide) ?_
  refine g_bipush (v := 9) dX11_readsTwo_75 (by decide) ?_
  refine g_cVi (ci := 11) (C0 := RX11) (T := TX11) (N := 17) (n := 2) (As := [.int 0, .int 9]) (rest := []) hF (tX11_number hG hF hM 0 9 S) gX11_readsTwo_X11_number rfl (hM 77 (by decide)) rfl rfl ⟨rfl, by decide +kernel, by decide +kernel, by decide +kernel⟩ rfl (gRm_ok (by decide) (by decide)) rfl (Nat.le_of_ble_eq_true rfl) dX11_readsTwo_77 (fun v_1 S_2 => ?_)
  refine g_goto (tgt := 84) dX11_readsTwo_80 (by decide) ?_
  exact tX11_readsTwo_L84 hG hF hM x1 x2 x3 v_1 S_2
set_option maxRecDepth 100000 in
set_option maxHeartbeats 4000000 in
theorem tX11_readsTwo_L57 {G : gGG} {F : State → Heap → Prop} (hG : gOK G) (hF : gSb G F) (hM : gPM G) (x1 : Int32) (x2 : Int32) (s1 : Int32) (S : gSt) : Gof G F RX11 cX11_readsTwo 6 wsX11_readsTwo none (gRm 6) 0 0 (gQ G (fun x => (none, x))) 57 [(0, .ref (gad G 77)), (1, .int x1), (2, .int x2)] [.int s1, .ref (gad G 77)] S (fX11_readsTwo_L57 x1 x2 s1 S) := by
  unfold fX11_readsTwo_L57
  refine g_cVi (ci := 11) (C0 := RX11) (T := TX11) (N := 17) (n := 1) (As := [.int s1]) (rest := []) hF (tX11_takes hG hF hM s1 S) gX11_readsTwo_X11_takes rfl (hM 77 (by decide)) rfl rfl ⟨rfl, by decide +kernel, by decide +kernel, by decide +kernel⟩ rfl (gRm_ok (by decide) (by decide)) rfl (Nat.le_of_ble_eq_true rfl) dX11_readsTwo_57 (fun v_1 S_2 => ?_)
  refine g_istore_n (i := 3) (env' := [(3, .int v_1), (0, .ref (gad G 77)), (1, .int x1), (2, .int x2)]) dX11_readsTwo_60 rfl (by decide) rfl ?_
  refine g_iload_n 2 dX11_readsTwo_61 rfl ?_
  refine g_bipush (v := 9) dX11_readsTwo_62 (by decide) ?_
  refine g_icmp_eq (tgt := 73) dX11_readsTwo_64 (by decide) (fun h_1 => ?_) (fun h_1 => ?_)
  · refine g_env (env' := [(0, .ref (gad G 77)), (1, .int x1), (2, .int x2), (3, .int v_1)]) [1, 2, 3, 0] rfl ?_
    exact tX11_readsTwo_L73 hG hF hM x1 x2 v_1 S_2
  · refine g_iload_n 2 dX11_readsTwo_67 rfl ?_
    refine g_bipush (v := 10) dX11_readsTwo_68 (by decide) ?_
    refine g_icmp_ne (tgt := 83) dX11_readsTwo_70 (by decide) (fun h_2 => ?_) (fun h_2 => ?_)
    · refine g_iconst (v := 0) dX11_readsTwo_83 (by decide) ?_
      refine g_env (env' := [(0, .ref (gad G 77)), (1, .int x1), (2, .int x2), (3, .int v_1)]) [1, 2, 3, 0] rfl ?_
      exact tX11_readsTwo_L84 hG hF hM x1 x2 v_1 0 S_2
    · refine g_env (env' := [(0, .ref (gad G 77)), (1, .int x1), (2, .int x2), (3, .int v_1)]) [1, 2, 3, 0] rfl ?_
      exact tX11_readsTwo_L73 hG hF hM x1 x2 v_1 S_2
set_option maxRecDepth 100000 in
set_option maxHeartbeats 4000000 in
theorem tX11_readsTwo_L {G : gGG} {F : State → Heap → Prop} (hG : gOK G) (hF : gSb G F) (hM : gPM G) (a1 : Int32) (S : gSt) : Gof G F RX11 cX11_readsTwo 6 wsX11_readsTwo none (gRm 6) 0 0 (gQ G (fun x => (none, x))) 0 [(0, .ref (gad G 77)), (1, .int a1)] [] S (fX11_readsTwo a1 S) := by
  unfold fX11_readsTwo
  refine g_aload_n 0 dX11_readsTwo_0 rfl ?_
  refine g_iconst (v := 0) dX11_readsTwo_1 (by decide) ?_
  refine g_aload_n 0 dX11_readsTwo_2 rfl ?_
  refine g_getK (ci := 11) (k0 := 9) (C0 := RX11) (T := TX11) (N := 17) (hM 77 (by decide)) rfl rfl hiX11_readsTwo_11 (by decide) (List.mem_of_getElem? (i := 1) rfl) rfl dX11_readsTwo_3 ?_
  refine g_bipush (v := 94) dX11_readsTwo_6 (by decide) ?_
  refine g_iald hG (hM 79 (by decide)) rfl dX11_readsTwo_8 ?_
  refine g_iconst (v := 1) dX11_readsTwo_9 (by decide) ?_
  refine g_isub dX11_readsTwo_10 ?_
  refine g_cVi (ci := 11) (C0 := RX11) (T := TX11) (N := 17) (n := 2) (As := [.int 0, .int ((gR S 79 (gN 94)) - 1)]) (rest := []) hF (tX11_number hG hF hM 0 ((gR S 79 (gN 94)) - 1) S) gX11_readsTwo_X11_number rfl (hM 77 (by decide)) rfl rfl ⟨rfl, by decide +kernel, by decide +kernel, by decide +kernel⟩ rfl (gRm_ok (by decide) (by decide)) rfl (Nat.le_of_ble_eq_true rfl) dX11_readsTwo_11 (fun v_1 S_2 => ?_)
  refine g_istore_n (i := 2) (env' := [(2, .int v_1), (0, .ref (gad G 77)), (1, .int a1)]) dX11_readsTwo_14 rfl (by decide) rfl ?_
  refine g_aload_n 1 dX11_readsTwo_15 rfl ?_
  refine g_aload_n 1 dX11_readsTwo_16 rfl ?_
  refine g_getI (ci := 11) (k0 := 5) (C0 := RX11) (T := TX11) (N := 17) (hM 77 (by decide)) rfl rfl hiX11_readsTwo_11 (by decide) (List.mem_of_getElem? (i := 2) rfl) rfl dX11_readsTwo_17 ?_
  refine g_iconst (v := 2) dX11_readsTwo_20 (by decide) ?_
  refine g_icmp_ne (tgt := 56) dX11_readsTwo_21 (by decide) (fun h_1 => ?_) (fun h_1 => ?_)
  · refine g_iconst (v := 0) dX11_readsTwo_56 (by decide) ?_
    refine g_env (env' := [(0, .ref (gad G 77)), (1, .int a1), (2, .int v_1)]) [1, 2, 0] rfl ?_
    exact tX11_readsTwo_L57 hG hF hM a1 v_1 0 S_2
  · refine g_aload_n 1 dX11_readsTwo_24 rfl ?_
    refine g_getI (ci := 11) (k0 := 7) (C0 := RX11) (T := TX11) (N := 17) (hM 77 (by decide)) rfl rfl hiX11_readsTwo_11 (by decide) (List.mem_of_getElem? (i := 3) rfl) rfl dX11_readsTwo_25 ?_
    refine g_iconst (v := 0) dX11_readsTwo_28 (by decide) ?_
    refine g_aload_n 1 dX11_readsTwo_29 rfl ?_
    refine g_getK (ci := 11) (k0 := 9) (C0 := RX11) (T := TX11) (N := 17) (hM 77 (by decide)) rfl rfl hiX11_readsTwo_11 (by decide) (List.mem_of_getElem? (i := 1) rfl) rfl dX11_readsTwo_30 ?_
    refine g_bipush (v := 94) dX11_readsTwo_33 (by decide) ?_
    refine g_iald hG (hM 79 (by decide)) rfl dX11_readsTwo_35 ?_
    refine g_iconst (v := 1) dX11_readsTwo_36 (by decide) ?_
    refine g_isub dX11_readsTwo_37 ?_
    refine g_cSp (n := 3) (As := [.int (gR S_2 77 7), .int 0, .int ((gR S_2 79 (gN 94)) - 1)]) (rest := [.ref (gad G 77)]) hF (tX11_in hG hF hM (gR S_2 77 7) 0 ((gR S_2 79 (gN 94)) - 1) S_2) gX11_readsTwo_X11_in rfl ⟨by decide +kernel, by decide +kernel, by decide +kernel⟩ rfl (gRm_ok (by decide) (by decide)) rfl (Nat.le_of_ble_eq_true rfl) dX11_readsTwo_38 (fun v_3 => ?_)
    refine g_if_eq (tgt := 56) dX11_readsTwo_41 (by decide) (fun h_2 => ?_) (fun h_2 => ?_)
    · refine g_iconst (v := 0) dX11_readsTwo_56 (by decide) ?_
      refine g_env (env' := [(0, .ref (gad G 77)), (1, .int a1), (2, .int v_1)]) [1, 2, 0] rfl ?_
      exact tX11_readsTwo_L57 hG hF hM a1 v_1 0 S_2
    · refine g_aload_n 1 dX11_readsTwo_44 rfl ?_
      refine g_getI (ci := 11) (k0 := 7) (C0 := RX11) (T := TX11) (N := 17) (hM 77 (by decide)) rfl rfl hiX11_readsTwo_11 (by decide) (List.mem_of_getElem? (i := 3) rfl) rfl dX11_readsTwo_45 ?_
      refine g_iload_n 0 dX11_readsTwo_48 rfl ?_
      refine g_icmp_eq (tgt := 56) dX11_readsTwo_49 (by decide) (fun h_3 => ?_) (fun h_3 => ?_)
      · refine g_iconst (v := 0) dX11_readsTwo_56 (by decide) ?_
        refine g_env (env' := [(0, .ref (gad G 77)), (1, .int a1), (2, .int v_1)]) [1, 2, 0] rfl ?_
        exact tX11_readsTwo_L57 hG hF hM a1 v_1 0 S_2
      · refine g_iconst (v := 1) dX11_readsTwo_52 (by decide) ?_
        refine g_goto (tgt := 57) dX11_readsTwo_53 (by decide) ?_
        refine g_env (env' := [(0, .ref (gad G 77)), (1, .int a1), (2, .int v_1)]) [1, 2, 0] rfl ?_
        exact tX11_readsTwo_L57 hG hF hM a1 v_1 1 S_2
set_option maxRecDepth 100000 in
set_option maxHeartbeats 4000000 in
theorem tX11_readsTwo {G : gGG} {F : State → Heap → Prop} (hG : gOK G) (hF : gSb G F) (hM : gPM G) (a1 : Int32) (S : gSt) : gCt G F yX11_readsTwo wsX11_readsTwo 6 [.ref (gad G 77), .int a1] S ((fX11_readsTwo a1 S).map (fun x => (none, x))) := g_met (by decide +kernel) rfl (Nat.le_of_ble_eq_true rfl) (tX11_readsTwo_L hG hF hM a1 S)
/-! X11_readsItem -/
theorem hiX11_readsItem_11 : ∀ w ∈ u_ws RX11 TX11 17, w ∈ wsX11_readsItem := fun _ hw => List.mem_cons_of_mem _ (List.mem_append_right _ (hw))
set_option maxRecDepth 100000 in
set_option maxHeartbeats 4000000 in
theorem tX11_readsItem_L129 {G : gGG} {F : State → Heap → Prop} (hG : gOK G) (hF : gSb G F) (hM : gPM G)  (S : gSt) : Gof G F RX11 cX11_readsItem 4 wsX11_readsItem none (gRm 7) 0 0 (gQ G (fun x => (none, x))) 129 [] [] S (fX11_readsItem_L129 S) := by
  unfold fX11_readsItem_L129
  exact g_vret dX11_readsItem_129 rfl
set_option maxRecDepth 100000 in
set_option maxHeartbeats 4000000 in
theorem tX11_readsItem_L {G : gGG} {F : State → Heap → Prop} (hG : gOK G) (hF : gSb G F) (hM : gPM G) (a1 : Int32) (S : gSt) : Gof G F RX11 cX11_readsItem 4 wsX11_readsItem none (gRm 7) 0 0 (gQ G (fun x => (none, x))) 0 [(0, .ref (gad G 77)), (1, .int a1)] [] S (fX11_readsItem a1 S) := by
  unfold fX11_readsItem
  refine g_iload_n 1 dX11_readsItem_0 rfl ?_
  refine g_if_ne (tgt := 30) dX11_readsItem_1 (by decide) (fun h_1 => ?_) (fun h_1 => ?_)
  · refine g_iload_n 1 dX11_readsItem_30 rfl ?_
    refine g_iconst (v := 1) dX11_readsItem_31 (by decide) ?_
    refine g_icmp_ne (tgt := 77) dX11_readsItem_32 (by decide) (fun h_2 => ?_) (fun h_2 => ?_)
    · refine g_iload_n 1 dX11_readsItem_77 rfl ?_
      refine g_iconst (v := 5) dX11_readsItem_78 (by decide) ?_
      refine g_icmp_ge (tgt := 103) dX11_readsItem_79 (by decide) (fun h_3 => ?_) (fun h_3 => ?_)
      · refine g_iload_n 1 dX11_readsItem_103 rfl ?_
        refine g_bipush (v := 7) dX11_readsItem_104 (by decide) ?_
        refine g_icmp_ge (tgt := 124) dX11_readsItem_106 (by decide) (fun h_4 => ?_) (fun h_4 => ?_)
        · refine g_aload_n 0 dX11_readsItem_124 rfl ?_
          refine g_iload_n 1 dX11_readsItem_125 rfl ?_
          refine g_cVv (ci := 11) (C0 := RX11) (T := TX11) (N := 17) (n := 1) (As := [.int a1]) (rest := []) hF (tX11_readsTwo hG hF hM a1 S) gX11_readsItem_X11_readsTwo rfl (hM 77 (by decide)) rfl rfl ⟨rfl, by decide +kernel, by decide +kernel, by decide +kernel⟩ rfl (gRm_ok (by decide) (by decide)) rfl (Nat.le_of_ble_eq_true rfl) dX11_readsItem_126 (fun S_1 => ?_)
          refine g_env (env' := []) [] rfl ?_
          exact tX11_readsItem_L129 hG hF hM S_1
        · refine g_aload_n 0 dX11_readsItem_109 rfl ?_
          refine g_getK (ci := 11) (k0 := 9) (C0 := RX11) (T := TX11) (N := 17) (hM 77 (by decide)) rfl rfl hiX11_readsItem_11 (by decide) (List.mem_of_getElem? (i := 1) rfl) rfl dX11_readsItem_110 ?_
          refine g_bipush (v := 103) dX11_readsItem_113 (by decide) ?_
          refine g_iload_n 1 dX11_readsItem_115 rfl ?_
          refine g_iadd dX11_readsItem_116 ?_
          refine g_iconst (v := 2) dX11_readsItem_117 (by decide) ?_
          refine g_isub dX11_readsItem_118 ?_
          refine g_iconst (v := 1) dX11_readsItem_119 (by decide) ?_
          refine g_iast hG (hM 79 (by decide)) rfl dX11_readsItem_120 ?_
          refine g_nS (fun S_2 => ?_)
          refine g_goto (tgt := 129) dX11_readsItem_121 (by decide) ?_
          refine g_env (env' := []) [] rfl ?_
          exact tX11_readsItem_L129 hG hF hM S_2
      · refine g_aload_n 0 dX11_readsItem_82 rfl ?_
        refine g_getK (ci := 11) (k0 := 9) (C0 := RX11) (T := TX11) (N := 17) (hM 77 (by decide)) rfl rfl hiX11_readsItem_11 (by decide) (List.mem_of_getElem? (i := 1) rfl) rfl dX11_readsItem_83 ?_
        refine g_bipush (v := 103) dX11_readsItem_86 (by decide) ?_
        refine g_iload_n 1 dX11_readsItem_88 rfl ?_
        refine g_iadd dX11_readsItem_89 ?_
        refine g_iconst (v := 2) dX11_readsItem_90 (by decide) ?_
        refine g_isub dX11_readsItem_91 ?_
        refine g_aload_n 0 dX11_readsItem_92 rfl ?_
        refine g_iconst (v := 1) dX11_readsItem_93 (by decide) ?_
        refine g_bipush (v := 8) dX11_readsItem_94 (by decide) ?_
        refine g_cVi (ci := 11) (C0 := RX11) (T := TX11) (N := 17) (n := 2) (As := [.int 1, .int 8]) (rest := [.int ((103 + a1) - 2), .ref (gad G 79)]) hF (tX11_number hG hF hM 1 8 S) gX11_readsItem_X11_number rfl (hM 77 (by decide)) rfl rfl ⟨rfl, by decide +kernel, by decide +kernel, by decide +kernel⟩ rfl (gRm_ok (by decide) (by decide)) rfl (Nat.le_of_ble_eq_true rfl) dX11_readsItem_96 (fun v_3 S_4 => ?_)
        refine g_iast hG (hM 79 (by decide)) rfl dX11_readsItem_99 ?_
        refine g_nS (fun S_5 => ?_)
        refine g_goto (tgt := 129) dX11_readsItem_100 (by decide) ?_
        refine g_env (env' := []) [] rfl ?_
        exact tX11_readsItem_L129 hG hF hM S_5
    · refine g_aload_n 0 dX11_readsItem_35 rfl ?_
      refine g_iconst (v := 0) dX11_readsItem_36 (by decide) ?_
      refine g_aload_n 0 dX11_readsItem_37 rfl ?_
      refine g_getK (ci := 11) (k0 := 9) (C0 := RX11) (T := TX11) (N := 17) (hM 77 (by decide)) rfl rfl hiX11_readsItem_11 (by decide) (List.mem_of_getElem? (i := 1) rfl) rfl dX11_readsItem_38 ?_
      refine g_bipush (v := 94) dX11_readsItem_41 (by decide) ?_
      refine g_iald hG (hM 79 (by decide)) rfl dX11_readsItem_43 ?_
      refine g_iconst (v := 1) dX11_readsItem_44 (by decide) ?_
      refine g_isub dX11_readsItem_45 ?_
      refine g_cVi (ci := 11) (C0 := RX11) (T := TX11) (N := 17) (n := 2) (As := [.int 0, .int ((gR S 79 (gN 94)) - 1)]) (rest := []) hF (tX11_number hG hF hM 0 ((gR S 79 (gN 94)) - 1) S) gX11_readsItem_X11_number rfl (hM 77 (by decide)) rfl rfl ⟨rfl, by decide +kernel, by decide +kernel, by decide +kernel⟩ rfl (gRm_ok (by decide) (by decide)) rfl (Nat.le_of_ble_eq_true rfl) dX11_readsItem_46 (fun v_6 S_7 => ?_)
      refine g_istore_n (i := 2) (env' := [(2, .int v_6), (0, .ref (gad G 77)), (1, .int a1)]) dX11_readsItem_49 rfl (by decide) rfl ?_
      refine g_aload_n 1 dX11_readsItem_50 rfl ?_
      refine g_iconst (v := 0) dX11_readsItem_51 (by decide) ?_
      refine g_iconst (v := 5) dX11_readsItem_52 (by decide) ?_
      refine g_cVi (ci := 11) (C0 := RX11) (T := TX11) (N := 17) (n := 2) (As := [.int 0, .int 5]) (rest := []) hF (tX11_number hG hF hM 0 5 S_7) gX11_readsItem_X11_number rfl (hM 77 (by decide)) rfl rfl ⟨rfl, by decide +kernel, by decide +kernel, by decide +kernel⟩ rfl (gRm_ok (by decide) (by decide)) rfl (Nat.le_of_ble_eq_true rfl) dX11_readsItem_53 (fun v_8 S_9 => ?_)
      refine g_istore_n (i := 3) (env' := [(3, .int v_8), (2, .int v_6), (0, .ref (gad G 77)), (1, .int a1)]) dX11_readsItem_56 rfl (by decide) rfl ?_
      refine g_aload_n 2 dX11_readsItem_57 rfl ?_
      refine g_cVp (ci := 11) (C0 := RX11) (T := TX11) (N := 17) (n := 0) (As := []) (rest := []) hF (tX11_isWell hG hF hM S_9) gX11_readsItem_X11_isWell rfl (hM 77 (by decide)) rfl rfl ⟨rfl, by decide +kernel, by decide +kernel, by decide +kernel⟩ rfl (gRm_ok (by decide) (by decide)) rfl (Nat.le_of_ble_eq_true rfl) dX11_readsItem_58 (fun v_10 => ?_)
      refine g_if_eq (tgt := 74) dX11_readsItem_61 (by decide) (fun h_5 => ?_) (fun h_5 => ?_)
      · refine g_goto (tgt := 129) dX11_readsItem_74 (by decide) ?_
        refine g_env (env' := []) [] rfl ?_
        exact tX11_readsItem_L129 hG hF hM S_9
      · refine g_aload_n 2 dX11_readsItem_64 rfl ?_
        refine g_getK (ci := 11) (k0 := 9) (C0 := RX11) (T := TX11) (N := 17) (hM 77 (by decide)) rfl rfl hiX11_readsItem_11 (by decide) (List.mem_of_getElem? (i := 1) rfl) rfl dX11_readsItem_65 ?_
        refine g_bipush (v := 95) dX11_readsItem_68 (by decide) ?_
        refine g_iload_n 1 dX11_readsItem_70 rfl ?_
        refine g_iadd dX11_readsItem_71 ?_
        refine g_iload_n 0 dX11_readsItem_72 rfl ?_
        refine g_iast hG (hM 79 (by decide)) rfl dX11_readsItem_73 ?_
        refine g_nS (fun S_11 => ?_)
        refine g_goto (tgt := 129) dX11_readsItem_74 (by decide) ?_
        refine g_env (env' := []) [] rfl ?_
        exact tX11_readsItem_L129 hG hF hM S_11
  · refine g_aload_n 0 dX11_readsItem_4 rfl ?_
    refine g_iconst (v := 1) dX11_readsItem_5 (by decide) ?_
    refine g_bipush (v := 8) dX11_readsItem_6 (by decide) ?_
    refine g_cVi (ci := 11) (C0 := RX11) (T := TX11) (N := 17) (n := 2) (As := [.int 1, .int 8]) (rest := []) hF (tX11_number hG hF hM 1 8 S) gX11_readsItem_X11_number rfl (hM 77 (by decide)) rfl rfl ⟨rfl, by decide +kernel, by decide +kernel, by decide +kernel⟩ rfl (gRm_ok (by decide) (by decide)) rfl (Nat.le_of_ble_eq_true rfl) dX11_readsItem_8 (fun v_12 S_13 => ?_)
    refine g_istore_n (i := 2) (env' := [(2, .int v_12), (0, .ref (gad G 77)), (1, .int a1)]) dX11_readsItem_11 rfl (by decide) rfl ?_
    refine g_aload_n 1 dX11_readsItem_12 rfl ?_
    refine g_cVp (ci := 11) (C0 := RX11) (T := TX11) (N := 17) (n := 0) (As := []) (rest := []) hF (tX11_isWell hG hF hM S_13) gX11_readsItem_X11_isWell rfl (hM 77 (by decide)) rfl rfl ⟨rfl, by decide +kernel, by decide +kernel, by decide +kernel⟩ rfl (gRm_ok (by decide) (by decide)) rfl (Nat.le_of_ble_eq_true rfl) dX11_readsItem_13 (fun v_14 => ?_)
    refine g_if_eq (tgt := 27) dX11_readsItem_16 (by decide) (fun h_6 => ?_) (fun h_6 => ?_)
    · refine g_goto (tgt := 129) dX11_readsItem_27 (by decide) ?_
      refine g_env (env' := []) [] rfl ?_
      exact tX11_readsItem_L129 hG hF hM S_13
    · refine g_aload_n 1 dX11_readsItem_19 rfl ?_
      refine g_getK (ci := 11) (k0 := 9) (C0 := RX11) (T := TX11) (N := 17) (hM 77 (by decide)) rfl rfl hiX11_readsItem_11 (by decide) (List.mem_of_getElem? (i := 1) rfl) rfl dX11_readsItem_20 ?_
      refine g_bipush (v := 94) dX11_readsItem_23 (by decide) ?_
      refine g_iload_n 0 dX11_readsItem_25 rfl ?_
      refine g_iast hG (hM 79 (by decide)) rfl dX11_readsItem_26 ?_
      refine g_nS (fun S_15 => ?_)
      refine g_goto (tgt := 129) dX11_readsItem_27 (by decide) ?_
      refine g_env (env' := []) [] rfl ?_
      exact tX11_readsItem_L129 hG hF hM S_15
set_option maxRecDepth 100000 in
set_option maxHeartbeats 4000000 in
theorem tX11_readsItem {G : gGG} {F : State → Heap → Prop} (hG : gOK G) (hF : gSb G F) (hM : gPM G) (a1 : Int32) (S : gSt) : gCt G F yX11_readsItem wsX11_readsItem 7 [.ref (gad G 77), .int a1] S ((fX11_readsItem a1 S).map (fun x => (none, x))) := g_met (by decide +kernel) rfl (Nat.le_of_ble_eq_true rfl) (tX11_readsItem_L hG hF hM a1 S)
/-! X11_adopts -/
theorem hiX11_adopts_11 : ∀ w ∈ u_ws RX11 TX11 17, w ∈ wsX11_adopts := fun _ hw => List.mem_cons_of_mem _ (List.mem_append_right _ (hw))
set_option maxRecDepth 100000 in
set_option maxHeartbeats 4000000 in
theorem tX11_adopts_L31 {G : gGG} {F : State → Heap → Prop} (hG : gOK G) (hF : gSb G F) (hM : gPM G) : ∀ (n : Nat) (x1 : Int32) (S : gSt), Gof G F RX11 cX11_adopts 2 wsX11_adopts none (gRm 0) 0 0 (gQ G (fun x => (none, x))) 31 [(0, .ref (gad G 77)), (1, .int x1)] [] S (fX11_adopts_L31 n x1 S) := by
  intro n
  induction n with
  | zero => intro x1 S; exact g_none
  | succ n ih =>
    intro x1 S
    unfold fX11_adopts_L31
    refine g_iload_n 1 dX11_adopts_31 rfl ?_
    refine g_bipush (v := 8) dX11_adopts_32 (by decide) ?_
    refine g_icmp_ge (tgt := 50) dX11_adopts_34 (by decide) (fun h_1 => ?_) (fun h_1 => ?_)
    · refine g_aload_n 0 dX11_adopts_50 rfl ?_
      refine g_getK (ci := 11) (k0 := 10) (C0 := RX11) (T := TX11) (N := 17) (hM 77 (by decide)) rfl rfl hiX11_adopts_11 (by decide) (List.mem_of_getElem? (i := 2) rfl) rfl dX11_adopts_51 ?_
      refine g_bipush (v := 8) dX11_adopts_54 (by decide) ?_
      refine g_iconst (v := 0) dX11_adopts_56 (by decide) ?_
      refine g_iast hG (hM 80 (by decide)) rfl dX11_adopts_57 ?_
      refine g_nS (fun S_1 => ?_)
      refine g_aload_n 0 dX11_adopts_58 rfl ?_
      refine g_getK (ci := 11) (k0 := 12) (C0 := RX11) (T := TX11) (N := 17) (hM 77 (by decide)) rfl rfl hiX11_adopts_11 (by decide) (List.mem_of_getElem? (i := 3) rfl) rfl dX11_adopts_59 ?_
      refine g_iconst (v := 0) dX11_adopts_62 (by decide) ?_
      refine g_iconst (v := 0) dX11_adopts_63 (by decide) ?_
      refine g_zast hG (hM 82 (by decide)) rfl dX11_adopts_64 ?_
      refine g_nS (fun S_2 => ?_)
      refine g_aload_n 0 dX11_adopts_65 rfl ?_
      refine g_getK (ci := 11) (k0 := 12) (C0 := RX11) (T := TX11) (N := 17) (hM 77 (by decide)) rfl rfl hiX11_adopts_11 (by decide) (List.mem_of_getElem? (i := 3) rfl) rfl dX11_adopts_66 ?_
      refine g_iconst (v := 1) dX11_adopts_69 (by decide) ?_
      refine g_iconst (v := 0) dX11_adopts_70 (by decide) ?_
      refine g_zast hG (hM 82 (by decide)) rfl dX11_adopts_71 ?_
      refine g_nS (fun S_3 => ?_)
      exact g_vret dX11_adopts_72 rfl
    · refine g_aload_n 0 dX11_adopts_37 rfl ?_
      refine g_getK (ci := 11) (k0 := 10) (C0 := RX11) (T := TX11) (N := 17) (hM 77 (by decide)) rfl rfl hiX11_adopts_11 (by decide) (List.mem_of_getElem? (i := 2) rfl) rfl dX11_adopts_38 ?_
      refine g_iload_n 1 dX11_adopts_41 rfl ?_
      refine g_iload_n 1 dX11_adopts_42 rfl ?_
      refine g_iast hG (hM 80 (by decide)) rfl dX11_adopts_43 ?_
      refine g_nS (fun S_4 => ?_)
      refine g_iinc 1 (v := (x1 + 1)) (env' := [(1, .int (x1 + 1)), (0, .ref (gad G 77))]) dX11_adopts_44 rfl rfl (by decide) rfl ?_
      refine g_goto (tgt := 31) dX11_adopts_47 (by decide) ?_
      refine g_env (env' := [(0, .ref (gad G 77)), (1, .int (x1 + 1))]) [1, 0] rfl ?_
      exact ih (x1 + 1) S_4
set_option maxRecDepth 100000 in
set_option maxHeartbeats 4000000 in
theorem tX11_adopts_L2 {G : gGG} {F : State → Heap → Prop} (hG : gOK G) (hF : gSb G F) (hM : gPM G) : ∀ (n : Nat) (x1 : Int32) (S : gSt), Gof G F RX11 cX11_adopts 2 wsX11_adopts none (gRm 0) 0 0 (gQ G (fun x => (none, x))) 2 [(0, .ref (gad G 77)), (1, .int x1)] [] S (fX11_adopts_L2 n x1 S) := by
  intro n
  induction n with
  | zero => intro x1 S; exact g_none
  | succ n ih =>
    intro x1 S
    unfold fX11_adopts_L2
    refine g_iload_n 1 dX11_adopts_2 rfl ?_
    refine g_bipush (v := 94) dX11_adopts_3 (by decide) ?_
    refine g_icmp_ge (tgt := 29) dX11_adopts_5 (by decide) (fun h_1 => ?_) (fun h_1 => ?_)
    · refine g_iconst (v := 0) dX11_adopts_29 (by decide) ?_
      refine g_istore_n (i := 1) (env' := [(1, .int 0), (0, .ref (gad G 77))]) dX11_adopts_30 rfl (by decide) rfl ?_
      refine g_env (env' := [(0, .ref (gad G 77)), (1, .int 0)]) [1, 0] rfl ?_
      exact tX11_adopts_L31 hG hF hM gFU 0 S
    · refine g_aload_n 0 dX11_adopts_8 rfl ?_
      refine g_getK (ci := 11) (k0 := 9) (C0 := RX11) (T := TX11) (N := 17) (hM 77 (by decide)) rfl rfl hiX11_adopts_11 (by decide) (List.mem_of_getElem? (i := 1) rfl) rfl dX11_adopts_9 ?_
      refine g_iload_n 1 dX11_adopts_12 rfl ?_
      refine g_aload_n 0 dX11_adopts_13 rfl ?_
      refine g_getK (ci := 11) (k0 := 9) (C0 := RX11) (T := TX11) (N := 17) (hM 77 (by decide)) rfl rfl hiX11_adopts_11 (by decide) (List.mem_of_getElem? (i := 1) rfl) rfl dX11_adopts_14 ?_
      refine g_bipush (v := 94) dX11_adopts_17 (by decide) ?_
      refine g_iload_n 1 dX11_adopts_19 rfl ?_
      refine g_iadd dX11_adopts_20 ?_
      refine g_iald hG (hM 79 (by decide)) rfl dX11_adopts_21 ?_
      refine g_iast hG (hM 79 (by decide)) rfl dX11_adopts_22 ?_
      refine g_nS (fun S_1 => ?_)
      refine g_iinc 1 (v := (x1 + 1)) (env' := [(1, .int (x1 + 1)), (0, .ref (gad G 77))]) dX11_adopts_23 rfl rfl (by decide) rfl ?_
      refine g_goto (tgt := 2) dX11_adopts_26 (by decide) ?_
      refine g_env (env' := [(0, .ref (gad G 77)), (1, .int (x1 + 1))]) [1, 0] rfl ?_
      exact ih (x1 + 1) S_1
set_option maxRecDepth 100000 in
set_option maxHeartbeats 4000000 in
theorem tX11_adopts_L {G : gGG} {F : State → Heap → Prop} (hG : gOK G) (hF : gSb G F) (hM : gPM G) (S : gSt) : Gof G F RX11 cX11_adopts 2 wsX11_adopts none (gRm 0) 0 0 (gQ G (fun x => (none, x))) 0 [(0, .ref (gad G 77))] [] S (fX11_adopts S) := by
  unfold fX11_adopts
  refine g_iconst (v := 0) dX11_adopts_0 (by decide) ?_
  refine g_istore_n (i := 1) (env' := [(1, .int 0), (0, .ref (gad G 77))]) dX11_adopts_1 rfl (by decide) rfl ?_
  refine g_env (env' := [(0, .ref (gad G 77)), (1, .int 0)]) [1, 0] rfl ?_
  exact tX11_adopts_L2 hG hF hM gFU 0 S
set_option maxRecDepth 100000 in
set_option maxHeartbeats 4000000 in
theorem tX11_adopts {G : gGG} {F : State → Heap → Prop} (hG : gOK G) (hF : gSb G F) (hM : gPM G) (S : gSt) : gCt G F yX11_adopts wsX11_adopts 0 [.ref (gad G 77)] S ((fX11_adopts S).map (fun x => (none, x))) := g_met (by decide +kernel) rfl (Nat.le_of_ble_eq_true rfl) (tX11_adopts_L hG hF hM S)
/-! X11_room -/
theorem hiX11_room_11 : ∀ w ∈ u_ws RX11 TX11 17, w ∈ wsX11_room := fun _ hw => List.mem_cons_of_mem _ (List.mem_append_right _ (hw))
set_option maxRecDepth 100000 in
set_option maxHeartbeats 4000000 in
theorem tX11_room_L165 {G : gGG} {F : State → Heap → Prop} (hG : gOK G) (hF : gSb G F) (hM : gPM G) (x1 : Int32) (S : gSt) : Gof G F RX11 cX11_room 5 wsX11_room (some .int) (gRm 8) 0 0 (gQ G (fun x => (some (.int x.1), x.2))) 165 [(0, .ref (gad G 77)), (1, .int x1)] [] S (fX11_room_L165 x1 S) := by
  unfold fX11_room_L165
  refine g_aload_n 0 dX11_room_165 rfl ?_
  refine g_cVp (ci := 11) (C0 := RX11) (T := TX11) (N := 17) (n := 0) (As := []) (rest := []) hF (tX11_isWell hG hF hM S) gX11_room_X11_isWell rfl (hM 77 (by decide)) rfl rfl ⟨rfl, by decide +kernel, by decide +kernel, by decide +kernel⟩ rfl (gRm_ok (by decide) (by decide)) rfl (Nat.le_of_ble_eq_true rfl) dX11_room_166 (fun v_1 => ?_)
  refine g_if_ne (tgt := 180) dX11_room_169 (by decide) (fun h_1 => ?_) (fun h_1 => ?_)
  · refine g_aload_n 0 dX11_room_180 rfl ?_
    refine g_cVv (ci := 11) (C0 := RX11) (T := TX11) (N := 17) (n := 0) (As := []) (rest := []) hF (tX11_adopts hG hF hM S) gX11_room_X11_adopts rfl (hM 77 (by decide)) rfl rfl ⟨rfl, by decide +kernel, by decide +kernel, by decide +kernel⟩ rfl (gRm_ok (by decide) (by decide)) rfl (Nat.le_of_ble_eq_true rfl) dX11_room_181 (fun S_2 => ?_)
    refine g_aload_n 0 dX11_room_184 rfl ?_
    refine g_iconst (v := 0) dX11_room_185 (by decide) ?_
    refine g_putI hG (ci := 11) (k0 := 3) (C0 := RX11) (T := TX11) (N := 17) (hM 77 (by decide)) rfl rfl hiX11_room_11 (by decide) (List.mem_of_getElem? (i := 7) rfl) tyX11 tyX11_ok nmX11 rfl rfl rfl rfl dX11_room_186 ?_
    refine g_nS (fun S_3 => ?_)
    refine g_iload_n 1 dX11_room_189 rfl ?_
    exact g_iret dX11_room_190 rfl
  · refine g_bipush (v := (-10)) dX11_room_172 (by decide) ?_
    refine g_aload_n 0 dX11_room_174 rfl ?_
    refine g_getI (ci := 11) (k0 := 8) (C0 := RX11) (T := TX11) (N := 17) (hM 77 (by decide)) rfl rfl hiX11_room_11 (by decide) (List.mem_of_getElem? (i := 2) rfl) rfl dX11_room_175 ?_
    refine g_isub dX11_room_178 ?_
    exact g_iret dX11_room_179 rfl
set_option maxRecDepth 100000 in
set_option maxHeartbeats 4000000 in
theorem tX11_room_L155 {G : gGG} {F : State → Heap → Prop} (hG : gOK G) (hF : gSb G F) (hM : gPM G) (k26 : Int32 → gSt → Option (Int32 × gSt)) (hk26 : ∀ (x1 : Int32) (S : gSt), Gof G F RX11 cX11_room 5 wsX11_room (some .int) (gRm 8) 0 0 (gQ G (fun x => (some (.int x.1), x.2))) 26 [(0, .ref (gad G 77)), (1, .int x1)] [] S (k26 x1 S)) (x1 : Int32) (s1 : Int32) (S : gSt) : Gof G F RX11 cX11_room 5 wsX11_room (some .int) (gRm 8) 0 0 (gQ G (fun x => (some (.int x.1), x.2))) 155 [(0, .ref (gad G 77)), (1, .int x1)] [.int s1, .ref (gad G 77)] S (fX11_room_L155 k26 x1 s1 S) := by
  unfold fX11_room_L155
  refine g_cVi (ci := 11) (C0 := RX11) (T := TX11) (N := 17) (n := 1) (As := [.int s1]) (rest := []) hF (tX11_takes hG hF hM s1 S) gX11_room_X11_takes rfl (hM 77 (by decide)) rfl rfl ⟨rfl, by decide +kernel, by decide +kernel, by decide +kernel⟩ rfl (gRm_ok (by decide) (by decide)) rfl (Nat.le_of_ble_eq_true rfl) dX11_room_155 (fun v_1 S_2 => ?_)
  refine g_pop dX11_room_158 rfl ?_
  refine g_iinc 1 (v := (x1 + 1)) (env' := [(1, .int (x1 + 1)), (0, .ref (gad G 77))]) dX11_room_159 rfl rfl (by decide) rfl ?_
  refine g_goto (tgt := 26) dX11_room_162 (by decide) ?_
  refine g_env (env' := [(0, .ref (gad G 77)), (1, .int (x1 + 1))]) [1, 0] rfl ?_
  exact hk26 (x1 + 1) S_2
set_option maxRecDepth 100000 in
set_option maxHeartbeats 4000000 in
theorem tX11_room_L141 {G : gGG} {F : State → Heap → Prop} (hG : gOK G) (hF : gSb G F) (hM : gPM G) (k26 : Int32 → gSt → Option (Int32 × gSt)) (hk26 : ∀ (x1 : Int32) (S : gSt), Gof G F RX11 cX11_room 5 wsX11_room (some .int) (gRm 8) 0 0 (gQ G (fun x => (some (.int x.1), x.2))) 26 [(0, .ref (gad G 77)), (1, .int x1)] [] S (k26 x1 S)) (x1 : Int32) (S : gSt) : Gof G F RX11 cX11_room 5 wsX11_room (some .int) (gRm 8) 0 0 (gQ G (fun x => (some (.int x.1), x.2))) 141 [(0, .ref (gad G 77)), (1, .int x1)] [] S (fX11_room_L141 k26 x1 S) := by
  unfold fX11_room_L141
  refine g_aload_n 0 dX11_room_141 rfl ?_
  refine g_aload_n 0 dX11_room_142 rfl ?_
  refine g_getI (ci := 11) (k0 := 5) (C0 := RX11) (T := TX11) (N := 17) (hM 77 (by decide)) rfl rfl hiX11_room_11 (by decide) (List.mem_of_getElem? (i := 4) rfl) rfl dX11_room_143 ?_
  refine g_iconst (v := 3) dX11_room_146 (by decide) ?_
  refine g_icmp_ne (tgt := 154) dX11_room_147 (by decide) (fun h_1 => ?_) (fun h_1 => ?_)
  · refine g_iconst (v := 0) dX11_room_154 (by decide) ?_
    exact tX11_room_L155 hG hF hM k26 hk26 x1 0 S
  · refine g_iconst (v := 1) dX11_room_150 (by decide) ?_
    refine g_goto (tgt := 155) dX11_room_151 (by decide) ?_
    exact tX11_room_L155 hG hF hM k26 hk26 x1 1 S
set_option maxRecDepth 100000 in
set_option maxHeartbeats 4000000 in
theorem tX11_room_L120 {G : gGG} {F : State → Heap → Prop} (hG : gOK G) (hF : gSb G F) (hM : gPM G) (k26 : Int32 → gSt → Option (Int32 × gSt)) (hk26 : ∀ (x1 : Int32) (S : gSt), Gof G F RX11 cX11_room 5 wsX11_room (some .int) (gRm 8) 0 0 (gQ G (fun x => (some (.int x.1), x.2))) 26 [(0, .ref (gad G 77)), (1, .int x1)] [] S (k26 x1 S)) (x1 : Int32) (s0 : Int32) (S : gSt) : Gof G F RX11 cX11_room 5 wsX11_room (some .int) (gRm 8) 0 0 (gQ G (fun x => (some (.int x.1), x.2))) 120 [(0, .ref (gad G 77)), (1, .int x1)] [.int s0] S (fX11_room_L120 k26 x1 s0 S) := by
  unfold fX11_room_L120
  refine g_istore_n (i := 3) (env' := [(3, .int s0), (0, .ref (gad G 77)), (1, .int x1)]) dX11_room_120 rfl (by decide) rfl ?_
  refine g_aload_n 1 dX11_room_121 rfl ?_
  refine g_iload_n 0 dX11_room_122 rfl ?_
  refine g_cVi (ci := 11) (C0 := RX11) (T := TX11) (N := 17) (n := 1) (As := [.int s0]) (rest := []) hF (tX11_takes hG hF hM s0 S) gX11_room_X11_takes rfl (hM 77 (by decide)) rfl rfl ⟨rfl, by decide +kernel, by decide +kernel, by decide +kernel⟩ rfl (gRm_ok (by decide) (by decide)) rfl (Nat.le_of_ble_eq_true rfl) dX11_room_123 (fun v_1 S_2 => ?_)
  refine g_istore (i := 4) (env' := [(4, .int v_1), (3, .int s0), (0, .ref (gad G 77)), (1, .int x1)]) dX11_room_126 (by decide) rfl ?_
  refine g_aload_n 2 dX11_room_128 rfl ?_
  refine g_cVp (ci := 11) (C0 := RX11) (T := TX11) (N := 17) (n := 0) (As := []) (rest := []) hF (tX11_isWell hG hF hM S_2) gX11_room_X11_isWell rfl (hM 77 (by decide)) rfl rfl ⟨rfl, by decide +kernel, by decide +kernel, by decide +kernel⟩ rfl (gRm_ok (by decide) (by decide)) rfl (Nat.le_of_ble_eq_true rfl) dX11_room_129 (fun v_3 => ?_)
  refine g_if_eq (tgt := 141) dX11_room_132 (by decide) (fun h_1 => ?_) (fun h_1 => ?_)
  · refine g_env (env' := [(0, .ref (gad G 77)), (1, .int x1)]) [2, 3] rfl ?_
    exact tX11_room_L141 hG hF hM k26 hk26 x1 S_2
  · refine g_aload_n 2 dX11_room_135 rfl ?_
    refine g_iload 0 dX11_room_136 rfl ?_
    refine g_cVv (ci := 11) (C0 := RX11) (T := TX11) (N := 17) (n := 1) (As := [.int v_1]) (rest := []) hF (tX11_readsItem hG hF hM v_1 S_2) gX11_room_X11_readsItem rfl (hM 77 (by decide)) rfl rfl ⟨rfl, by decide +kernel, by decide +kernel, by decide +kernel⟩ rfl (gRm_ok (by decide) (by decide)) rfl (Nat.le_of_ble_eq_true rfl) dX11_room_138 (fun S_4 => ?_)
    refine g_env (env' := [(0, .ref (gad G 77)), (1, .int x1)]) [2, 3] rfl ?_
    exact tX11_room_L141 hG hF hM k26 hk26 x1 S_4
set_option maxRecDepth 100000 in
set_option maxHeartbeats 4000000 in
theorem tX11_room_L110 {G : gGG} {F : State → Heap → Prop} (hG : gOK G) (hF : gSb G F) (hM : gPM G) (k26 : Int32 → gSt → Option (Int32 × gSt)) (hk26 : ∀ (x1 : Int32) (S : gSt), Gof G F RX11 cX11_room 5 wsX11_room (some .int) (gRm 8) 0 0 (gQ G (fun x => (some (.int x.1), x.2))) 26 [(0, .ref (gad G 77)), (1, .int x1)] [] S (k26 x1 S)) (x1 : Int32) (s1 : Int32) (s2 : Int32) (S : gSt) : Gof G F RX11 cX11_room 5 wsX11_room (some .int) (gRm 8) 0 0 (gQ G (fun x => (some (.int x.1), x.2))) 110 [(0, .ref (gad G 77)), (1, .int x1)] [.int s2, .int s1, .ref (gad G 79)] S (fX11_room_L110 k26 x1 s1 s2 S) := by
  unfold fX11_room_L110
  refine g_iadd dX11_room_110 ?_
  refine g_iald hG (hM 79 (by decide)) rfl dX11_room_111 ?_
  refine g_if_ne (tgt := 119) dX11_room_112 (by decide) (fun h_1 => ?_) (fun h_1 => ?_)
  · refine g_iconst (v := 0) dX11_room_119 (by decide) ?_
    exact tX11_room_L120 hG hF hM k26 hk26 x1 0 S
  · refine g_iconst (v := 1) dX11_room_115 (by decide) ?_
    refine g_goto (tgt := 120) dX11_room_116 (by decide) ?_
    exact tX11_room_L120 hG hF hM k26 hk26 x1 1 S
set_option maxRecDepth 100000 in
set_option maxHeartbeats 4000000 in
theorem tX11_room_L86 {G : gGG} {F : State → Heap → Prop} (hG : gOK G) (hF : gSb G F) (hM : gPM G) (k26 : Int32 → gSt → Option (Int32 × gSt)) (hk26 : ∀ (x1 : Int32) (S : gSt), Gof G F RX11 cX11_room 5 wsX11_room (some .int) (gRm 8) 0 0 (gQ G (fun x => (some (.int x.1), x.2))) 26 [(0, .ref (gad G 77)), (1, .int x1)] [] S (k26 x1 S)) (x1 : Int32) (x2 : Int32) (S : gSt) : Gof G F RX11 cX11_room 5 wsX11_room (some .int) (gRm 8) 0 0 (gQ G (fun x => (some (.int x.1), x.2))) 86 [(0, .ref (gad G 77)), (1, .int x1), (2, .int x2)] [] S (fX11_room_L86 k26 x1 x2 S) := by
  unfold fX11_room_L86
  refine g_iload_n 2 dX11_room_86 rfl ?_
  refine g_if_eq (tgt := 115) dX11_room_87 (by decide) (fun h_1 => ?_) (fun h_1 => ?_)
  · refine g_iconst (v := 1) dX11_room_115 (by decide) ?_
    refine g_goto (tgt := 120) dX11_room_116 (by decide) ?_
    refine g_env (env' := [(0, .ref (gad G 77)), (1, .int x1)]) [0, 1] rfl ?_
    exact tX11_room_L120 hG hF hM k26 hk26 x1 1 S
  · refine g_aload_n 0 dX11_room_90 rfl ?_
    refine g_getK (ci := 11) (k0 := 9) (C0 := RX11) (T := TX11) (N := 17) (hM 77 (by decide)) rfl rfl hiX11_room_11 (by decide) (List.mem_of_getElem? (i := 6) rfl) rfl dX11_room_91 ?_
    refine g_bipush (v := 103) dX11_room_94 (by decide) ?_
    refine g_iload_n 2 dX11_room_96 rfl ?_
    refine g_if_eq (tgt := 109) dX11_room_97 (by decide) (fun h_2 => ?_) (fun h_2 => ?_)
    · refine g_iconst (v := 0) dX11_room_109 (by decide) ?_
      refine g_env (env' := [(0, .ref (gad G 77)), (1, .int x1)]) [0, 1] rfl ?_
      exact tX11_room_L110 hG hF hM k26 hk26 x1 103 0 S
    · refine g_aload_n 0 dX11_room_100 rfl ?_
      refine g_getI (ci := 11) (k0 := 7) (C0 := RX11) (T := TX11) (N := 17) (hM 77 (by decide)) rfl rfl hiX11_room_11 (by decide) (List.mem_of_getElem? (i := 5) rfl) rfl dX11_room_101 ?_
      refine g_iconst (v := 2) dX11_room_104 (by decide) ?_
      refine g_isub dX11_room_105 ?_
      refine g_goto (tgt := 110) dX11_room_106 (by decide) ?_
      refine g_env (env' := [(0, .ref (gad G 77)), (1, .int x1)]) [0, 1] rfl ?_
      exact tX11_room_L110 hG hF hM k26 hk26 x1 103 ((gR S 77 7) - 2) S
set_option maxRecDepth 100000 in
set_option maxHeartbeats 4000000 in
theorem tX11_room_L66 {G : gGG} {F : State → Heap → Prop} (hG : gOK G) (hF : gSb G F) (hM : gPM G) (k26 : Int32 → gSt → Option (Int32 × gSt)) (hk26 : ∀ (x1 : Int32) (S : gSt), Gof G F RX11 cX11_room 5 wsX11_room (some .int) (gRm 8) 0 0 (gQ G (fun x => (some (.int x.1), x.2))) 26 [(0, .ref (gad G 77)), (1, .int x1)] [] S (k26 x1 S)) (x1 : Int32) (s0 : Int32) (S : gSt) : Gof G F RX11 cX11_room 5 wsX11_room (some .int) (gRm 8) 0 0 (gQ G (fun x => (some (.int x.1), x.2))) 66 [(0, .ref (gad G 77)), (1, .int x1)] [.int s0] S (fX11_room_L66 k26 x1 s0 S) := by
  unfold fX11_room_L66
  refine g_istore_n (i := 2) (env' := [(2, .int s0), (0, .ref (gad G 77)), (1, .int x1)]) dX11_room_66 rfl (by decide) rfl ?_
  refine g_aload_n 1 dX11_room_67 rfl ?_
  refine g_getI (ci := 11) (k0 := 5) (C0 := RX11) (T := TX11) (N := 17) (hM 77 (by decide)) rfl rfl hiX11_room_11 (by decide) (List.mem_of_getElem? (i := 4) rfl) rfl dX11_room_68 ?_
  refine g_iconst (v := 1) dX11_room_71 (by decide) ?_
  refine g_icmp_ne (tgt := 119) dX11_room_72 (by decide) (fun h_1 => ?_) (fun h_1 => ?_)
  · refine g_iconst (v := 0) dX11_room_119 (by decide) ?_
    refine g_env (env' := [(0, .ref (gad G 77)), (1, .int x1)]) [1, 2] rfl ?_
    exact tX11_room_L120 hG hF hM k26 hk26 x1 0 S
  · refine g_aload_n 1 dX11_room_75 rfl ?_
    refine g_getI (ci := 11) (k0 := 7) (C0 := RX11) (T := TX11) (N := 17) (hM 77 (by decide)) rfl rfl hiX11_room_11 (by decide) (List.mem_of_getElem? (i := 5) rfl) rfl dX11_room_76 ?_
    refine g_if_ne (tgt := 86) dX11_room_79 (by decide) (fun h_2 => ?_) (fun h_2 => ?_)
    · refine g_env (env' := [(0, .ref (gad G 77)), (1, .int x1), (2, .int s0)]) [1, 2, 0] rfl ?_
      exact tX11_room_L86 hG hF hM k26 hk26 x1 s0 S
    · refine g_iload_n 2 dX11_room_82 rfl ?_
      refine g_if_ne (tgt := 119) dX11_room_83 (by decide) (fun h_3 => ?_) (fun h_3 => ?_)
      · refine g_iconst (v := 0) dX11_room_119 (by decide) ?_
        refine g_env (env' := [(0, .ref (gad G 77)), (1, .int x1)]) [1, 2] rfl ?_
        exact tX11_room_L120 hG hF hM k26 hk26 x1 0 S
      · refine g_env (env' := [(0, .ref (gad G 77)), (1, .int x1), (2, .int s0)]) [1, 2, 0] rfl ?_
        exact tX11_room_L86 hG hF hM k26 hk26 x1 s0 S
set_option maxRecDepth 100000 in
set_option maxHeartbeats 4000000 in
theorem tX11_room_L26 {G : gGG} {F : State → Heap → Prop} (hG : gOK G) (hF : gSb G F) (hM : gPM G) : ∀ (n : Nat) (x1 : Int32) (S : gSt), Gof G F RX11 cX11_room 5 wsX11_room (some .int) (gRm 8) 0 0 (gQ G (fun x => (some (.int x.1), x.2))) 26 [(0, .ref (gad G 77)), (1, .int x1)] [] S (fX11_room_L26 n x1 S) := by
  intro n
  induction n with
  | zero => intro x1 S; exact g_none
  | succ n ih =>
    intro x1 S
    unfold fX11_room_L26
    refine g_aload_n 0 dX11_room_26 rfl ?_
    refine g_cVp (ci := 11) (C0 := RX11) (T := TX11) (N := 17) (n := 0) (As := []) (rest := []) hF (tX11_isWell hG hF hM S) gX11_room_X11_isWell rfl (hM 77 (by decide)) rfl rfl ⟨rfl, by decide +kernel, by decide +kernel, by decide +kernel⟩ rfl (gRm_ok (by decide) (by decide)) rfl (Nat.le_of_ble_eq_true rfl) dX11_room_27 (fun v_1 => ?_)
    refine g_if_eq (tgt := 165) dX11_room_30 (by decide) (fun h_1 => ?_) (fun h_1 => ?_)
    · exact tX11_room_L165 hG hF hM x1 S
    · refine g_aload_n 0 dX11_room_33 rfl ?_
      refine g_getI (ci := 11) (k0 := 5) (C0 := RX11) (T := TX11) (N := 17) (hM 77 (by decide)) rfl rfl hiX11_room_11 (by decide) (List.mem_of_getElem? (i := 4) rfl) rfl dX11_room_34 ?_
      refine g_if_eq (tgt := 165) dX11_room_37 (by decide) (fun h_2 => ?_) (fun h_2 => ?_)
      · exact tX11_room_L165 hG hF hM x1 S
      · refine g_aload_n 0 dX11_room_40 rfl ?_
        refine g_getI (ci := 11) (k0 := 5) (C0 := RX11) (T := TX11) (N := 17) (hM 77 (by decide)) rfl rfl hiX11_room_11 (by decide) (List.mem_of_getElem? (i := 4) rfl) rfl dX11_room_41 ?_
        refine g_iconst (v := 1) dX11_room_44 (by decide) ?_
        refine g_icmp_ne (tgt := 65) dX11_room_45 (by decide) (fun h_3 => ?_) (fun h_3 => ?_)
        · refine g_iconst (v := 0) dX11_room_65 (by decide) ?_
          exact tX11_room_L66 hG hF hM (fX11_room_L26 n) ih x1 0 S
        · refine g_aload_n 0 dX11_room_48 rfl ?_
          refine g_getI (ci := 11) (k0 := 7) (C0 := RX11) (T := TX11) (N := 17) (hM 77 (by decide)) rfl rfl hiX11_room_11 (by decide) (List.mem_of_getElem? (i := 5) rfl) rfl dX11_room_49 ?_
          refine g_iconst (v := 2) dX11_room_52 (by decide) ?_
          refine g_bipush (v := 6) dX11_room_53 (by decide) ?_
          refine g_cSp (n := 3) (As := [.int (gR S 77 7), .int 2, .int 6]) (rest := []) hF (tX11_in hG hF hM (gR S 77 7) 2 6 S) gX11_room_X11_in rfl ⟨by decide +kernel, by decide +kernel, by decide +kernel⟩ rfl (gRm_ok (by decide) (by decide)) rfl (Nat.le_of_ble_eq_true rfl) dX11_room_55 (fun v_2 => ?_)
          refine g_if_eq (tgt := 65) dX11_room_58 (by decide) (fun h_4 => ?_) (fun h_4 => ?_)
          · refine g_iconst (v := 0) dX11_room_65 (by decide) ?_
            exact tX11_room_L66 hG hF hM (fX11_room_L26 n) ih x1 0 S
          · refine g_iconst (v := 1) dX11_room_61 (by decide) ?_
            refine g_goto (tgt := 66) dX11_room_62 (by decide) ?_
            exact tX11_room_L66 hG hF hM (fX11_room_L26 n) ih x1 1 S
set_option maxRecDepth 100000 in
set_option maxHeartbeats 4000000 in
theorem tX11_room_L {G : gGG} {F : State → Heap → Prop} (hG : gOK G) (hF : gSb G F) (hM : gPM G) (S : gSt) : Gof G F RX11 cX11_room 5 wsX11_room (some .int) (gRm 8) 0 0 (gQ G (fun x => (some (.int x.1), x.2))) 0 [(0, .ref (gad G 77))] [] S (fX11_room S) := by
  unfold fX11_room
  refine g_aload_n 0 dX11_room_0 rfl ?_
  refine g_iconst (v := 0) dX11_room_1 (by decide) ?_
  refine g_putI hG (ci := 11) (k0 := 0) (C0 := RX11) (T := TX11) (N := 17) (hM 77 (by decide)) rfl rfl hiX11_room_11 (by decide) (List.mem_of_getElem? (i := 1) rfl) tyX11 tyX11_ok nmX11 rfl rfl rfl rfl dX11_room_2 ?_
  refine g_nS (fun S_1 => ?_)
  refine g_aload_n 0 dX11_room_5 rfl ?_
  refine g_iconst (v := (-1)) dX11_room_6 (by decide) ?_
  refine g_putI hG (ci := 11) (k0 := 8) (C0 := RX11) (T := TX11) (N := 17) (hM 77 (by decide)) rfl rfl hiX11_room_11 (by decide) (List.mem_of_getElem? (i := 2) rfl) tyX11 tyX11_ok nmX11 rfl rfl rfl rfl dX11_room_7 ?_
  refine g_nS (fun S_2 => ?_)
  refine g_aload_n 0 dX11_room_10 rfl ?_
  refine g_iconst (v := 0) dX11_room_11 (by decide) ?_
  refine g_putI hG (ci := 11) (k0 := 4) (C0 := RX11) (T := TX11) (N := 17) (hM 77 (by decide)) rfl rfl hiX11_room_11 (by decide) (List.mem_of_getElem? (i := 3) rfl) tyX11 tyX11_ok nmX11 rfl rfl rfl rfl dX11_room_12 ?_
  refine g_nS (fun S_3 => ?_)
  refine g_iconst (v := 0) dX11_room_15 (by decide) ?_
  refine g_istore_n (i := 1) (env' := [(1, .int 0), (0, .ref (gad G 77))]) dX11_room_16 rfl (by decide) rfl ?_
  refine g_aload_n 1 dX11_room_17 rfl ?_
  refine g_iconst (v := 4) dX11_room_18 (by decide) ?_
  refine g_cVv (ci := 11) (C0 := RX11) (T := TX11) (N := 17) (n := 1) (As := [.int 4]) (rest := []) hF (tX11_drafts hG hF hM 4 S_3) gX11_room_X11_drafts rfl (hM 77 (by decide)) rfl rfl ⟨rfl, by decide +kernel, by decide +kernel, by decide +kernel⟩ rfl (gRm_ok (by decide) (by decide)) rfl (Nat.le_of_ble_eq_true rfl) dX11_room_19 (fun S_4 => ?_)
  refine g_aload_n 1 dX11_room_22 rfl ?_
  refine g_cVv (ci := 11) (C0 := RX11) (T := TX11) (N := 17) (n := 0) (As := []) (rest := []) hF (tX11_advances hG hF hM S_4) gX11_room_X11_advances rfl (hM 77 (by decide)) rfl rfl ⟨rfl, by decide +kernel, by decide +kernel, by decide +kernel⟩ rfl (gRm_ok (by decide) (by decide)) rfl (Nat.le_of_ble_eq_true rfl) dX11_room_23 (fun S_5 => ?_)
  refine g_env (env' := [(0, .ref (gad G 77)), (1, .int 0)]) [1, 0] rfl ?_
  exact tX11_room_L26 hG hF hM gFU 0 S_5
set_option maxRecDepth 100000 in
set_option maxHeartbeats 4000000 in
theorem tX11_room {G : gGG} {F : State → Heap → Prop} (hG : gOK G) (hF : gSb G F) (hM : gPM G) (S : gSt) : gCt G F yX11_room wsX11_room 8 [.ref (gad G 77)] S ((fX11_room S).map (fun x => (some (.int x.1), x.2))) := g_met (by decide +kernel) rfl (Nat.le_of_ble_eq_true rfl) (tX11_room_L hG hF hM S)
/-! X11_guests -/
theorem hiX11_guests_11 : ∀ w ∈ u_ws RX11 TX11 17, w ∈ wsX11_guests := fun _ hw => List.mem_cons_of_mem _ (List.mem_append_right _ (hw))
set_option maxRecDepth 100000 in
set_option maxHeartbeats 4000000 in
theorem tX11_guests_L {G : gGG} {F : State → Heap → Prop} (hG : gOK G) (hF : gSb G F) (hM : gPM G) (S : gSt) : Gof G F RX11 cX11_guests 1 wsX11_guests (some .int) (gRm 0) 0 0 (gQ G (fun x => (some (.int x), S))) 0 [(0, .ref (gad G 77))] [] S (fX11_guests S) := by
  unfold fX11_guests
  refine g_aload_n 0 dX11_guests_0 rfl ?_
  refine g_getK (ci := 11) (k0 := 9) (C0 := RX11) (T := TX11) (N := 17) (hM 77 (by decide)) rfl rfl hiX11_guests_11 (by decide) (List.mem_of_getElem? (i := 1) rfl) rfl dX11_guests_1 ?_
  refine g_iconst (v := 0) dX11_guests_4 (by decide) ?_
  refine g_iald hG (hM 79 (by decide)) rfl dX11_guests_5 ?_
  exact g_iret dX11_guests_6 rfl
set_option maxRecDepth 100000 in
set_option maxHeartbeats 4000000 in
theorem tX11_guests {G : gGG} {F : State → Heap → Prop} (hG : gOK G) (hF : gSb G F) (hM : gPM G) (S : gSt) : gCt G F yX11_guests wsX11_guests 0 [.ref (gad G 77)] S ((fX11_guests S).map (fun x => (some (.int x), S))) := g_met (by decide +kernel) rfl (Nat.le_of_ble_eq_true rfl) (tX11_guests_L hG hF hM S)
/-! X11_isGuest -/
set_option maxRecDepth 100000 in
set_option maxHeartbeats 4000000 in
theorem tX11_isGuest_L {G : gGG} {F : State → Heap → Prop} (hG : gOK G) (hF : gSb G F) (hM : gPM G) (a1 : Int32) (S : gSt) : Gof G F RX11 cX11_isGuest 2 wsX11_isGuest (some .boolean) (gRm 1) 0 0 (gQ G (fun x => (some (.int x), S))) 0 [(0, .ref (gad G 77)), (1, .int a1)] [] S (fX11_isGuest a1 S) := by
  unfold fX11_isGuest
  refine g_iload_n 1 dX11_isGuest_0 rfl ?_
  refine g_iconst (v := 0) dX11_isGuest_1 (by decide) ?_
  refine g_aload_n 0 dX11_isGuest_2 rfl ?_
  refine g_cVp (ci := 11) (C0 := RX11) (T := TX11) (N := 17) (n := 0) (As := []) (rest := [.int 0, .int a1]) hF (tX11_guests hG hF hM S) gX11_isGuest_X11_guests rfl (hM 77 (by decide)) rfl rfl ⟨rfl, by decide +kernel, by decide +kernel, by decide +kernel⟩ rfl (gRm_ok (by decide) (by decide)) rfl (Nat.le_of_ble_eq_true rfl) dX11_isGuest_3 (fun v_1 => ?_)
  refine g_iconst (v := 1) dX11_isGuest_6 (by decide) ?_
  refine g_isub dX11_isGuest_7 ?_
  refine g_cSp (n := 3) (As := [.int a1, .int 0, .int (v_1 - 1)]) (rest := []) hF (tX11_in hG hF hM a1 0 (v_1 - 1) S) gX11_isGuest_X11_in rfl ⟨by decide +kernel, by decide +kernel, by decide +kernel⟩ rfl (gRm_ok (by decide) (by decide)) rfl (Nat.le_of_ble_eq_true rfl) dX11_isGuest_8 (fun v_2 => ?_)
  refine g_gC (fun h_1 => ?_)
  exact g_zret (gBo_nar h_1) dX11_isGuest_11 rfl
set_option maxRecDepth 100000 in
set_option maxHeartbeats 4000000 in
theorem tX11_isGuest {G : gGG} {F : State → Heap → Prop} (hG : gOK G) (hF : gSb G F) (hM : gPM G) (a1 : Int32) (S : gSt) : gCt G F yX11_isGuest wsX11_isGuest 1 [.ref (gad G 77), .int a1] S ((fX11_isGuest a1 S).map (fun x => (some (.int x), S))) := g_met (by decide +kernel) rfl (Nat.le_of_ble_eq_true rfl) (tX11_isGuest_L hG hF hM a1 S)
/-! X11_areTwo -/
set_option maxRecDepth 100000 in
set_option maxHeartbeats 4000000 in
theorem tX11_areTwo_L {G : gGG} {F : State → Heap → Prop} (hG : gOK G) (hF : gSb G F) (hM : gPM G) (a1 : Int32) (a2 : Int32) (S : gSt) : Gof G F RX11 cX11_areTwo 3 wsX11_areTwo (some .boolean) (gRm 2) 0 0 (gQ G (fun x => (some (.int x), S))) 0 [(0, .ref (gad G 77)), (1, .int a1), (2, .int a2)] [] S (fX11_areTwo a1 a2 S) := by
  unfold fX11_areTwo
  refine g_aload_n 0 dX11_areTwo_0 rfl ?_
  refine g_iload_n 1 dX11_areTwo_1 rfl ?_
  refine g_cVp (ci := 11) (C0 := RX11) (T := TX11) (N := 17) (n := 1) (As := [.int a1]) (rest := []) hF (tX11_isGuest hG hF hM a1 S) gX11_areTwo_X11_isGuest rfl (hM 77 (by decide)) rfl rfl ⟨rfl, by decide +kernel, by decide +kernel, by decide +kernel⟩ rfl (gRm_ok (by decide) (by decide)) rfl (Nat.le_of_ble_eq_true rfl) dX11_areTwo_2 (fun v_1 => ?_)
  refine g_if_eq (tgt := 25) dX11_areTwo_5 (by decide) (fun h_1 => ?_) (fun h_1 => ?_)
  · refine g_iconst (v := 0) dX11_areTwo_25 (by decide) ?_
    exact g_zret (by decide) dX11_areTwo_26 rfl
  · refine g_aload_n 0 dX11_areTwo_8 rfl ?_
    refine g_iload_n 2 dX11_areTwo_9 rfl ?_
    refine g_cVp (ci := 11) (C0 := RX11) (T := TX11) (N := 17) (n := 1) (As := [.int a2]) (rest := []) hF (tX11_isGuest hG hF hM a2 S) gX11_areTwo_X11_isGuest rfl (hM 77 (by decide)) rfl rfl ⟨rfl, by decide +kernel, by decide +kernel, by decide +kernel⟩ rfl (gRm_ok (by decide) (by decide)) rfl (Nat.le_of_ble_eq_true rfl) dX11_areTwo_10 (fun v_2 => ?_)
    refine g_if_eq (tgt := 25) dX11_areTwo_13 (by decide) (fun h_2 => ?_) (fun h_2 => ?_)
    · refine g_iconst (v := 0) dX11_areTwo_25 (by decide) ?_
      exact g_zret (by decide) dX11_areTwo_26 rfl
    · refine g_iload_n 1 dX11_areTwo_16 rfl ?_
      refine g_iload_n 2 dX11_areTwo_17 rfl ?_
      refine g_icmp_eq (tgt := 25) dX11_areTwo_18 (by decide) (fun h_3 => ?_) (fun h_3 => ?_)
      · refine g_iconst (v := 0) dX11_areTwo_25 (by decide) ?_
        exact g_zret (by decide) dX11_areTwo_26 rfl
      · refine g_iconst (v := 1) dX11_areTwo_21 (by decide) ?_
        refine g_goto (tgt := 26) dX11_areTwo_22 (by decide) ?_
        exact g_zret (by decide) dX11_areTwo_26 rfl
set_option maxRecDepth 100000 in
set_option maxHeartbeats 4000000 in
theorem tX11_areTwo {G : gGG} {F : State → Heap → Prop} (hG : gOK G) (hF : gSb G F) (hM : gPM G) (a1 : Int32) (a2 : Int32) (S : gSt) : gCt G F yX11_areTwo wsX11_areTwo 2 [.ref (gad G 77), .int a1, .int a2] S ((fX11_areTwo a1 a2 S).map (fun x => (some (.int x), S))) := g_met (by decide +kernel) rfl (Nat.le_of_ble_eq_true rfl) (tX11_areTwo_L hG hF hM a1 a2 S)
/-! X11_law -/
theorem hiX11_law_11 : ∀ w ∈ u_ws RX11 TX11 17, w ∈ wsX11_law := fun _ hw => List.mem_cons_of_mem _ (List.mem_append_right _ (hw))
set_option maxRecDepth 100000 in
set_option maxHeartbeats 4000000 in
theorem tX11_law_L {G : gGG} {F : State → Heap → Prop} (hG : gOK G) (hF : gSb G F) (hM : gPM G) (a1 : Int32) (S : gSt) : Gof G F RX11 cX11_law 2 wsX11_law (some .int) (gRm 1) 0 0 (gQ G (fun x => (some (.int x.1), x.2))) 0 [(0, .ref (gad G 77)), (1, .int a1)] [] S (fX11_law a1 S) := by
  unfold fX11_law
  refine g_aload_n 0 dX11_law_0 rfl ?_
  refine g_iconst (v := 0) dX11_law_1 (by decide) ?_
  refine g_putI hG (ci := 11) (k0 := 0) (C0 := RX11) (T := TX11) (N := 17) (hM 77 (by decide)) rfl rfl hiX11_law_11 (by decide) (List.mem_of_getElem? (i := 1) rfl) tyX11 tyX11_ok nmX11 rfl rfl rfl rfl dX11_law_2 ?_
  refine g_nS (fun S_1 => ?_)
  refine g_iload_n 1 dX11_law_5 rfl ?_
  refine g_iconst (v := 0) dX11_law_6 (by decide) ?_
  refine g_iconst (v := 4) dX11_law_7 (by decide) ?_
  refine g_cSp (n := 3) (As := [.int a1, .int 0, .int 4]) (rest := []) hF (tX11_in hG hF hM a1 0 4 S_1) gX11_law_X11_in rfl ⟨by decide +kernel, by decide +kernel, by decide +kernel⟩ rfl (gRm_ok (by decide) (by decide)) rfl (Nat.le_of_ble_eq_true rfl) dX11_law_8 (fun v_2 => ?_)
  refine g_if_eq (tgt := 26) dX11_law_11 (by decide) (fun h_1 => ?_) (fun h_1 => ?_)
  · refine g_iconst (v := (-1)) dX11_law_26 (by decide) ?_
    exact g_iret dX11_law_27 rfl
  · refine g_aload_n 0 dX11_law_14 rfl ?_
    refine g_getK (ci := 11) (k0 := 9) (C0 := RX11) (T := TX11) (N := 17) (hM 77 (by decide)) rfl rfl hiX11_law_11 (by decide) (List.mem_of_getElem? (i := 2) rfl) rfl dX11_law_15 ?_
    refine g_bipush (v := 9) dX11_law_18 (by decide) ?_
    refine g_iload_n 1 dX11_law_20 rfl ?_
    refine g_iadd dX11_law_21 ?_
    refine g_iald hG (hM 79 (by decide)) rfl dX11_law_22 ?_
    refine g_goto (tgt := 27) dX11_law_23 (by decide) ?_
    exact g_iret dX11_law_27 rfl
set_option maxRecDepth 100000 in
set_option maxHeartbeats 4000000 in
theorem tX11_law {G : gGG} {F : State → Heap → Prop} (hG : gOK G) (hF : gSb G F) (hM : gPM G) (a1 : Int32) (S : gSt) : gCt G F yX11_law wsX11_law 1 [.ref (gad G 77), .int a1] S ((fX11_law a1 S).map (fun x => (some (.int x.1), x.2))) := g_met (by decide +kernel) rfl (Nat.le_of_ble_eq_true rfl) (tX11_law_L hG hF hM a1 S)
/-! X11_pair -/
theorem hiX11_pair_11 : ∀ w ∈ u_ws RX11 TX11 17, w ∈ wsX11_pair := fun _ hw => List.mem_cons_of_mem _ (List.mem_append_right _ (hw))
set_option maxRecDepth 100000 in
set_option maxHeartbeats 4000000 in
theorem tX11_pair_L {G : gGG} {F : State → Heap → Prop} (hG : gOK G) (hF : gSb G F) (hM : gPM G) (a1 : Int32) (a2 : Int32) (a3 : Int32) (S : gSt) : Gof G F RX11 cX11_pair 4 wsX11_pair (some .int) (gRm 3) 0 0 (gQ G (fun x => (some (.int x.1), x.2))) 0 [(0, .ref (gad G 77)), (1, .int a1), (2, .int a2), (3, .int a3)] [] S (fX11_pair a1 a2 a3 S) := by
  unfold fX11_pair
  refine g_aload_n 0 dX11_pair_0 rfl ?_
  refine g_iconst (v := 0) dX11_pair_1 (by decide) ?_
  refine g_putI hG (ci := 11) (k0 := 0) (C0 := RX11) (T := TX11) (N := 17) (hM 77 (by decide)) rfl rfl hiX11_pair_11 (by decide) (List.mem_of_getElem? (i := 1) rfl) tyX11 tyX11_ok nmX11 rfl rfl rfl rfl dX11_pair_2 ?_
  refine g_nS (fun S_1 => ?_)
  refine g_aload_n 0 dX11_pair_5 rfl ?_
  refine g_iload_n 1 dX11_pair_6 rfl ?_
  refine g_iload_n 2 dX11_pair_7 rfl ?_
  refine g_cVp (ci := 11) (C0 := RX11) (T := TX11) (N := 17) (n := 2) (As := [.int a1, .int a2]) (rest := []) hF (tX11_areTwo hG hF hM a1 a2 S_1) gX11_pair_X11_areTwo rfl (hM 77 (by decide)) rfl rfl ⟨rfl, by decide +kernel, by decide +kernel, by decide +kernel⟩ rfl (gRm_ok (by decide) (by decide)) rfl (Nat.le_of_ble_eq_true rfl) dX11_pair_8 (fun v_2 => ?_)
  refine g_if_eq (tgt := 23) dX11_pair_11 (by decide) (fun h_1 => ?_) (fun h_1 => ?_)
  · refine g_ldc (List.mem_of_getElem? (i := 2) rfl) dX11_pair_23 ?_
    exact g_iret dX11_pair_25 rfl
  · refine g_iload_n 3 dX11_pair_14 rfl ?_
    refine g_iconst (v := 0) dX11_pair_15 (by decide) ?_
    refine g_iconst (v := 2) dX11_pair_16 (by decide) ?_
    refine g_cSp (n := 3) (As := [.int a3, .int 0, .int 2]) (rest := []) hF (tX11_in hG hF hM a3 0 2 S_1) gX11_pair_X11_in rfl ⟨by decide +kernel, by decide +kernel, by decide +kernel⟩ rfl (gRm_ok (by decide) (by decide)) rfl (Nat.le_of_ble_eq_true rfl) dX11_pair_17 (fun v_3 => ?_)
    refine g_if_ne (tgt := 26) dX11_pair_20 (by decide) (fun h_2 => ?_) (fun h_2 => ?_)
    · refine g_iload_n 3 dX11_pair_26 rfl ?_
      refine g_if_ne (tgt := 46) dX11_pair_27 (by decide) (fun h_3 => ?_) (fun h_3 => ?_)
      · refine g_iload_n 3 dX11_pair_46 rfl ?_
        refine g_iconst (v := 1) dX11_pair_47 (by decide) ?_
        refine g_icmp_ne (tgt := 67) dX11_pair_48 (by decide) (fun h_4 => ?_) (fun h_4 => ?_)
        · refine g_aload_n 0 dX11_pair_67 rfl ?_
          refine g_getK (ci := 11) (k0 := 9) (C0 := RX11) (T := TX11) (N := 17) (hM 77 (by decide)) rfl rfl hiX11_pair_11 (by decide) (List.mem_of_getElem? (i := 3) rfl) rfl dX11_pair_68 ?_
          refine g_bipush (v := 30) dX11_pair_71 (by decide) ?_
          refine g_bipush (v := 8) dX11_pair_73 (by decide) ?_
          refine g_iload_n 1 dX11_pair_75 rfl ?_
          refine g_imul dX11_pair_76 ?_
          refine g_iadd dX11_pair_77 ?_
          refine g_iload_n 2 dX11_pair_78 rfl ?_
          refine g_iadd dX11_pair_79 ?_
          refine g_iald hG (hM 79 (by decide)) rfl dX11_pair_80 ?_
          exact g_iret dX11_pair_81 rfl
        · refine g_aload_n 0 dX11_pair_51 rfl ?_
          refine g_getK (ci := 11) (k0 := 9) (C0 := RX11) (T := TX11) (N := 17) (hM 77 (by decide)) rfl rfl hiX11_pair_11 (by decide) (List.mem_of_getElem? (i := 3) rfl) rfl dX11_pair_52 ?_
          refine g_bipush (v := 22) dX11_pair_55 (by decide) ?_
          refine g_iload_n 1 dX11_pair_57 rfl ?_
          refine g_iadd dX11_pair_58 ?_
          refine g_iald hG (hM 79 (by decide)) rfl dX11_pair_59 ?_
          refine g_iload_n 2 dX11_pair_60 rfl ?_
          refine g_ishr dX11_pair_61 ?_
          refine g_iconst (v := 1) dX11_pair_62 (by decide) ?_
          refine g_iand dX11_pair_63 ?_
          refine g_goto (tgt := 81) dX11_pair_64 (by decide) ?_
          exact g_iret dX11_pair_81 rfl
      · refine g_aload_n 0 dX11_pair_30 rfl ?_
        refine g_getK (ci := 11) (k0 := 9) (C0 := RX11) (T := TX11) (N := 17) (hM 77 (by decide)) rfl rfl hiX11_pair_11 (by decide) (List.mem_of_getElem? (i := 3) rfl) rfl dX11_pair_31 ?_
        refine g_bipush (v := 14) dX11_pair_34 (by decide) ?_
        refine g_iload_n 1 dX11_pair_36 rfl ?_
        refine g_iadd dX11_pair_37 ?_
        refine g_iald hG (hM 79 (by decide)) rfl dX11_pair_38 ?_
        refine g_iload_n 2 dX11_pair_39 rfl ?_
        refine g_ishr dX11_pair_40 ?_
        refine g_iconst (v := 1) dX11_pair_41 (by decide) ?_
        refine g_iand dX11_pair_42 ?_
        refine g_goto (tgt := 81) dX11_pair_43 (by decide) ?_
        exact g_iret dX11_pair_81 rfl
    · refine g_ldc (List.mem_of_getElem? (i := 2) rfl) dX11_pair_23 ?_
      exact g_iret dX11_pair_25 rfl
set_option maxRecDepth 100000 in
set_option maxHeartbeats 4000000 in
theorem tX11_pair {G : gGG} {F : State → Heap → Prop} (hG : gOK G) (hF : gSb G F) (hM : gPM G) (a1 : Int32) (a2 : Int32) (a3 : Int32) (S : gSt) : gCt G F yX11_pair wsX11_pair 3 [.ref (gad G 77), .int a1, .int a2, .int a3] S ((fX11_pair a1 a2 a3 S).map (fun x => (some (.int x.1), x.2))) := g_met (by decide +kernel) rfl (Nat.le_of_ble_eq_true rfl) (tX11_pair_L hG hF hM a1 a2 a3 S)
/-! X11_numbers -/
set_option maxRecDepth 100000 in
set_option maxHeartbeats 4000000 in
theorem tX11_numbers_L98 {G : gGG} {F : State → Heap → Prop} (hG : gOK G) (hF : gSb G F) (hM : gPM G) {a1 : Nat} (h1 : gArM a1 = true) : ∀ (n : Nat) (x3 : Int32) (S : gSt), Gof G F RX11 cX11_numbers 6 wsX11_numbers none (gRm 1) 0 0 (gQ G (fun x => (none, x))) 98 [(0, .ref (gad G 77)), (1, .ref (gad G a1)), (3, .int x3)] [] S (fX11_numbers_L98 a1 n x3 S) := by
  intro n
  induction n with
  | zero => intro x3 S; exact g_none
  | succ n ih =>
    intro x3 S
    unfold fX11_numbers_L98
    refine g_iload_n 2 dX11_numbers_98 rfl ?_
    refine g_aload_n 0 dX11_numbers_99 rfl ?_
    refine g_cVp (ci := 11) (C0 := RX11) (T := TX11) (N := 17) (n := 0) (As := []) (rest := [.int x3]) hF (tX11_guests hG hF hM S) gX11_numbers_X11_guests rfl (hM 77 (by decide)) rfl rfl ⟨rfl, by decide +kernel, by decide +kernel, by decide +kernel⟩ rfl (gRm_ok (by decide) (by decide)) rfl (Nat.le_of_ble_eq_true rfl) dX11_numbers_100 (fun v_1 => ?_)
    refine g_icmp_ge (tgt := 121) dX11_numbers_103 (by decide) (fun h_1 => ?_) (fun h_1 => ?_)
    · exact g_vret dX11_numbers_121 rfl
    · refine g_aload_n 1 dX11_numbers_106 rfl ?_
      refine g_iload_n 2 dX11_numbers_107 rfl ?_
      refine g_dup2 dX11_numbers_108 rfl rfl ?_
      refine g_iald hG (gAr_mM hM h1) (gAr_lM h1) dX11_numbers_109 ?_
      refine g_sipush (v := 1000) dX11_numbers_110 (by decide) ?_
      refine g_irem dX11_numbers_113 ?_
      refine g_iast hG (gAr_mM hM h1) (gAr_lM h1) dX11_numbers_114 ?_
      refine g_nS (fun S_2 => ?_)
      refine g_iinc 2 (v := (x3 + 1)) (env' := [(3, .int (x3 + 1)), (0, .ref (gad G 77)), (1, .ref (gad G a1))]) dX11_numbers_115 rfl rfl (by decide) rfl ?_
      refine g_goto (tgt := 98) dX11_numbers_118 (by decide) ?_
      refine g_env (env' := [(0, .ref (gad G 77)), (1, .ref (gad G a1)), (3, .int (x3 + 1))]) [1, 2, 0] rfl ?_
      exact ih (x3 + 1) S_2
set_option maxRecDepth 100000 in
set_option maxHeartbeats 4000000 in
theorem tX11_numbers_L75 {G : gGG} {F : State → Heap → Prop} (hG : gOK G) (hF : gSb G F) (hM : gPM G) {a1 : Nat} (h1 : gArM a1 = true) (k4 : Int32 → Int32 → gSt → Option (gSt)) (hk4 : ∀ (x2 : Int32) (x3 : Int32) (S : gSt), Gof G F RX11 cX11_numbers 6 wsX11_numbers none (gRm 1) 0 0 (gQ G (fun x => (none, x))) 4 [(0, .ref (gad G 77)), (1, .ref (gad G a1)), (2, .int x2), (3, .int x3)] [] S (k4 x2 x3 S)) (x2 : Int32) (x3 : Int32) (x4 : Int32) (S : gSt) : Gof G F RX11 cX11_numbers 6 wsX11_numbers none (gRm 1) 0 0 (gQ G (fun x => (none, x))) 75 [(0, .ref (gad G 77)), (1, .ref (gad G a1)), (2, .int x2), (3, .int x3), (4, .int x4)] [] S (fX11_numbers_L75 k4 a1 x2 x3 x4 S) := by
  unfold fX11_numbers_L75
  refine g_aload_n 1 dX11_numbers_75 rfl ?_
  refine g_iload_n 3 dX11_numbers_76 rfl ?_
  refine g_sipush (v := 1000) dX11_numbers_77 (by decide) ?_
  refine g_aload_n 1 dX11_numbers_80 rfl ?_
  refine g_iload_n 3 dX11_numbers_81 rfl ?_
  refine g_iald hG (gAr_mM hM h1) (gAr_lM h1) dX11_numbers_82 ?_
  refine g_iconst (v := 1) dX11_numbers_83 (by decide) ?_
  refine g_iadd dX11_numbers_84 ?_
  refine g_imul dX11_numbers_85 ?_
  refine g_iload 4 dX11_numbers_86 rfl ?_
  refine g_iadd dX11_numbers_88 ?_
  refine g_iast hG (gAr_mM hM h1) (gAr_lM h1) dX11_numbers_89 ?_
  refine g_nS (fun S_1 => ?_)
  refine g_iinc 3 (v := (x3 + 1)) (env' := [(3, .int (x3 + 1)), (0, .ref (gad G 77)), (1, .ref (gad G a1)), (2, .int x2), (4, .int x4)]) dX11_numbers_90 rfl rfl (by decide) rfl ?_
  refine g_goto (tgt := 4) dX11_numbers_93 (by decide) ?_
  refine g_env (env' := [(0, .ref (gad G 77)), (1, .ref (gad G a1)), (2, .int x2), (3, .int (x3 + 1))]) [1, 2, 3, 0] rfl ?_
  exact hk4 x2 (x3 + 1) S_1
set_option maxRecDepth 100000 in
set_option maxHeartbeats 4000000 in
theorem tX11_numbers_L19 {G : gGG} {F : State → Heap → Prop} (hG : gOK G) (hF : gSb G F) (hM : gPM G) {a1 : Nat} (h1 : gArM a1 = true) (k4 : Int32 → Int32 → gSt → Option (gSt)) (hk4 : ∀ (x2 : Int32) (x3 : Int32) (S : gSt), Gof G F RX11 cX11_numbers 6 wsX11_numbers none (gRm 1) 0 0 (gQ G (fun x => (none, x))) 4 [(0, .ref (gad G 77)), (1, .ref (gad G a1)), (2, .int x2), (3, .int x3)] [] S (k4 x2 x3 S)) : ∀ (n : Nat) (x2 : Int32) (x3 : Int32) (x4 : Int32) (x5 : Int32) (S : gSt), Gof G F RX11 cX11_numbers 6 wsX11_numbers none (gRm 1) 0 0 (gQ G (fun x => (none, x))) 19 [(0, .ref (gad G 77)), (1, .ref (gad G a1)), (2, .int x2), (3, .int x3), (4, .int x4), (5, .int x5)] [] S (fX11_numbers_L19 k4 a1 n x2 x3 x4 x5 S) := by
  intro n
  induction n with
  | zero => intro x2 x3 x4 x5 S; exact g_none
  | succ n ih =>
    intro x2 x3 x4 x5 S
    unfold fX11_numbers_L19
    refine g_iload 5 dX11_numbers_19 rfl ?_
    refine g_iload_n 3 dX11_numbers_21 rfl ?_
    refine g_icmp_ge (tgt := 62) dX11_numbers_22 (by decide) (fun h_1 => ?_) (fun h_1 => ?_)
    · refine g_iload 4 dX11_numbers_62 rfl ?_
      refine g_bipush (v := 100) dX11_numbers_64 (by decide) ?_
      refine g_icmp_ne (tgt := 75) dX11_numbers_66 (by decide) (fun h_2 => ?_) (fun h_2 => ?_)
      · refine g_env (env' := [(0, .ref (gad G 77)), (1, .ref (gad G a1)), (2, .int x2), (3, .int x3), (4, .int x4)]) [0, 1, 2, 3, 4] rfl ?_
        exact tX11_numbers_L75 hG hF hM h1 k4 hk4 x2 x3 x4 S
      · refine g_iload_n 2 dX11_numbers_69 rfl ?_
        refine g_istore (i := 4) (env' := [(4, .int x2), (0, .ref (gad G 77)), (1, .ref (gad G a1)), (2, .int x2), (3, .int x3), (5, .int x5)]) dX11_numbers_70 (by decide) rfl ?_
        refine g_iinc 3 (v := (x2 + 1)) (env' := [(2, .int (x2 + 1)), (4, .int x2), (0, .ref (gad G 77)), (1, .ref (gad G a1)), (3, .int x3), (5, .int x5)]) dX11_numbers_72 rfl rfl (by decide) rfl ?_
        refine g_env (env' := [(0, .ref (gad G 77)), (1, .ref (gad G a1)), (2, .int (x2 + 1)), (3, .int x3), (4, .int x2)]) [2, 3, 0, 4, 1] rfl ?_
        exact tX11_numbers_L75 hG hF hM h1 k4 hk4 (x2 + 1) x3 x2 S
    · refine g_aload_n 1 dX11_numbers_25 rfl ?_
      refine g_iload 5 dX11_numbers_26 rfl ?_
      refine g_iald hG (gAr_mM hM h1) (gAr_lM h1) dX11_numbers_28 ?_
      refine g_sipush (v := 1000) dX11_numbers_29 (by decide) ?_
      refine g_idiv dX11_numbers_32 ?_
      refine g_aload_n 1 dX11_numbers_33 rfl ?_
      refine g_iload_n 3 dX11_numbers_34 rfl ?_
      refine g_iald hG (gAr_mM hM h1) (gAr_lM h1) dX11_numbers_35 ?_
      refine g_iconst (v := 1) dX11_numbers_36 (by decide) ?_
      refine g_iadd dX11_numbers_37 ?_
      refine g_icmp_ne (tgt := 52) dX11_numbers_38 (by decide) (fun h_3 => ?_) (fun h_3 => ?_)
      · refine g_iload 4 dX11_numbers_52 rfl ?_
        refine g_istore (i := 4) (env' := [(4, .int x4), (0, .ref (gad G 77)), (1, .ref (gad G a1)), (2, .int x2), (3, .int x3), (5, .int x5)]) dX11_numbers_54 (by decide) rfl ?_
        refine g_iinc 5 (v := (x5 + 1)) (env' := [(5, .int (x5 + 1)), (4, .int x4), (0, .ref (gad G 77)), (1, .ref (gad G a1)), (2, .int x2), (3, .int x3)]) dX11_numbers_56 rfl rfl (by decide) rfl ?_
        refine g_goto (tgt := 19) dX11_numbers_59 (by decide) ?_
        refine g_env (env' := [(0, .ref (gad G 77)), (1, .ref (gad G a1)), (2, .int x2), (3, .int x3), (4, .int x4), (5, .int (x5 + 1))]) [2, 3, 4, 5, 1, 0] rfl ?_
        exact ih x2 x3 x4 (x5 + 1) S
      · refine g_aload_n 1 dX11_numbers_41 rfl ?_
        refine g_iload 5 dX11_numbers_42 rfl ?_
        refine g_iald hG (gAr_mM hM h1) (gAr_lM h1) dX11_numbers_44 ?_
        refine g_sipush (v := 1000) dX11_numbers_45 (by decide) ?_
        refine g_irem dX11_numbers_48 ?_
        refine g_goto (tgt := 54) dX11_numbers_49 (by decide) ?_
        refine g_nI (fun v_1 => ?_)
        refine g_istore (i := 4) (env' := [(4, .int v_1), (0, .ref (gad G 77)), (1, .ref (gad G a1)), (2, .int x2), (3, .int x3), (5, .int x5)]) dX11_numbers_54 (by decide) rfl ?_
        refine g_iinc 5 (v := (x5 + 1)) (env' := [(5, .int (x5 + 1)), (4, .int v_1), (0, .ref (gad G 77)), (1, .ref (gad G a1)), (2, .int x2), (3, .int x3)]) dX11_numbers_56 rfl rfl (by decide) rfl ?_
        refine g_goto (tgt := 19) dX11_numbers_59 (by decide) ?_
        refine g_env (env' := [(0, .ref (gad G 77)), (1, .ref (gad G a1)), (2, .int x2), (3, .int x3), (4, .int v_1), (5, .int (x5 + 1))]) [2, 3, 4, 5, 1, 0] rfl ?_
        exact ih x2 x3 v_1 (x5 + 1) S
set_option maxRecDepth 100000 in
set_option maxHeartbeats 4000000 in
theorem tX11_numbers_L4 {G : gGG} {F : State → Heap → Prop} (hG : gOK G) (hF : gSb G F) (hM : gPM G) {a1 : Nat} (h1 : gArM a1 = true) : ∀ (n : Nat) (x2 : Int32) (x3 : Int32) (S : gSt), Gof G F RX11 cX11_numbers 6 wsX11_numbers none (gRm 1) 0 0 (gQ G (fun x => (none, x))) 4 [(0, .ref (gad G 77)), (1, .ref (gad G a1)), (2, .int x2), (3, .int x3)] [] S (fX11_numbers_L4 a1 n x2 x3 S) := by
  intro n
  induction n with
  | zero => intro x2 x3 S; exact g_none
  | succ n ih =>
    intro x2 x3 S
    unfold fX11_numbers_L4
    refine g_iload_n 3 dX11_numbers_4 rfl ?_
    refine g_aload_n 0 dX11_numbers_5 rfl ?_
    refine g_cVp (ci := 11) (C0 := RX11) (T := TX11) (N := 17) (n := 0) (As := []) (rest := [.int x3]) hF (tX11_guests hG hF hM S) gX11_numbers_X11_guests rfl (hM 77 (by decide)) rfl rfl ⟨rfl, by decide +kernel, by decide +kernel, by decide +kernel⟩ rfl (gRm_ok (by decide) (by decide)) rfl (Nat.le_of_ble_eq_true rfl) dX11_numbers_6 (fun v_1 => ?_)
    refine g_icmp_ge (tgt := 96) dX11_numbers_9 (by decide) (fun h_1 => ?_) (fun h_1 => ?_)
    · refine g_iconst (v := 0) dX11_numbers_96 (by decide) ?_
      refine g_istore_n (i := 3) (env' := [(3, .int 0), (0, .ref (gad G 77)), (1, .ref (gad G a1)), (2, .int x2)]) dX11_numbers_97 rfl (by decide) rfl ?_
      refine g_env (env' := [(0, .ref (gad G 77)), (1, .ref (gad G a1)), (3, .int 0)]) [1, 2, 0] rfl ?_
      exact tX11_numbers_L98 hG hF hM h1 gFU 0 S
    · refine g_bipush (v := 100) dX11_numbers_12 (by decide) ?_
      refine g_istore (i := 4) (env' := [(4, .int 100), (0, .ref (gad G 77)), (1, .ref (gad G a1)), (2, .int x2), (3, .int x3)]) dX11_numbers_14 (by decide) rfl ?_
      refine g_iconst (v := 0) dX11_numbers_16 (by decide) ?_
      refine g_istore (i := 5) (env' := [(5, .int 0), (4, .int 100), (0, .ref (gad G 77)), (1, .ref (gad G a1)), (2, .int x2), (3, .int x3)]) dX11_numbers_17 (by decide) rfl ?_
      refine g_env (env' := [(0, .ref (gad G 77)), (1, .ref (gad G a1)), (2, .int x2), (3, .int x3), (4, .int 100), (5, .int 0)]) [2, 3, 4, 5, 1, 0] rfl ?_
      exact tX11_numbers_L19 hG hF hM h1 (fX11_numbers_L4 a1 n) ih gFU x2 x3 100 0 S
set_option maxRecDepth 100000 in
set_option maxHeartbeats 4000000 in
theorem tX11_numbers_L {G : gGG} {F : State → Heap → Prop} (hG : gOK G) (hF : gSb G F) (hM : gPM G) {a1 : Nat} (h1 : gArM a1 = true) (S : gSt) : Gof G F RX11 cX11_numbers 6 wsX11_numbers none (gRm 1) 0 0 (gQ G (fun x => (none, x))) 0 [(0, .ref (gad G 77)), (1, .ref (gad G a1))] [] S (fX11_numbers a1 S) := by
  unfold fX11_numbers
  refine g_iconst (v := 0) dX11_numbers_0 (by decide) ?_
  refine g_istore_n (i := 2) (env' := [(2, .int 0), (0, .ref (gad G 77)), (1, .ref (gad G a1))]) dX11_numbers_1 rfl (by decide) rfl ?_
  refine g_iconst (v := 0) dX11_numbers_2 (by decide) ?_
  refine g_istore_n (i := 3) (env' := [(3, .int 0), (2, .int 0), (0, .ref (gad G 77)), (1, .ref (gad G a1))]) dX11_numbers_3 rfl (by decide) rfl ?_
  refine g_env (env' := [(0, .ref (gad G 77)), (1, .ref (gad G a1)), (2, .int 0), (3, .int 0)]) [2, 3, 1, 0] rfl ?_
  exact tX11_numbers_L4 hG hF hM h1 gFU 0 0 S
set_option maxRecDepth 100000 in
set_option maxHeartbeats 4000000 in
theorem tX11_numbers {G : gGG} {F : State → Heap → Prop} (hG : gOK G) (hF : gSb G F) (hM : gPM G) {a1 : Nat} (h1 : gArM a1 = true) (S : gSt) : gCt G F yX11_numbers wsX11_numbers 1 [.ref (gad G 77), .ref (gad G a1)] S ((fX11_numbers a1 S).map (fun x => (none, x))) := g_met (by decide +kernel) rfl (Nat.le_of_ble_eq_true rfl) (tX11_numbers_L hG hF hM h1 S)
/-! X11_partiesOf -/
set_option maxRecDepth 100000 in
set_option maxHeartbeats 4000000 in
theorem tX11_partiesOf_L4 {G : gGG} {F : State → Heap → Prop} (hG : gOK G) (hF : gSb G F) (hM : gPM G) {a1 : Nat} (h1 : gArM a1 = true) (S : gSt) : ∀ (n : Nat) (x2 : Int32) (x3 : Int32), Gof G F RX11 cX11_partiesOf 4 wsX11_partiesOf (some .int) (gRm 1) 0 0 (gQ G (fun x => (some (.int x), S))) 4 [(0, .ref (gad G 77)), (1, .ref (gad G a1)), (2, .int x2), (3, .int x3)] [] S (fX11_partiesOf_L4 a1 S n x2 x3) := by
  intro n
  induction n with
  | zero => intro x2 x3; exact g_none
  | succ n ih =>
    intro x2 x3
    unfold fX11_partiesOf_L4
    refine g_iload_n 3 dX11_partiesOf_4 rfl ?_
    refine g_aload_n 0 dX11_partiesOf_5 rfl ?_
    refine g_cVp (ci := 11) (C0 := RX11) (T := TX11) (N := 17) (n := 0) (As := []) (rest := [.int x3]) hF (tX11_guests hG hF hM S) gX11_partiesOf_X11_guests rfl (hM 77 (by decide)) rfl rfl ⟨rfl, by decide +kernel, by decide +kernel, by decide +kernel⟩ rfl (gRm_ok (by decide) (by decide)) rfl (Nat.le_of_ble_eq_true rfl) dX11_partiesOf_6 (fun v_1 => ?_)
    refine g_icmp_ge (tgt := 35) dX11_partiesOf_9 (by decide) (fun h_1 => ?_) (fun h_1 => ?_)
    · refine g_iload_n 2 dX11_partiesOf_35 rfl ?_
      exact g_iret dX11_partiesOf_36 rfl
    · refine g_aload_n 1 dX11_partiesOf_12 rfl ?_
      refine g_iload_n 3 dX11_partiesOf_13 rfl ?_
      refine g_iald hG (gAr_mM hM h1) (gAr_lM h1) dX11_partiesOf_14 ?_
      refine g_iload_n 2 dX11_partiesOf_15 rfl ?_
      refine g_icmp_lt (tgt := 27) dX11_partiesOf_16 (by decide) (fun h_2 => ?_) (fun h_2 => ?_)
      · refine g_iload_n 2 dX11_partiesOf_27 rfl ?_
        refine g_istore_n (i := 2) (env' := [(2, .int x2), (0, .ref (gad G 77)), (1, .ref (gad G a1)), (3, .int x3)]) dX11_partiesOf_28 rfl (by decide) rfl ?_
        refine g_iinc 3 (v := (x3 + 1)) (env' := [(3, .int (x3 + 1)), (2, .int x2), (0, .ref (gad G 77)), (1, .ref (gad G a1))]) dX11_partiesOf_29 rfl rfl (by decide) rfl ?_
        refine g_goto (tgt := 4) dX11_partiesOf_32 (by decide) ?_
        refine g_env (env' := [(0, .ref (gad G 77)), (1, .ref (gad G a1)), (2, .int x2), (3, .int (x3 + 1))]) [2, 3, 1, 0] rfl ?_
        exact ih x2 (x3 + 1)
      · refine g_aload_n 1 dX11_partiesOf_19 rfl ?_
        refine g_iload_n 3 dX11_partiesOf_20 rfl ?_
        refine g_iald hG (gAr_mM hM h1) (gAr_lM h1) dX11_partiesOf_21 ?_
        refine g_iconst (v := 1) dX11_partiesOf_22 (by decide) ?_
        refine g_iadd dX11_partiesOf_23 ?_
        refine g_goto (tgt := 28) dX11_partiesOf_24 (by decide) ?_
        refine g_nI (fun v_2 => ?_)
        refine g_istore_n (i := 2) (env' := [(2, .int v_2), (0, .ref (gad G 77)), (1, .ref (gad G a1)), (3, .int x3)]) dX11_partiesOf_28 rfl (by decide) rfl ?_
        refine g_iinc 3 (v := (x3 + 1)) (env' := [(3, .int (x3 + 1)), (2, .int v_2), (0, .ref (gad G 77)), (1, .ref (gad G a1))]) dX11_partiesOf_29 rfl rfl (by decide) rfl ?_
        refine g_goto (tgt := 4) dX11_partiesOf_32 (by decide) ?_
        refine g_env (env' := [(0, .ref (gad G 77)), (1, .ref (gad G a1)), (2, .int v_2), (3, .int (x3 + 1))]) [2, 3, 1, 0] rfl ?_
        exact ih v_2 (x3 + 1)
set_option maxRecDepth 100000 in
set_option maxHeartbeats 4000000 in
theorem tX11_partiesOf_L {G : gGG} {F : State → Heap → Prop} (hG : gOK G) (hF : gSb G F) (hM : gPM G) {a1 : Nat} (h1 : gArM a1 = true) (S : gSt) : Gof G F RX11 cX11_partiesOf 4 wsX11_partiesOf (some .int) (gRm 1) 0 0 (gQ G (fun x => (some (.int x), S))) 0 [(0, .ref (gad G 77)), (1, .ref (gad G a1))] [] S (fX11_partiesOf a1 S) := by
  unfold fX11_partiesOf
  refine g_iconst (v := 0) dX11_partiesOf_0 (by decide) ?_
  refine g_istore_n (i := 2) (env' := [(2, .int 0), (0, .ref (gad G 77)), (1, .ref (gad G a1))]) dX11_partiesOf_1 rfl (by decide) rfl ?_
  refine g_iconst (v := 0) dX11_partiesOf_2 (by decide) ?_
  refine g_istore_n (i := 3) (env' := [(3, .int 0), (2, .int 0), (0, .ref (gad G 77)), (1, .ref (gad G a1))]) dX11_partiesOf_3 rfl (by decide) rfl ?_
  refine g_env (env' := [(0, .ref (gad G 77)), (1, .ref (gad G a1)), (2, .int 0), (3, .int 0)]) [2, 3, 1, 0] rfl ?_
  exact tX11_partiesOf_L4 hG hF hM h1 S gFU 0 0
set_option maxRecDepth 100000 in
set_option maxHeartbeats 4000000 in
theorem tX11_partiesOf {G : gGG} {F : State → Heap → Prop} (hG : gOK G) (hF : gSb G F) (hM : gPM G) {a1 : Nat} (h1 : gArM a1 = true) (S : gSt) : gCt G F yX11_partiesOf wsX11_partiesOf 1 [.ref (gad G 77), .ref (gad G a1)] S ((fX11_partiesOf a1 S).map (fun x => (some (.int x), S))) := g_met (by decide +kernel) rfl (Nat.le_of_ble_eq_true rfl) (tX11_partiesOf_L hG hF hM h1 S)
/-! X11_sizeOf -/
set_option maxRecDepth 100000 in
set_option maxHeartbeats 4000000 in
theorem tX11_sizeOf_L5 {G : gGG} {F : State → Heap → Prop} (hG : gOK G) (hF : gSb G F) (hM : gPM G) {a1 : Nat} (h1 : gArM a1 = true) (S : gSt) : ∀ (n : Nat) (x2 : Int32) (x3 : Int32) (x4 : Int32), Gof G F RX11 cX11_sizeOf 5 wsX11_sizeOf (some .int) (gRm 1) 0 0 (gQ G (fun x => (some (.int x), S))) 5 [(0, .ref (gad G 77)), (1, .ref (gad G a1)), (2, .int x2), (3, .int x3), (4, .int x4)] [] S (fX11_sizeOf_L5 a1 S n x2 x3 x4) := by
  intro n
  induction n with
  | zero => intro x2 x3 x4; exact g_none
  | succ n ih =>
    intro x2 x3 x4
    unfold fX11_sizeOf_L5
    refine g_iload 4 dX11_sizeOf_5 rfl ?_
    refine g_aload_n 0 dX11_sizeOf_7 rfl ?_
    refine g_cVp (ci := 11) (C0 := RX11) (T := TX11) (N := 17) (n := 0) (As := []) (rest := [.int x4]) hF (tX11_guests hG hF hM S) gX11_sizeOf_X11_guests rfl (hM 77 (by decide)) rfl rfl ⟨rfl, by decide +kernel, by decide +kernel, by decide +kernel⟩ rfl (gRm_ok (by decide) (by decide)) rfl (Nat.le_of_ble_eq_true rfl) dX11_sizeOf_8 (fun v_1 => ?_)
    refine g_icmp_ge (tgt := 36) dX11_sizeOf_11 (by decide) (fun h_1 => ?_) (fun h_1 => ?_)
    · refine g_iload_n 3 dX11_sizeOf_36 rfl ?_
      exact g_iret dX11_sizeOf_37 rfl
    · refine g_iload_n 3 dX11_sizeOf_14 rfl ?_
      refine g_aload_n 1 dX11_sizeOf_15 rfl ?_
      refine g_iload 4 dX11_sizeOf_16 rfl ?_
      refine g_iald hG (gAr_mM hM h1) (gAr_lM h1) dX11_sizeOf_18 ?_
      refine g_iload_n 2 dX11_sizeOf_19 rfl ?_
      refine g_icmp_ne (tgt := 27) dX11_sizeOf_20 (by decide) (fun h_2 => ?_) (fun h_2 => ?_)
      · refine g_iconst (v := 0) dX11_sizeOf_27 (by decide) ?_
        refine g_iadd dX11_sizeOf_28 ?_
        refine g_nI (fun v_2 => ?_)
        refine g_istore_n (i := 3) (env' := [(3, .int v_2), (0, .ref (gad G 77)), (1, .ref (gad G a1)), (2, .int x2), (4, .int x4)]) dX11_sizeOf_29 rfl (by decide) rfl ?_
        refine g_iinc 4 (v := (x4 + 1)) (env' := [(4, .int (x4 + 1)), (3, .int v_2), (0, .ref (gad G 77)), (1, .ref (gad G a1)), (2, .int x2)]) dX11_sizeOf_30 rfl rfl (by decide) rfl ?_
        refine g_goto (tgt := 5) dX11_sizeOf_33 (by decide) ?_
        refine g_env (env' := [(0, .ref (gad G 77)), (1, .ref (gad G a1)), (2, .int x2), (3, .int v_2), (4, .int (x4 + 1))]) [2, 3, 4, 1, 0] rfl ?_
        exact ih x2 v_2 (x4 + 1)
      · refine g_iconst (v := 1) dX11_sizeOf_23 (by decide) ?_
        refine g_goto (tgt := 28) dX11_sizeOf_24 (by decide) ?_
        refine g_iadd dX11_sizeOf_28 ?_
        refine g_nI (fun v_3 => ?_)
        refine g_istore_n (i := 3) (env' := [(3, .int v_3), (0, .ref (gad G 77)), (1, .ref (gad G a1)), (2, .int x2), (4, .int x4)]) dX11_sizeOf_29 rfl (by decide) rfl ?_
        refine g_iinc 4 (v := (x4 + 1)) (env' := [(4, .int (x4 + 1)), (3, .int v_3), (0, .ref (gad G 77)), (1, .ref (gad G a1)), (2, .int x2)]) dX11_sizeOf_30 rfl rfl (by decide) rfl ?_
        refine g_goto (tgt := 5) dX11_sizeOf_33 (by decide) ?_
        refine g_env (env' := [(0, .ref (gad G 77)), (1, .ref (gad G a1)), (2, .int x2), (3, .int v_3), (4, .int (x4 + 1))]) [2, 3, 4, 1, 0] rfl ?_
        exact ih x2 v_3 (x4 + 1)
set_option maxRecDepth 100000 in
set_option maxHeartbeats 4000000 in
theorem tX11_sizeOf_L {G : gGG} {F : State → Heap → Prop} (hG : gOK G) (hF : gSb G F) (hM : gPM G) {a1 : Nat} (h1 : gArM a1 = true) (a2 : Int32) (S : gSt) : Gof G F RX11 cX11_sizeOf 5 wsX11_sizeOf (some .int) (gRm 1) 0 0 (gQ G (fun x => (some (.int x), S))) 0 [(0, .ref (gad G 77)), (1, .ref (gad G a1)), (2, .int a2)] [] S (fX11_sizeOf a1 a2 S) := by
  unfold fX11_sizeOf
  refine g_iconst (v := 0) dX11_sizeOf_0 (by decide) ?_
  refine g_istore_n (i := 3) (env' := [(3, .int 0), (0, .ref (gad G 77)), (1, .ref (gad G a1)), (2, .int a2)]) dX11_sizeOf_1 rfl (by decide) rfl ?_
  refine g_iconst (v := 0) dX11_sizeOf_2 (by decide) ?_
  refine g_istore (i := 4) (env' := [(4, .int 0), (3, .int 0), (0, .ref (gad G 77)), (1, .ref (gad G a1)), (2, .int a2)]) dX11_sizeOf_3 (by decide) rfl ?_
  refine g_env (env' := [(0, .ref (gad G 77)), (1, .ref (gad G a1)), (2, .int a2), (3, .int 0), (4, .int 0)]) [2, 3, 4, 1, 0] rfl ?_
  exact tX11_sizeOf_L5 hG hF hM h1 S gFU a2 0 0
set_option maxRecDepth 100000 in
set_option maxHeartbeats 4000000 in
theorem tX11_sizeOf {G : gGG} {F : State → Heap → Prop} (hG : gOK G) (hF : gSb G F) (hM : gPM G) {a1 : Nat} (h1 : gArM a1 = true) (a2 : Int32) (S : gSt) : gCt G F yX11_sizeOf wsX11_sizeOf 1 [.ref (gad G 77), .ref (gad G a1), .int a2] S ((fX11_sizeOf a1 a2 S).map (fun x => (some (.int x), S))) := g_met (by decide +kernel) rfl (Nat.le_of_ble_eq_true rfl) (tX11_sizeOf_L hG hF hM h1 a2 S)
/-! X11_worthOf -/
theorem hiX11_worthOf_11 : ∀ w ∈ u_ws RX11 TX11 17, w ∈ wsX11_worthOf := fun _ hw => List.mem_cons_of_mem _ (List.mem_append_right _ (hw))
set_option maxRecDepth 100000 in
set_option maxHeartbeats 4000000 in
theorem tX11_worthOf_L15 {G : gGG} {F : State → Heap → Prop} (hG : gOK G) (hF : gSb G F) (hM : gPM G) {a1 : Nat} (h1 : gArM a1 = true) (S : gSt) (k4 : Int32 → Int32 → Option (Int32)) (hk4 : ∀ (x2 : Int32) (x3 : Int32), Gof G F RX11 cX11_worthOf 5 wsX11_worthOf (some .int) (gRm 1) 0 0 (gQ G (fun x => (some (.int x), S))) 4 [(0, .ref (gad G 77)), (1, .ref (gad G a1)), (2, .int x2), (3, .int x3)] [] S (k4 x2 x3)) : ∀ (n : Nat) (x2 : Int32) (x3 : Int32) (x4 : Int32), Gof G F RX11 cX11_worthOf 5 wsX11_worthOf (some .int) (gRm 1) 0 0 (gQ G (fun x => (some (.int x), S))) 15 [(0, .ref (gad G 77)), (1, .ref (gad G a1)), (2, .int x2), (3, .int x3), (4, .int x4)] [] S (fX11_worthOf_L15 k4 a1 S n x2 x3 x4) := by
  intro n
  induction n with
  | zero => intro x2 x3 x4; exact g_none
  | succ n ih =>
    intro x2 x3 x4
    unfold fX11_worthOf_L15
    refine g_iload 4 dX11_worthOf_15 rfl ?_
    refine g_iload_n 3 dX11_worthOf_17 rfl ?_
    refine g_icmp_ge (tgt := 59) dX11_worthOf_18 (by decide) (fun h_1 => ?_) (fun h_1 => ?_)
    · refine g_iinc 3 (v := (x3 + 1)) (env' := [(3, .int (x3 + 1)), (0, .ref (gad G 77)), (1, .ref (gad G a1)), (2, .int x2), (4, .int x4)]) dX11_worthOf_59 rfl rfl (by decide) rfl ?_
      refine g_goto (tgt := 4) dX11_worthOf_62 (by decide) ?_
      refine g_env (env' := [(0, .ref (gad G 77)), (1, .ref (gad G a1)), (2, .int x2), (3, .int (x3 + 1))]) [1, 2, 3, 0] rfl ?_
      exact hk4 x2 (x3 + 1)
    · refine g_iload_n 2 dX11_worthOf_21 rfl ?_
      refine g_aload_n 1 dX11_worthOf_22 rfl ?_
      refine g_iload_n 3 dX11_worthOf_23 rfl ?_
      refine g_iald hG (gAr_mM hM h1) (gAr_lM h1) dX11_worthOf_24 ?_
      refine g_aload_n 1 dX11_worthOf_25 rfl ?_
      refine g_iload 4 dX11_worthOf_26 rfl ?_
      refine g_iald hG (gAr_mM hM h1) (gAr_lM h1) dX11_worthOf_28 ?_
      refine g_icmp_ne (tgt := 50) dX11_worthOf_29 (by decide) (fun h_2 => ?_) (fun h_2 => ?_)
      · refine g_iconst (v := 0) dX11_worthOf_50 (by decide) ?_
        refine g_iadd dX11_worthOf_51 ?_
        refine g_nI (fun v_1 => ?_)
        refine g_istore_n (i := 2) (env' := [(2, .int v_1), (0, .ref (gad G 77)), (1, .ref (gad G a1)), (3, .int x3), (4, .int x4)]) dX11_worthOf_52 rfl (by decide) rfl ?_
        refine g_iinc 4 (v := (x4 + 1)) (env' := [(4, .int (x4 + 1)), (2, .int v_1), (0, .ref (gad G 77)), (1, .ref (gad G a1)), (3, .int x3)]) dX11_worthOf_53 rfl rfl (by decide) rfl ?_
        refine g_goto (tgt := 15) dX11_worthOf_56 (by decide) ?_
        refine g_env (env' := [(0, .ref (gad G 77)), (1, .ref (gad G a1)), (2, .int v_1), (3, .int x3), (4, .int (x4 + 1))]) [2, 3, 1, 4, 0] rfl ?_
        exact ih v_1 x3 (x4 + 1)
      · refine g_aload_n 0 dX11_worthOf_32 rfl ?_
        refine g_getK (ci := 11) (k0 := 9) (C0 := RX11) (T := TX11) (N := 17) (hM 77 (by decide)) rfl rfl hiX11_worthOf_11 (by decide) (List.mem_of_getElem? (i := 1) rfl) rfl dX11_worthOf_33 ?_
        refine g_bipush (v := 30) dX11_worthOf_36 (by decide) ?_
        refine g_bipush (v := 8) dX11_worthOf_38 (by decide) ?_
        refine g_iload_n 3 dX11_worthOf_40 rfl ?_
        refine g_imul dX11_worthOf_41 ?_
        refine g_iadd dX11_worthOf_42 ?_
        refine g_iload 4 dX11_worthOf_43 rfl ?_
        refine g_iadd dX11_worthOf_45 ?_
        refine g_iald hG (hM 79 (by decide)) rfl dX11_worthOf_46 ?_
        refine g_goto (tgt := 51) dX11_worthOf_47 (by decide) ?_
        refine g_iadd dX11_worthOf_51 ?_
        refine g_nI (fun v_2 => ?_)
        refine g_istore_n (i := 2) (env' := [(2, .int v_2), (0, .ref (gad G 77)), (1, .ref (gad G a1)), (3, .int x3), (4, .int x4)]) dX11_worthOf_52 rfl (by decide) rfl ?_
        refine g_iinc 4 (v := (x4 + 1)) (env' := [(4, .int (x4 + 1)), (2, .int v_2), (0, .ref (gad G 77)), (1, .ref (gad G a1)), (3, .int x3)]) dX11_worthOf_53 rfl rfl (by decide) rfl ?_
        refine g_goto (tgt := 15) dX11_worthOf_56 (by decide) ?_
        refine g_env (env' := [(0, .ref (gad G 77)), (1, .ref (gad G a1)), (2, .int v_2), (3, .int x3), (4, .int (x4 + 1))]) [2, 3, 1, 4, 0] rfl ?_
        exact ih v_2 x3 (x4 + 1)
set_option maxRecDepth 100000 in
set_option maxHeartbeats 4000000 in
theorem tX11_worthOf_L4 {G : gGG} {F : State → Heap → Prop} (hG : gOK G) (hF : gSb G F) (hM : gPM G) {a1 : Nat} (h1 : gArM a1 = true) (S : gSt) : ∀ (n : Nat) (x2 : Int32) (x3 : Int32), Gof G F RX11 cX11_worthOf 5 wsX11_worthOf (some .int) (gRm 1) 0 0 (gQ G (fun x => (some (.int x), S))) 4 [(0, .ref (gad G 77)), (1, .ref (gad G a1)), (2, .int x2), (3, .int x3)] [] S (fX11_worthOf_L4 a1 S n x2 x3) := by
  intro n
  induction n with
  | zero => intro x2 x3; exact g_none
  | succ n ih =>
    intro x2 x3
    unfold fX11_worthOf_L4
    refine g_iload_n 3 dX11_worthOf_4 rfl ?_
    refine g_aload_n 0 dX11_worthOf_5 rfl ?_
    refine g_cVp (ci := 11) (C0 := RX11) (T := TX11) (N := 17) (n := 0) (As := []) (rest := [.int x3]) hF (tX11_guests hG hF hM S) gX11_worthOf_X11_guests rfl (hM 77 (by decide)) rfl rfl ⟨rfl, by decide +kernel, by decide +kernel, by decide +kernel⟩ rfl (gRm_ok (by decide) (by decide)) rfl (Nat.le_of_ble_eq_true rfl) dX11_worthOf_6 (fun v_1 => ?_)
    refine g_icmp_ge (tgt := 65) dX11_worthOf_9 (by decide) (fun h_1 => ?_) (fun h_1 => ?_)
    · refine g_iload_n 2 dX11_worthOf_65 rfl ?_
      exact g_iret dX11_worthOf_66 rfl
    · refine g_iconst (v := 0) dX11_worthOf_12 (by decide) ?_
      refine g_istore (i := 4) (env' := [(4, .int 0), (0, .ref (gad G 77)), (1, .ref (gad G a1)), (2, .int x2), (3, .int x3)]) dX11_worthOf_13 (by decide) rfl ?_
      refine g_env (env' := [(0, .ref (gad G 77)), (1, .ref (gad G a1)), (2, .int x2), (3, .int x3), (4, .int 0)]) [1, 2, 3, 4, 0] rfl ?_
      exact tX11_worthOf_L15 hG hF hM h1 S (fX11_worthOf_L4 a1 S n) ih gFU x2 x3 0
set_option maxRecDepth 100000 in
set_option maxHeartbeats 4000000 in
theorem tX11_worthOf_L {G : gGG} {F : State → Heap → Prop} (hG : gOK G) (hF : gSb G F) (hM : gPM G) {a1 : Nat} (h1 : gArM a1 = true) (S : gSt) : Gof G F RX11 cX11_worthOf 5 wsX11_worthOf (some .int) (gRm 1) 0 0 (gQ G (fun x => (some (.int x), S))) 0 [(0, .ref (gad G 77)), (1, .ref (gad G a1))] [] S (fX11_worthOf a1 S) := by
  unfold fX11_worthOf
  refine g_iconst (v := 0) dX11_worthOf_0 (by decide) ?_
  refine g_istore_n (i := 2) (env' := [(2, .int 0), (0, .ref (gad G 77)), (1, .ref (gad G a1))]) dX11_worthOf_1 rfl (by decide) rfl ?_
  refine g_iconst (v := 0) dX11_worthOf_2 (by decide) ?_
  refine g_istore_n (i := 3) (env' := [(3, .int 0), (2, .int 0), (0, .ref (gad G 77)), (1, .ref (gad G a1))]) dX11_worthOf_3 rfl (by decide) rfl ?_
  refine g_env (env' := [(0, .ref (gad G 77)), (1, .ref (gad G a1)), (2, .int 0), (3, .int 0)]) [2, 3, 1, 0] rfl ?_
  exact tX11_worthOf_L4 hG hF hM h1 S gFU 0 0
set_option maxRecDepth 100000 in
set_option maxHeartbeats 4000000 in
theorem tX11_worthOf {G : gGG} {F : State → Heap → Prop} (hG : gOK G) (hF : gSb G F) (hM : gPM G) {a1 : Nat} (h1 : gArM a1 = true) (S : gSt) : gCt G F yX11_worthOf wsX11_worthOf 1 [.ref (gad G 77), .ref (gad G a1)] S ((fX11_worthOf a1 S).map (fun x => (some (.int x), S))) := g_met (by decide +kernel) rfl (Nat.le_of_ble_eq_true rfl) (tX11_worthOf_L hG hF hM h1 S)
/-! X11_isCrossed -/
set_option maxRecDepth 100000 in
set_option maxHeartbeats 4000000 in
theorem tX11_isCrossed_L47 {G : gGG} {F : State → Heap → Prop} (hG : gOK G) (hF : gSb G F) (hM : gPM G) {a1 : Nat} (h1 : gArM a1 = true) (S : gSt) (k4 : Int32 → Int32 → Option (Int32)) (hk4 : ∀ (x2 : Int32) (x3 : Int32), Gof G F RX11 cX11_isCrossed 7 wsX11_isCrossed (some .boolean) (gRm 1) 0 0 (gQ G (fun x => (some (.int x), S))) 4 [(0, .ref (gad G 77)), (1, .ref (gad G a1)), (2, .int x2), (3, .int x3)] [] S (k4 x2 x3)) (k17 : Int32 → Int32 → Int32 → Option (Int32)) (hk17 : ∀ (x2 : Int32) (x3 : Int32) (x4 : Int32), Gof G F RX11 cX11_isCrossed 7 wsX11_isCrossed (some .boolean) (gRm 1) 0 0 (gQ G (fun x => (some (.int x), S))) 17 [(0, .ref (gad G 77)), (1, .ref (gad G a1)), (2, .int x2), (3, .int x3), (4, .int x4)] [] S (k17 x2 x3 x4)) (k32 : Int32 → Int32 → Int32 → Int32 → Option (Int32)) (hk32 : ∀ (x2 : Int32) (x3 : Int32) (x4 : Int32) (x5 : Int32), Gof G F RX11 cX11_isCrossed 7 wsX11_isCrossed (some .boolean) (gRm 1) 0 0 (gQ G (fun x => (some (.int x), S))) 32 [(0, .ref (gad G 77)), (1, .ref (gad G a1)), (2, .int x2), (3, .int x3), (4, .int x4), (5, .int x5)] [] S (k32 x2 x3 x4 x5)) : ∀ (n : Nat) (x2 : Int32) (x3 : Int32) (x4 : Int32) (x5 : Int32) (x6 : Int32), Gof G F RX11 cX11_isCrossed 7 wsX11_isCrossed (some .boolean) (gRm 1) 0 0 (gQ G (fun x => (some (.int x), S))) 47 [(0, .ref (gad G 77)), (1, .ref (gad G a1)), (2, .int x2), (3, .int x3), (4, .int x4), (5, .int x5), (6, .int x6)] [] S (fX11_isCrossed_L47 k4 k17 k32 a1 S n x2 x3 x4 x5 x6) := by
  intro n
  induction n with
  | zero => intro x2 x3 x4 x5 x6; exact g_none
  | succ n ih =>
    intro x2 x3 x4 x5 x6
    unfold fX11_isCrossed_L47
    refine g_iload 6 dX11_isCrossed_47 rfl ?_
    refine g_aload_n 0 dX11_isCrossed_49 rfl ?_
    refine g_cVp (ci := 11) (C0 := RX11) (T := TX11) (N := 17) (n := 0) (As := []) (rest := [.int x6]) hF (tX11_guests hG hF hM S) gX11_isCrossed_X11_guests rfl (hM 77 (by decide)) rfl rfl ⟨rfl, by decide +kernel, by decide +kernel, by decide +kernel⟩ rfl (gRm_ok (by decide) (by decide)) rfl (Nat.le_of_ble_eq_true rfl) dX11_isCrossed_50 (fun v_1 => ?_)
    refine g_icmp_ge (tgt := 103) dX11_isCrossed_53 (by decide) (fun h_1 => ?_) (fun h_1 => ?_)
    · refine g_iinc 5 (v := (x5 + 1)) (env' := [(5, .int (x5 + 1)), (0, .ref (gad G 77)), (1, .ref (gad G a1)), (2, .int x2), (3, .int x3), (4, .int x4), (6, .int x6)]) dX11_isCrossed_103 rfl rfl (by decide) rfl ?_
      refine g_goto (tgt := 32) dX11_isCrossed_106 (by decide) ?_
      refine g_env (env' := [(0, .ref (gad G 77)), (1, .ref (gad G a1)), (2, .int x2), (3, .int x3), (4, .int x4), (5, .int (x5 + 1))]) [1, 2, 3, 4, 5, 0] rfl ?_
      exact hk32 x2 x3 x4 (x5 + 1)
    · refine g_iload_n 2 dX11_isCrossed_56 rfl ?_
      refine g_if_ne (tgt := 91) dX11_isCrossed_57 (by decide) (fun h_2 => ?_) (fun h_2 => ?_)
      · refine g_iconst (v := 1) dX11_isCrossed_91 (by decide) ?_
        refine g_goto (tgt := 96) dX11_isCrossed_92 (by decide) ?_
        refine g_istore_n (i := 2) (env' := [(2, .int 1), (0, .ref (gad G 77)), (1, .ref (gad G a1)), (3, .int x3), (4, .int x4), (5, .int x5), (6, .int x6)]) dX11_isCrossed_96 rfl (by decide) rfl ?_
        refine g_iinc 6 (v := (x6 + 1)) (env' := [(6, .int (x6 + 1)), (2, .int 1), (0, .ref (gad G 77)), (1, .ref (gad G a1)), (3, .int x3), (4, .int x4), (5, .int x5)]) dX11_isCrossed_97 rfl rfl (by decide) rfl ?_
        refine g_goto (tgt := 47) dX11_isCrossed_100 (by decide) ?_
        refine g_env (env' := [(0, .ref (gad G 77)), (1, .ref (gad G a1)), (2, .int 1), (3, .int x3), (4, .int x4), (5, .int x5), (6, .int (x6 + 1))]) [2, 3, 1, 4, 5, 6, 0] rfl ?_
        exact ih 1 x3 x4 x5 (x6 + 1)
      · refine g_aload_n 1 dX11_isCrossed_60 rfl ?_
        refine g_iload_n 3 dX11_isCrossed_61 rfl ?_
        refine g_iald hG (gAr_mM hM h1) (gAr_lM h1) dX11_isCrossed_62 ?_
        refine g_aload_n 1 dX11_isCrossed_63 rfl ?_
        refine g_iload 5 dX11_isCrossed_64 rfl ?_
        refine g_iald hG (gAr_mM hM h1) (gAr_lM h1) dX11_isCrossed_66 ?_
        refine g_icmp_ne (tgt := 95) dX11_isCrossed_67 (by decide) (fun h_3 => ?_) (fun h_3 => ?_)
        · refine g_iconst (v := 0) dX11_isCrossed_95 (by decide) ?_
          refine g_istore_n (i := 2) (env' := [(2, .int 0), (0, .ref (gad G 77)), (1, .ref (gad G a1)), (3, .int x3), (4, .int x4), (5, .int x5), (6, .int x6)]) dX11_isCrossed_96 rfl (by decide) rfl ?_
          refine g_iinc 6 (v := (x6 + 1)) (env' := [(6, .int (x6 + 1)), (2, .int 0), (0, .ref (gad G 77)), (1, .ref (gad G a1)), (3, .int x3), (4, .int x4), (5, .int x5)]) dX11_isCrossed_97 rfl rfl (by decide) rfl ?_
          refine g_goto (tgt := 47) dX11_isCrossed_100 (by decide) ?_
          refine g_env (env' := [(0, .ref (gad G 77)), (1, .ref (gad G a1)), (2, .int 0), (3, .int x3), (4, .int x4), (5, .int x5), (6, .int (x6 + 1))]) [2, 3, 1, 4, 5, 6, 0] rfl ?_
          exact ih 0 x3 x4 x5 (x6 + 1)
        · refine g_aload_n 1 dX11_isCrossed_70 rfl ?_
          refine g_iload 4 dX11_isCrossed_71 rfl ?_
          refine g_iald hG (gAr_mM hM h1) (gAr_lM h1) dX11_isCrossed_73 ?_
          refine g_aload_n 1 dX11_isCrossed_74 rfl ?_
          refine g_iload 6 dX11_isCrossed_75 rfl ?_
          refine g_iald hG (gAr_mM hM h1) (gAr_lM h1) dX11_isCrossed_77 ?_
          refine g_icmp_ne (tgt := 95) dX11_isCrossed_78 (by decide) (fun h_4 => ?_) (fun h_4 => ?_)
          · refine g_iconst (v := 0) dX11_isCrossed_95 (by decide) ?_
            refine g_istore_n (i := 2) (env' := [(2, .int 0), (0, .ref (gad G 77)), (1, .ref (gad G a1)), (3, .int x3), (4, .int x4), (5, .int x5), (6, .int x6)]) dX11_isCrossed_96 rfl (by decide) rfl ?_
            refine g_iinc 6 (v := (x6 + 1)) (env' := [(6, .int (x6 + 1)), (2, .int 0), (0, .ref (gad G 77)), (1, .ref (gad G a1)), (3, .int x3), (4, .int x4), (5, .int x5)]) dX11_isCrossed_97 rfl rfl (by decide) rfl ?_
            refine g_goto (tgt := 47) dX11_isCrossed_100 (by decide) ?_
            refine g_env (env' := [(0, .ref (gad G 77)), (1, .ref (gad G a1)), (2, .int 0), (3, .int x3), (4, .int x4), (5, .int x5), (6, .int (x6 + 1))]) [2, 3, 1, 4, 5, 6, 0] rfl ?_
            exact ih 0 x3 x4 x5 (x6 + 1)
          · refine g_aload_n 1 dX11_isCrossed_81 rfl ?_
            refine g_iload_n 3 dX11_isCrossed_82 rfl ?_
            refine g_iald hG (gAr_mM hM h1) (gAr_lM h1) dX11_isCrossed_83 ?_
            refine g_aload_n 1 dX11_isCrossed_84 rfl ?_
            refine g_iload 4 dX11_isCrossed_85 rfl ?_
            refine g_iald hG (gAr_mM hM h1) (gAr_lM h1) dX11_isCrossed_87 ?_
            refine g_icmp_eq (tgt := 95) dX11_isCrossed_88 (by decide) (fun h_5 => ?_) (fun h_5 => ?_)
            · refine g_iconst (v := 0) dX11_isCrossed_95 (by decide) ?_
              refine g_istore_n (i := 2) (env' := [(2, .int 0), (0, .ref (gad G 77)), (1, .ref (gad G a1)), (3, .int x3), (4, .int x4), (5, .int x5), (6, .int x6)]) dX11_isCrossed_96 rfl (by decide) rfl ?_
              refine g_iinc 6 (v := (x6 + 1)) (env' := [(6, .int (x6 + 1)), (2, .int 0), (0, .ref (gad G 77)), (1, .ref (gad G a1)), (3, .int x3), (4, .int x4), (5, .int x5)]) dX11_isCrossed_97 rfl rfl (by decide) rfl ?_
              refine g_goto (tgt := 47) dX11_isCrossed_100 (by decide) ?_
              refine g_env (env' := [(0, .ref (gad G 77)), (1, .ref (gad G a1)), (2, .int 0), (3, .int x3), (4, .int x4), (5, .int x5), (6, .int (x6 + 1))]) [2, 3, 1, 4, 5, 6, 0] rfl ?_
              exact ih 0 x3 x4 x5 (x6 + 1)
            · refine g_iconst (v := 1) dX11_isCrossed_91 (by decide) ?_
              refine g_goto (tgt := 96) dX11_isCrossed_92 (by decide) ?_
              refine g_istore_n (i := 2) (env' := [(2, .int 1), (0, .ref (gad G 77)), (1, .ref (gad G a1)), (3, .int x3), (4, .int x4), (5, .int x5), (6, .int x6)]) dX11_isCrossed_96 rfl (by decide) rfl ?_
              refine g_iinc 6 (v := (x6 + 1)) (env' := [(6, .int (x6 + 1)), (2, .int 1), (0, .ref (gad G 77)), (1, .ref (gad G a1)), (3, .int x3), (4, .int x4), (5, .int x5)]) dX11_isCrossed_97 rfl rfl (by decide) rfl ?_
              refine g_goto (tgt := 47) dX11_isCrossed_100 (by decide) ?_
              refine g_env (env' := [(0, .ref (gad G 77)), (1, .ref (gad G a1)), (2, .int 1), (3, .int x3), (4, .int x4), (5, .int x5), (6, .int (x6 + 1))]) [2, 3, 1, 4, 5, 6, 0] rfl ?_
              exact ih 1 x3 x4 x5 (x6 + 1)
set_option maxRecDepth 100000 in
set_option maxHeartbeats 4000000 in
theorem tX11_isCrossed_L32 {G : gGG} {F : State → Heap → Prop} (hG : gOK G) (hF : gSb G F) (hM : gPM G) {a1 : Nat} (h1 : gArM a1 = true) (S : gSt) (k4 : Int32 → Int32 → Option (Int32)) (hk4 : ∀ (x2 : Int32) (x3 : Int32), Gof G F RX11 cX11_isCrossed 7 wsX11_isCrossed (some .boolean) (gRm 1) 0 0 (gQ G (fun x => (some (.int x), S))) 4 [(0, .ref (gad G 77)), (1, .ref (gad G a1)), (2, .int x2), (3, .int x3)] [] S (k4 x2 x3)) (k17 : Int32 → Int32 → Int32 → Option (Int32)) (hk17 : ∀ (x2 : Int32) (x3 : Int32) (x4 : Int32), Gof G F RX11 cX11_isCrossed 7 wsX11_isCrossed (some .boolean) (gRm 1) 0 0 (gQ G (fun x => (some (.int x), S))) 17 [(0, .ref (gad G 77)), (1, .ref (gad G a1)), (2, .int x2), (3, .int x3), (4, .int x4)] [] S (k17 x2 x3 x4)) : ∀ (n : Nat) (x2 : Int32) (x3 : Int32) (x4 : Int32) (x5 : Int32), Gof G F RX11 cX11_isCrossed 7 wsX11_isCrossed (some .boolean) (gRm 1) 0 0 (gQ G (fun x => (some (.int x), S))) 32 [(0, .ref (gad G 77)), (1, .ref (gad G a1)), (2, .int x2), (3, .int x3), (4, .int x4), (5, .int x5)] [] S (fX11_isCrossed_L32 k4 k17 a1 S n x2 x3 x4 x5) := by
  intro n
  induction n with
  | zero => intro x2 x3 x4 x5; exact g_none
  | succ n ih =>
    intro x2 x3 x4 x5
    unfold fX11_isCrossed_L32
    refine g_iload 5 dX11_isCrossed_32 rfl ?_
    refine g_aload_n 0 dX11_isCrossed_34 rfl ?_
    refine g_cVp (ci := 11) (C0 := RX11) (T := TX11) (N := 17) (n := 0) (As := []) (rest := [.int x5]) hF (tX11_guests hG hF hM S) gX11_isCrossed_X11_guests rfl (hM 77 (by decide)) rfl rfl ⟨rfl, by decide +kernel, by decide +kernel, by decide +kernel⟩ rfl (gRm_ok (by decide) (by decide)) rfl (Nat.le_of_ble_eq_true rfl) dX11_isCrossed_35 (fun v_1 => ?_)
    refine g_icmp_ge (tgt := 109) dX11_isCrossed_38 (by decide) (fun h_1 => ?_) (fun h_1 => ?_)
    · refine g_iinc 4 (v := (x4 + 1)) (env' := [(4, .int (x4 + 1)), (0, .ref (gad G 77)), (1, .ref (gad G a1)), (2, .int x2), (3, .int x3), (5, .int x5)]) dX11_isCrossed_109 rfl rfl (by decide) rfl ?_
      refine g_goto (tgt := 17) dX11_isCrossed_112 (by decide) ?_
      refine g_env (env' := [(0, .ref (gad G 77)), (1, .ref (gad G a1)), (2, .int x2), (3, .int x3), (4, .int (x4 + 1))]) [1, 2, 3, 4, 0] rfl ?_
      exact hk17 x2 x3 (x4 + 1)
    · refine g_iload 5 dX11_isCrossed_41 rfl ?_
      refine g_iconst (v := 1) dX11_isCrossed_43 (by decide) ?_
      refine g_iadd dX11_isCrossed_44 ?_
      refine g_nI (fun v_2 => ?_)
      refine g_istore (i := 6) (env' := [(6, .int v_2), (0, .ref (gad G 77)), (1, .ref (gad G a1)), (2, .int x2), (3, .int x3), (4, .int x4), (5, .int x5)]) dX11_isCrossed_45 (by decide) rfl ?_
      refine g_env (env' := [(0, .ref (gad G 77)), (1, .ref (gad G a1)), (2, .int x2), (3, .int x3), (4, .int x4), (5, .int x5), (6, .int v_2)]) [1, 2, 3, 4, 5, 6, 0] rfl ?_
      exact tX11_isCrossed_L47 hG hF hM h1 S k4 hk4 k17 hk17 (fX11_isCrossed_L32 k4 k17 a1 S n) ih gFU x2 x3 x4 x5 v_2
set_option maxRecDepth 100000 in
set_option maxHeartbeats 4000000 in
theorem tX11_isCrossed_L17 {G : gGG} {F : State → Heap → Prop} (hG : gOK G) (hF : gSb G F) (hM : gPM G) {a1 : Nat} (h1 : gArM a1 = true) (S : gSt) (k4 : Int32 → Int32 → Option (Int32)) (hk4 : ∀ (x2 : Int32) (x3 : Int32), Gof G F RX11 cX11_isCrossed 7 wsX11_isCrossed (some .boolean) (gRm 1) 0 0 (gQ G (fun x => (some (.int x), S))) 4 [(0, .ref (gad G 77)), (1, .ref (gad G a1)), (2, .int x2), (3, .int x3)] [] S (k4 x2 x3)) : ∀ (n : Nat) (x2 : Int32) (x3 : Int32) (x4 : Int32), Gof G F RX11 cX11_isCrossed 7 wsX11_isCrossed (some .boolean) (gRm 1) 0 0 (gQ G (fun x => (some (.int x), S))) 17 [(0, .ref (gad G 77)), (1, .ref (gad G a1)), (2, .int x2), (3, .int x3), (4, .int x4)] [] S (fX11_isCrossed_L17 k4 a1 S n x2 x3 x4) := by
  intro n
  induction n with
  | zero => intro x2 x3 x4; exact g_none
  | succ n ih =>
    intro x2 x3 x4
    unfold fX11_isCrossed_L17
    refine g_iload 4 dX11_isCrossed_17 rfl ?_
    refine g_aload_n 0 dX11_isCrossed_19 rfl ?_
    refine g_cVp (ci := 11) (C0 := RX11) (T := TX11) (N := 17) (n := 0) (As := []) (rest := [.int x4]) hF (tX11_guests hG hF hM S) gX11_isCrossed_X11_guests rfl (hM 77 (by decide)) rfl rfl ⟨rfl, by decide +kernel, by decide +kernel, by decide +kernel⟩ rfl (gRm_ok (by decide) (by decide)) rfl (Nat.le_of_ble_eq_true rfl) dX11_isCrossed_20 (fun v_1 => ?_)
    refine g_icmp_ge (tgt := 115) dX11_isCrossed_23 (by decide) (fun h_1 => ?_) (fun h_1 => ?_)
    · refine g_iinc 3 (v := (x3 + 1)) (env' := [(3, .int (x3 + 1)), (0, .ref (gad G 77)), (1, .ref (gad G a1)), (2, .int x2), (4, .int x4)]) dX11_isCrossed_115 rfl rfl (by decide) rfl ?_
      refine g_goto (tgt := 4) dX11_isCrossed_118 (by decide) ?_
      refine g_env (env' := [(0, .ref (gad G 77)), (1, .ref (gad G a1)), (2, .int x2), (3, .int (x3 + 1))]) [1, 2, 3, 0] rfl ?_
      exact hk4 x2 (x3 + 1)
    · refine g_iload 4 dX11_isCrossed_26 rfl ?_
      refine g_iconst (v := 1) dX11_isCrossed_28 (by decide) ?_
      refine g_iadd dX11_isCrossed_29 ?_
      refine g_nI (fun v_2 => ?_)
      refine g_istore (i := 5) (env' := [(5, .int v_2), (0, .ref (gad G 77)), (1, .ref (gad G a1)), (2, .int x2), (3, .int x3), (4, .int x4)]) dX11_isCrossed_30 (by decide) rfl ?_
      refine g_env (env' := [(0, .ref (gad G 77)), (1, .ref (gad G a1)), (2, .int x2), (3, .int x3), (4, .int x4), (5, .int v_2)]) [1, 2, 3, 4, 5, 0] rfl ?_
      exact tX11_isCrossed_L32 hG hF hM h1 S k4 hk4 (fX11_isCrossed_L17 k4 a1 S n) ih gFU x2 x3 x4 v_2
set_option maxRecDepth 100000 in
set_option maxHeartbeats 4000000 in
theorem tX11_isCrossed_L4 {G : gGG} {F : State → Heap → Prop} (hG : gOK G) (hF : gSb G F) (hM : gPM G) {a1 : Nat} (h1 : gArM a1 = true) (S : gSt) : ∀ (n : Nat) (x2 : Int32) (x3 : Int32), Gof G F RX11 cX11_isCrossed 7 wsX11_isCrossed (some .boolean) (gRm 1) 0 0 (gQ G (fun x => (some (.int x), S))) 4 [(0, .ref (gad G 77)), (1, .ref (gad G a1)), (2, .int x2), (3, .int x3)] [] S (fX11_isCrossed_L4 a1 S n x2 x3) := by
  intro n
  induction n with
  | zero => intro x2 x3; exact g_none
  | succ n ih =>
    intro x2 x3
    unfold fX11_isCrossed_L4
    refine g_iload_n 3 dX11_isCrossed_4 rfl ?_
    refine g_aload_n 0 dX11_isCrossed_5 rfl ?_
    refine g_cVp (ci := 11) (C0 := RX11) (T := TX11) (N := 17) (n := 0) (As := []) (rest := [.int x3]) hF (tX11_guests hG hF hM S) gX11_isCrossed_X11_guests rfl (hM 77 (by decide)) rfl rfl ⟨rfl, by decide +kernel, by decide +kernel, by decide +kernel⟩ rfl (gRm_ok (by decide) (by decide)) rfl (Nat.le_of_ble_eq_true rfl) dX11_isCrossed_6 (fun v_1 => ?_)
    refine g_icmp_ge (tgt := 121) dX11_isCrossed_9 (by decide) (fun h_1 => ?_) (fun h_1 => ?_)
    · refine g_iload_n 2 dX11_isCrossed_121 rfl ?_
      refine g_gC (fun h_2 => ?_)
      exact g_zret (gBo_nar h_2) dX11_isCrossed_122 rfl
    · refine g_iload_n 3 dX11_isCrossed_12 rfl ?_
      refine g_iconst (v := 1) dX11_isCrossed_13 (by decide) ?_
      refine g_iadd dX11_isCrossed_14 ?_
      refine g_nI (fun v_2 => ?_)
      refine g_istore (i := 4) (env' := [(4, .int v_2), (0, .ref (gad G 77)), (1, .ref (gad G a1)), (2, .int x2), (3, .int x3)]) dX11_isCrossed_15 (by decide) rfl ?_
      refine g_env (env' := [(0, .ref (gad G 77)), (1, .ref (gad G a1)), (2, .int x2), (3, .int x3), (4, .int v_2)]) [1, 2, 3, 4, 0] rfl ?_
      exact tX11_isCrossed_L17 hG hF hM h1 S (fX11_isCrossed_L4 a1 S n) ih gFU x2 x3 v_2
set_option maxRecDepth 100000 in
set_option maxHeartbeats 4000000 in
theorem tX11_isCrossed_L {G : gGG} {F : State → Heap → Prop} (hG : gOK G) (hF : gSb G F) (hM : gPM G) {a1 : Nat} (h1 : gArM a1 = true) (S : gSt) : Gof G F RX11 cX11_isCrossed 7 wsX11_isCrossed (some .boolean) (gRm 1) 0 0 (gQ G (fun x => (some (.int x), S))) 0 [(0, .ref (gad G 77)), (1, .ref (gad G a1))] [] S (fX11_isCrossed a1 S) := by
  unfold fX11_isCrossed
  refine g_iconst (v := 0) dX11_isCrossed_0 (by decide) ?_
  refine g_istore_n (i := 2) (env' := [(2, .int 0), (0, .ref (gad G 77)), (1, .ref (gad G a1))]) dX11_isCrossed_1 rfl (by decide) rfl ?_
  refine g_iconst (v := 0) dX11_isCrossed_2 (by decide) ?_
  refine g_istore_n (i := 3) (env' := [(3, .int 0), (2, .int 0), (0, .ref (gad G 77)), (1, .ref (gad G a1))]) dX11_isCrossed_3 rfl (by decide) rfl ?_
  refine g_env (env' := [(0, .ref (gad G 77)), (1, .ref (gad G a1)), (2, .int 0), (3, .int 0)]) [2, 3, 1, 0] rfl ?_
  exact tX11_isCrossed_L4 hG hF hM h1 S gFU 0 0
set_option maxRecDepth 100000 in
set_option maxHeartbeats 4000000 in
theorem tX11_isCrossed {G : gGG} {F : State → Heap → Prop} (hG : gOK G) (hF : gSb G F) (hM : gPM G) {a1 : Nat} (h1 : gArM a1 = true) (S : gSt) : gCt G F yX11_isCrossed wsX11_isCrossed 1 [.ref (gad G 77), .ref (gad G a1)] S ((fX11_isCrossed a1 S).map (fun x => (some (.int x), S))) := g_met (by decide +kernel) rfl (Nat.le_of_ble_eq_true rfl) (tX11_isCrossed_L hG hF hM h1 S)
/-! X11_arePairsWell -/
theorem hiX11_arePairsWell_11 : ∀ w ∈ u_ws RX11 TX11 17, w ∈ wsX11_arePairsWell := fun _ hw => List.mem_cons_of_mem _ (List.mem_append_right _ (hw))
set_option maxRecDepth 100000 in
set_option maxHeartbeats 4000000 in
theorem tX11_arePairsWell_L123 {G : gGG} {F : State → Heap → Prop} (hG : gOK G) (hF : gSb G F) (hM : gPM G) {a1 : Nat} (h1 : gArM a1 = true) (S : gSt) (k4 : Int32 → Int32 → Option (Int32)) (hk4 : ∀ (x2 : Int32) (x3 : Int32), Gof G F RX11 cX11_arePairsWell 7 wsX11_arePairsWell (some .boolean) (gRm 1) 0 0 (gQ G (fun x => (some (.int x), S))) 4 [(0, .ref (gad G 77)), (1, .ref (gad G a1)), (2, .int x2), (3, .int x3)] [] S (k4 x2 x3)) (k15 : Int32 → Int32 → Int32 → Option (Int32)) (hk15 : ∀ (x2 : Int32) (x3 : Int32) (x4 : Int32), Gof G F RX11 cX11_arePairsWell 7 wsX11_arePairsWell (some .boolean) (gRm 1) 0 0 (gQ G (fun x => (some (.int x), S))) 15 [(0, .ref (gad G 77)), (1, .ref (gad G a1)), (2, .int x2), (3, .int x3), (4, .int x4)] [] S (k15 x2 x3 x4)) (x2 : Int32) (x3 : Int32) (x4 : Int32) (s0 : Int32) : Gof G F RX11 cX11_arePairsWell 7 wsX11_arePairsWell (some .boolean) (gRm 1) 0 0 (gQ G (fun x => (some (.int x), S))) 123 [(0, .ref (gad G 77)), (1, .ref (gad G a1)), (2, .int x2), (3, .int x3), (4, .int x4)] [.int s0] S (fX11_arePairsWell_L123 k4 k15 a1 S x2 x3 x4 s0) := by
  unfold fX11_arePairsWell_L123
  refine g_istore (i := 6) (env' := [(6, .int s0), (0, .ref (gad G 77)), (1, .ref (gad G a1)), (2, .int x2), (3, .int x3), (4, .int x4)]) dX11_arePairsWell_123 (by decide) rfl ?_
  refine g_iload_n 3 dX11_arePairsWell_125 rfl ?_
  refine g_if_eq (tgt := 138) dX11_arePairsWell_126 (by decide) (fun h_1 => ?_) (fun h_1 => ?_)
  · refine g_iconst (v := 0) dX11_arePairsWell_138 (by decide) ?_
    refine g_istore_n (i := 2) (env' := [(2, .int 0), (6, .int s0), (0, .ref (gad G 77)), (1, .ref (gad G a1)), (3, .int x3), (4, .int x4)]) dX11_arePairsWell_139 rfl (by decide) rfl ?_
    refine g_iinc 5 (v := (x4 + 1)) (env' := [(4, .int (x4 + 1)), (2, .int 0), (6, .int s0), (0, .ref (gad G 77)), (1, .ref (gad G a1)), (3, .int x3)]) dX11_arePairsWell_140 rfl rfl (by decide) rfl ?_
    refine g_goto (tgt := 15) dX11_arePairsWell_143 (by decide) ?_
    refine g_env (env' := [(0, .ref (gad G 77)), (1, .ref (gad G a1)), (2, .int 0), (3, .int x3), (4, .int (x4 + 1))]) [3, 4, 1, 5, 0] rfl ?_
    exact hk15 0 x3 (x4 + 1)
  · refine g_iload 0 dX11_arePairsWell_129 rfl ?_
    refine g_if_ne (tgt := 138) dX11_arePairsWell_131 (by decide) (fun h_2 => ?_) (fun h_2 => ?_)
    · refine g_iconst (v := 0) dX11_arePairsWell_138 (by decide) ?_
      refine g_istore_n (i := 2) (env' := [(2, .int 0), (6, .int s0), (0, .ref (gad G 77)), (1, .ref (gad G a1)), (3, .int x3), (4, .int x4)]) dX11_arePairsWell_139 rfl (by decide) rfl ?_
      refine g_iinc 5 (v := (x4 + 1)) (env' := [(4, .int (x4 + 1)), (2, .int 0), (6, .int s0), (0, .ref (gad G 77)), (1, .ref (gad G a1)), (3, .int x3)]) dX11_arePairsWell_140 rfl rfl (by decide) rfl ?_
      refine g_goto (tgt := 15) dX11_arePairsWell_143 (by decide) ?_
      refine g_env (env' := [(0, .ref (gad G 77)), (1, .ref (gad G a1)), (2, .int 0), (3, .int x3), (4, .int (x4 + 1))]) [3, 4, 1, 5, 0] rfl ?_
      exact hk15 0 x3 (x4 + 1)
    · refine g_iconst (v := 1) dX11_arePairsWell_134 (by decide) ?_
      refine g_goto (tgt := 139) dX11_arePairsWell_135 (by decide) ?_
      refine g_istore_n (i := 2) (env' := [(2, .int 1), (6, .int s0), (0, .ref (gad G 77)), (1, .ref (gad G a1)), (3, .int x3), (4, .int x4)]) dX11_arePairsWell_139 rfl (by decide) rfl ?_
      refine g_iinc 5 (v := (x4 + 1)) (env' := [(4, .int (x4 + 1)), (2, .int 1), (6, .int s0), (0, .ref (gad G 77)), (1, .ref (gad G a1)), (3, .int x3)]) dX11_arePairsWell_140 rfl rfl (by decide) rfl ?_
      refine g_goto (tgt := 15) dX11_arePairsWell_143 (by decide) ?_
      refine g_env (env' := [(0, .ref (gad G 77)), (1, .ref (gad G a1)), (2, .int 1), (3, .int x3), (4, .int (x4 + 1))]) [3, 4, 1, 5, 0] rfl ?_
      exact hk15 1 x3 (x4 + 1)
set_option maxRecDepth 100000 in
set_option maxHeartbeats 4000000 in
theorem tX11_arePairsWell_L36 {G : gGG} {F : State → Heap → Prop} (hG : gOK G) (hF : gSb G F) (hM : gPM G) {a1 : Nat} (h1 : gArM a1 = true) (S : gSt) (k4 : Int32 → Int32 → Option (Int32)) (hk4 : ∀ (x2 : Int32) (x3 : Int32), Gof G F RX11 cX11_arePairsWell 7 wsX11_arePairsWell (some .boolean) (gRm 1) 0 0 (gQ G (fun x => (some (.int x), S))) 4 [(0, .ref (gad G 77)), (1, .ref (gad G a1)), (2, .int x2), (3, .int x3)] [] S (k4 x2 x3)) (k15 : Int32 → Int32 → Int32 → Option (Int32)) (hk15 : ∀ (x2 : Int32) (x3 : Int32) (x4 : Int32), Gof G F RX11 cX11_arePairsWell 7 wsX11_arePairsWell (some .boolean) (gRm 1) 0 0 (gQ G (fun x => (some (.int x), S))) 15 [(0, .ref (gad G 77)), (1, .ref (gad G a1)), (2, .int x2), (3, .int x3), (4, .int x4)] [] S (k15 x2 x3 x4)) (x2 : Int32) (x3 : Int32) (x4 : Int32) (s0 : Int32) : Gof G F RX11 cX11_arePairsWell 7 wsX11_arePairsWell (some .boolean) (gRm 1) 0 0 (gQ G (fun x => (some (.int x), S))) 36 [(0, .ref (gad G 77)), (1, .ref (gad G a1)), (2, .int x2), (3, .int x3), (4, .int x4)] [.int s0] S (fX11_arePairsWell_L36 k4 k15 a1 S x2 x3 x4 s0) := by
  unfold fX11_arePairsWell_L36
  refine g_istore (i := 5) (env' := [(5, .int s0), (0, .ref (gad G 77)), (1, .ref (gad G a1)), (2, .int x2), (3, .int x3), (4, .int x4)]) dX11_arePairsWell_36 (by decide) rfl ?_
  refine g_iload 0 dX11_arePairsWell_38 rfl ?_
  refine g_if_eq (tgt := 100) dX11_arePairsWell_40 (by decide) (fun h_1 => ?_) (fun h_1 => ?_)
  · refine g_aload_n 1 dX11_arePairsWell_100 rfl ?_
    refine g_getK (ci := 11) (k0 := 9) (C0 := RX11) (T := TX11) (N := 17) (hM 77 (by decide)) rfl rfl hiX11_arePairsWell_11 (by decide) (List.mem_of_getElem? (i := 1) rfl) rfl dX11_arePairsWell_101 ?_
    refine g_bipush (v := 14) dX11_arePairsWell_104 (by decide) ?_
    refine g_iload_n 4 dX11_arePairsWell_106 rfl ?_
    refine g_iadd dX11_arePairsWell_107 ?_
    refine g_iald hG (hM 79 (by decide)) rfl dX11_arePairsWell_108 ?_
    refine g_iload 5 dX11_arePairsWell_109 rfl ?_
    refine g_ishr dX11_arePairsWell_111 ?_
    refine g_iconst (v := 1) dX11_arePairsWell_112 (by decide) ?_
    refine g_iand dX11_arePairsWell_113 ?_
    refine g_iconst (v := 1) dX11_arePairsWell_114 (by decide) ?_
    refine g_icmp_ne (tgt := 122) dX11_arePairsWell_115 (by decide) (fun h_2 => ?_) (fun h_2 => ?_)
    · refine g_iconst (v := 0) dX11_arePairsWell_122 (by decide) ?_
      refine g_env (env' := [(0, .ref (gad G 77)), (1, .ref (gad G a1)), (2, .int x2), (3, .int x3), (4, .int x4)]) [1, 2, 3, 4, 5] rfl ?_
      exact tX11_arePairsWell_L123 hG hF hM h1 S k4 hk4 k15 hk15 x2 x3 x4 0
    · refine g_iconst (v := 1) dX11_arePairsWell_118 (by decide) ?_
      refine g_goto (tgt := 123) dX11_arePairsWell_119 (by decide) ?_
      refine g_env (env' := [(0, .ref (gad G 77)), (1, .ref (gad G a1)), (2, .int x2), (3, .int x3), (4, .int x4)]) [1, 2, 3, 4, 5] rfl ?_
      exact tX11_arePairsWell_L123 hG hF hM h1 S k4 hk4 k15 hk15 x2 x3 x4 1
  · refine g_aload_n 1 dX11_arePairsWell_43 rfl ?_
    refine g_getK (ci := 11) (k0 := 9) (C0 := RX11) (T := TX11) (N := 17) (hM 77 (by decide)) rfl rfl hiX11_arePairsWell_11 (by decide) (List.mem_of_getElem? (i := 1) rfl) rfl dX11_arePairsWell_44 ?_
    refine g_bipush (v := 22) dX11_arePairsWell_47 (by decide) ?_
    refine g_iload_n 4 dX11_arePairsWell_49 rfl ?_
    refine g_iadd dX11_arePairsWell_50 ?_
    refine g_iald hG (hM 79 (by decide)) rfl dX11_arePairsWell_51 ?_
    refine g_iload 5 dX11_arePairsWell_52 rfl ?_
    refine g_ishr dX11_arePairsWell_54 ?_
    refine g_iconst (v := 1) dX11_arePairsWell_55 (by decide) ?_
    refine g_iand dX11_arePairsWell_56 ?_
    refine g_iconst (v := 1) dX11_arePairsWell_57 (by decide) ?_
    refine g_icmp_eq (tgt := 92) dX11_arePairsWell_58 (by decide) (fun h_3 => ?_) (fun h_3 => ?_)
    · refine g_iconst (v := 1) dX11_arePairsWell_92 (by decide) ?_
      refine g_goto (tgt := 123) dX11_arePairsWell_93 (by decide) ?_
      refine g_env (env' := [(0, .ref (gad G 77)), (1, .ref (gad G a1)), (2, .int x2), (3, .int x3), (4, .int x4)]) [1, 2, 3, 4, 5] rfl ?_
      exact tX11_arePairsWell_L123 hG hF hM h1 S k4 hk4 k15 hk15 x2 x3 x4 1
    · refine g_aload_n 1 dX11_arePairsWell_61 rfl ?_
      refine g_getK (ci := 11) (k0 := 9) (C0 := RX11) (T := TX11) (N := 17) (hM 77 (by decide)) rfl rfl hiX11_arePairsWell_11 (by decide) (List.mem_of_getElem? (i := 1) rfl) rfl dX11_arePairsWell_62 ?_
      refine g_bipush (v := 12) dX11_arePairsWell_65 (by decide) ?_
      refine g_iald hG (hM 79 (by decide)) rfl dX11_arePairsWell_67 ?_
      refine g_iconst (v := 1) dX11_arePairsWell_68 (by decide) ?_
      refine g_icmp_ne (tgt := 96) dX11_arePairsWell_69 (by decide) (fun h_4 => ?_) (fun h_4 => ?_)
      · refine g_iconst (v := 0) dX11_arePairsWell_96 (by decide) ?_
        refine g_goto (tgt := 123) dX11_arePairsWell_97 (by decide) ?_
        refine g_env (env' := [(0, .ref (gad G 77)), (1, .ref (gad G a1)), (2, .int x2), (3, .int x3), (4, .int x4)]) [1, 2, 3, 4, 5] rfl ?_
        exact tX11_arePairsWell_L123 hG hF hM h1 S k4 hk4 k15 hk15 x2 x3 x4 0
      · refine g_aload_n 1 dX11_arePairsWell_72 rfl ?_
        refine g_getK (ci := 11) (k0 := 9) (C0 := RX11) (T := TX11) (N := 17) (hM 77 (by decide)) rfl rfl hiX11_arePairsWell_11 (by decide) (List.mem_of_getElem? (i := 1) rfl) rfl dX11_arePairsWell_73 ?_
        refine g_iconst (v := 1) dX11_arePairsWell_76 (by decide) ?_
        refine g_iload_n 4 dX11_arePairsWell_77 rfl ?_
        refine g_iadd dX11_arePairsWell_78 ?_
        refine g_iald hG (hM 79 (by decide)) rfl dX11_arePairsWell_79 ?_
        refine g_aload_n 1 dX11_arePairsWell_80 rfl ?_
        refine g_getK (ci := 11) (k0 := 9) (C0 := RX11) (T := TX11) (N := 17) (hM 77 (by decide)) rfl rfl hiX11_arePairsWell_11 (by decide) (List.mem_of_getElem? (i := 1) rfl) rfl dX11_arePairsWell_81 ?_
        refine g_iconst (v := 1) dX11_arePairsWell_84 (by decide) ?_
        refine g_iload 5 dX11_arePairsWell_85 rfl ?_
        refine g_iadd dX11_arePairsWell_87 ?_
        refine g_iald hG (hM 79 (by decide)) rfl dX11_arePairsWell_88 ?_
        refine g_icmp_ne (tgt := 96) dX11_arePairsWell_89 (by decide) (fun h_5 => ?_) (fun h_5 => ?_)
        · refine g_iconst (v := 0) dX11_arePairsWell_96 (by decide) ?_
          refine g_goto (tgt := 123) dX11_arePairsWell_97 (by decide) ?_
          refine g_env (env' := [(0, .ref (gad G 77)), (1, .ref (gad G a1)), (2, .int x2), (3, .int x3), (4, .int x4)]) [1, 2, 3, 4, 5] rfl ?_
          exact tX11_arePairsWell_L123 hG hF hM h1 S k4 hk4 k15 hk15 x2 x3 x4 0
        · refine g_iconst (v := 1) dX11_arePairsWell_92 (by decide) ?_
          refine g_goto (tgt := 123) dX11_arePairsWell_93 (by decide) ?_
          refine g_env (env' := [(0, .ref (gad G 77)), (1, .ref (gad G a1)), (2, .int x2), (3, .int x3), (4, .int x4)]) [1, 2, 3, 4, 5] rfl ?_
          exact tX11_arePairsWell_L123 hG hF hM h1 S k4 hk4 k15 hk15 x2 x3 x4 1
set_option maxRecDepth 100000 in
set_option maxHeartbeats 4000000 in
theorem tX11_arePairsWell_L15 {G : gGG} {F : State → Heap → Prop} (hG : gOK G) (hF : gSb G F) (hM : gPM G) {a1 : Nat} (h1 : gArM a1 = true) (S : gSt) (k4 : Int32 → Int32 → Option (Int32)) (hk4 : ∀ (x2 : Int32) (x3 : Int32), Gof G F RX11 cX11_arePairsWell 7 wsX11_arePairsWell (some .boolean) (gRm 1) 0 0 (gQ G (fun x => (some (.int x), S))) 4 [(0, .ref (gad G 77)), (1, .ref (gad G a1)), (2, .int x2), (3, .int x3)] [] S (k4 x2 x3)) : ∀ (n : Nat) (x2 : Int32) (x3 : Int32) (x4 : Int32), Gof G F RX11 cX11_arePairsWell 7 wsX11_arePairsWell (some .boolean) (gRm 1) 0 0 (gQ G (fun x => (some (.int x), S))) 15 [(0, .ref (gad G 77)), (1, .ref (gad G a1)), (2, .int x2), (3, .int x3), (4, .int x4)] [] S (fX11_arePairsWell_L15 k4 a1 S n x2 x3 x4) := by
  intro n
  induction n with
  | zero => intro x2 x3 x4; exact g_none
  | succ n ih =>
    intro x2 x3 x4
    unfold fX11_arePairsWell_L15
    refine g_iload 4 dX11_arePairsWell_15 rfl ?_
    refine g_iload_n 3 dX11_arePairsWell_17 rfl ?_
    refine g_icmp_ge (tgt := 146) dX11_arePairsWell_18 (by decide) (fun h_1 => ?_) (fun h_1 => ?_)
    · refine g_iinc 3 (v := (x3 + 1)) (env' := [(3, .int (x3 + 1)), (0, .ref (gad G 77)), (1, .ref (gad G a1)), (2, .int x2), (4, .int x4)]) dX11_arePairsWell_146 rfl rfl (by decide) rfl ?_
      refine g_goto (tgt := 4) dX11_arePairsWell_149 (by decide) ?_
      refine g_env (env' := [(0, .ref (gad G 77)), (1, .ref (gad G a1)), (2, .int x2), (3, .int (x3 + 1))]) [1, 2, 3, 0] rfl ?_
      exact hk4 x2 (x3 + 1)
    · refine g_aload_n 1 dX11_arePairsWell_21 rfl ?_
      refine g_iload_n 3 dX11_arePairsWell_22 rfl ?_
      refine g_iald hG (gAr_mM hM h1) (gAr_lM h1) dX11_arePairsWell_23 ?_
      refine g_aload_n 1 dX11_arePairsWell_24 rfl ?_
      refine g_iload 4 dX11_arePairsWell_25 rfl ?_
      refine g_iald hG (gAr_mM hM h1) (gAr_lM h1) dX11_arePairsWell_27 ?_
      refine g_icmp_ne (tgt := 35) dX11_arePairsWell_28 (by decide) (fun h_2 => ?_) (fun h_2 => ?_)
      · refine g_iconst (v := 0) dX11_arePairsWell_35 (by decide) ?_
        exact tX11_arePairsWell_L36 hG hF hM h1 S k4 hk4 (fX11_arePairsWell_L15 k4 a1 S n) ih x2 x3 x4 0
      · refine g_iconst (v := 1) dX11_arePairsWell_31 (by decide) ?_
        refine g_goto (tgt := 36) dX11_arePairsWell_32 (by decide) ?_
        exact tX11_arePairsWell_L36 hG hF hM h1 S k4 hk4 (fX11_arePairsWell_L15 k4 a1 S n) ih x2 x3 x4 1
set_option maxRecDepth 100000 in
set_option maxHeartbeats 4000000 in
theorem tX11_arePairsWell_L4 {G : gGG} {F : State → Heap → Prop} (hG : gOK G) (hF : gSb G F) (hM : gPM G) {a1 : Nat} (h1 : gArM a1 = true) (S : gSt) : ∀ (n : Nat) (x2 : Int32) (x3 : Int32), Gof G F RX11 cX11_arePairsWell 7 wsX11_arePairsWell (some .boolean) (gRm 1) 0 0 (gQ G (fun x => (some (.int x), S))) 4 [(0, .ref (gad G 77)), (1, .ref (gad G a1)), (2, .int x2), (3, .int x3)] [] S (fX11_arePairsWell_L4 a1 S n x2 x3) := by
  intro n
  induction n with
  | zero => intro x2 x3; exact g_none
  | succ n ih =>
    intro x2 x3
    unfold fX11_arePairsWell_L4
    refine g_iload_n 3 dX11_arePairsWell_4 rfl ?_
    refine g_aload_n 0 dX11_arePairsWell_5 rfl ?_
    refine g_cVp (ci := 11) (C0 := RX11) (T := TX11) (N := 17) (n := 0) (As := []) (rest := [.int x3]) hF (tX11_guests hG hF hM S) gX11_arePairsWell_X11_guests rfl (hM 77 (by decide)) rfl rfl ⟨rfl, by decide +kernel, by decide +kernel, by decide +kernel⟩ rfl (gRm_ok (by decide) (by decide)) rfl (Nat.le_of_ble_eq_true rfl) dX11_arePairsWell_6 (fun v_1 => ?_)
    refine g_icmp_ge (tgt := 152) dX11_arePairsWell_9 (by decide) (fun h_1 => ?_) (fun h_1 => ?_)
    · refine g_iload_n 2 dX11_arePairsWell_152 rfl ?_
      refine g_gC (fun h_2 => ?_)
      exact g_zret (gBo_nar h_2) dX11_arePairsWell_153 rfl
    · refine g_iconst (v := 0) dX11_arePairsWell_12 (by decide) ?_
      refine g_istore (i := 4) (env' := [(4, .int 0), (0, .ref (gad G 77)), (1, .ref (gad G a1)), (2, .int x2), (3, .int x3)]) dX11_arePairsWell_13 (by decide) rfl ?_
      refine g_env (env' := [(0, .ref (gad G 77)), (1, .ref (gad G a1)), (2, .int x2), (3, .int x3), (4, .int 0)]) [1, 2, 3, 4, 0] rfl ?_
      exact tX11_arePairsWell_L15 hG hF hM h1 S (fX11_arePairsWell_L4 a1 S n) ih gFU x2 x3 0
set_option maxRecDepth 100000 in
set_option maxHeartbeats 4000000 in
theorem tX11_arePairsWell_L {G : gGG} {F : State → Heap → Prop} (hG : gOK G) (hF : gSb G F) (hM : gPM G) {a1 : Nat} (h1 : gArM a1 = true) (S : gSt) : Gof G F RX11 cX11_arePairsWell 7 wsX11_arePairsWell (some .boolean) (gRm 1) 0 0 (gQ G (fun x => (some (.int x), S))) 0 [(0, .ref (gad G 77)), (1, .ref (gad G a1))] [] S (fX11_arePairsWell a1 S) := by
  unfold fX11_arePairsWell
  refine g_iconst (v := 1) dX11_arePairsWell_0 (by decide) ?_
  refine g_istore_n (i := 2) (env' := [(2, .int 1), (0, .ref (gad G 77)), (1, .ref (gad G a1))]) dX11_arePairsWell_1 rfl (by decide) rfl ?_
  refine g_iconst (v := 0) dX11_arePairsWell_2 (by decide) ?_
  refine g_istore_n (i := 3) (env' := [(3, .int 0), (2, .int 1), (0, .ref (gad G 77)), (1, .ref (gad G a1))]) dX11_arePairsWell_3 rfl (by decide) rfl ?_
  refine g_env (env' := [(0, .ref (gad G 77)), (1, .ref (gad G a1)), (2, .int 1), (3, .int 0)]) [2, 3, 1, 0] rfl ?_
  exact tX11_arePairsWell_L4 hG hF hM h1 S gFU 1 0
set_option maxRecDepth 100000 in
set_option maxHeartbeats 4000000 in
theorem tX11_arePairsWell {G : gGG} {F : State → Heap → Prop} (hG : gOK G) (hF : gSb G F) (hM : gPM G) {a1 : Nat} (h1 : gArM a1 = true) (S : gSt) : gCt G F yX11_arePairsWell wsX11_arePairsWell 1 [.ref (gad G 77), .ref (gad G a1)] S ((fX11_arePairsWell a1 S).map (fun x => (some (.int x), S))) := g_met (by decide +kernel) rfl (Nat.le_of_ble_eq_true rfl) (tX11_arePairsWell_L hG hF hM h1 S)
/-! X11_isLawful -/
theorem hiX11_isLawful_11 : ∀ w ∈ u_ws RX11 TX11 17, w ∈ wsX11_isLawful := fun _ hw => List.mem_cons_of_mem _ (List.mem_append_right _ (hw))
set_option maxRecDepth 100000 in
set_option maxHeartbeats 4000000 in
theorem tX11_isLawful_L101 {G : gGG} {F : State → Heap → Prop} (hG : gOK G) (hF : gSb G F) (hM : gPM G) {a1 : Nat} (h1 : gArM a1 = true) (S : gSt) (x3 : Int32) : Gof G F RX11 cX11_isLawful 6 wsX11_isLawful (some .boolean) (gRm 2) 0 0 (gQ G (fun x => (some (.int x), S))) 101 [(0, .ref (gad G 77)), (1, .ref (gad G a1)), (3, .int x3)] [] S (fX11_isLawful_L101 a1 S x3) := by
  unfold fX11_isLawful_L101
  refine g_iload_n 2 dX11_isLawful_101 rfl ?_
  refine g_if_eq (tgt := 136) dX11_isLawful_102 (by decide) (fun h_1 => ?_) (fun h_1 => ?_)
  · refine g_iconst (v := 0) dX11_isLawful_136 (by decide) ?_
    exact g_zret (by decide) dX11_isLawful_137 rfl
  · refine g_aload_n 0 dX11_isLawful_105 rfl ?_
    refine g_aload_n 1 dX11_isLawful_106 rfl ?_
    refine g_cVp (ci := 11) (C0 := RX11) (T := TX11) (N := 17) (n := 1) (As := [.ref (gad G a1)]) (rest := []) hF (tX11_arePairsWell hG hF hM h1 S) gX11_isLawful_X11_arePairsWell rfl (hM 77 (by decide)) rfl rfl ⟨rfl, by decide +kernel, by decide +kernel, by decide +kernel⟩ rfl (gRm_ok (by decide) (by decide)) rfl (Nat.le_of_ble_eq_true rfl) dX11_isLawful_107 (fun v_1 => ?_)
    refine g_if_eq (tgt := 136) dX11_isLawful_110 (by decide) (fun h_2 => ?_) (fun h_2 => ?_)
    · refine g_iconst (v := 0) dX11_isLawful_136 (by decide) ?_
      exact g_zret (by decide) dX11_isLawful_137 rfl
    · refine g_aload_n 0 dX11_isLawful_113 rfl ?_
      refine g_getK (ci := 11) (k0 := 9) (C0 := RX11) (T := TX11) (N := 17) (hM 77 (by decide)) rfl rfl hiX11_isLawful_11 (by decide) (List.mem_of_getElem? (i := 1) rfl) rfl dX11_isLawful_114 ?_
      refine g_bipush (v := 13) dX11_isLawful_117 (by decide) ?_
      refine g_iald hG (hM 79 (by decide)) rfl dX11_isLawful_119 ?_
      refine g_iconst (v := 1) dX11_isLawful_120 (by decide) ?_
      refine g_icmp_ne (tgt := 132) dX11_isLawful_121 (by decide) (fun h_3 => ?_) (fun h_3 => ?_)
      · refine g_iconst (v := 1) dX11_isLawful_132 (by decide) ?_
        refine g_goto (tgt := 137) dX11_isLawful_133 (by decide) ?_
        exact g_zret (by decide) dX11_isLawful_137 rfl
      · refine g_aload_n 0 dX11_isLawful_124 rfl ?_
        refine g_aload_n 1 dX11_isLawful_125 rfl ?_
        refine g_cVp (ci := 11) (C0 := RX11) (T := TX11) (N := 17) (n := 1) (As := [.ref (gad G a1)]) (rest := []) hF (tX11_isCrossed hG hF hM h1 S) gX11_isLawful_X11_isCrossed rfl (hM 77 (by decide)) rfl rfl ⟨rfl, by decide +kernel, by decide +kernel, by decide +kernel⟩ rfl (gRm_ok (by decide) (by decide)) rfl (Nat.le_of_ble_eq_true rfl) dX11_isLawful_126 (fun v_2 => ?_)
        refine g_if_ne (tgt := 136) dX11_isLawful_129 (by decide) (fun h_4 => ?_) (fun h_4 => ?_)
        · refine g_iconst (v := 0) dX11_isLawful_136 (by decide) ?_
          exact g_zret (by decide) dX11_isLawful_137 rfl
        · refine g_iconst (v := 1) dX11_isLawful_132 (by decide) ?_
          refine g_goto (tgt := 137) dX11_isLawful_133 (by decide) ?_
          exact g_zret (by decide) dX11_isLawful_137 rfl
set_option maxRecDepth 100000 in
set_option maxHeartbeats 4000000 in
theorem tX11_isLawful_L36 {G : gGG} {F : State → Heap → Prop} (hG : gOK G) (hF : gSb G F) (hM : gPM G) {a1 : Nat} (h1 : gArM a1 = true) (S : gSt) : ∀ (n : Nat) (x2 : Int32) (x3 : Int32) (x4 : Int32), Gof G F RX11 cX11_isLawful 6 wsX11_isLawful (some .boolean) (gRm 2) 0 0 (gQ G (fun x => (some (.int x), S))) 36 [(0, .ref (gad G 77)), (1, .ref (gad G a1)), (2, .int x2), (3, .int x3), (4, .int x4)] [] S (fX11_isLawful_L36 a1 S n x2 x3 x4) := by
  intro n
  induction n with
  | zero => intro x2 x3 x4; exact g_none
  | succ n ih =>
    intro x2 x3 x4
    unfold fX11_isLawful_L36
    refine g_iload 4 dX11_isLawful_36 rfl ?_
    refine g_iload_n 2 dX11_isLawful_38 rfl ?_
    refine g_icmp_ge (tgt := 101) dX11_isLawful_39 (by decide) (fun h_1 => ?_) (fun h_1 => ?_)
    · refine g_env (env' := [(0, .ref (gad G 77)), (1, .ref (gad G a1)), (3, .int x3)]) [0, 1, 3] rfl ?_
      exact tX11_isLawful_L101 hG hF hM h1 S x3
    · refine g_iload_n 3 dX11_isLawful_42 rfl ?_
      refine g_if_eq (tgt := 101) dX11_isLawful_43 (by decide) (fun h_2 => ?_) (fun h_2 => ?_)
      · refine g_env (env' := [(0, .ref (gad G 77)), (1, .ref (gad G a1)), (3, .int x3)]) [0, 1, 3] rfl ?_
        exact tX11_isLawful_L101 hG hF hM h1 S x3
      · refine g_aload_n 0 dX11_isLawful_46 rfl ?_
        refine g_aload_n 1 dX11_isLawful_47 rfl ?_
        refine g_iload 4 dX11_isLawful_48 rfl ?_
        refine g_cVp (ci := 11) (C0 := RX11) (T := TX11) (N := 17) (n := 2) (As := [.ref (gad G a1), .int x4]) (rest := []) hF (tX11_sizeOf hG hF hM h1 x4 S) gX11_isLawful_X11_sizeOf rfl (hM 77 (by decide)) rfl rfl ⟨rfl, by decide +kernel, by decide +kernel, by decide +kernel⟩ rfl (gRm_ok (by decide) (by decide)) rfl (Nat.le_of_ble_eq_true rfl) dX11_isLawful_50 (fun v_1 => ?_)
        refine g_istore (i := 5) (env' := [(5, .int v_1), (0, .ref (gad G 77)), (1, .ref (gad G a1)), (2, .int x2), (3, .int x3), (4, .int x4)]) dX11_isLawful_53 (by decide) rfl ?_
        refine g_iload 0 dX11_isLawful_55 rfl ?_
        refine g_aload_n 1 dX11_isLawful_57 rfl ?_
        refine g_getK (ci := 11) (k0 := 9) (C0 := RX11) (T := TX11) (N := 17) (hM 77 (by decide)) rfl rfl hiX11_isLawful_11 (by decide) (List.mem_of_getElem? (i := 1) rfl) rfl dX11_isLawful_58 ?_
        refine g_bipush (v := 10) dX11_isLawful_61 (by decide) ?_
        refine g_iald hG (hM 79 (by decide)) rfl dX11_isLawful_63 ?_
        refine g_icmp_lt (tgt := 93) dX11_isLawful_64 (by decide) (fun h_3 => ?_) (fun h_3 => ?_)
        · refine g_iconst (v := 0) dX11_isLawful_93 (by decide) ?_
          refine g_istore_n (i := 3) (env' := [(3, .int 0), (5, .int v_1), (0, .ref (gad G 77)), (1, .ref (gad G a1)), (2, .int x2), (4, .int x4)]) dX11_isLawful_94 rfl (by decide) rfl ?_
          refine g_iinc 5 (v := (x4 + 1)) (env' := [(4, .int (x4 + 1)), (3, .int 0), (5, .int v_1), (0, .ref (gad G 77)), (1, .ref (gad G a1)), (2, .int x2)]) dX11_isLawful_95 rfl rfl (by decide) rfl ?_
          refine g_goto (tgt := 36) dX11_isLawful_98 (by decide) ?_
          refine g_env (env' := [(0, .ref (gad G 77)), (1, .ref (gad G a1)), (2, .int x2), (3, .int 0), (4, .int (x4 + 1))]) [3, 4, 5, 1, 0] rfl ?_
          exact ih x2 0 (x4 + 1)
        · refine g_aload_n 1 dX11_isLawful_67 rfl ?_
          refine g_getK (ci := 11) (k0 := 9) (C0 := RX11) (T := TX11) (N := 17) (hM 77 (by decide)) rfl rfl hiX11_isLawful_11 (by decide) (List.mem_of_getElem? (i := 1) rfl) rfl dX11_isLawful_68 ?_
          refine g_bipush (v := 11) dX11_isLawful_71 (by decide) ?_
          refine g_iald hG (hM 79 (by decide)) rfl dX11_isLawful_73 ?_
          refine g_if_eq (tgt := 89) dX11_isLawful_74 (by decide) (fun h_4 => ?_) (fun h_4 => ?_)
          · refine g_iconst (v := 1) dX11_isLawful_89 (by decide) ?_
            refine g_goto (tgt := 94) dX11_isLawful_90 (by decide) ?_
            refine g_istore_n (i := 3) (env' := [(3, .int 1), (5, .int v_1), (0, .ref (gad G 77)), (1, .ref (gad G a1)), (2, .int x2), (4, .int x4)]) dX11_isLawful_94 rfl (by decide) rfl ?_
            refine g_iinc 5 (v := (x4 + 1)) (env' := [(4, .int (x4 + 1)), (3, .int 1), (5, .int v_1), (0, .ref (gad G 77)), (1, .ref (gad G a1)), (2, .int x2)]) dX11_isLawful_95 rfl rfl (by decide) rfl ?_
            refine g_goto (tgt := 36) dX11_isLawful_98 (by decide) ?_
            refine g_env (env' := [(0, .ref (gad G 77)), (1, .ref (gad G a1)), (2, .int x2), (3, .int 1), (4, .int (x4 + 1))]) [3, 4, 5, 1, 0] rfl ?_
            exact ih x2 1 (x4 + 1)
          · refine g_iload 0 dX11_isLawful_77 rfl ?_
            refine g_aload_n 1 dX11_isLawful_79 rfl ?_
            refine g_getK (ci := 11) (k0 := 9) (C0 := RX11) (T := TX11) (N := 17) (hM 77 (by decide)) rfl rfl hiX11_isLawful_11 (by decide) (List.mem_of_getElem? (i := 1) rfl) rfl dX11_isLawful_80 ?_
            refine g_bipush (v := 11) dX11_isLawful_83 (by decide) ?_
            refine g_iald hG (hM 79 (by decide)) rfl dX11_isLawful_85 ?_
            refine g_icmp_gt (tgt := 93) dX11_isLawful_86 (by decide) (fun h_5 => ?_) (fun h_5 => ?_)
            · refine g_iconst (v := 0) dX11_isLawful_93 (by decide) ?_
              refine g_istore_n (i := 3) (env' := [(3, .int 0), (5, .int v_1), (0, .ref (gad G 77)), (1, .ref (gad G a1)), (2, .int x2), (4, .int x4)]) dX11_isLawful_94 rfl (by decide) rfl ?_
              refine g_iinc 5 (v := (x4 + 1)) (env' := [(4, .int (x4 + 1)), (3, .int 0), (5, .int v_1), (0, .ref (gad G 77)), (1, .ref (gad G a1)), (2, .int x2)]) dX11_isLawful_95 rfl rfl (by decide) rfl ?_
              refine g_goto (tgt := 36) dX11_isLawful_98 (by decide) ?_
              refine g_env (env' := [(0, .ref (gad G 77)), (1, .ref (gad G a1)), (2, .int x2), (3, .int 0), (4, .int (x4 + 1))]) [3, 4, 5, 1, 0] rfl ?_
              exact ih x2 0 (x4 + 1)
            · refine g_iconst (v := 1) dX11_isLawful_89 (by decide) ?_
              refine g_goto (tgt := 94) dX11_isLawful_90 (by decide) ?_
              refine g_istore_n (i := 3) (env' := [(3, .int 1), (5, .int v_1), (0, .ref (gad G 77)), (1, .ref (gad G a1)), (2, .int x2), (4, .int x4)]) dX11_isLawful_94 rfl (by decide) rfl ?_
              refine g_iinc 5 (v := (x4 + 1)) (env' := [(4, .int (x4 + 1)), (3, .int 1), (5, .int v_1), (0, .ref (gad G 77)), (1, .ref (gad G a1)), (2, .int x2)]) dX11_isLawful_95 rfl rfl (by decide) rfl ?_
              refine g_goto (tgt := 36) dX11_isLawful_98 (by decide) ?_
              refine g_env (env' := [(0, .ref (gad G 77)), (1, .ref (gad G a1)), (2, .int x2), (3, .int 1), (4, .int (x4 + 1))]) [3, 4, 5, 1, 0] rfl ?_
              exact ih x2 1 (x4 + 1)
set_option maxRecDepth 100000 in
set_option maxHeartbeats 4000000 in
theorem tX11_isLawful_L {G : gGG} {F : State → Heap → Prop} (hG : gOK G) (hF : gSb G F) (hM : gPM G) {a1 : Nat} (h1 : gArM a1 = true) (S : gSt) : Gof G F RX11 cX11_isLawful 6 wsX11_isLawful (some .boolean) (gRm 2) 0 0 (gQ G (fun x => (some (.int x), S))) 0 [(0, .ref (gad G 77)), (1, .ref (gad G a1))] [] S (fX11_isLawful a1 S) := by
  unfold fX11_isLawful
  refine g_aload_n 0 dX11_isLawful_0 rfl ?_
  refine g_aload_n 1 dX11_isLawful_1 rfl ?_
  refine g_cVp (ci := 11) (C0 := RX11) (T := TX11) (N := 17) (n := 1) (As := [.ref (gad G a1)]) (rest := []) hF (tX11_partiesOf hG hF hM h1 S) gX11_isLawful_X11_partiesOf rfl (hM 77 (by decide)) rfl rfl ⟨rfl, by decide +kernel, by decide +kernel, by decide +kernel⟩ rfl (gRm_ok (by decide) (by decide)) rfl (Nat.le_of_ble_eq_true rfl) dX11_isLawful_2 (fun v_1 => ?_)
  refine g_istore_n (i := 2) (env' := [(2, .int v_1), (0, .ref (gad G 77)), (1, .ref (gad G a1))]) dX11_isLawful_5 rfl (by decide) rfl ?_
  refine g_aload_n 1 dX11_isLawful_6 rfl ?_
  refine g_getK (ci := 11) (k0 := 9) (C0 := RX11) (T := TX11) (N := 17) (hM 77 (by decide)) rfl rfl hiX11_isLawful_11 (by decide) (List.mem_of_getElem? (i := 1) rfl) rfl dX11_isLawful_7 ?_
  refine g_bipush (v := 9) dX11_isLawful_10 (by decide) ?_
  refine g_iald hG (hM 79 (by decide)) rfl dX11_isLawful_12 ?_
  refine g_if_eq (tgt := 27) dX11_isLawful_13 (by decide) (fun h_1 => ?_) (fun h_1 => ?_)
  · refine g_iconst (v := 1) dX11_isLawful_27 (by decide) ?_
    refine g_goto (tgt := 32) dX11_isLawful_28 (by decide) ?_
    refine g_istore_n (i := 3) (env' := [(3, .int 1), (2, .int v_1), (0, .ref (gad G 77)), (1, .ref (gad G a1))]) dX11_isLawful_32 rfl (by decide) rfl ?_
    refine g_iconst (v := 0) dX11_isLawful_33 (by decide) ?_
    refine g_istore (i := 4) (env' := [(4, .int 0), (3, .int 1), (2, .int v_1), (0, .ref (gad G 77)), (1, .ref (gad G a1))]) dX11_isLawful_34 (by decide) rfl ?_
    refine g_env (env' := [(0, .ref (gad G 77)), (1, .ref (gad G a1)), (2, .int v_1), (3, .int 1), (4, .int 0)]) [3, 4, 2, 1, 0] rfl ?_
    exact tX11_isLawful_L36 hG hF hM h1 S gFU v_1 1 0
  · refine g_iload_n 0 dX11_isLawful_16 rfl ?_
    refine g_aload_n 1 dX11_isLawful_17 rfl ?_
    refine g_getK (ci := 11) (k0 := 9) (C0 := RX11) (T := TX11) (N := 17) (hM 77 (by decide)) rfl rfl hiX11_isLawful_11 (by decide) (List.mem_of_getElem? (i := 1) rfl) rfl dX11_isLawful_18 ?_
    refine g_bipush (v := 9) dX11_isLawful_21 (by decide) ?_
    refine g_iald hG (hM 79 (by decide)) rfl dX11_isLawful_23 ?_
    refine g_icmp_ne (tgt := 31) dX11_isLawful_24 (by decide) (fun h_2 => ?_) (fun h_2 => ?_)
    · refine g_iconst (v := 0) dX11_isLawful_31 (by decide) ?_
      refine g_istore_n (i := 3) (env' := [(3, .int 0), (2, .int v_1), (0, .ref (gad G 77)), (1, .ref (gad G a1))]) dX11_isLawful_32 rfl (by decide) rfl ?_
      refine g_iconst (v := 0) dX11_isLawful_33 (by decide) ?_
      refine g_istore (i := 4) (env' := [(4, .int 0), (3, .int 0), (2, .int v_1), (0, .ref (gad G 77)), (1, .ref (gad G a1))]) dX11_isLawful_34 (by decide) rfl ?_
      refine g_env (env' := [(0, .ref (gad G 77)), (1, .ref (gad G a1)), (2, .int v_1), (3, .int 0), (4, .int 0)]) [3, 4, 2, 1, 0] rfl ?_
      exact tX11_isLawful_L36 hG hF hM h1 S gFU v_1 0 0
    · refine g_iconst (v := 1) dX11_isLawful_27 (by decide) ?_
      refine g_goto (tgt := 32) dX11_isLawful_28 (by decide) ?_
      refine g_istore_n (i := 3) (env' := [(3, .int 1), (2, .int v_1), (0, .ref (gad G 77)), (1, .ref (gad G a1))]) dX11_isLawful_32 rfl (by decide) rfl ?_
      refine g_iconst (v := 0) dX11_isLawful_33 (by decide) ?_
      refine g_istore (i := 4) (env' := [(4, .int 0), (3, .int 1), (2, .int v_1), (0, .ref (gad G 77)), (1, .ref (gad G a1))]) dX11_isLawful_34 (by decide) rfl ?_
      refine g_env (env' := [(0, .ref (gad G 77)), (1, .ref (gad G a1)), (2, .int v_1), (3, .int 1), (4, .int 0)]) [3, 4, 2, 1, 0] rfl ?_
      exact tX11_isLawful_L36 hG hF hM h1 S gFU v_1 1 0
set_option maxRecDepth 100000 in
set_option maxHeartbeats 4000000 in
theorem tX11_isLawful {G : gGG} {F : State → Heap → Prop} (hG : gOK G) (hF : gSb G F) (hM : gPM G) {a1 : Nat} (h1 : gArM a1 = true) (S : gSt) : gCt G F yX11_isLawful wsX11_isLawful 2 [.ref (gad G 77), .ref (gad G a1)] S ((fX11_isLawful a1 S).map (fun x => (some (.int x), S))) := g_met (by decide +kernel) rfl (Nat.le_of_ble_eq_true rfl) (tX11_isLawful_L hG hF hM h1 S)
/-! X11_party -/
theorem hiX11_party_11 : ∀ w ∈ u_ws RX11 TX11 17, w ∈ wsX11_party := fun _ hw => List.mem_cons_of_mem _ (List.mem_append_right _ (hw))
set_option maxRecDepth 100000 in
set_option maxHeartbeats 4000000 in
theorem tX11_party_L {G : gGG} {F : State → Heap → Prop} (hG : gOK G) (hF : gSb G F) (hM : gPM G) (a1 : Int32) (S : gSt) : Gof G F RX11 cX11_party 2 wsX11_party (some .int) (gRm 2) 0 0 (gQ G (fun x => (some (.int x.1), x.2))) 0 [(0, .ref (gad G 77)), (1, .int a1)] [] S (fX11_party a1 S) := by
  unfold fX11_party
  refine g_aload_n 0 dX11_party_0 rfl ?_
  refine g_iconst (v := 0) dX11_party_1 (by decide) ?_
  refine g_putI hG (ci := 11) (k0 := 0) (C0 := RX11) (T := TX11) (N := 17) (hM 77 (by decide)) rfl rfl hiX11_party_11 (by decide) (List.mem_of_getElem? (i := 1) rfl) tyX11 tyX11_ok nmX11 rfl rfl rfl rfl dX11_party_2 ?_
  refine g_nS (fun S_1 => ?_)
  refine g_aload_n 0 dX11_party_5 rfl ?_
  refine g_iload_n 1 dX11_party_6 rfl ?_
  refine g_cVp (ci := 11) (C0 := RX11) (T := TX11) (N := 17) (n := 1) (As := [.int a1]) (rest := []) hF (tX11_isGuest hG hF hM a1 S_1) gX11_party_X11_isGuest rfl (hM 77 (by decide)) rfl rfl ⟨rfl, by decide +kernel, by decide +kernel, by decide +kernel⟩ rfl (gRm_ok (by decide) (by decide)) rfl (Nat.le_of_ble_eq_true rfl) dX11_party_7 (fun v_2 => ?_)
  refine g_if_eq (tgt := 22) dX11_party_10 (by decide) (fun h_1 => ?_) (fun h_1 => ?_)
  · refine g_iconst (v := (-1)) dX11_party_22 (by decide) ?_
    exact g_iret dX11_party_23 rfl
  · refine g_aload_n 0 dX11_party_13 rfl ?_
    refine g_getK (ci := 11) (k0 := 10) (C0 := RX11) (T := TX11) (N := 17) (hM 77 (by decide)) rfl rfl hiX11_party_11 (by decide) (List.mem_of_getElem? (i := 2) rfl) rfl dX11_party_14 ?_
    refine g_iload_n 1 dX11_party_17 rfl ?_
    refine g_iald hG (hM 80 (by decide)) rfl dX11_party_18 ?_
    refine g_goto (tgt := 23) dX11_party_19 (by decide) ?_
    exact g_iret dX11_party_23 rfl
set_option maxRecDepth 100000 in
set_option maxHeartbeats 4000000 in
theorem tX11_party {G : gGG} {F : State → Heap → Prop} (hG : gOK G) (hF : gSb G F) (hM : gPM G) (a1 : Int32) (S : gSt) : gCt G F yX11_party wsX11_party 2 [.ref (gad G 77), .int a1] S ((fX11_party a1 S).map (fun x => (some (.int x.1), x.2))) := g_met (by decide +kernel) rfl (Nat.le_of_ble_eq_true rfl) (tX11_party_L hG hF hM a1 S)
/-! X11_moves -/
set_option maxRecDepth 100000 in
set_option maxHeartbeats 4000000 in
theorem tX11_moves_L46 {G : gGG} {F : State → Heap → Prop} (hG : gOK G) (hF : gSb G F) (hM : gPM G) {a1 : Nat} (h1 : gArM a1 = true) (s1 : Int32) (s2 : Int32) (S : gSt) : Gof G F RX11 cX11_moves 4 wsX11_moves (some .boolean) (gRm 2) 0 0 (gQ G (fun x => (some (.int x.1), x.2))) 46 [(0, .ref (gad G 77)), (1, .ref (gad G a1))] [.int s2, .int s1, .ref (gad G a1)] S (fX11_moves_L46 a1 s1 s2 S) := by
  unfold fX11_moves_L46
  refine g_iast hG (gAr_mM hM h1) (gAr_lM h1) dX11_moves_46 ?_
  refine g_nS (fun S_1 => ?_)
  refine g_aload_n 0 dX11_moves_47 rfl ?_
  refine g_aload_n 1 dX11_moves_48 rfl ?_
  refine g_cVv (ci := 11) (C0 := RX11) (T := TX11) (N := 17) (n := 1) (As := [.ref (gad G a1)]) (rest := []) hF (tX11_numbers hG hF hM h1 S_1) gX11_moves_X11_numbers rfl (hM 77 (by decide)) rfl rfl ⟨rfl, by decide +kernel, by decide +kernel, by decide +kernel⟩ rfl (gRm_ok (by decide) (by decide)) rfl (Nat.le_of_ble_eq_true rfl) dX11_moves_49 (fun S_2 => ?_)
  refine g_iconst (v := 1) dX11_moves_52 (by decide) ?_
  exact g_zret (by decide) dX11_moves_53 rfl
set_option maxRecDepth 100000 in
set_option maxHeartbeats 4000000 in
theorem tX11_moves_L31 {G : gGG} {F : State → Heap → Prop} (hG : gOK G) (hF : gSb G F) (hM : gPM G) {a1 : Nat} (h1 : gArM a1 = true) (x2 : Int32) (x3 : Int32) (S : gSt) : Gof G F RX11 cX11_moves 4 wsX11_moves (some .boolean) (gRm 2) 0 0 (gQ G (fun x => (some (.int x.1), x.2))) 31 [(0, .ref (gad G 77)), (1, .ref (gad G a1)), (2, .int x2), (3, .int x3)] [] S (fX11_moves_L31 a1 x2 x3 S) := by
  unfold fX11_moves_L31
  refine g_aload_n 1 dX11_moves_31 rfl ?_
  refine g_iload_n 2 dX11_moves_32 rfl ?_
  refine g_iload_n 2 dX11_moves_33 rfl ?_
  refine g_iload_n 3 dX11_moves_34 rfl ?_
  refine g_icmp_ne (tgt := 43) dX11_moves_35 (by decide) (fun h_1 => ?_) (fun h_1 => ?_)
  · refine g_aload_n 1 dX11_moves_43 rfl ?_
    refine g_iload_n 3 dX11_moves_44 rfl ?_
    refine g_iald hG (gAr_mM hM h1) (gAr_lM h1) dX11_moves_45 ?_
    refine g_env (env' := [(0, .ref (gad G 77)), (1, .ref (gad G a1))]) [0, 1] rfl ?_
    exact tX11_moves_L46 hG hF hM h1 x2 (gR S a1 (gN x3)) S
  · refine g_bipush (v := 50) dX11_moves_38 (by decide) ?_
    refine g_goto (tgt := 46) dX11_moves_40 (by decide) ?_
    refine g_env (env' := [(0, .ref (gad G 77)), (1, .ref (gad G a1))]) [0, 1] rfl ?_
    exact tX11_moves_L46 hG hF hM h1 x2 50 S
set_option maxRecDepth 100000 in
set_option maxHeartbeats 4000000 in
theorem tX11_moves_L {G : gGG} {F : State → Heap → Prop} (hG : gOK G) (hF : gSb G F) (hM : gPM G) {a1 : Nat} (h1 : gArM a1 = true) (a2 : Int32) (a3 : Int32) (S : gSt) : Gof G F RX11 cX11_moves 4 wsX11_moves (some .boolean) (gRm 2) 0 0 (gQ G (fun x => (some (.int x.1), x.2))) 0 [(0, .ref (gad G 77)), (1, .ref (gad G a1)), (2, .int a2), (3, .int a3)] [] S (fX11_moves a1 a2 a3 S) := by
  unfold fX11_moves
  refine g_iload_n 2 dX11_moves_0 rfl ?_
  refine g_iload_n 3 dX11_moves_1 rfl ?_
  refine g_icmp_ne (tgt := 20) dX11_moves_2 (by decide) (fun h_1 => ?_) (fun h_1 => ?_)
  · refine g_aload_n 1 dX11_moves_20 rfl ?_
    refine g_iload_n 2 dX11_moves_21 rfl ?_
    refine g_iald hG (gAr_mM hM h1) (gAr_lM h1) dX11_moves_22 ?_
    refine g_aload_n 1 dX11_moves_23 rfl ?_
    refine g_iload_n 3 dX11_moves_24 rfl ?_
    refine g_iald hG (gAr_mM hM h1) (gAr_lM h1) dX11_moves_25 ?_
    refine g_icmp_ne (tgt := 31) dX11_moves_26 (by decide) (fun h_2 => ?_) (fun h_2 => ?_)
    · exact tX11_moves_L31 hG hF hM h1 a2 a3 S
    · refine g_iconst (v := 0) dX11_moves_29 (by decide) ?_
      exact g_zret (by decide) dX11_moves_30 rfl
  · refine g_aload_n 0 dX11_moves_5 rfl ?_
    refine g_aload_n 1 dX11_moves_6 rfl ?_
    refine g_aload_n 1 dX11_moves_7 rfl ?_
    refine g_iload_n 2 dX11_moves_8 rfl ?_
    refine g_iald hG (gAr_mM hM h1) (gAr_lM h1) dX11_moves_9 ?_
    refine g_cVp (ci := 11) (C0 := RX11) (T := TX11) (N := 17) (n := 2) (As := [.ref (gad G a1), .int (gR S a1 (gN a2))]) (rest := []) hF (tX11_sizeOf hG hF hM h1 (gR S a1 (gN a2)) S) gX11_moves_X11_sizeOf rfl (hM 77 (by decide)) rfl rfl ⟨rfl, by decide +kernel, by decide +kernel, by decide +kernel⟩ rfl (gRm_ok (by decide) (by decide)) rfl (Nat.le_of_ble_eq_true rfl) dX11_moves_10 (fun v_1 => ?_)
    refine g_iconst (v := 1) dX11_moves_13 (by decide) ?_
    refine g_icmp_ne (tgt := 31) dX11_moves_14 (by decide) (fun h_3 => ?_) (fun h_3 => ?_)
    · exact tX11_moves_L31 hG hF hM h1 a2 a3 S
    · refine g_goto (tgt := 29) dX11_moves_17 (by decide) ?_
      refine g_iconst (v := 0) dX11_moves_29 (by decide) ?_
      exact g_zret (by decide) dX11_moves_30 rfl
set_option maxRecDepth 100000 in
set_option maxHeartbeats 4000000 in
theorem tX11_moves {G : gGG} {F : State → Heap → Prop} (hG : gOK G) (hF : gSb G F) (hM : gPM G) {a1 : Nat} (h1 : gArM a1 = true) (a2 : Int32) (a3 : Int32) (S : gSt) : gCt G F yX11_moves wsX11_moves 2 [.ref (gad G 77), .ref (gad G a1), .int a2, .int a3] S ((fX11_moves a1 a2 a3 S).map (fun x => (some (.int x.1), x.2))) := g_met (by decide +kernel) rfl (Nat.le_of_ble_eq_true rfl) (tX11_moves_L hG hF hM h1 a2 a3 S)
/-! X11_goes -/
theorem hiX11_goes_11 : ∀ w ∈ u_ws RX11 TX11 17, w ∈ wsX11_goes := fun _ hw => List.mem_cons_of_mem _ (List.mem_append_right _ (hw))
set_option maxRecDepth 100000 in
set_option maxHeartbeats 4000000 in
theorem tX11_goes_L {G : gGG} {F : State → Heap → Prop} (hG : gOK G) (hF : gSb G F) (hM : gPM G) (a1 : Int32) (a2 : Int32) (S : gSt) : Gof G F RX11 cX11_goes 3 wsX11_goes (some .int) (gRm 3) 0 0 (gQ G (fun x => (some (.int x.1), x.2))) 0 [(0, .ref (gad G 77)), (1, .int a1), (2, .int a2)] [] S (fX11_goes a1 a2 S) := by
  unfold fX11_goes
  refine g_aload_n 0 dX11_goes_0 rfl ?_
  refine g_iconst (v := 0) dX11_goes_1 (by decide) ?_
  refine g_putI hG (ci := 11) (k0 := 0) (C0 := RX11) (T := TX11) (N := 17) (hM 77 (by decide)) rfl rfl hiX11_goes_11 (by decide) (List.mem_of_getElem? (i := 1) rfl) tyX11 tyX11_ok nmX11 rfl rfl rfl rfl dX11_goes_2 ?_
  refine g_nS (fun S_1 => ?_)
  refine g_aload_n 0 dX11_goes_5 rfl ?_
  refine g_iload_n 1 dX11_goes_6 rfl ?_
  refine g_cVp (ci := 11) (C0 := RX11) (T := TX11) (N := 17) (n := 1) (As := [.int a1]) (rest := []) hF (tX11_isGuest hG hF hM a1 S_1) gX11_goes_X11_isGuest rfl (hM 77 (by decide)) rfl rfl ⟨rfl, by decide +kernel, by decide +kernel, by decide +kernel⟩ rfl (gRm_ok (by decide) (by decide)) rfl (Nat.le_of_ble_eq_true rfl) dX11_goes_7 (fun v_2 => ?_)
  refine g_if_eq (tgt := 21) dX11_goes_10 (by decide) (fun h_1 => ?_) (fun h_1 => ?_)
  · refine g_iconst (v := (-1)) dX11_goes_21 (by decide) ?_
    exact g_iret dX11_goes_22 rfl
  · refine g_aload_n 0 dX11_goes_13 rfl ?_
    refine g_iload_n 2 dX11_goes_14 rfl ?_
    refine g_cVp (ci := 11) (C0 := RX11) (T := TX11) (N := 17) (n := 1) (As := [.int a2]) (rest := []) hF (tX11_isGuest hG hF hM a2 S_1) gX11_goes_X11_isGuest rfl (hM 77 (by decide)) rfl rfl ⟨rfl, by decide +kernel, by decide +kernel, by decide +kernel⟩ rfl (gRm_ok (by decide) (by decide)) rfl (Nat.le_of_ble_eq_true rfl) dX11_goes_15 (fun v_3 => ?_)
    refine g_if_ne (tgt := 23) dX11_goes_18 (by decide) (fun h_2 => ?_) (fun h_2 => ?_)
    · refine g_aload_n 0 dX11_goes_23 rfl ?_
      refine g_aload_n 0 dX11_goes_24 rfl ?_
      refine g_getK (ci := 11) (k0 := 10) (C0 := RX11) (T := TX11) (N := 17) (hM 77 (by decide)) rfl rfl hiX11_goes_11 (by decide) (List.mem_of_getElem? (i := 2) rfl) rfl dX11_goes_25 ?_
      refine g_iload_n 1 dX11_goes_28 rfl ?_
      refine g_iload_n 2 dX11_goes_29 rfl ?_
      refine g_cVi (ci := 11) (C0 := RX11) (T := TX11) (N := 17) (n := 3) (As := [.ref (gad G 80), .int a1, .int a2]) (rest := []) hF (tX11_moves hG hF hM (rfl : gArM 80 = true) a1 a2 S_1) gX11_goes_X11_moves rfl (hM 77 (by decide)) rfl rfl ⟨rfl, by decide +kernel, by decide +kernel, by decide +kernel⟩ rfl (gRm_ok (by decide) (by decide)) rfl (Nat.le_of_ble_eq_true rfl) dX11_goes_30 (fun v_4 S_5 => ?_)
      refine g_if_eq (tgt := 45) dX11_goes_33 (by decide) (fun h_3 => ?_) (fun h_3 => ?_)
      · refine g_bipush (v := (-2)) dX11_goes_45 (by decide) ?_
        exact g_iret dX11_goes_47 rfl
      · refine g_aload_n 0 dX11_goes_36 rfl ?_
        refine g_getK (ci := 11) (k0 := 10) (C0 := RX11) (T := TX11) (N := 17) (hM 77 (by decide)) rfl rfl hiX11_goes_11 (by decide) (List.mem_of_getElem? (i := 2) rfl) rfl dX11_goes_37 ?_
        refine g_iload_n 1 dX11_goes_40 rfl ?_
        refine g_iald hG (hM 80 (by decide)) rfl dX11_goes_41 ?_
        refine g_goto (tgt := 47) dX11_goes_42 (by decide) ?_
        exact g_iret dX11_goes_47 rfl
    · refine g_iconst (v := (-1)) dX11_goes_21 (by decide) ?_
      exact g_iret dX11_goes_22 rfl
set_option maxRecDepth 100000 in
set_option maxHeartbeats 4000000 in
theorem tX11_goes {G : gGG} {F : State → Heap → Prop} (hG : gOK G) (hF : gSb G F) (hM : gPM G) (a1 : Int32) (a2 : Int32) (S : gSt) : gCt G F yX11_goes wsX11_goes 3 [.ref (gad G 77), .int a1, .int a2] S ((fX11_goes a1 a2 S).map (fun x => (some (.int x.1), x.2))) := g_met (by decide +kernel) rfl (Nat.le_of_ble_eq_true rfl) (tX11_goes_L hG hF hM a1 a2 S)
/-! X11_join -/
theorem hiX11_join_11 : ∀ w ∈ u_ws RX11 TX11 17, w ∈ wsX11_join := fun _ hw => List.mem_cons_of_mem _ (List.mem_append_right _ (hw))
set_option maxRecDepth 100000 in
set_option maxHeartbeats 4000000 in
theorem tX11_join_L46 {G : gGG} {F : State → Heap → Prop} (hG : gOK G) (hF : gSb G F) (hM : gPM G) : ∀ (n : Nat) (x1 : Int32) (x2 : Int32) (x4 : Int32) (S : gSt), Gof G F RX11 cX11_join 5 wsX11_join (some .int) (gRm 2) 0 0 (gQ G (fun x => (some (.int x.1), x.2))) 46 [(0, .ref (gad G 77)), (1, .int x1), (2, .int x2), (4, .int x4)] [] S (fX11_join_L46 n x1 x2 x4 S) := by
  intro n
  induction n with
  | zero => intro x1 x2 x4 S; exact g_none
  | succ n ih =>
    intro x1 x2 x4 S
    unfold fX11_join_L46
    refine g_iload 3 dX11_join_46 rfl ?_
    refine g_aload_n 0 dX11_join_48 rfl ?_
    refine g_cVp (ci := 11) (C0 := RX11) (T := TX11) (N := 17) (n := 0) (As := []) (rest := [.int x4]) hF (tX11_guests hG hF hM S) gX11_join_X11_guests rfl (hM 77 (by decide)) rfl rfl ⟨rfl, by decide +kernel, by decide +kernel, by decide +kernel⟩ rfl (gRm_ok (by decide) (by decide)) rfl (Nat.le_of_ble_eq_true rfl) dX11_join_49 (fun v_1 => ?_)
    refine g_icmp_ge (tgt := 90) dX11_join_52 (by decide) (fun h_1 => ?_) (fun h_1 => ?_)
    · refine g_aload_n 0 dX11_join_90 rfl ?_
      refine g_aload_n 0 dX11_join_91 rfl ?_
      refine g_getK (ci := 11) (k0 := 10) (C0 := RX11) (T := TX11) (N := 17) (hM 77 (by decide)) rfl rfl hiX11_join_11 (by decide) (List.mem_of_getElem? (i := 2) rfl) rfl dX11_join_92 ?_
      refine g_cVv (ci := 11) (C0 := RX11) (T := TX11) (N := 17) (n := 1) (As := [.ref (gad G 80)]) (rest := []) hF (tX11_numbers hG hF hM (rfl : gArM 80 = true) S) gX11_join_X11_numbers rfl (hM 77 (by decide)) rfl rfl ⟨rfl, by decide +kernel, by decide +kernel, by decide +kernel⟩ rfl (gRm_ok (by decide) (by decide)) rfl (Nat.le_of_ble_eq_true rfl) dX11_join_95 (fun S_2 => ?_)
      refine g_aload_n 0 dX11_join_98 rfl ?_
      refine g_aload_n 0 dX11_join_99 rfl ?_
      refine g_getK (ci := 11) (k0 := 10) (C0 := RX11) (T := TX11) (N := 17) (hM 77 (by decide)) rfl rfl hiX11_join_11 (by decide) (List.mem_of_getElem? (i := 2) rfl) rfl dX11_join_100 ?_
      refine g_cVp (ci := 11) (C0 := RX11) (T := TX11) (N := 17) (n := 1) (As := [.ref (gad G 80)]) (rest := []) hF (tX11_partiesOf hG hF hM (rfl : gArM 80 = true) S_2) gX11_join_X11_partiesOf rfl (hM 77 (by decide)) rfl rfl ⟨rfl, by decide +kernel, by decide +kernel, by decide +kernel⟩ rfl (gRm_ok (by decide) (by decide)) rfl (Nat.le_of_ble_eq_true rfl) dX11_join_103 (fun v_3 => ?_)
      exact g_iret dX11_join_106 rfl
    · refine g_aload_n 0 dX11_join_55 rfl ?_
      refine g_getK (ci := 11) (k0 := 10) (C0 := RX11) (T := TX11) (N := 17) (hM 77 (by decide)) rfl rfl hiX11_join_11 (by decide) (List.mem_of_getElem? (i := 2) rfl) rfl dX11_join_56 ?_
      refine g_iload 3 dX11_join_59 rfl ?_
      refine g_aload_n 0 dX11_join_61 rfl ?_
      refine g_getK (ci := 11) (k0 := 10) (C0 := RX11) (T := TX11) (N := 17) (hM 77 (by decide)) rfl rfl hiX11_join_11 (by decide) (List.mem_of_getElem? (i := 2) rfl) rfl dX11_join_62 ?_
      refine g_iload 3 dX11_join_65 rfl ?_
      refine g_iald hG (hM 80 (by decide)) rfl dX11_join_67 ?_
      refine g_iload_n 2 dX11_join_68 rfl ?_
      refine g_icmp_ne (tgt := 76) dX11_join_69 (by decide) (fun h_2 => ?_) (fun h_2 => ?_)
      · refine g_aload_n 0 dX11_join_76 rfl ?_
        refine g_getK (ci := 11) (k0 := 10) (C0 := RX11) (T := TX11) (N := 17) (hM 77 (by decide)) rfl rfl hiX11_join_11 (by decide) (List.mem_of_getElem? (i := 2) rfl) rfl dX11_join_77 ?_
        refine g_iload 3 dX11_join_80 rfl ?_
        refine g_iald hG (hM 80 (by decide)) rfl dX11_join_82 ?_
        refine g_iast hG (hM 80 (by decide)) rfl dX11_join_83 ?_
        refine g_nS (fun S_4 => ?_)
        refine g_iinc 3 (v := (x4 + 1)) (env' := [(4, .int (x4 + 1)), (0, .ref (gad G 77)), (1, .int x1), (2, .int x2)]) dX11_join_84 rfl rfl (by decide) rfl ?_
        refine g_goto (tgt := 46) dX11_join_87 (by decide) ?_
        refine g_env (env' := [(0, .ref (gad G 77)), (1, .int x1), (2, .int x2), (4, .int (x4 + 1))]) [1, 2, 3, 0] rfl ?_
        exact ih x1 x2 (x4 + 1) S_4
      · refine g_iload_n 1 dX11_join_72 rfl ?_
        refine g_goto (tgt := 83) dX11_join_73 (by decide) ?_
        refine g_iast hG (hM 80 (by decide)) rfl dX11_join_83 ?_
        refine g_nS (fun S_5 => ?_)
        refine g_iinc 3 (v := (x4 + 1)) (env' := [(4, .int (x4 + 1)), (0, .ref (gad G 77)), (1, .int x1), (2, .int x2)]) dX11_join_84 rfl rfl (by decide) rfl ?_
        refine g_goto (tgt := 46) dX11_join_87 (by decide) ?_
        refine g_env (env' := [(0, .ref (gad G 77)), (1, .int x1), (2, .int x2), (4, .int (x4 + 1))]) [1, 2, 3, 0] rfl ?_
        exact ih x1 x2 (x4 + 1) S_5
set_option maxRecDepth 100000 in
set_option maxHeartbeats 4000000 in
theorem tX11_join_L {G : gGG} {F : State → Heap → Prop} (hG : gOK G) (hF : gSb G F) (hM : gPM G) (a1 : Int32) (a2 : Int32) (S : gSt) : Gof G F RX11 cX11_join 5 wsX11_join (some .int) (gRm 2) 0 0 (gQ G (fun x => (some (.int x.1), x.2))) 0 [(0, .ref (gad G 77)), (1, .int a1), (2, .int a2)] [] S (fX11_join a1 a2 S) := by
  unfold fX11_join
  refine g_aload_n 0 dX11_join_0 rfl ?_
  refine g_iconst (v := 0) dX11_join_1 (by decide) ?_
  refine g_putI hG (ci := 11) (k0 := 0) (C0 := RX11) (T := TX11) (N := 17) (hM 77 (by decide)) rfl rfl hiX11_join_11 (by decide) (List.mem_of_getElem? (i := 1) rfl) tyX11 tyX11_ok nmX11 rfl rfl rfl rfl dX11_join_2 ?_
  refine g_nS (fun S_1 => ?_)
  refine g_aload_n 0 dX11_join_5 rfl ?_
  refine g_aload_n 0 dX11_join_6 rfl ?_
  refine g_getK (ci := 11) (k0 := 10) (C0 := RX11) (T := TX11) (N := 17) (hM 77 (by decide)) rfl rfl hiX11_join_11 (by decide) (List.mem_of_getElem? (i := 2) rfl) rfl dX11_join_7 ?_
  refine g_cVp (ci := 11) (C0 := RX11) (T := TX11) (N := 17) (n := 1) (As := [.ref (gad G 80)]) (rest := []) hF (tX11_partiesOf hG hF hM (rfl : gArM 80 = true) S_1) gX11_join_X11_partiesOf rfl (hM 77 (by decide)) rfl rfl ⟨rfl, by decide +kernel, by decide +kernel, by decide +kernel⟩ rfl (gRm_ok (by decide) (by decide)) rfl (Nat.le_of_ble_eq_true rfl) dX11_join_10 (fun v_2 => ?_)
  refine g_istore_n (i := 3) (env' := [(3, .int v_2), (0, .ref (gad G 77)), (1, .int a1), (2, .int a2)]) dX11_join_13 rfl (by decide) rfl ?_
  refine g_iload_n 2 dX11_join_14 rfl ?_
  refine g_iconst (v := 0) dX11_join_15 (by decide) ?_
  refine g_iload_n 0 dX11_join_16 rfl ?_
  refine g_iconst (v := 1) dX11_join_17 (by decide) ?_
  refine g_isub dX11_join_18 ?_
  refine g_cSp (n := 3) (As := [.int a1, .int 0, .int (v_2 - 1)]) (rest := []) hF (tX11_in hG hF hM a1 0 (v_2 - 1) S_1) gX11_join_X11_in rfl ⟨by decide +kernel, by decide +kernel, by decide +kernel⟩ rfl (gRm_ok (by decide) (by decide)) rfl (Nat.le_of_ble_eq_true rfl) dX11_join_19 (fun v_3 => ?_)
  refine g_if_eq (tgt := 41) dX11_join_22 (by decide) (fun h_1 => ?_) (fun h_1 => ?_)
  · refine g_iconst (v := (-1)) dX11_join_41 (by decide) ?_
    exact g_iret dX11_join_42 rfl
  · refine g_iload_n 3 dX11_join_25 rfl ?_
    refine g_iconst (v := 0) dX11_join_26 (by decide) ?_
    refine g_iload_n 0 dX11_join_27 rfl ?_
    refine g_iconst (v := 1) dX11_join_28 (by decide) ?_
    refine g_isub dX11_join_29 ?_
    refine g_cSp (n := 3) (As := [.int a2, .int 0, .int (v_2 - 1)]) (rest := []) hF (tX11_in hG hF hM a2 0 (v_2 - 1) S_1) gX11_join_X11_in rfl ⟨by decide +kernel, by decide +kernel, by decide +kernel⟩ rfl (gRm_ok (by decide) (by decide)) rfl (Nat.le_of_ble_eq_true rfl) dX11_join_30 (fun v_4 => ?_)
    refine g_if_eq (tgt := 41) dX11_join_33 (by decide) (fun h_2 => ?_) (fun h_2 => ?_)
    · refine g_iconst (v := (-1)) dX11_join_41 (by decide) ?_
      exact g_iret dX11_join_42 rfl
    · refine g_iload_n 2 dX11_join_36 rfl ?_
      refine g_iload_n 3 dX11_join_37 rfl ?_
      refine g_icmp_ne (tgt := 43) dX11_join_38 (by decide) (fun h_3 => ?_) (fun h_3 => ?_)
      · refine g_iconst (v := 0) dX11_join_43 (by decide) ?_
        refine g_istore (i := 4) (env' := [(4, .int 0), (3, .int v_2), (0, .ref (gad G 77)), (1, .int a1), (2, .int a2)]) dX11_join_44 (by decide) rfl ?_
        refine g_env (env' := [(0, .ref (gad G 77)), (1, .int a1), (2, .int a2), (4, .int 0)]) [2, 3, 4, 0] rfl ?_
        exact tX11_join_L46 hG hF hM gFU a1 a2 0 S_1
      · refine g_iconst (v := (-1)) dX11_join_41 (by decide) ?_
        exact g_iret dX11_join_42 rfl
set_option maxRecDepth 100000 in
set_option maxHeartbeats 4000000 in
theorem tX11_join {G : gGG} {F : State → Heap → Prop} (hG : gOK G) (hF : gSb G F) (hM : gPM G) (a1 : Int32) (a2 : Int32) (S : gSt) : gCt G F yX11_join wsX11_join 2 [.ref (gad G 77), .int a1, .int a2] S ((fX11_join a1 a2 S).map (fun x => (some (.int x.1), x.2))) := g_met (by decide +kernel) rfl (Nat.le_of_ble_eq_true rfl) (tX11_join_L hG hF hM a1 a2 S)
/-! X11_part -/
theorem hiX11_part_11 : ∀ w ∈ u_ws RX11 TX11 17, w ∈ wsX11_part := fun _ hw => List.mem_cons_of_mem _ (List.mem_append_right _ (hw))
set_option maxRecDepth 100000 in
set_option maxHeartbeats 4000000 in
theorem tX11_part_L90 {G : gGG} {F : State → Heap → Prop} (hG : gOK G) (hF : gSb G F) (hM : gPM G) : ∀ (n : Nat) (x2 : Int32) (x4 : Int32) (S : gSt), Gof G F RX11 cX11_part 5 wsX11_part (some .int) (gRm 2) 0 0 (gQ G (fun x => (some (.int x.1), x.2))) 90 [(0, .ref (gad G 77)), (2, .int x2), (4, .int x4)] [] S (fX11_part_L90 n x2 x4 S) := by
  intro n
  induction n with
  | zero => intro x2 x4 S; exact g_none
  | succ n ih =>
    intro x2 x4 S
    unfold fX11_part_L90
    refine g_iload 2 dX11_part_90 rfl ?_
    refine g_aload_n 0 dX11_part_92 rfl ?_
    refine g_cVp (ci := 11) (C0 := RX11) (T := TX11) (N := 17) (n := 0) (As := []) (rest := [.int x4]) hF (tX11_guests hG hF hM S) gX11_part_X11_guests rfl (hM 77 (by decide)) rfl rfl ⟨rfl, by decide +kernel, by decide +kernel, by decide +kernel⟩ rfl (gRm_ok (by decide) (by decide)) rfl (Nat.le_of_ble_eq_true rfl) dX11_part_93 (fun v_1 => ?_)
    refine g_icmp_ge (tgt := 134) dX11_part_96 (by decide) (fun h_1 => ?_) (fun h_1 => ?_)
    · refine g_aload_n 0 dX11_part_134 rfl ?_
      refine g_aload_n 0 dX11_part_135 rfl ?_
      refine g_getK (ci := 11) (k0 := 10) (C0 := RX11) (T := TX11) (N := 17) (hM 77 (by decide)) rfl rfl hiX11_part_11 (by decide) (List.mem_of_getElem? (i := 2) rfl) rfl dX11_part_136 ?_
      refine g_cVv (ci := 11) (C0 := RX11) (T := TX11) (N := 17) (n := 1) (As := [.ref (gad G 80)]) (rest := []) hF (tX11_numbers hG hF hM (rfl : gArM 80 = true) S) gX11_part_X11_numbers rfl (hM 77 (by decide)) rfl rfl ⟨rfl, by decide +kernel, by decide +kernel, by decide +kernel⟩ rfl (gRm_ok (by decide) (by decide)) rfl (Nat.le_of_ble_eq_true rfl) dX11_part_139 (fun S_2 => ?_)
      refine g_aload_n 0 dX11_part_142 rfl ?_
      refine g_aload_n 0 dX11_part_143 rfl ?_
      refine g_getK (ci := 11) (k0 := 10) (C0 := RX11) (T := TX11) (N := 17) (hM 77 (by decide)) rfl rfl hiX11_part_11 (by decide) (List.mem_of_getElem? (i := 2) rfl) rfl dX11_part_144 ?_
      refine g_cVp (ci := 11) (C0 := RX11) (T := TX11) (N := 17) (n := 1) (As := [.ref (gad G 80)]) (rest := []) hF (tX11_partiesOf hG hF hM (rfl : gArM 80 = true) S_2) gX11_part_X11_partiesOf rfl (hM 77 (by decide)) rfl rfl ⟨rfl, by decide +kernel, by decide +kernel, by decide +kernel⟩ rfl (gRm_ok (by decide) (by decide)) rfl (Nat.le_of_ble_eq_true rfl) dX11_part_147 (fun v_3 => ?_)
      exact g_iret dX11_part_150 rfl
    · refine g_aload_n 0 dX11_part_99 rfl ?_
      refine g_getK (ci := 11) (k0 := 10) (C0 := RX11) (T := TX11) (N := 17) (hM 77 (by decide)) rfl rfl hiX11_part_11 (by decide) (List.mem_of_getElem? (i := 2) rfl) rfl dX11_part_100 ?_
      refine g_iload 2 dX11_part_103 rfl ?_
      refine g_iload_n 1 dX11_part_105 rfl ?_
      refine g_iload 2 dX11_part_106 rfl ?_
      refine g_ishr dX11_part_108 ?_
      refine g_iconst (v := 1) dX11_part_109 (by decide) ?_
      refine g_iand dX11_part_110 ?_
      refine g_iconst (v := 1) dX11_part_111 (by decide) ?_
      refine g_icmp_ne (tgt := 120) dX11_part_112 (by decide) (fun h_2 => ?_) (fun h_2 => ?_)
      · refine g_aload_n 0 dX11_part_120 rfl ?_
        refine g_getK (ci := 11) (k0 := 10) (C0 := RX11) (T := TX11) (N := 17) (hM 77 (by decide)) rfl rfl hiX11_part_11 (by decide) (List.mem_of_getElem? (i := 2) rfl) rfl dX11_part_121 ?_
        refine g_iload 2 dX11_part_124 rfl ?_
        refine g_iald hG (hM 80 (by decide)) rfl dX11_part_126 ?_
        refine g_iast hG (hM 80 (by decide)) rfl dX11_part_127 ?_
        refine g_nS (fun S_4 => ?_)
        refine g_iinc 2 (v := (x4 + 1)) (env' := [(4, .int (x4 + 1)), (0, .ref (gad G 77)), (2, .int x2)]) dX11_part_128 rfl rfl (by decide) rfl ?_
        refine g_goto (tgt := 90) dX11_part_131 (by decide) ?_
        refine g_env (env' := [(0, .ref (gad G 77)), (2, .int x2), (4, .int (x4 + 1))]) [1, 2, 0] rfl ?_
        exact ih x2 (x4 + 1) S_4
      · refine g_bipush (v := 50) dX11_part_115 (by decide) ?_
        refine g_goto (tgt := 127) dX11_part_117 (by decide) ?_
        refine g_iast hG (hM 80 (by decide)) rfl dX11_part_127 ?_
        refine g_nS (fun S_5 => ?_)
        refine g_iinc 2 (v := (x4 + 1)) (env' := [(4, .int (x4 + 1)), (0, .ref (gad G 77)), (2, .int x2)]) dX11_part_128 rfl rfl (by decide) rfl ?_
        refine g_goto (tgt := 90) dX11_part_131 (by decide) ?_
        refine g_env (env' := [(0, .ref (gad G 77)), (2, .int x2), (4, .int (x4 + 1))]) [1, 2, 0] rfl ?_
        exact ih x2 (x4 + 1) S_5
set_option maxRecDepth 100000 in
set_option maxHeartbeats 4000000 in
theorem tX11_part_L30 {G : gGG} {F : State → Heap → Prop} (hG : gOK G) (hF : gSb G F) (hM : gPM G) : ∀ (n : Nat) (x1 : Int32) (x2 : Int32) (x3 : Int32) (x4 : Int32) (S : gSt), Gof G F RX11 cX11_part 5 wsX11_part (some .int) (gRm 2) 0 0 (gQ G (fun x => (some (.int x.1), x.2))) 30 [(0, .ref (gad G 77)), (1, .int x1), (2, .int x2), (3, .int x3), (4, .int x4)] [] S (fX11_part_L30 n x1 x2 x3 x4 S) := by
  intro n
  induction n with
  | zero => intro x1 x2 x3 x4 S; exact g_none
  | succ n ih =>
    intro x1 x2 x3 x4 S
    unfold fX11_part_L30
    refine g_iload 4 dX11_part_30 rfl ?_
    refine g_aload_n 0 dX11_part_32 rfl ?_
    refine g_cVp (ci := 11) (C0 := RX11) (T := TX11) (N := 17) (n := 0) (As := []) (rest := [.int x4]) hF (tX11_guests hG hF hM S) gX11_part_X11_guests rfl (hM 77 (by decide)) rfl rfl ⟨rfl, by decide +kernel, by decide +kernel, by decide +kernel⟩ rfl (gRm_ok (by decide) (by decide)) rfl (Nat.le_of_ble_eq_true rfl) dX11_part_33 (fun v_1 => ?_)
    refine g_icmp_ge (tgt := 67) dX11_part_36 (by decide) (fun h_1 => ?_) (fun h_1 => ?_)
    · refine g_iload_n 2 dX11_part_67 rfl ?_
      refine g_if_eq (tgt := 84) dX11_part_68 (by decide) (fun h_2 => ?_) (fun h_2 => ?_)
      · refine g_bipush (v := (-2)) dX11_part_84 (by decide) ?_
        exact g_iret dX11_part_86 rfl
      · refine g_iload_n 2 dX11_part_71 rfl ?_
        refine g_iload_n 3 dX11_part_72 rfl ?_
        refine g_icmp_eq (tgt := 84) dX11_part_73 (by decide) (fun h_3 => ?_) (fun h_3 => ?_)
        · refine g_bipush (v := (-2)) dX11_part_84 (by decide) ?_
          exact g_iret dX11_part_86 rfl
        · refine g_iload_n 2 dX11_part_76 rfl ?_
          refine g_iload_n 3 dX11_part_77 rfl ?_
          refine g_iconst (v := (-1)) dX11_part_78 (by decide) ?_
          refine g_ixor dX11_part_79 ?_
          refine g_iand dX11_part_80 ?_
          refine g_if_eq (tgt := 87) dX11_part_81 (by decide) (fun h_4 => ?_) (fun h_4 => ?_)
          · refine g_iconst (v := 0) dX11_part_87 (by decide) ?_
            refine g_istore (i := 4) (env' := [(4, .int 0), (0, .ref (gad G 77)), (1, .int x1), (2, .int x2), (3, .int x3)]) dX11_part_88 (by decide) rfl ?_
            refine g_env (env' := [(0, .ref (gad G 77)), (2, .int x2), (4, .int 0)]) [1, 3, 0] rfl ?_
            exact tX11_part_L90 hG hF hM gFU x2 0 S
          · refine g_bipush (v := (-2)) dX11_part_84 (by decide) ?_
            exact g_iret dX11_part_86 rfl
    · refine g_iload_n 3 dX11_part_39 rfl ?_
      refine g_aload_n 0 dX11_part_40 rfl ?_
      refine g_getK (ci := 11) (k0 := 10) (C0 := RX11) (T := TX11) (N := 17) (hM 77 (by decide)) rfl rfl hiX11_part_11 (by decide) (List.mem_of_getElem? (i := 2) rfl) rfl dX11_part_41 ?_
      refine g_iload 4 dX11_part_44 rfl ?_
      refine g_iald hG (hM 80 (by decide)) rfl dX11_part_46 ?_
      refine g_iload_n 1 dX11_part_47 rfl ?_
      refine g_icmp_ne (tgt := 58) dX11_part_48 (by decide) (fun h_5 => ?_) (fun h_5 => ?_)
      · refine g_iconst (v := 0) dX11_part_58 (by decide) ?_
        refine g_ior dX11_part_59 ?_
        refine g_nI (fun v_2 => ?_)
        refine g_istore_n (i := 3) (env' := [(3, .int v_2), (0, .ref (gad G 77)), (1, .int x1), (2, .int x2), (4, .int x4)]) dX11_part_60 rfl (by decide) rfl ?_
        refine g_iinc 4 (v := (x4 + 1)) (env' := [(4, .int (x4 + 1)), (3, .int v_2), (0, .ref (gad G 77)), (1, .int x1), (2, .int x2)]) dX11_part_61 rfl rfl (by decide) rfl ?_
        refine g_goto (tgt := 30) dX11_part_64 (by decide) ?_
        refine g_env (env' := [(0, .ref (gad G 77)), (1, .int x1), (2, .int x2), (3, .int v_2), (4, .int (x4 + 1))]) [2, 3, 4, 1, 0] rfl ?_
        exact ih x1 x2 v_2 (x4 + 1) S
      · refine g_iconst (v := 1) dX11_part_51 (by decide) ?_
        refine g_iload 4 dX11_part_52 rfl ?_
        refine g_ishl dX11_part_54 ?_
        refine g_goto (tgt := 59) dX11_part_55 (by decide) ?_
        refine g_ior dX11_part_59 ?_
        refine g_nI (fun v_3 => ?_)
        refine g_istore_n (i := 3) (env' := [(3, .int v_3), (0, .ref (gad G 77)), (1, .int x1), (2, .int x2), (4, .int x4)]) dX11_part_60 rfl (by decide) rfl ?_
        refine g_iinc 4 (v := (x4 + 1)) (env' := [(4, .int (x4 + 1)), (3, .int v_3), (0, .ref (gad G 77)), (1, .int x1), (2, .int x2)]) dX11_part_61 rfl rfl (by decide) rfl ?_
        refine g_goto (tgt := 30) dX11_part_64 (by decide) ?_
        refine g_env (env' := [(0, .ref (gad G 77)), (1, .int x1), (2, .int x2), (3, .int v_3), (4, .int (x4 + 1))]) [2, 3, 4, 1, 0] rfl ?_
        exact ih x1 x2 v_3 (x4 + 1) S
set_option maxRecDepth 100000 in
set_option maxHeartbeats 4000000 in
theorem tX11_part_L {G : gGG} {F : State → Heap → Prop} (hG : gOK G) (hF : gSb G F) (hM : gPM G) (a1 : Int32) (a2 : Int32) (S : gSt) : Gof G F RX11 cX11_part 5 wsX11_part (some .int) (gRm 2) 0 0 (gQ G (fun x => (some (.int x.1), x.2))) 0 [(0, .ref (gad G 77)), (1, .int a1), (2, .int a2)] [] S (fX11_part a1 a2 S) := by
  unfold fX11_part
  refine g_aload_n 0 dX11_part_0 rfl ?_
  refine g_iconst (v := 0) dX11_part_1 (by decide) ?_
  refine g_putI hG (ci := 11) (k0 := 0) (C0 := RX11) (T := TX11) (N := 17) (hM 77 (by decide)) rfl rfl hiX11_part_11 (by decide) (List.mem_of_getElem? (i := 1) rfl) tyX11 tyX11_ok nmX11 rfl rfl rfl rfl dX11_part_2 ?_
  refine g_nS (fun S_1 => ?_)
  refine g_iload_n 1 dX11_part_5 rfl ?_
  refine g_iconst (v := 0) dX11_part_6 (by decide) ?_
  refine g_aload_n 0 dX11_part_7 rfl ?_
  refine g_aload_n 0 dX11_part_8 rfl ?_
  refine g_getK (ci := 11) (k0 := 10) (C0 := RX11) (T := TX11) (N := 17) (hM 77 (by decide)) rfl rfl hiX11_part_11 (by decide) (List.mem_of_getElem? (i := 2) rfl) rfl dX11_part_9 ?_
  refine g_cVp (ci := 11) (C0 := RX11) (T := TX11) (N := 17) (n := 1) (As := [.ref (gad G 80)]) (rest := [.int 0, .int a1]) hF (tX11_partiesOf hG hF hM (rfl : gArM 80 = true) S_1) gX11_part_X11_partiesOf rfl (hM 77 (by decide)) rfl rfl ⟨rfl, by decide +kernel, by decide +kernel, by decide +kernel⟩ rfl (gRm_ok (by decide) (by decide)) rfl (Nat.le_of_ble_eq_true rfl) dX11_part_12 (fun v_2 => ?_)
  refine g_iconst (v := 1) dX11_part_15 (by decide) ?_
  refine g_isub dX11_part_16 ?_
  refine g_cSp (n := 3) (As := [.int a1, .int 0, .int (v_2 - 1)]) (rest := []) hF (tX11_in hG hF hM a1 0 (v_2 - 1) S_1) gX11_part_X11_in rfl ⟨by decide +kernel, by decide +kernel, by decide +kernel⟩ rfl (gRm_ok (by decide) (by decide)) rfl (Nat.le_of_ble_eq_true rfl) dX11_part_17 (fun v_3 => ?_)
  refine g_if_ne (tgt := 25) dX11_part_20 (by decide) (fun h_1 => ?_) (fun h_1 => ?_)
  · refine g_iconst (v := 0) dX11_part_25 (by decide) ?_
    refine g_istore_n (i := 3) (env' := [(3, .int 0), (0, .ref (gad G 77)), (1, .int a1), (2, .int a2)]) dX11_part_26 rfl (by decide) rfl ?_
    refine g_iconst (v := 0) dX11_part_27 (by decide) ?_
    refine g_istore (i := 4) (env' := [(4, .int 0), (3, .int 0), (0, .ref (gad G 77)), (1, .int a1), (2, .int a2)]) dX11_part_28 (by decide) rfl ?_
    refine g_env (env' := [(0, .ref (gad G 77)), (1, .int a1), (2, .int a2), (3, .int 0), (4, .int 0)]) [2, 3, 4, 1, 0] rfl ?_
    exact tX11_part_L30 hG hF hM gFU a1 a2 0 0 S_1
  · refine g_iconst (v := (-1)) dX11_part_23 (by decide) ?_
    exact g_iret dX11_part_24 rfl
set_option maxRecDepth 100000 in
set_option maxHeartbeats 4000000 in
theorem tX11_part {G : gGG} {F : State → Heap → Prop} (hG : gOK G) (hF : gSb G F) (hM : gPM G) (a1 : Int32) (a2 : Int32) (S : gSt) : gCt G F yX11_part wsX11_part 2 [.ref (gad G 77), .int a1, .int a2] S ((fX11_part a1 a2 S).map (fun x => (some (.int x.1), x.2))) := g_met (by decide +kernel) rfl (Nat.le_of_ble_eq_true rfl) (tX11_part_L hG hF hM a1 a2 S)
/-! X11_alone -/
theorem hiX11_alone_11 : ∀ w ∈ u_ws RX11 TX11 17, w ∈ wsX11_alone := fun _ hw => List.mem_cons_of_mem _ (List.mem_append_right _ (hw))
set_option maxRecDepth 100000 in
set_option maxHeartbeats 4000000 in
theorem tX11_alone_L4 {G : gGG} {F : State → Heap → Prop} (hG : gOK G) (hF : gSb G F) (hM : gPM G) (S : gSt) : ∀ (n : Nat) (x1 : Int32) (x2 : Int32), Gof G F RX11 cX11_alone 3 wsX11_alone (some .int) (gRm 2) 0 0 (gQ G (fun x => (some (.int x), S))) 4 [(0, .ref (gad G 77)), (1, .int x1), (2, .int x2)] [] S (fX11_alone_L4 S n x1 x2) := by
  intro n
  induction n with
  | zero => intro x1 x2; exact g_none
  | succ n ih =>
    intro x1 x2
    unfold fX11_alone_L4
    refine g_iload_n 2 dX11_alone_4 rfl ?_
    refine g_aload_n 0 dX11_alone_5 rfl ?_
    refine g_cVp (ci := 11) (C0 := RX11) (T := TX11) (N := 17) (n := 0) (As := []) (rest := [.int x2]) hF (tX11_guests hG hF hM S) gX11_alone_X11_guests rfl (hM 77 (by decide)) rfl rfl ⟨rfl, by decide +kernel, by decide +kernel, by decide +kernel⟩ rfl (gRm_ok (by decide) (by decide)) rfl (Nat.le_of_ble_eq_true rfl) dX11_alone_6 (fun v_1 => ?_)
    refine g_icmp_ge (tgt := 44) dX11_alone_9 (by decide) (fun h_1 => ?_) (fun h_1 => ?_)
    · refine g_iload_n 1 dX11_alone_44 rfl ?_
      exact g_iret dX11_alone_45 rfl
    · refine g_iload_n 1 dX11_alone_12 rfl ?_
      refine g_aload_n 0 dX11_alone_13 rfl ?_
      refine g_aload_n 0 dX11_alone_14 rfl ?_
      refine g_getK (ci := 11) (k0 := 10) (C0 := RX11) (T := TX11) (N := 17) (hM 77 (by decide)) rfl rfl hiX11_alone_11 (by decide) (List.mem_of_getElem? (i := 1) rfl) rfl dX11_alone_15 ?_
      refine g_aload_n 0 dX11_alone_18 rfl ?_
      refine g_getK (ci := 11) (k0 := 10) (C0 := RX11) (T := TX11) (N := 17) (hM 77 (by decide)) rfl rfl hiX11_alone_11 (by decide) (List.mem_of_getElem? (i := 1) rfl) rfl dX11_alone_19 ?_
      refine g_iload_n 2 dX11_alone_22 rfl ?_
      refine g_iald hG (hM 80 (by decide)) rfl dX11_alone_23 ?_
      refine g_cVp (ci := 11) (C0 := RX11) (T := TX11) (N := 17) (n := 2) (As := [.ref (gad G 80), .int (gR S 80 (gN x2))]) (rest := [.int x1]) hF (tX11_sizeOf hG hF hM (rfl : gArM 80 = true) (gR S 80 (gN x2)) S) gX11_alone_X11_sizeOf rfl (hM 77 (by decide)) rfl rfl ⟨rfl, by decide +kernel, by decide +kernel, by decide +kernel⟩ rfl (gRm_ok (by decide) (by decide)) rfl (Nat.le_of_ble_eq_true rfl) dX11_alone_24 (fun v_2 => ?_)
      refine g_iconst (v := 1) dX11_alone_27 (by decide) ?_
      refine g_icmp_ne (tgt := 35) dX11_alone_28 (by decide) (fun h_2 => ?_) (fun h_2 => ?_)
      · refine g_iconst (v := 0) dX11_alone_35 (by decide) ?_
        refine g_iadd dX11_alone_36 ?_
        refine g_nI (fun v_3 => ?_)
        refine g_istore_n (i := 1) (env' := [(1, .int v_3), (0, .ref (gad G 77)), (2, .int x2)]) dX11_alone_37 rfl (by decide) rfl ?_
        refine g_iinc 2 (v := (x2 + 1)) (env' := [(2, .int (x2 + 1)), (1, .int v_3), (0, .ref (gad G 77))]) dX11_alone_38 rfl rfl (by decide) rfl ?_
        refine g_goto (tgt := 4) dX11_alone_41 (by decide) ?_
        refine g_env (env' := [(0, .ref (gad G 77)), (1, .int v_3), (2, .int (x2 + 1))]) [2, 1, 0] rfl ?_
        exact ih v_3 (x2 + 1)
      · refine g_iconst (v := 1) dX11_alone_31 (by decide) ?_
        refine g_goto (tgt := 36) dX11_alone_32 (by decide) ?_
        refine g_iadd dX11_alone_36 ?_
        refine g_nI (fun v_4 => ?_)
        refine g_istore_n (i := 1) (env' := [(1, .int v_4), (0, .ref (gad G 77)), (2, .int x2)]) dX11_alone_37 rfl (by decide) rfl ?_
        refine g_iinc 2 (v := (x2 + 1)) (env' := [(2, .int (x2 + 1)), (1, .int v_4), (0, .ref (gad G 77))]) dX11_alone_38 rfl rfl (by decide) rfl ?_
        refine g_goto (tgt := 4) dX11_alone_41 (by decide) ?_
        refine g_env (env' := [(0, .ref (gad G 77)), (1, .int v_4), (2, .int (x2 + 1))]) [2, 1, 0] rfl ?_
        exact ih v_4 (x2 + 1)
set_option maxRecDepth 100000 in
set_option maxHeartbeats 4000000 in
theorem tX11_alone_L {G : gGG} {F : State → Heap → Prop} (hG : gOK G) (hF : gSb G F) (hM : gPM G) (S : gSt) : Gof G F RX11 cX11_alone 3 wsX11_alone (some .int) (gRm 2) 0 0 (gQ G (fun x => (some (.int x), S))) 0 [(0, .ref (gad G 77))] [] S (fX11_alone S) := by
  unfold fX11_alone
  refine g_iconst (v := 0) dX11_alone_0 (by decide) ?_
  refine g_istore_n (i := 1) (env' := [(1, .int 0), (0, .ref (gad G 77))]) dX11_alone_1 rfl (by decide) rfl ?_
  refine g_iconst (v := 0) dX11_alone_2 (by decide) ?_
  refine g_istore_n (i := 2) (env' := [(2, .int 0), (1, .int 0), (0, .ref (gad G 77))]) dX11_alone_3 rfl (by decide) rfl ?_
  refine g_env (env' := [(0, .ref (gad G 77)), (1, .int 0), (2, .int 0)]) [2, 1, 0] rfl ?_
  exact tX11_alone_L4 hG hF hM S gFU 0 0
set_option maxRecDepth 100000 in
set_option maxHeartbeats 4000000 in
theorem tX11_alone {G : gGG} {F : State → Heap → Prop} (hG : gOK G) (hF : gSb G F) (hM : gPM G) (S : gSt) : gCt G F yX11_alone wsX11_alone 2 [.ref (gad G 77)] S ((fX11_alone S).map (fun x => (some (.int x), S))) := g_met (by decide +kernel) rfl (Nat.le_of_ble_eq_true rfl) (tX11_alone_L hG hF hM S)
/-! X11_now -/
theorem hiX11_now_11 : ∀ w ∈ u_ws RX11 TX11 17, w ∈ wsX11_now := fun _ hw => List.mem_cons_of_mem _ (List.mem_append_right _ (hw))
set_option maxRecDepth 100000 in
set_option maxHeartbeats 4000000 in
theorem tX11_now_L74 {G : gGG} {F : State → Heap → Prop} (hG : gOK G) (hF : gSb G F) (hM : gPM G) (s0 : Int32) (S : gSt) : Gof G F RX11 cX11_now 2 wsX11_now (some .int) (gRm 3) 0 0 (gQ G (fun x => (some (.int x.1), x.2))) 74 [] [.int s0] S (fX11_now_L74 s0 S) := by
  unfold fX11_now_L74
  exact g_iret dX11_now_74 rfl
set_option maxRecDepth 100000 in
set_option maxHeartbeats 4000000 in
theorem tX11_now_L {G : gGG} {F : State → Heap → Prop} (hG : gOK G) (hF : gSb G F) (hM : gPM G) (a1 : Int32) (S : gSt) : Gof G F RX11 cX11_now 2 wsX11_now (some .int) (gRm 3) 0 0 (gQ G (fun x => (some (.int x.1), x.2))) 0 [(0, .ref (gad G 77)), (1, .int a1)] [] S (fX11_now a1 S) := by
  unfold fX11_now
  refine g_aload_n 0 dX11_now_0 rfl ?_
  refine g_iconst (v := 0) dX11_now_1 (by decide) ?_
  refine g_putI hG (ci := 11) (k0 := 0) (C0 := RX11) (T := TX11) (N := 17) (hM 77 (by decide)) rfl rfl hiX11_now_11 (by decide) (List.mem_of_getElem? (i := 1) rfl) tyX11 tyX11_ok nmX11 rfl rfl rfl rfl dX11_now_2 ?_
  refine g_nS (fun S_1 => ?_)
  refine g_iload_n 1 dX11_now_5 rfl ?_
  refine g_if_ne (tgt := 20) dX11_now_6 (by decide) (fun h_1 => ?_) (fun h_1 => ?_)
  · refine g_iload_n 1 dX11_now_20 rfl ?_
    refine g_iconst (v := 1) dX11_now_21 (by decide) ?_
    refine g_icmp_ne (tgt := 44) dX11_now_22 (by decide) (fun h_2 => ?_) (fun h_2 => ?_)
    · refine g_iload_n 1 dX11_now_44 rfl ?_
      refine g_iconst (v := 2) dX11_now_45 (by decide) ?_
      refine g_icmp_ne (tgt := 60) dX11_now_46 (by decide) (fun h_3 => ?_) (fun h_3 => ?_)
      · refine g_iload_n 1 dX11_now_60 rfl ?_
        refine g_iconst (v := 3) dX11_now_61 (by decide) ?_
        refine g_icmp_ne (tgt := 72) dX11_now_62 (by decide) (fun h_4 => ?_) (fun h_4 => ?_)
        · refine g_ldc (List.mem_of_getElem? (i := 3) rfl) dX11_now_72 ?_
          refine g_env (env' := []) [] rfl ?_
          exact tX11_now_L74 hG hF hM (-1000000) S_1
        · refine g_aload_n 0 dX11_now_65 rfl ?_
          refine g_cVp (ci := 11) (C0 := RX11) (T := TX11) (N := 17) (n := 0) (As := []) (rest := []) hF (tX11_alone hG hF hM S_1) gX11_now_X11_alone rfl (hM 77 (by decide)) rfl rfl ⟨rfl, by decide +kernel, by decide +kernel, by decide +kernel⟩ rfl (gRm_ok (by decide) (by decide)) rfl (Nat.le_of_ble_eq_true rfl) dX11_now_66 (fun v_2 => ?_)
          refine g_goto (tgt := 74) dX11_now_69 (by decide) ?_
          refine g_env (env' := []) [] rfl ?_
          exact tX11_now_L74 hG hF hM v_2 S_1
      · refine g_aload_n 0 dX11_now_49 rfl ?_
        refine g_aload_n 0 dX11_now_50 rfl ?_
        refine g_getK (ci := 11) (k0 := 10) (C0 := RX11) (T := TX11) (N := 17) (hM 77 (by decide)) rfl rfl hiX11_now_11 (by decide) (List.mem_of_getElem? (i := 2) rfl) rfl dX11_now_51 ?_
        refine g_cVp (ci := 11) (C0 := RX11) (T := TX11) (N := 17) (n := 1) (As := [.ref (gad G 80)]) (rest := []) hF (tX11_worthOf hG hF hM (rfl : gArM 80 = true) S_1) gX11_now_X11_worthOf rfl (hM 77 (by decide)) rfl rfl ⟨rfl, by decide +kernel, by decide +kernel, by decide +kernel⟩ rfl (gRm_ok (by decide) (by decide)) rfl (Nat.le_of_ble_eq_true rfl) dX11_now_54 (fun v_3 => ?_)
        refine g_goto (tgt := 74) dX11_now_57 (by decide) ?_
        refine g_env (env' := []) [] rfl ?_
        exact tX11_now_L74 hG hF hM v_3 S_1
    · refine g_aload_n 0 dX11_now_25 rfl ?_
      refine g_aload_n 0 dX11_now_26 rfl ?_
      refine g_getK (ci := 11) (k0 := 10) (C0 := RX11) (T := TX11) (N := 17) (hM 77 (by decide)) rfl rfl hiX11_now_11 (by decide) (List.mem_of_getElem? (i := 2) rfl) rfl dX11_now_27 ?_
      refine g_cVp (ci := 11) (C0 := RX11) (T := TX11) (N := 17) (n := 1) (As := [.ref (gad G 80)]) (rest := []) hF (tX11_isLawful hG hF hM (rfl : gArM 80 = true) S_1) gX11_now_X11_isLawful rfl (hM 77 (by decide)) rfl rfl ⟨rfl, by decide +kernel, by decide +kernel, by decide +kernel⟩ rfl (gRm_ok (by decide) (by decide)) rfl (Nat.le_of_ble_eq_true rfl) dX11_now_30 (fun v_4 => ?_)
      refine g_if_eq (tgt := 40) dX11_now_33 (by decide) (fun h_5 => ?_) (fun h_5 => ?_)
      · refine g_iconst (v := 0) dX11_now_40 (by decide) ?_
        refine g_goto (tgt := 74) dX11_now_41 (by decide) ?_
        refine g_env (env' := []) [] rfl ?_
        exact tX11_now_L74 hG hF hM 0 S_1
      · refine g_iconst (v := 1) dX11_now_36 (by decide) ?_
        refine g_goto (tgt := 74) dX11_now_37 (by decide) ?_
        refine g_env (env' := []) [] rfl ?_
        exact tX11_now_L74 hG hF hM 1 S_1
  · refine g_aload_n 0 dX11_now_9 rfl ?_
    refine g_aload_n 0 dX11_now_10 rfl ?_
    refine g_getK (ci := 11) (k0 := 10) (C0 := RX11) (T := TX11) (N := 17) (hM 77 (by decide)) rfl rfl hiX11_now_11 (by decide) (List.mem_of_getElem? (i := 2) rfl) rfl dX11_now_11 ?_
    refine g_cVp (ci := 11) (C0 := RX11) (T := TX11) (N := 17) (n := 1) (As := [.ref (gad G 80)]) (rest := []) hF (tX11_partiesOf hG hF hM (rfl : gArM 80 = true) S_1) gX11_now_X11_partiesOf rfl (hM 77 (by decide)) rfl rfl ⟨rfl, by decide +kernel, by decide +kernel, by decide +kernel⟩ rfl (gRm_ok (by decide) (by decide)) rfl (Nat.le_of_ble_eq_true rfl) dX11_now_14 (fun v_5 => ?_)
    refine g_goto (tgt := 74) dX11_now_17 (by decide) ?_
    refine g_env (env' := []) [] rfl ?_
    exact tX11_now_L74 hG hF hM v_5 S_1
set_option maxRecDepth 100000 in
set_option maxHeartbeats 4000000 in
theorem tX11_now {G : gGG} {F : State → Heap → Prop} (hG : gOK G) (hF : gSb G F) (hM : gPM G) (a1 : Int32) (S : gSt) : gCt G F yX11_now wsX11_now 3 [.ref (gad G 77), .int a1] S ((fX11_now a1 S).map (fun x => (some (.int x.1), x.2))) := g_met (by decide +kernel) rfl (Nat.le_of_ble_eq_true rfl) (tX11_now_L hG hF hM a1 S)
/-! X11_firstRow -/
theorem hiX11_firstRow_11 : ∀ w ∈ u_ws RX11 TX11 17, w ∈ wsX11_firstRow := fun _ hw => List.mem_cons_of_mem _ (List.mem_append_right _ (hw))
set_option maxRecDepth 100000 in
set_option maxHeartbeats 4000000 in
theorem tX11_firstRow_L2 {G : gGG} {F : State → Heap → Prop} (hG : gOK G) (hF : gSb G F) (hM : gPM G) : ∀ (n : Nat) (x1 : Int32) (S : gSt), Gof G F RX11 cX11_firstRow 2 wsX11_firstRow none (gRm 0) 0 0 (gQ G (fun x => (none, x))) 2 [(0, .ref (gad G 77)), (1, .int x1)] [] S (fX11_firstRow_L2 n x1 S) := by
  intro n
  induction n with
  | zero => intro x1 S; exact g_none
  | succ n ih =>
    intro x1 S
    unfold fX11_firstRow_L2
    refine g_iload_n 1 dX11_firstRow_2 rfl ?_
    refine g_bipush (v := 8) dX11_firstRow_3 (by decide) ?_
    refine g_icmp_ge (tgt := 21) dX11_firstRow_5 (by decide) (fun h_1 => ?_) (fun h_1 => ?_)
    · exact g_vret dX11_firstRow_21 rfl
    · refine g_aload_n 0 dX11_firstRow_8 rfl ?_
      refine g_getK (ci := 11) (k0 := 13) (C0 := RX11) (T := TX11) (N := 17) (hM 77 (by decide)) rfl rfl hiX11_firstRow_11 (by decide) (List.mem_of_getElem? (i := 1) rfl) rfl dX11_firstRow_9 ?_
      refine g_iload_n 1 dX11_firstRow_12 rfl ?_
      refine g_iconst (v := 0) dX11_firstRow_13 (by decide) ?_
      refine g_iast hG (hM 83 (by decide)) rfl dX11_firstRow_14 ?_
      refine g_nS (fun S_1 => ?_)
      refine g_iinc 1 (v := (x1 + 1)) (env' := [(1, .int (x1 + 1)), (0, .ref (gad G 77))]) dX11_firstRow_15 rfl rfl (by decide) rfl ?_
      refine g_goto (tgt := 2) dX11_firstRow_18 (by decide) ?_
      refine g_env (env' := [(0, .ref (gad G 77)), (1, .int (x1 + 1))]) [1, 0] rfl ?_
      exact ih (x1 + 1) S_1
set_option maxRecDepth 100000 in
set_option maxHeartbeats 4000000 in
theorem tX11_firstRow_L {G : gGG} {F : State → Heap → Prop} (hG : gOK G) (hF : gSb G F) (hM : gPM G) (S : gSt) : Gof G F RX11 cX11_firstRow 2 wsX11_firstRow none (gRm 0) 0 0 (gQ G (fun x => (none, x))) 0 [(0, .ref (gad G 77))] [] S (fX11_firstRow S) := by
  unfold fX11_firstRow
  refine g_iconst (v := 0) dX11_firstRow_0 (by decide) ?_
  refine g_istore_n (i := 1) (env' := [(1, .int 0), (0, .ref (gad G 77))]) dX11_firstRow_1 rfl (by decide) rfl ?_
  refine g_env (env' := [(0, .ref (gad G 77)), (1, .int 0)]) [1, 0] rfl ?_
  exact tX11_firstRow_L2 hG hF hM gFU 0 S
set_option maxRecDepth 100000 in
set_option maxHeartbeats 4000000 in
theorem tX11_firstRow {G : gGG} {F : State → Heap → Prop} (hG : gOK G) (hF : gSb G F) (hM : gPM G) (S : gSt) : gCt G F yX11_firstRow wsX11_firstRow 0 [.ref (gad G 77)] S ((fX11_firstRow S).map (fun x => (none, x))) := g_met (by decide +kernel) rfl (Nat.le_of_ble_eq_true rfl) (tX11_firstRow_L hG hF hM S)
/-! X11_nextRow -/
theorem hiX11_nextRow_11 : ∀ w ∈ u_ws RX11 TX11 17, w ∈ wsX11_nextRow := fun _ hw => List.mem_cons_of_mem _ (List.mem_append_right _ (hw))
set_option maxRecDepth 100000 in
set_option maxHeartbeats 4000000 in
theorem tX11_nextRow_L71 {G : gGG} {F : State → Heap → Prop} (hG : gOK G) (hF : gSb G F) (hM : gPM G) : ∀ (n : Nat) (x3 : Int32) (S : gSt), Gof G F RX11 cX11_nextRow 4 wsX11_nextRow (some .boolean) (gRm 1) 0 0 (gQ G (fun x => (some (.int x.1), x.2))) 71 [(0, .ref (gad G 77)), (3, .int x3)] [] S (fX11_nextRow_L71 n x3 S) := by
  intro n
  induction n with
  | zero => intro x3 S; exact g_none
  | succ n ih =>
    intro x3 S
    unfold fX11_nextRow_L71
    refine g_iload_n 1 dX11_nextRow_71 rfl ?_
    refine g_aload_n 0 dX11_nextRow_72 rfl ?_
    refine g_cVp (ci := 11) (C0 := RX11) (T := TX11) (N := 17) (n := 0) (As := []) (rest := [.int x3]) hF (tX11_guests hG hF hM S) gX11_nextRow_X11_guests rfl (hM 77 (by decide)) rfl rfl ⟨rfl, by decide +kernel, by decide +kernel, by decide +kernel⟩ rfl (gRm_ok (by decide) (by decide)) rfl (Nat.le_of_ble_eq_true rfl) dX11_nextRow_73 (fun v_1 => ?_)
    refine g_icmp_ge (tgt := 92) dX11_nextRow_76 (by decide) (fun h_1 => ?_) (fun h_1 => ?_)
    · refine g_iconst (v := 1) dX11_nextRow_92 (by decide) ?_
      exact g_zret (by decide) dX11_nextRow_93 rfl
    · refine g_aload_n 0 dX11_nextRow_79 rfl ?_
      refine g_getK (ci := 11) (k0 := 13) (C0 := RX11) (T := TX11) (N := 17) (hM 77 (by decide)) rfl rfl hiX11_nextRow_11 (by decide) (List.mem_of_getElem? (i := 1) rfl) rfl dX11_nextRow_80 ?_
      refine g_iload_n 1 dX11_nextRow_83 rfl ?_
      refine g_iconst (v := 0) dX11_nextRow_84 (by decide) ?_
      refine g_iast hG (hM 83 (by decide)) rfl dX11_nextRow_85 ?_
      refine g_nS (fun S_2 => ?_)
      refine g_iinc 1 (v := (x3 + 1)) (env' := [(3, .int (x3 + 1)), (0, .ref (gad G 77))]) dX11_nextRow_86 rfl rfl (by decide) rfl ?_
      refine g_goto (tgt := 71) dX11_nextRow_89 (by decide) ?_
      refine g_env (env' := [(0, .ref (gad G 77)), (3, .int (x3 + 1))]) [1, 0] rfl ?_
      exact ih (x3 + 1) S_2
set_option maxRecDepth 100000 in
set_option maxHeartbeats 4000000 in
theorem tX11_nextRow_L15 {G : gGG} {F : State → Heap → Prop} (hG : gOK G) (hF : gSb G F) (hM : gPM G) (k7 : Int32 → gSt → Option (Int32 × gSt)) (hk7 : ∀ (x1 : Int32) (S : gSt), Gof G F RX11 cX11_nextRow 4 wsX11_nextRow (some .boolean) (gRm 1) 0 0 (gQ G (fun x => (some (.int x.1), x.2))) 7 [(0, .ref (gad G 77)), (1, .int x1)] [] S (k7 x1 S)) : ∀ (n : Nat) (x1 : Int32) (x2 : Int32) (x3 : Int32) (S : gSt), Gof G F RX11 cX11_nextRow 4 wsX11_nextRow (some .boolean) (gRm 1) 0 0 (gQ G (fun x => (some (.int x.1), x.2))) 15 [(0, .ref (gad G 77)), (1, .int x1), (2, .int x2), (3, .int x3)] [] S (fX11_nextRow_L15 k7 n x1 x2 x3 S) := by
  intro n
  induction n with
  | zero => intro x1 x2 x3 S; exact g_none
  | succ n ih =>
    intro x1 x2 x3 S
    unfold fX11_nextRow_L15
    refine g_iload_n 3 dX11_nextRow_15 rfl ?_
    refine g_iload_n 1 dX11_nextRow_16 rfl ?_
    refine g_icmp_ge (tgt := 47) dX11_nextRow_17 (by decide) (fun h_1 => ?_) (fun h_1 => ?_)
    · refine g_aload_n 0 dX11_nextRow_47 rfl ?_
      refine g_getK (ci := 11) (k0 := 13) (C0 := RX11) (T := TX11) (N := 17) (hM 77 (by decide)) rfl rfl hiX11_nextRow_11 (by decide) (List.mem_of_getElem? (i := 1) rfl) rfl dX11_nextRow_48 ?_
      refine g_iload_n 1 dX11_nextRow_51 rfl ?_
      refine g_iald hG (hM 83 (by decide)) rfl dX11_nextRow_52 ?_
      refine g_iload_n 2 dX11_nextRow_53 rfl ?_
      refine g_icmp_gt (tgt := 94) dX11_nextRow_54 (by decide) (fun h_2 => ?_) (fun h_2 => ?_)
      · refine g_iinc 1 (v := (x1 + (-1))) (env' := [(1, .int (x1 + (-1))), (0, .ref (gad G 77)), (2, .int x2), (3, .int x3)]) dX11_nextRow_94 rfl rfl (by decide) rfl ?_
        refine g_goto (tgt := 7) dX11_nextRow_97 (by decide) ?_
        refine g_env (env' := [(0, .ref (gad G 77)), (1, .int (x1 + (-1)))]) [1, 0] rfl ?_
        exact hk7 (x1 + (-1)) S
      · refine g_aload_n 0 dX11_nextRow_57 rfl ?_
        refine g_getK (ci := 11) (k0 := 13) (C0 := RX11) (T := TX11) (N := 17) (hM 77 (by decide)) rfl rfl hiX11_nextRow_11 (by decide) (List.mem_of_getElem? (i := 1) rfl) rfl dX11_nextRow_58 ?_
        refine g_iload_n 1 dX11_nextRow_61 rfl ?_
        refine g_dup2 dX11_nextRow_62 rfl rfl ?_
        refine g_iald hG (hM 83 (by decide)) rfl dX11_nextRow_63 ?_
        refine g_iconst (v := 1) dX11_nextRow_64 (by decide) ?_
        refine g_iadd dX11_nextRow_65 ?_
        refine g_iast hG (hM 83 (by decide)) rfl dX11_nextRow_66 ?_
        refine g_nS (fun S_1 => ?_)
        refine g_iload_n 1 dX11_nextRow_67 rfl ?_
        refine g_iconst (v := 1) dX11_nextRow_68 (by decide) ?_
        refine g_iadd dX11_nextRow_69 ?_
        refine g_nI (fun v_2 => ?_)
        refine g_istore_n (i := 3) (env' := [(3, .int v_2), (0, .ref (gad G 77)), (1, .int x1), (2, .int x2)]) dX11_nextRow_70 rfl (by decide) rfl ?_
        refine g_env (env' := [(0, .ref (gad G 77)), (3, .int v_2)]) [1, 0] rfl ?_
        exact tX11_nextRow_L71 hG hF hM gFU v_2 S_1
    · refine g_aload_n 0 dX11_nextRow_20 rfl ?_
      refine g_getK (ci := 11) (k0 := 13) (C0 := RX11) (T := TX11) (N := 17) (hM 77 (by decide)) rfl rfl hiX11_nextRow_11 (by decide) (List.mem_of_getElem? (i := 1) rfl) rfl dX11_nextRow_21 ?_
      refine g_iload_n 3 dX11_nextRow_24 rfl ?_
      refine g_iald hG (hM 83 (by decide)) rfl dX11_nextRow_25 ?_
      refine g_iload_n 2 dX11_nextRow_26 rfl ?_
      refine g_icmp_le (tgt := 39) dX11_nextRow_27 (by decide) (fun h_3 => ?_) (fun h_3 => ?_)
      · refine g_iload_n 2 dX11_nextRow_39 rfl ?_
        refine g_istore_n (i := 2) (env' := [(2, .int x2), (0, .ref (gad G 77)), (1, .int x1), (3, .int x3)]) dX11_nextRow_40 rfl (by decide) rfl ?_
        refine g_iinc 3 (v := (x3 + 1)) (env' := [(3, .int (x3 + 1)), (2, .int x2), (0, .ref (gad G 77)), (1, .int x1)]) dX11_nextRow_41 rfl rfl (by decide) rfl ?_
        refine g_goto (tgt := 15) dX11_nextRow_44 (by decide) ?_
        refine g_env (env' := [(0, .ref (gad G 77)), (1, .int x1), (2, .int x2), (3, .int (x3 + 1))]) [2, 3, 1, 0] rfl ?_
        exact ih x1 x2 (x3 + 1) S
      · refine g_aload_n 0 dX11_nextRow_30 rfl ?_
        refine g_getK (ci := 11) (k0 := 13) (C0 := RX11) (T := TX11) (N := 17) (hM 77 (by decide)) rfl rfl hiX11_nextRow_11 (by decide) (List.mem_of_getElem? (i := 1) rfl) rfl dX11_nextRow_31 ?_
        refine g_iload_n 3 dX11_nextRow_34 rfl ?_
        refine g_iald hG (hM 83 (by decide)) rfl dX11_nextRow_35 ?_
        refine g_goto (tgt := 40) dX11_nextRow_36 (by decide) ?_
        refine g_nI (fun v_3 => ?_)
        refine g_istore_n (i := 2) (env' := [(2, .int v_3), (0, .ref (gad G 77)), (1, .int x1), (3, .int x3)]) dX11_nextRow_40 rfl (by decide) rfl ?_
        refine g_iinc 3 (v := (x3 + 1)) (env' := [(3, .int (x3 + 1)), (2, .int v_3), (0, .ref (gad G 77)), (1, .int x1)]) dX11_nextRow_41 rfl rfl (by decide) rfl ?_
        refine g_goto (tgt := 15) dX11_nextRow_44 (by decide) ?_
        refine g_env (env' := [(0, .ref (gad G 77)), (1, .int x1), (2, .int v_3), (3, .int (x3 + 1))]) [2, 3, 1, 0] rfl ?_
        exact ih x1 v_3 (x3 + 1) S
set_option maxRecDepth 100000 in
set_option maxHeartbeats 4000000 in
theorem tX11_nextRow_L7 {G : gGG} {F : State → Heap → Prop} (hG : gOK G) (hF : gSb G F) (hM : gPM G) : ∀ (n : Nat) (x1 : Int32) (S : gSt), Gof G F RX11 cX11_nextRow 4 wsX11_nextRow (some .boolean) (gRm 1) 0 0 (gQ G (fun x => (some (.int x.1), x.2))) 7 [(0, .ref (gad G 77)), (1, .int x1)] [] S (fX11_nextRow_L7 n x1 S) := by
  intro n
  induction n with
  | zero => intro x1 S; exact g_none
  | succ n ih =>
    intro x1 S
    unfold fX11_nextRow_L7
    refine g_iload_n 1 dX11_nextRow_7 rfl ?_
    refine g_if_le (tgt := 100) dX11_nextRow_8 (by decide) (fun h_1 => ?_) (fun h_1 => ?_)
    · refine g_iconst (v := 0) dX11_nextRow_100 (by decide) ?_
      exact g_zret (by decide) dX11_nextRow_101 rfl
    · refine g_iconst (v := (-1)) dX11_nextRow_11 (by decide) ?_
      refine g_istore_n (i := 2) (env' := [(2, .int (-1)), (0, .ref (gad G 77)), (1, .int x1)]) dX11_nextRow_12 rfl (by decide) rfl ?_
      refine g_iconst (v := 0) dX11_nextRow_13 (by decide) ?_
      refine g_istore_n (i := 3) (env' := [(3, .int 0), (2, .int (-1)), (0, .ref (gad G 77)), (1, .int x1)]) dX11_nextRow_14 rfl (by decide) rfl ?_
      refine g_env (env' := [(0, .ref (gad G 77)), (1, .int x1), (2, .int (-1)), (3, .int 0)]) [2, 3, 1, 0] rfl ?_
      exact tX11_nextRow_L15 hG hF hM (fX11_nextRow_L7 n) ih gFU x1 (-1) 0 S
set_option maxRecDepth 100000 in
set_option maxHeartbeats 4000000 in
theorem tX11_nextRow_L {G : gGG} {F : State → Heap → Prop} (hG : gOK G) (hF : gSb G F) (hM : gPM G) (S : gSt) : Gof G F RX11 cX11_nextRow 4 wsX11_nextRow (some .boolean) (gRm 1) 0 0 (gQ G (fun x => (some (.int x.1), x.2))) 0 [(0, .ref (gad G 77))] [] S (fX11_nextRow S) := by
  unfold fX11_nextRow
  refine g_aload_n 0 dX11_nextRow_0 rfl ?_
  refine g_cVp (ci := 11) (C0 := RX11) (T := TX11) (N := 17) (n := 0) (As := []) (rest := []) hF (tX11_guests hG hF hM S) gX11_nextRow_X11_guests rfl (hM 77 (by decide)) rfl rfl ⟨rfl, by decide +kernel, by decide +kernel, by decide +kernel⟩ rfl (gRm_ok (by decide) (by decide)) rfl (Nat.le_of_ble_eq_true rfl) dX11_nextRow_1 (fun v_1 => ?_)
  refine g_iconst (v := 1) dX11_nextRow_4 (by decide) ?_
  refine g_isub dX11_nextRow_5 ?_
  refine g_nI (fun v_2 => ?_)
  refine g_istore_n (i := 1) (env' := [(1, .int v_2), (0, .ref (gad G 77))]) dX11_nextRow_6 rfl (by decide) rfl ?_
  refine g_env (env' := [(0, .ref (gad G 77)), (1, .int v_2)]) [1, 0] rfl ?_
  exact tX11_nextRow_L7 hG hF hM gFU v_2 S
set_option maxRecDepth 100000 in
set_option maxHeartbeats 4000000 in
theorem tX11_nextRow {G : gGG} {F : State → Heap → Prop} (hG : gOK G) (hF : gSb G F) (hM : gPM G) (S : gSt) : gCt G F yX11_nextRow wsX11_nextRow 1 [.ref (gad G 77)] S ((fX11_nextRow S).map (fun x => (some (.int x.1), x.2))) := g_met (by decide +kernel) rfl (Nat.le_of_ble_eq_true rfl) (tX11_nextRow_L hG hF hM S)
/-! X11_manyOf -/
theorem hiX11_manyOf_11 : ∀ w ∈ u_ws RX11 TX11 17, w ∈ wsX11_manyOf := fun _ hw => List.mem_cons_of_mem _ (List.mem_append_right _ (hw))
set_option maxRecDepth 100000 in
set_option maxHeartbeats 4000000 in
theorem tX11_manyOf_L45 {G : gGG} {F : State → Heap → Prop} (hG : gOK G) (hF : gSb G F) (hM : gPM G) (k8 : Int32 → Int32 → Int32 → gSt → Option (Int32 × gSt)) (hk8 : ∀ (x1 : Int32) (x2 : Int32) (x3 : Int32) (S : gSt), Gof G F RX11 cX11_manyOf 4 wsX11_manyOf (some .int) (gRm 3) 0 0 (gQ G (fun x => (some (.int x.1), x.2))) 8 [(0, .ref (gad G 77)), (1, .int x1), (2, .int x2), (3, .int x3)] [] S (k8 x1 x2 x3 S)) (x1 : Int32) (s0 : Int32) (s1 : Int32) (S : gSt) : Gof G F RX11 cX11_manyOf 4 wsX11_manyOf (some .int) (gRm 3) 0 0 (gQ G (fun x => (some (.int x.1), x.2))) 45 [(0, .ref (gad G 77)), (1, .int x1)] [.int s1, .int s0] S (fX11_manyOf_L45 k8 x1 s0 s1 S) := by
  unfold fX11_manyOf_L45
  refine g_iadd dX11_manyOf_45 ?_
  refine g_nI (fun v_1 => ?_)
  refine g_istore_n (i := 2) (env' := [(2, .int v_1), (0, .ref (gad G 77)), (1, .int x1)]) dX11_manyOf_46 rfl (by decide) rfl ?_
  refine g_aload_n 1 dX11_manyOf_47 rfl ?_
  refine g_cVi (ci := 11) (C0 := RX11) (T := TX11) (N := 17) (n := 0) (As := []) (rest := []) hF (tX11_nextRow hG hF hM S) gX11_manyOf_X11_nextRow rfl (hM 77 (by decide)) rfl rfl ⟨rfl, by decide +kernel, by decide +kernel, by decide +kernel⟩ rfl (gRm_ok (by decide) (by decide)) rfl (Nat.le_of_ble_eq_true rfl) dX11_manyOf_48 (fun v_2 S_3 => ?_)
  refine g_istore_n (i := 3) (env' := [(3, .int v_2), (2, .int v_1), (0, .ref (gad G 77)), (1, .int x1)]) dX11_manyOf_51 rfl (by decide) rfl ?_
  refine g_goto (tgt := 8) dX11_manyOf_52 (by decide) ?_
  refine g_env (env' := [(0, .ref (gad G 77)), (1, .int x1), (2, .int v_1), (3, .int v_2)]) [2, 3, 1, 0] rfl ?_
  exact hk8 x1 v_1 v_2 S_3
set_option maxRecDepth 100000 in
set_option maxHeartbeats 4000000 in
theorem tX11_manyOf_L29 {G : gGG} {F : State → Heap → Prop} (hG : gOK G) (hF : gSb G F) (hM : gPM G) (k8 : Int32 → Int32 → Int32 → gSt → Option (Int32 × gSt)) (hk8 : ∀ (x1 : Int32) (x2 : Int32) (x3 : Int32) (S : gSt), Gof G F RX11 cX11_manyOf 4 wsX11_manyOf (some .int) (gRm 3) 0 0 (gQ G (fun x => (some (.int x.1), x.2))) 8 [(0, .ref (gad G 77)), (1, .int x1), (2, .int x2), (3, .int x3)] [] S (k8 x1 x2 x3 S)) (x1 : Int32) (s0 : Int32) (S : gSt) : Gof G F RX11 cX11_manyOf 4 wsX11_manyOf (some .int) (gRm 3) 0 0 (gQ G (fun x => (some (.int x.1), x.2))) 29 [(0, .ref (gad G 77)), (1, .int x1)] [.int s0] S (fX11_manyOf_L29 k8 x1 s0 S) := by
  unfold fX11_manyOf_L29
  refine g_aload_n 0 dX11_manyOf_29 rfl ?_
  refine g_aload_n 0 dX11_manyOf_30 rfl ?_
  refine g_getK (ci := 11) (k0 := 13) (C0 := RX11) (T := TX11) (N := 17) (hM 77 (by decide)) rfl rfl hiX11_manyOf_11 (by decide) (List.mem_of_getElem? (i := 1) rfl) rfl dX11_manyOf_31 ?_
  refine g_cVp (ci := 11) (C0 := RX11) (T := TX11) (N := 17) (n := 1) (As := [.ref (gad G 83)]) (rest := [.int s0]) hF (tX11_isLawful hG hF hM (rfl : gArM 83 = true) S) gX11_manyOf_X11_isLawful rfl (hM 77 (by decide)) rfl rfl ⟨rfl, by decide +kernel, by decide +kernel, by decide +kernel⟩ rfl (gRm_ok (by decide) (by decide)) rfl (Nat.le_of_ble_eq_true rfl) dX11_manyOf_34 (fun v_1 => ?_)
  refine g_if_eq (tgt := 44) dX11_manyOf_37 (by decide) (fun h_1 => ?_) (fun h_1 => ?_)
  · refine g_iconst (v := 0) dX11_manyOf_44 (by decide) ?_
    exact tX11_manyOf_L45 hG hF hM k8 hk8 x1 s0 0 S
  · refine g_iconst (v := 1) dX11_manyOf_40 (by decide) ?_
    refine g_goto (tgt := 45) dX11_manyOf_41 (by decide) ?_
    exact tX11_manyOf_L45 hG hF hM k8 hk8 x1 s0 1 S
set_option maxRecDepth 100000 in
set_option maxHeartbeats 4000000 in
theorem tX11_manyOf_L8 {G : gGG} {F : State → Heap → Prop} (hG : gOK G) (hF : gSb G F) (hM : gPM G) : ∀ (n : Nat) (x1 : Int32) (x2 : Int32) (x3 : Int32) (S : gSt), Gof G F RX11 cX11_manyOf 4 wsX11_manyOf (some .int) (gRm 3) 0 0 (gQ G (fun x => (some (.int x.1), x.2))) 8 [(0, .ref (gad G 77)), (1, .int x1), (2, .int x2), (3, .int x3)] [] S (fX11_manyOf_L8 n x1 x2 x3 S) := by
  intro n
  induction n with
  | zero => intro x1 x2 x3 S; exact g_none
  | succ n ih =>
    intro x1 x2 x3 S
    unfold fX11_manyOf_L8
    refine g_iload_n 3 dX11_manyOf_8 rfl ?_
    refine g_if_eq (tgt := 55) dX11_manyOf_9 (by decide) (fun h_1 => ?_) (fun h_1 => ?_)
    · refine g_iload_n 2 dX11_manyOf_55 rfl ?_
      exact g_iret dX11_manyOf_56 rfl
    · refine g_iload_n 2 dX11_manyOf_12 rfl ?_
      refine g_iload_n 1 dX11_manyOf_13 rfl ?_
      refine g_if_eq (tgt := 29) dX11_manyOf_14 (by decide) (fun h_2 => ?_) (fun h_2 => ?_)
      · refine g_env (env' := [(0, .ref (gad G 77)), (1, .int x1)]) [0, 1] rfl ?_
        exact tX11_manyOf_L29 hG hF hM (fX11_manyOf_L8 n) ih x1 x2 S
      · refine g_aload_n 0 dX11_manyOf_17 rfl ?_
        refine g_aload_n 0 dX11_manyOf_18 rfl ?_
        refine g_getK (ci := 11) (k0 := 13) (C0 := RX11) (T := TX11) (N := 17) (hM 77 (by decide)) rfl rfl hiX11_manyOf_11 (by decide) (List.mem_of_getElem? (i := 1) rfl) rfl dX11_manyOf_19 ?_
        refine g_cVp (ci := 11) (C0 := RX11) (T := TX11) (N := 17) (n := 1) (As := [.ref (gad G 83)]) (rest := [.int x2]) hF (tX11_partiesOf hG hF hM (rfl : gArM 83 = true) S) gX11_manyOf_X11_partiesOf rfl (hM 77 (by decide)) rfl rfl ⟨rfl, by decide +kernel, by decide +kernel, by decide +kernel⟩ rfl (gRm_ok (by decide) (by decide)) rfl (Nat.le_of_ble_eq_true rfl) dX11_manyOf_22 (fun v_1 => ?_)
        refine g_iload_n 1 dX11_manyOf_25 rfl ?_
        refine g_icmp_ne (tgt := 44) dX11_manyOf_26 (by decide) (fun h_3 => ?_) (fun h_3 => ?_)
        · refine g_iconst (v := 0) dX11_manyOf_44 (by decide) ?_
          refine g_env (env' := [(0, .ref (gad G 77)), (1, .int x1)]) [0, 1] rfl ?_
          exact tX11_manyOf_L45 hG hF hM (fX11_manyOf_L8 n) ih x1 x2 0 S
        · refine g_env (env' := [(0, .ref (gad G 77)), (1, .int x1)]) [0, 1] rfl ?_
          exact tX11_manyOf_L29 hG hF hM (fX11_manyOf_L8 n) ih x1 x2 S
set_option maxRecDepth 100000 in
set_option maxHeartbeats 4000000 in
theorem tX11_manyOf_L {G : gGG} {F : State → Heap → Prop} (hG : gOK G) (hF : gSb G F) (hM : gPM G) (a1 : Int32) (S : gSt) : Gof G F RX11 cX11_manyOf 4 wsX11_manyOf (some .int) (gRm 3) 0 0 (gQ G (fun x => (some (.int x.1), x.2))) 0 [(0, .ref (gad G 77)), (1, .int a1)] [] S (fX11_manyOf a1 S) := by
  unfold fX11_manyOf
  refine g_iconst (v := 0) dX11_manyOf_0 (by decide) ?_
  refine g_istore_n (i := 2) (env' := [(2, .int 0), (0, .ref (gad G 77)), (1, .int a1)]) dX11_manyOf_1 rfl (by decide) rfl ?_
  refine g_aload_n 1 dX11_manyOf_2 rfl ?_
  refine g_cVv (ci := 11) (C0 := RX11) (T := TX11) (N := 17) (n := 0) (As := []) (rest := []) hF (tX11_firstRow hG hF hM S) gX11_manyOf_X11_firstRow rfl (hM 77 (by decide)) rfl rfl ⟨rfl, by decide +kernel, by decide +kernel, by decide +kernel⟩ rfl (gRm_ok (by decide) (by decide)) rfl (Nat.le_of_ble_eq_true rfl) dX11_manyOf_3 (fun S_1 => ?_)
  refine g_iconst (v := 1) dX11_manyOf_6 (by decide) ?_
  refine g_istore_n (i := 3) (env' := [(3, .int 1), (2, .int 0), (0, .ref (gad G 77)), (1, .int a1)]) dX11_manyOf_7 rfl (by decide) rfl ?_
  refine g_env (env' := [(0, .ref (gad G 77)), (1, .int a1), (2, .int 0), (3, .int 1)]) [2, 3, 1, 0] rfl ?_
  exact tX11_manyOf_L8 hG hF hM gFU a1 0 1 S_1
set_option maxRecDepth 100000 in
set_option maxHeartbeats 4000000 in
theorem tX11_manyOf {G : gGG} {F : State → Heap → Prop} (hG : gOK G) (hF : gSb G F) (hM : gPM G) (a1 : Int32) (S : gSt) : gCt G F yX11_manyOf wsX11_manyOf 3 [.ref (gad G 77), .int a1] S ((fX11_manyOf a1 S).map (fun x => (some (.int x.1), x.2))) := g_met (by decide +kernel) rfl (Nat.le_of_ble_eq_true rfl) (tX11_manyOf_L hG hF hM a1 S)
/-! X11_many -/
theorem hiX11_many_11 : ∀ w ∈ u_ws RX11 TX11 17, w ∈ wsX11_many := fun _ hw => List.mem_cons_of_mem _ (List.mem_append_right _ (hw))
set_option maxRecDepth 100000 in
set_option maxHeartbeats 4000000 in
theorem tX11_many_L {G : gGG} {F : State → Heap → Prop} (hG : gOK G) (hF : gSb G F) (hM : gPM G) (a1 : Int32) (S : gSt) : Gof G F RX11 cX11_many 2 wsX11_many (some .int) (gRm 4) 0 0 (gQ G (fun x => (some (.int x.1), x.2))) 0 [(0, .ref (gad G 77)), (1, .int a1)] [] S (fX11_many a1 S) := by
  unfold fX11_many
  refine g_aload_n 0 dX11_many_0 rfl ?_
  refine g_iconst (v := 0) dX11_many_1 (by decide) ?_
  refine g_putI hG (ci := 11) (k0 := 0) (C0 := RX11) (T := TX11) (N := 17) (hM 77 (by decide)) rfl rfl hiX11_many_11 (by decide) (List.mem_of_getElem? (i := 1) rfl) tyX11 tyX11_ok nmX11 rfl rfl rfl rfl dX11_many_2 ?_
  refine g_nS (fun S_1 => ?_)
  refine g_iload_n 1 dX11_many_5 rfl ?_
  refine g_iconst (v := 0) dX11_many_6 (by decide) ?_
  refine g_bipush (v := 8) dX11_many_7 (by decide) ?_
  refine g_cSp (n := 3) (As := [.int a1, .int 0, .int 8]) (rest := []) hF (tX11_in hG hF hM a1 0 8 S_1) gX11_many_X11_in rfl ⟨by decide +kernel, by decide +kernel, by decide +kernel⟩ rfl (gRm_ok (by decide) (by decide)) rfl (Nat.le_of_ble_eq_true rfl) dX11_many_9 (fun v_2 => ?_)
  refine g_if_eq (tgt := 23) dX11_many_12 (by decide) (fun h_1 => ?_) (fun h_1 => ?_)
  · refine g_iconst (v := (-1)) dX11_many_23 (by decide) ?_
    exact g_iret dX11_many_24 rfl
  · refine g_aload_n 0 dX11_many_15 rfl ?_
    refine g_iload_n 1 dX11_many_16 rfl ?_
    refine g_cVi (ci := 11) (C0 := RX11) (T := TX11) (N := 17) (n := 1) (As := [.int a1]) (rest := []) hF (tX11_manyOf hG hF hM a1 S_1) gX11_many_X11_manyOf rfl (hM 77 (by decide)) rfl rfl ⟨rfl, by decide +kernel, by decide +kernel, by decide +kernel⟩ rfl (gRm_ok (by decide) (by decide)) rfl (Nat.le_of_ble_eq_true rfl) dX11_many_17 (fun v_3 S_4 => ?_)
    refine g_goto (tgt := 24) dX11_many_20 (by decide) ?_
    exact g_iret dX11_many_24 rfl
set_option maxRecDepth 100000 in
set_option maxHeartbeats 4000000 in
theorem tX11_many {G : gGG} {F : State → Heap → Prop} (hG : gOK G) (hF : gSb G F) (hM : gPM G) (a1 : Int32) (S : gSt) : gCt G F yX11_many wsX11_many 4 [.ref (gad G 77), .int a1] S ((fX11_many a1 S).map (fun x => (some (.int x.1), x.2))) := g_met (by decide +kernel) rfl (Nat.le_of_ble_eq_true rfl) (tX11_many_L hG hF hM a1 S)
/-! X11_rank -/
theorem hiX11_rank_11 : ∀ w ∈ u_ws RX11 TX11 17, w ∈ wsX11_rank := fun _ hw => List.mem_cons_of_mem _ (List.mem_append_right _ (hw))
set_option maxRecDepth 100000 in
set_option maxHeartbeats 4000000 in
theorem tX11_rank_L101 {G : gGG} {F : State → Heap → Prop} (hG : gOK G) (hF : gSb G F) (hM : gPM G) (k27 : Int32 → Int32 → gSt → Option (Int32 × gSt)) (hk27 : ∀ (x1 : Int32) (x2 : Int32) (S : gSt), Gof G F RX11 cX11_rank 5 wsX11_rank (some .int) (gRm 3) 0 0 (gQ G (fun x => (some (.int x.1), x.2))) 27 [(0, .ref (gad G 77)), (1, .int x1), (2, .int x2)] [] S (k27 x1 x2 S)) (s0 : Int32) (s1 : Int32) (S : gSt) : Gof G F RX11 cX11_rank 5 wsX11_rank (some .int) (gRm 3) 0 0 (gQ G (fun x => (some (.int x.1), x.2))) 101 [(0, .ref (gad G 77))] [.int s1, .int s0] S (fX11_rank_L101 k27 s0 s1 S) := by
  unfold fX11_rank_L101
  refine g_iadd dX11_rank_101 ?_
  refine g_nI (fun v_1 => ?_)
  refine g_istore_n (i := 1) (env' := [(1, .int v_1), (0, .ref (gad G 77))]) dX11_rank_102 rfl (by decide) rfl ?_
  refine g_aload_n 1 dX11_rank_103 rfl ?_
  refine g_cVi (ci := 11) (C0 := RX11) (T := TX11) (N := 17) (n := 0) (As := []) (rest := []) hF (tX11_nextRow hG hF hM S) gX11_rank_X11_nextRow rfl (hM 77 (by decide)) rfl rfl ⟨rfl, by decide +kernel, by decide +kernel, by decide +kernel⟩ rfl (gRm_ok (by decide) (by decide)) rfl (Nat.le_of_ble_eq_true rfl) dX11_rank_104 (fun v_2 S_3 => ?_)
  refine g_istore_n (i := 2) (env' := [(2, .int v_2), (1, .int v_1), (0, .ref (gad G 77))]) dX11_rank_107 rfl (by decide) rfl ?_
  refine g_goto (tgt := 27) dX11_rank_108 (by decide) ?_
  refine g_env (env' := [(0, .ref (gad G 77)), (1, .int v_1), (2, .int v_2)]) [2, 1, 0] rfl ?_
  exact hk27 v_1 v_2 S_3
set_option maxRecDepth 100000 in
set_option maxHeartbeats 4000000 in
theorem tX11_rank_L36 {G : gGG} {F : State → Heap → Prop} (hG : gOK G) (hF : gSb G F) (hM : gPM G) (k27 : Int32 → Int32 → gSt → Option (Int32 × gSt)) (hk27 : ∀ (x1 : Int32) (x2 : Int32) (S : gSt), Gof G F RX11 cX11_rank 5 wsX11_rank (some .int) (gRm 3) 0 0 (gQ G (fun x => (some (.int x.1), x.2))) 27 [(0, .ref (gad G 77)), (1, .int x1), (2, .int x2)] [] S (k27 x1 x2 S)) : ∀ (n : Nat) (x1 : Int32) (x3 : Int32) (x4 : Int32) (S : gSt), Gof G F RX11 cX11_rank 5 wsX11_rank (some .int) (gRm 3) 0 0 (gQ G (fun x => (some (.int x.1), x.2))) 36 [(0, .ref (gad G 77)), (1, .int x1), (3, .int x3), (4, .int x4)] [] S (fX11_rank_L36 k27 n x1 x3 x4 S) := by
  intro n
  induction n with
  | zero => intro x1 x3 x4 S; exact g_none
  | succ n ih =>
    intro x1 x3 x4 S
    unfold fX11_rank_L36
    refine g_iload 3 dX11_rank_36 rfl ?_
    refine g_aload_n 0 dX11_rank_38 rfl ?_
    refine g_cVp (ci := 11) (C0 := RX11) (T := TX11) (N := 17) (n := 0) (As := []) (rest := [.int x4]) hF (tX11_guests hG hF hM S) gX11_rank_X11_guests rfl (hM 77 (by decide)) rfl rfl ⟨rfl, by decide +kernel, by decide +kernel, by decide +kernel⟩ rfl (gRm_ok (by decide) (by decide)) rfl (Nat.le_of_ble_eq_true rfl) dX11_rank_39 (fun v_1 => ?_)
    refine g_icmp_ge (tgt := 78) dX11_rank_42 (by decide) (fun h_1 => ?_) (fun h_1 => ?_)
    · refine g_iload_n 2 dX11_rank_78 rfl ?_
      refine g_if_eq (tgt := 84) dX11_rank_79 (by decide) (fun h_2 => ?_) (fun h_2 => ?_)
      · refine g_iload_n 1 dX11_rank_84 rfl ?_
        refine g_aload_n 0 dX11_rank_85 rfl ?_
        refine g_aload_n 0 dX11_rank_86 rfl ?_
        refine g_getK (ci := 11) (k0 := 13) (C0 := RX11) (T := TX11) (N := 17) (hM 77 (by decide)) rfl rfl hiX11_rank_11 (by decide) (List.mem_of_getElem? (i := 3) rfl) rfl dX11_rank_87 ?_
        refine g_cVp (ci := 11) (C0 := RX11) (T := TX11) (N := 17) (n := 1) (As := [.ref (gad G 83)]) (rest := [.int x1]) hF (tX11_isLawful hG hF hM (rfl : gArM 83 = true) S) gX11_rank_X11_isLawful rfl (hM 77 (by decide)) rfl rfl ⟨rfl, by decide +kernel, by decide +kernel, by decide +kernel⟩ rfl (gRm_ok (by decide) (by decide)) rfl (Nat.le_of_ble_eq_true rfl) dX11_rank_90 (fun v_2 => ?_)
        refine g_if_eq (tgt := 100) dX11_rank_93 (by decide) (fun h_3 => ?_) (fun h_3 => ?_)
        · refine g_iconst (v := 0) dX11_rank_100 (by decide) ?_
          refine g_env (env' := [(0, .ref (gad G 77))]) [0] rfl ?_
          exact tX11_rank_L101 hG hF hM k27 hk27 x1 0 S
        · refine g_iconst (v := 1) dX11_rank_96 (by decide) ?_
          refine g_goto (tgt := 101) dX11_rank_97 (by decide) ?_
          refine g_env (env' := [(0, .ref (gad G 77))]) [0] rfl ?_
          exact tX11_rank_L101 hG hF hM k27 hk27 x1 1 S
      · refine g_iload_n 1 dX11_rank_82 rfl ?_
        exact g_iret dX11_rank_83 rfl
    · refine g_iload_n 2 dX11_rank_45 rfl ?_
      refine g_if_eq (tgt := 70) dX11_rank_46 (by decide) (fun h_4 => ?_) (fun h_4 => ?_)
      · refine g_iconst (v := 0) dX11_rank_70 (by decide) ?_
        refine g_istore_n (i := 3) (env' := [(3, .int 0), (0, .ref (gad G 77)), (1, .int x1), (4, .int x4)]) dX11_rank_71 rfl (by decide) rfl ?_
        refine g_iinc 3 (v := (x4 + 1)) (env' := [(4, .int (x4 + 1)), (3, .int 0), (0, .ref (gad G 77)), (1, .int x1)]) dX11_rank_72 rfl rfl (by decide) rfl ?_
        refine g_goto (tgt := 36) dX11_rank_75 (by decide) ?_
        refine g_env (env' := [(0, .ref (gad G 77)), (1, .int x1), (3, .int 0), (4, .int (x4 + 1))]) [2, 3, 1, 0] rfl ?_
        exact ih x1 0 (x4 + 1) S
      · refine g_aload_n 0 dX11_rank_49 rfl ?_
        refine g_getK (ci := 11) (k0 := 13) (C0 := RX11) (T := TX11) (N := 17) (hM 77 (by decide)) rfl rfl hiX11_rank_11 (by decide) (List.mem_of_getElem? (i := 3) rfl) rfl dX11_rank_50 ?_
        refine g_iload 3 dX11_rank_53 rfl ?_
        refine g_iald hG (hM 83 (by decide)) rfl dX11_rank_55 ?_
        refine g_aload_n 0 dX11_rank_56 rfl ?_
        refine g_getK (ci := 11) (k0 := 10) (C0 := RX11) (T := TX11) (N := 17) (hM 77 (by decide)) rfl rfl hiX11_rank_11 (by decide) (List.mem_of_getElem? (i := 2) rfl) rfl dX11_rank_57 ?_
        refine g_iload 3 dX11_rank_60 rfl ?_
        refine g_iald hG (hM 80 (by decide)) rfl dX11_rank_62 ?_
        refine g_icmp_ne (tgt := 70) dX11_rank_63 (by decide) (fun h_5 => ?_) (fun h_5 => ?_)
        · refine g_iconst (v := 0) dX11_rank_70 (by decide) ?_
          refine g_istore_n (i := 3) (env' := [(3, .int 0), (0, .ref (gad G 77)), (1, .int x1), (4, .int x4)]) dX11_rank_71 rfl (by decide) rfl ?_
          refine g_iinc 3 (v := (x4 + 1)) (env' := [(4, .int (x4 + 1)), (3, .int 0), (0, .ref (gad G 77)), (1, .int x1)]) dX11_rank_72 rfl rfl (by decide) rfl ?_
          refine g_goto (tgt := 36) dX11_rank_75 (by decide) ?_
          refine g_env (env' := [(0, .ref (gad G 77)), (1, .int x1), (3, .int 0), (4, .int (x4 + 1))]) [2, 3, 1, 0] rfl ?_
          exact ih x1 0 (x4 + 1) S
        · refine g_iconst (v := 1) dX11_rank_66 (by decide) ?_
          refine g_goto (tgt := 71) dX11_rank_67 (by decide) ?_
          refine g_istore_n (i := 3) (env' := [(3, .int 1), (0, .ref (gad G 77)), (1, .int x1), (4, .int x4)]) dX11_rank_71 rfl (by decide) rfl ?_
          refine g_iinc 3 (v := (x4 + 1)) (env' := [(4, .int (x4 + 1)), (3, .int 1), (0, .ref (gad G 77)), (1, .int x1)]) dX11_rank_72 rfl rfl (by decide) rfl ?_
          refine g_goto (tgt := 36) dX11_rank_75 (by decide) ?_
          refine g_env (env' := [(0, .ref (gad G 77)), (1, .int x1), (3, .int 1), (4, .int (x4 + 1))]) [2, 3, 1, 0] rfl ?_
          exact ih x1 1 (x4 + 1) S
set_option maxRecDepth 100000 in
set_option maxHeartbeats 4000000 in
theorem tX11_rank_L27 {G : gGG} {F : State → Heap → Prop} (hG : gOK G) (hF : gSb G F) (hM : gPM G) : ∀ (n : Nat) (x1 : Int32) (x2 : Int32) (S : gSt), Gof G F RX11 cX11_rank 5 wsX11_rank (some .int) (gRm 3) 0 0 (gQ G (fun x => (some (.int x.1), x.2))) 27 [(0, .ref (gad G 77)), (1, .int x1), (2, .int x2)] [] S (fX11_rank_L27 n x1 x2 S) := by
  intro n
  induction n with
  | zero => intro x1 x2 S; exact g_none
  | succ n ih =>
    intro x1 x2 S
    unfold fX11_rank_L27
    refine g_iload_n 2 dX11_rank_27 rfl ?_
    refine g_if_eq (tgt := 111) dX11_rank_28 (by decide) (fun h_1 => ?_) (fun h_1 => ?_)
    · refine g_bipush (v := (-9)) dX11_rank_111 (by decide) ?_
      exact g_iret dX11_rank_113 rfl
    · refine g_iconst (v := 1) dX11_rank_31 (by decide) ?_
      refine g_istore_n (i := 3) (env' := [(3, .int 1), (0, .ref (gad G 77)), (1, .int x1), (2, .int x2)]) dX11_rank_32 rfl (by decide) rfl ?_
      refine g_iconst (v := 0) dX11_rank_33 (by decide) ?_
      refine g_istore (i := 4) (env' := [(4, .int 0), (3, .int 1), (0, .ref (gad G 77)), (1, .int x1), (2, .int x2)]) dX11_rank_34 (by decide) rfl ?_
      refine g_env (env' := [(0, .ref (gad G 77)), (1, .int x1), (3, .int 1), (4, .int 0)]) [2, 3, 1, 0] rfl ?_
      exact tX11_rank_L36 hG hF hM (fX11_rank_L27 n) ih gFU x1 1 0 S
set_option maxRecDepth 100000 in
set_option maxHeartbeats 4000000 in
theorem tX11_rank_L {G : gGG} {F : State → Heap → Prop} (hG : gOK G) (hF : gSb G F) (hM : gPM G) (S : gSt) : Gof G F RX11 cX11_rank 5 wsX11_rank (some .int) (gRm 3) 0 0 (gQ G (fun x => (some (.int x.1), x.2))) 0 [(0, .ref (gad G 77))] [] S (fX11_rank S) := by
  unfold fX11_rank
  refine g_aload_n 0 dX11_rank_0 rfl ?_
  refine g_iconst (v := 0) dX11_rank_1 (by decide) ?_
  refine g_putI hG (ci := 11) (k0 := 0) (C0 := RX11) (T := TX11) (N := 17) (hM 77 (by decide)) rfl rfl hiX11_rank_11 (by decide) (List.mem_of_getElem? (i := 1) rfl) tyX11 tyX11_ok nmX11 rfl rfl rfl rfl dX11_rank_2 ?_
  refine g_nS (fun S_1 => ?_)
  refine g_aload_n 0 dX11_rank_5 rfl ?_
  refine g_aload_n 0 dX11_rank_6 rfl ?_
  refine g_getK (ci := 11) (k0 := 10) (C0 := RX11) (T := TX11) (N := 17) (hM 77 (by decide)) rfl rfl hiX11_rank_11 (by decide) (List.mem_of_getElem? (i := 2) rfl) rfl dX11_rank_7 ?_
  refine g_cVp (ci := 11) (C0 := RX11) (T := TX11) (N := 17) (n := 1) (As := [.ref (gad G 80)]) (rest := []) hF (tX11_isLawful hG hF hM (rfl : gArM 80 = true) S_1) gX11_rank_X11_isLawful rfl (hM 77 (by decide)) rfl rfl ⟨rfl, by decide +kernel, by decide +kernel, by decide +kernel⟩ rfl (gRm_ok (by decide) (by decide)) rfl (Nat.le_of_ble_eq_true rfl) dX11_rank_10 (fun v_2 => ?_)
  refine g_if_ne (tgt := 19) dX11_rank_13 (by decide) (fun h_1 => ?_) (fun h_1 => ?_)
  · refine g_iconst (v := 0) dX11_rank_19 (by decide) ?_
    refine g_istore_n (i := 1) (env' := [(1, .int 0), (0, .ref (gad G 77))]) dX11_rank_20 rfl (by decide) rfl ?_
    refine g_aload_n 1 dX11_rank_21 rfl ?_
    refine g_cVv (ci := 11) (C0 := RX11) (T := TX11) (N := 17) (n := 0) (As := []) (rest := []) hF (tX11_firstRow hG hF hM S_1) gX11_rank_X11_firstRow rfl (hM 77 (by decide)) rfl rfl ⟨rfl, by decide +kernel, by decide +kernel, by decide +kernel⟩ rfl (gRm_ok (by decide) (by decide)) rfl (Nat.le_of_ble_eq_true rfl) dX11_rank_22 (fun S_3 => ?_)
    refine g_iconst (v := 1) dX11_rank_25 (by decide) ?_
    refine g_istore_n (i := 2) (env' := [(2, .int 1), (1, .int 0), (0, .ref (gad G 77))]) dX11_rank_26 rfl (by decide) rfl ?_
    refine g_env (env' := [(0, .ref (gad G 77)), (1, .int 0), (2, .int 1)]) [2, 1, 0] rfl ?_
    exact tX11_rank_L27 hG hF hM gFU 0 1 S_3
  · refine g_bipush (v := (-9)) dX11_rank_16 (by decide) ?_
    exact g_iret dX11_rank_18 rfl
set_option maxRecDepth 100000 in
set_option maxHeartbeats 4000000 in
theorem tX11_rank {G : gGG} {F : State → Heap → Prop} (hG : gOK G) (hF : gSb G F) (hM : gPM G) (S : gSt) : gCt G F yX11_rank wsX11_rank 3 [.ref (gad G 77)] S ((fX11_rank S).map (fun x => (some (.int x.1), x.2))) := g_met (by decide +kernel) rfl (Nat.le_of_ble_eq_true rfl) (tX11_rank_L hG hF hM S)
/-! X11_finds -/
theorem hiX11_finds_11 : ∀ w ∈ u_ws RX11 TX11 17, w ∈ wsX11_finds := fun _ hw => List.mem_cons_of_mem _ (List.mem_append_right _ (hw))
set_option maxRecDepth 100000 in
set_option maxHeartbeats 4000000 in
theorem tX11_finds_L33 {G : gGG} {F : State → Heap → Prop} (hG : gOK G) (hF : gSb G F) (hM : gPM G) (k8 : Int32 → Int32 → Int32 → gSt → Option (Int32 × gSt)) (hk8 : ∀ (x1 : Int32) (x2 : Int32) (x3 : Int32) (S : gSt), Gof G F RX11 cX11_finds 4 wsX11_finds (some .boolean) (gRm 3) 0 0 (gQ G (fun x => (some (.int x.1), x.2))) 8 [(0, .ref (gad G 77)), (1, .int x1), (2, .int x2), (3, .int x3)] [] S (k8 x1 x2 x3 S)) (x1 : Int32) (x2 : Int32) (S : gSt) : Gof G F RX11 cX11_finds 4 wsX11_finds (some .boolean) (gRm 3) 0 0 (gQ G (fun x => (some (.int x.1), x.2))) 33 [(0, .ref (gad G 77)), (1, .int x1), (2, .int x2)] [] S (fX11_finds_L33 k8 x1 x2 S) := by
  unfold fX11_finds_L33
  refine g_aload_n 0 dX11_finds_33 rfl ?_
  refine g_cVi (ci := 11) (C0 := RX11) (T := TX11) (N := 17) (n := 0) (As := []) (rest := []) hF (tX11_nextRow hG hF hM S) gX11_finds_X11_nextRow rfl (hM 77 (by decide)) rfl rfl ⟨rfl, by decide +kernel, by decide +kernel, by decide +kernel⟩ rfl (gRm_ok (by decide) (by decide)) rfl (Nat.le_of_ble_eq_true rfl) dX11_finds_34 (fun v_1 S_2 => ?_)
  refine g_istore_n (i := 3) (env' := [(3, .int v_1), (0, .ref (gad G 77)), (1, .int x1), (2, .int x2)]) dX11_finds_37 rfl (by decide) rfl ?_
  refine g_goto (tgt := 8) dX11_finds_38 (by decide) ?_
  refine g_env (env' := [(0, .ref (gad G 77)), (1, .int x1), (2, .int x2), (3, .int v_1)]) [1, 2, 3, 0] rfl ?_
  exact hk8 x1 x2 v_1 S_2
set_option maxRecDepth 100000 in
set_option maxHeartbeats 4000000 in
theorem tX11_finds_L8 {G : gGG} {F : State → Heap → Prop} (hG : gOK G) (hF : gSb G F) (hM : gPM G) : ∀ (n : Nat) (x1 : Int32) (x2 : Int32) (x3 : Int32) (S : gSt), Gof G F RX11 cX11_finds 4 wsX11_finds (some .boolean) (gRm 3) 0 0 (gQ G (fun x => (some (.int x.1), x.2))) 8 [(0, .ref (gad G 77)), (1, .int x1), (2, .int x2), (3, .int x3)] [] S (fX11_finds_L8 n x1 x2 x3 S) := by
  intro n
  induction n with
  | zero => intro x1 x2 x3 S; exact g_none
  | succ n ih =>
    intro x1 x2 x3 S
    unfold fX11_finds_L8
    refine g_iload_n 3 dX11_finds_8 rfl ?_
    refine g_if_eq (tgt := 41) dX11_finds_9 (by decide) (fun h_1 => ?_) (fun h_1 => ?_)
    · refine g_iconst (v := 0) dX11_finds_41 (by decide) ?_
      exact g_zret (by decide) dX11_finds_42 rfl
    · refine g_aload_n 0 dX11_finds_12 rfl ?_
      refine g_aload_n 0 dX11_finds_13 rfl ?_
      refine g_getK (ci := 11) (k0 := 13) (C0 := RX11) (T := TX11) (N := 17) (hM 77 (by decide)) rfl rfl hiX11_finds_11 (by decide) (List.mem_of_getElem? (i := 1) rfl) rfl dX11_finds_14 ?_
      refine g_cVp (ci := 11) (C0 := RX11) (T := TX11) (N := 17) (n := 1) (As := [.ref (gad G 83)]) (rest := []) hF (tX11_isLawful hG hF hM (rfl : gArM 83 = true) S) gX11_finds_X11_isLawful rfl (hM 77 (by decide)) rfl rfl ⟨rfl, by decide +kernel, by decide +kernel, by decide +kernel⟩ rfl (gRm_ok (by decide) (by decide)) rfl (Nat.le_of_ble_eq_true rfl) dX11_finds_17 (fun v_1 => ?_)
      refine g_if_eq (tgt := 33) dX11_finds_20 (by decide) (fun h_2 => ?_) (fun h_2 => ?_)
      · refine g_env (env' := [(0, .ref (gad G 77)), (1, .int x1), (2, .int x2)]) [0, 1, 2] rfl ?_
        exact tX11_finds_L33 hG hF hM (fX11_finds_L8 n) ih x1 x2 S
      · refine g_iload_n 2 dX11_finds_23 rfl ?_
        refine g_iload_n 1 dX11_finds_24 rfl ?_
        refine g_icmp_ne (tgt := 30) dX11_finds_25 (by decide) (fun h_3 => ?_) (fun h_3 => ?_)
        · refine g_iinc 2 (v := (x2 + 1)) (env' := [(2, .int (x2 + 1)), (0, .ref (gad G 77)), (1, .int x1), (3, .int x3)]) dX11_finds_30 rfl rfl (by decide) rfl ?_
          refine g_env (env' := [(0, .ref (gad G 77)), (1, .int x1), (2, .int (x2 + 1))]) [1, 2, 0] rfl ?_
          exact tX11_finds_L33 hG hF hM (fX11_finds_L8 n) ih x1 (x2 + 1) S
        · refine g_iconst (v := 1) dX11_finds_28 (by decide) ?_
          exact g_zret (by decide) dX11_finds_29 rfl
set_option maxRecDepth 100000 in
set_option maxHeartbeats 4000000 in
theorem tX11_finds_L {G : gGG} {F : State → Heap → Prop} (hG : gOK G) (hF : gSb G F) (hM : gPM G) (a1 : Int32) (S : gSt) : Gof G F RX11 cX11_finds 4 wsX11_finds (some .boolean) (gRm 3) 0 0 (gQ G (fun x => (some (.int x.1), x.2))) 0 [(0, .ref (gad G 77)), (1, .int a1)] [] S (fX11_finds a1 S) := by
  unfold fX11_finds
  refine g_iconst (v := 0) dX11_finds_0 (by decide) ?_
  refine g_istore_n (i := 2) (env' := [(2, .int 0), (0, .ref (gad G 77)), (1, .int a1)]) dX11_finds_1 rfl (by decide) rfl ?_
  refine g_aload_n 1 dX11_finds_2 rfl ?_
  refine g_cVv (ci := 11) (C0 := RX11) (T := TX11) (N := 17) (n := 0) (As := []) (rest := []) hF (tX11_firstRow hG hF hM S) gX11_finds_X11_firstRow rfl (hM 77 (by decide)) rfl rfl ⟨rfl, by decide +kernel, by decide +kernel, by decide +kernel⟩ rfl (gRm_ok (by decide) (by decide)) rfl (Nat.le_of_ble_eq_true rfl) dX11_finds_3 (fun S_1 => ?_)
  refine g_iconst (v := 1) dX11_finds_6 (by decide) ?_
  refine g_istore_n (i := 3) (env' := [(3, .int 1), (2, .int 0), (0, .ref (gad G 77)), (1, .int a1)]) dX11_finds_7 rfl (by decide) rfl ?_
  refine g_env (env' := [(0, .ref (gad G 77)), (1, .int a1), (2, .int 0), (3, .int 1)]) [2, 3, 1, 0] rfl ?_
  exact tX11_finds_L8 hG hF hM gFU a1 0 1 S_1
set_option maxRecDepth 100000 in
set_option maxHeartbeats 4000000 in
theorem tX11_finds {G : gGG} {F : State → Heap → Prop} (hG : gOK G) (hF : gSb G F) (hM : gPM G) (a1 : Int32) (S : gSt) : gCt G F yX11_finds wsX11_finds 3 [.ref (gad G 77), .int a1] S ((fX11_finds a1 S).map (fun x => (some (.int x.1), x.2))) := g_met (by decide +kernel) rfl (Nat.le_of_ble_eq_true rfl) (tX11_finds_L hG hF hM a1 S)
/-! X11_nth -/
theorem hiX11_nth_11 : ∀ w ∈ u_ws RX11 TX11 17, w ∈ wsX11_nth := fun _ hw => List.mem_cons_of_mem _ (List.mem_append_right _ (hw))
set_option maxRecDepth 100000 in
set_option maxHeartbeats 4000000 in
theorem tX11_nth_L {G : gGG} {F : State → Heap → Prop} (hG : gOK G) (hF : gSb G F) (hM : gPM G) (a1 : Int32) (a2 : Int32) (S : gSt) : Gof G F RX11 cX11_nth 3 wsX11_nth (some .int) (gRm 4) 0 0 (gQ G (fun x => (some (.int x.1), x.2))) 0 [(0, .ref (gad G 77)), (1, .int a1), (2, .int a2)] [] S (fX11_nth a1 a2 S) := by
  unfold fX11_nth
  refine g_aload_n 0 dX11_nth_0 rfl ?_
  refine g_iconst (v := 0) dX11_nth_1 (by decide) ?_
  refine g_putI hG (ci := 11) (k0 := 0) (C0 := RX11) (T := TX11) (N := 17) (hM 77 (by decide)) rfl rfl hiX11_nth_11 (by decide) (List.mem_of_getElem? (i := 1) rfl) tyX11 tyX11_ok nmX11 rfl rfl rfl rfl dX11_nth_2 ?_
  refine g_nS (fun S_1 => ?_)
  refine g_iload_n 1 dX11_nth_5 rfl ?_
  refine g_if_lt (tgt := 17) dX11_nth_6 (by decide) (fun h_1 => ?_) (fun h_1 => ?_)
  · refine g_iconst (v := (-1)) dX11_nth_17 (by decide) ?_
    exact g_iret dX11_nth_18 rfl
  · refine g_aload_n 0 dX11_nth_9 rfl ?_
    refine g_iload_n 2 dX11_nth_10 rfl ?_
    refine g_cVp (ci := 11) (C0 := RX11) (T := TX11) (N := 17) (n := 1) (As := [.int a2]) (rest := []) hF (tX11_isGuest hG hF hM a2 S_1) gX11_nth_X11_isGuest rfl (hM 77 (by decide)) rfl rfl ⟨rfl, by decide +kernel, by decide +kernel, by decide +kernel⟩ rfl (gRm_ok (by decide) (by decide)) rfl (Nat.le_of_ble_eq_true rfl) dX11_nth_11 (fun v_2 => ?_)
    refine g_if_ne (tgt := 19) dX11_nth_14 (by decide) (fun h_2 => ?_) (fun h_2 => ?_)
    · refine g_aload_n 0 dX11_nth_19 rfl ?_
      refine g_iload_n 1 dX11_nth_20 rfl ?_
      refine g_cVi (ci := 11) (C0 := RX11) (T := TX11) (N := 17) (n := 1) (As := [.int a1]) (rest := []) hF (tX11_finds hG hF hM a1 S_1) gX11_nth_X11_finds rfl (hM 77 (by decide)) rfl rfl ⟨rfl, by decide +kernel, by decide +kernel, by decide +kernel⟩ rfl (gRm_ok (by decide) (by decide)) rfl (Nat.le_of_ble_eq_true rfl) dX11_nth_21 (fun v_3 S_4 => ?_)
      refine g_if_eq (tgt := 36) dX11_nth_24 (by decide) (fun h_3 => ?_) (fun h_3 => ?_)
      · refine g_bipush (v := (-5)) dX11_nth_36 (by decide) ?_
        exact g_iret dX11_nth_38 rfl
      · refine g_aload_n 0 dX11_nth_27 rfl ?_
        refine g_getK (ci := 11) (k0 := 13) (C0 := RX11) (T := TX11) (N := 17) (hM 77 (by decide)) rfl rfl hiX11_nth_11 (by decide) (List.mem_of_getElem? (i := 2) rfl) rfl dX11_nth_28 ?_
        refine g_iload_n 2 dX11_nth_31 rfl ?_
        refine g_iald hG (hM 83 (by decide)) rfl dX11_nth_32 ?_
        refine g_goto (tgt := 38) dX11_nth_33 (by decide) ?_
        exact g_iret dX11_nth_38 rfl
    · refine g_iconst (v := (-1)) dX11_nth_17 (by decide) ?_
      exact g_iret dX11_nth_18 rfl
set_option maxRecDepth 100000 in
set_option maxHeartbeats 4000000 in
theorem tX11_nth {G : gGG} {F : State → Heap → Prop} (hG : gOK G) (hF : gSb G F) (hM : gPM G) (a1 : Int32) (a2 : Int32) (S : gSt) : gCt G F yX11_nth wsX11_nth 4 [.ref (gad G 77), .int a1, .int a2] S ((fX11_nth a1 a2 S).map (fun x => (some (.int x.1), x.2))) := g_met (by decide +kernel) rfl (Nat.le_of_ble_eq_true rfl) (tX11_nth_L hG hF hM a1 a2 S)
/-! X11_draws -/
theorem hiX11_draws_11 : ∀ w ∈ u_ws RX11 TX11 17, w ∈ wsX11_draws := fun _ hw => List.mem_cons_of_mem _ (List.mem_append_right _ (hw))
set_option maxRecDepth 100000 in
set_option maxHeartbeats 4000000 in
theorem tX11_draws_L {G : gGG} {F : State → Heap → Prop} (hG : gOK G) (hF : gSb G F) (hM : gPM G) (a1 : Int32) (S : gSt) : Gof G F RX11 cX11_draws 2 wsX11_draws (some .int) (gRm 0) 0 0 (gQ G (fun x => (some (.int x.1), x.2))) 0 [(0, .ref (gad G 77)), (1, .int a1)] [] S (fX11_draws a1 S) := by
  unfold fX11_draws
  refine g_aload_n 0 dX11_draws_0 rfl ?_
  refine g_getK (ci := 11) (k0 := 10) (C0 := RX11) (T := TX11) (N := 17) (hM 77 (by decide)) rfl rfl hiX11_draws_11 (by decide) (List.mem_of_getElem? (i := 1) rfl) rfl dX11_draws_1 ?_
  refine g_bipush (v := 39) dX11_draws_4 (by decide) ?_
  refine g_aload_n 0 dX11_draws_6 rfl ?_
  refine g_getK (ci := 11) (k0 := 10) (C0 := RX11) (T := TX11) (N := 17) (hM 77 (by decide)) rfl rfl hiX11_draws_11 (by decide) (List.mem_of_getElem? (i := 1) rfl) rfl dX11_draws_7 ?_
  refine g_bipush (v := 39) dX11_draws_10 (by decide) ?_
  refine g_iald hG (hM 80 (by decide)) rfl dX11_draws_12 ?_
  refine g_ldc (List.mem_of_getElem? (i := 2) rfl) dX11_draws_13 ?_
  refine g_imul dX11_draws_15 ?_
  refine g_sipush (v := 12345) dX11_draws_16 (by decide) ?_
  refine g_iadd dX11_draws_19 ?_
  refine g_iast hG (hM 80 (by decide)) rfl dX11_draws_20 ?_
  refine g_nS (fun S_1 => ?_)
  refine g_aload_n 0 dX11_draws_21 rfl ?_
  refine g_getK (ci := 11) (k0 := 10) (C0 := RX11) (T := TX11) (N := 17) (hM 77 (by decide)) rfl rfl hiX11_draws_11 (by decide) (List.mem_of_getElem? (i := 1) rfl) rfl dX11_draws_22 ?_
  refine g_bipush (v := 39) dX11_draws_25 (by decide) ?_
  refine g_iald hG (hM 80 (by decide)) rfl dX11_draws_27 ?_
  refine g_bipush (v := 16) dX11_draws_28 (by decide) ?_
  refine g_ishr dX11_draws_30 ?_
  refine g_ldc (List.mem_of_getElem? (i := 3) rfl) dX11_draws_31 ?_
  refine g_iand dX11_draws_33 ?_
  refine g_iload_n 1 dX11_draws_34 rfl ?_
  refine g_irem dX11_draws_35 ?_
  exact g_iret dX11_draws_36 rfl
set_option maxRecDepth 100000 in
set_option maxHeartbeats 4000000 in
theorem tX11_draws {G : gGG} {F : State → Heap → Prop} (hG : gOK G) (hF : gSb G F) (hM : gPM G) (a1 : Int32) (S : gSt) : gCt G F yX11_draws wsX11_draws 0 [.ref (gad G 77), .int a1] S ((fX11_draws a1 S).map (fun x => (some (.int x.1), x.2))) := g_met (by decide +kernel) rfl (Nat.le_of_ble_eq_true rfl) (tX11_draws_L hG hF hM a1 S)
/-! X11_draw -/
theorem hiX11_draw_11 : ∀ w ∈ u_ws RX11 TX11 17, w ∈ wsX11_draw := fun _ hw => List.mem_cons_of_mem _ (List.mem_append_right _ (hw))
set_option maxRecDepth 100000 in
set_option maxHeartbeats 4000000 in
theorem tX11_draw_L32 {G : gGG} {F : State → Heap → Prop} (hG : gOK G) (hF : gSb G F) (hM : gPM G) : ∀ (n : Nat) (x2 : Int32) (x3 : Int32) (S : gSt), Gof G F RX11 cX11_draw 4 wsX11_draw (some .int) (gRm 4) 0 0 (gQ G (fun x => (some (.int x.1), x.2))) 32 [(0, .ref (gad G 77)), (2, .int x2), (3, .int x3)] [] S (fX11_draw_L32 n x2 x3 S) := by
  intro n
  induction n with
  | zero => intro x2 x3 S; exact g_none
  | succ n ih =>
    intro x2 x3 S
    unfold fX11_draw_L32
    refine g_iload_n 2 dX11_draw_32 rfl ?_
    refine g_aload_n 0 dX11_draw_33 rfl ?_
    refine g_cVp (ci := 11) (C0 := RX11) (T := TX11) (N := 17) (n := 0) (As := []) (rest := [.int x3]) hF (tX11_guests hG hF hM S) gX11_draw_X11_guests rfl (hM 77 (by decide)) rfl rfl ⟨rfl, by decide +kernel, by decide +kernel, by decide +kernel⟩ rfl (gRm_ok (by decide) (by decide)) rfl (Nat.le_of_ble_eq_true rfl) dX11_draw_34 (fun v_1 => ?_)
    refine g_icmp_ge (tgt := 58) dX11_draw_37 (by decide) (fun h_1 => ?_) (fun h_1 => ?_)
    · refine g_iload_n 1 dX11_draw_58 rfl ?_
      exact g_iret dX11_draw_59 rfl
    · refine g_aload_n 0 dX11_draw_40 rfl ?_
      refine g_getK (ci := 11) (k0 := 10) (C0 := RX11) (T := TX11) (N := 17) (hM 77 (by decide)) rfl rfl hiX11_draw_11 (by decide) (List.mem_of_getElem? (i := 2) rfl) rfl dX11_draw_41 ?_
      refine g_iload_n 2 dX11_draw_44 rfl ?_
      refine g_aload_n 0 dX11_draw_45 rfl ?_
      refine g_getK (ci := 11) (k0 := 13) (C0 := RX11) (T := TX11) (N := 17) (hM 77 (by decide)) rfl rfl hiX11_draw_11 (by decide) (List.mem_of_getElem? (i := 3) rfl) rfl dX11_draw_46 ?_
      refine g_iload_n 2 dX11_draw_49 rfl ?_
      refine g_iald hG (hM 83 (by decide)) rfl dX11_draw_50 ?_
      refine g_iast hG (hM 80 (by decide)) rfl dX11_draw_51 ?_
      refine g_nS (fun S_2 => ?_)
      refine g_iinc 2 (v := (x3 + 1)) (env' := [(3, .int (x3 + 1)), (0, .ref (gad G 77)), (2, .int x2)]) dX11_draw_52 rfl rfl (by decide) rfl ?_
      refine g_goto (tgt := 32) dX11_draw_55 (by decide) ?_
      refine g_env (env' := [(0, .ref (gad G 77)), (2, .int x2), (3, .int (x3 + 1))]) [1, 2, 0] rfl ?_
      exact ih x2 (x3 + 1) S_2
set_option maxRecDepth 100000 in
set_option maxHeartbeats 4000000 in
theorem tX11_draw_L {G : gGG} {F : State → Heap → Prop} (hG : gOK G) (hF : gSb G F) (hM : gPM G) (S : gSt) : Gof G F RX11 cX11_draw 4 wsX11_draw (some .int) (gRm 4) 0 0 (gQ G (fun x => (some (.int x.1), x.2))) 0 [(0, .ref (gad G 77))] [] S (fX11_draw S) := by
  unfold fX11_draw
  refine g_aload_n 0 dX11_draw_0 rfl ?_
  refine g_iconst (v := 0) dX11_draw_1 (by decide) ?_
  refine g_putI hG (ci := 11) (k0 := 0) (C0 := RX11) (T := TX11) (N := 17) (hM 77 (by decide)) rfl rfl hiX11_draw_11 (by decide) (List.mem_of_getElem? (i := 1) rfl) tyX11 tyX11_ok nmX11 rfl rfl rfl rfl dX11_draw_2 ?_
  refine g_nS (fun S_1 => ?_)
  refine g_aload_n 0 dX11_draw_5 rfl ?_
  refine g_iconst (v := 0) dX11_draw_6 (by decide) ?_
  refine g_cVi (ci := 11) (C0 := RX11) (T := TX11) (N := 17) (n := 1) (As := [.int 0]) (rest := []) hF (tX11_manyOf hG hF hM 0 S_1) gX11_draw_X11_manyOf rfl (hM 77 (by decide)) rfl rfl ⟨rfl, by decide +kernel, by decide +kernel, by decide +kernel⟩ rfl (gRm_ok (by decide) (by decide)) rfl (Nat.le_of_ble_eq_true rfl) dX11_draw_7 (fun v_2 S_3 => ?_)
  refine g_istore_n (i := 1) (env' := [(1, .int v_2), (0, .ref (gad G 77))]) dX11_draw_10 rfl (by decide) rfl ?_
  refine g_iload_n 0 dX11_draw_11 rfl ?_
  refine g_if_ne (tgt := 18) dX11_draw_12 (by decide) (fun h_1 => ?_) (fun h_1 => ?_)
  · refine g_aload_n 1 dX11_draw_18 rfl ?_
    refine g_iload_n 0 dX11_draw_19 rfl ?_
    refine g_cVi (ci := 11) (C0 := RX11) (T := TX11) (N := 17) (n := 1) (As := [.int v_2]) (rest := []) hF (tX11_draws hG hF hM v_2 S_3) gX11_draw_X11_draws rfl (hM 77 (by decide)) rfl rfl ⟨rfl, by decide +kernel, by decide +kernel, by decide +kernel⟩ rfl (gRm_ok (by decide) (by decide)) rfl (Nat.le_of_ble_eq_true rfl) dX11_draw_20 (fun v_4 S_5 => ?_)
    refine g_istore_n (i := 2) (env' := [(2, .int v_4), (1, .int v_2), (0, .ref (gad G 77))]) dX11_draw_23 rfl (by decide) rfl ?_
    refine g_aload_n 2 dX11_draw_24 rfl ?_
    refine g_iload_n 0 dX11_draw_25 rfl ?_
    refine g_cVi (ci := 11) (C0 := RX11) (T := TX11) (N := 17) (n := 1) (As := [.int v_4]) (rest := []) hF (tX11_finds hG hF hM v_4 S_5) gX11_draw_X11_finds rfl (hM 77 (by decide)) rfl rfl ⟨rfl, by decide +kernel, by decide +kernel, by decide +kernel⟩ rfl (gRm_ok (by decide) (by decide)) rfl (Nat.le_of_ble_eq_true rfl) dX11_draw_26 (fun v_6 S_7 => ?_)
    refine g_pop dX11_draw_29 rfl ?_
    refine g_iconst (v := 0) dX11_draw_30 (by decide) ?_
    refine g_istore_n (i := 3) (env' := [(3, .int 0), (2, .int v_4), (1, .int v_2), (0, .ref (gad G 77))]) dX11_draw_31 rfl (by decide) rfl ?_
    refine g_env (env' := [(0, .ref (gad G 77)), (2, .int v_4), (3, .int 0)]) [3, 1, 0] rfl ?_
    exact tX11_draw_L32 hG hF hM gFU v_4 0 S_7
  · refine g_bipush (v := (-2)) dX11_draw_15 (by decide) ?_
    exact g_iret dX11_draw_17 rfl
set_option maxRecDepth 100000 in
set_option maxHeartbeats 4000000 in
theorem tX11_draw {G : gGG} {F : State → Heap → Prop} (hG : gOK G) (hF : gSb G F) (hM : gPM G) (S : gSt) : gCt G F yX11_draw wsX11_draw 4 [.ref (gad G 77)] S ((fX11_draw S).map (fun x => (some (.int x.1), x.2))) := g_met (by decide +kernel) rfl (Nat.le_of_ble_eq_true rfl) (tX11_draw_L hG hF hM S)
/-! X11_lot -/
theorem hiX11_lot_11 : ∀ w ∈ u_ws RX11 TX11 17, w ∈ wsX11_lot := fun _ hw => List.mem_cons_of_mem _ (List.mem_append_right _ (hw))
set_option maxRecDepth 100000 in
set_option maxHeartbeats 4000000 in
theorem tX11_lot_L {G : gGG} {F : State → Heap → Prop} (hG : gOK G) (hF : gSb G F) (hM : gPM G) (a1 : Int32) (S : gSt) : Gof G F RX11 cX11_lot 3 wsX11_lot (some .int) (gRm 0) 0 0 (gQ G (fun x => (some (.int x.1), x.2))) 0 [(0, .ref (gad G 77)), (1, .int a1)] [] S (fX11_lot a1 S) := by
  unfold fX11_lot
  refine g_aload_n 0 dX11_lot_0 rfl ?_
  refine g_iconst (v := 0) dX11_lot_1 (by decide) ?_
  refine g_putI hG (ci := 11) (k0 := 0) (C0 := RX11) (T := TX11) (N := 17) (hM 77 (by decide)) rfl rfl hiX11_lot_11 (by decide) (List.mem_of_getElem? (i := 1) rfl) tyX11 tyX11_ok nmX11 rfl rfl rfl rfl dX11_lot_2 ?_
  refine g_nS (fun S_1 => ?_)
  refine g_aload_n 0 dX11_lot_5 rfl ?_
  refine g_getK (ci := 11) (k0 := 10) (C0 := RX11) (T := TX11) (N := 17) (hM 77 (by decide)) rfl rfl hiX11_lot_11 (by decide) (List.mem_of_getElem? (i := 2) rfl) rfl dX11_lot_6 ?_
  refine g_bipush (v := 39) dX11_lot_9 (by decide) ?_
  refine g_iald hG (hM 80 (by decide)) rfl dX11_lot_11 ?_
  refine g_nI (fun v_2 => ?_)
  refine g_istore_n (i := 2) (env' := [(2, .int v_2), (0, .ref (gad G 77)), (1, .int a1)]) dX11_lot_12 rfl (by decide) rfl ?_
  refine g_aload_n 1 dX11_lot_13 rfl ?_
  refine g_getK (ci := 11) (k0 := 10) (C0 := RX11) (T := TX11) (N := 17) (hM 77 (by decide)) rfl rfl hiX11_lot_11 (by decide) (List.mem_of_getElem? (i := 2) rfl) rfl dX11_lot_14 ?_
  refine g_bipush (v := 39) dX11_lot_17 (by decide) ?_
  refine g_iload_n 2 dX11_lot_19 rfl ?_
  refine g_iast hG (hM 80 (by decide)) rfl dX11_lot_20 ?_
  refine g_nS (fun S_3 => ?_)
  refine g_iload_n 0 dX11_lot_21 rfl ?_
  exact g_iret dX11_lot_22 rfl
set_option maxRecDepth 100000 in
set_option maxHeartbeats 4000000 in
theorem tX11_lot {G : gGG} {F : State → Heap → Prop} (hG : gOK G) (hF : gSb G F) (hM : gPM G) (a1 : Int32) (S : gSt) : gCt G F yX11_lot wsX11_lot 0 [.ref (gad G 77), .int a1] S ((fX11_lot a1 S).map (fun x => (some (.int x.1), x.2))) := g_met (by decide +kernel) rfl (Nat.le_of_ble_eq_true rfl) (tX11_lot_L hG hF hM a1 S)
/-! X11_saw -/
theorem hiX11_saw_11 : ∀ w ∈ u_ws RX11 TX11 17, w ∈ wsX11_saw := fun _ hw => List.mem_cons_of_mem _ (List.mem_append_right _ (hw))
set_option maxRecDepth 100000 in
set_option maxHeartbeats 4000000 in
theorem tX11_saw_L {G : gGG} {F : State → Heap → Prop} (hG : gOK G) (hF : gSb G F) (hM : gPM G) (a1 : Int32) (a2 : Int32) (a3 : Int32) (S : gSt) : Gof G F RX11 cX11_saw 4 wsX11_saw (some .int) (gRm 3) 0 0 (gQ G (fun x => (some (.int x.1), x.2))) 0 [(0, .ref (gad G 77)), (1, .int a1), (2, .int a2), (3, .int a3)] [] S (fX11_saw a1 a2 a3 S) := by
  unfold fX11_saw
  refine g_aload_n 0 dX11_saw_0 rfl ?_
  refine g_iconst (v := 0) dX11_saw_1 (by decide) ?_
  refine g_putI hG (ci := 11) (k0 := 0) (C0 := RX11) (T := TX11) (N := 17) (hM 77 (by decide)) rfl rfl hiX11_saw_11 (by decide) (List.mem_of_getElem? (i := 1) rfl) tyX11 tyX11_ok nmX11 rfl rfl rfl rfl dX11_saw_2 ?_
  refine g_nS (fun S_1 => ?_)
  refine g_aload_n 0 dX11_saw_5 rfl ?_
  refine g_iload_n 1 dX11_saw_6 rfl ?_
  refine g_iload_n 2 dX11_saw_7 rfl ?_
  refine g_cVp (ci := 11) (C0 := RX11) (T := TX11) (N := 17) (n := 2) (As := [.int a1, .int a2]) (rest := []) hF (tX11_areTwo hG hF hM a1 a2 S_1) gX11_saw_X11_areTwo rfl (hM 77 (by decide)) rfl rfl ⟨rfl, by decide +kernel, by decide +kernel, by decide +kernel⟩ rfl (gRm_ok (by decide) (by decide)) rfl (Nat.le_of_ble_eq_true rfl) dX11_saw_8 (fun v_2 => ?_)
  refine g_if_eq (tgt := 23) dX11_saw_11 (by decide) (fun h_1 => ?_) (fun h_1 => ?_)
  · refine g_iconst (v := (-1)) dX11_saw_23 (by decide) ?_
    exact g_iret dX11_saw_24 rfl
  · refine g_iload_n 3 dX11_saw_14 rfl ?_
    refine g_iconst (v := 0) dX11_saw_15 (by decide) ?_
    refine g_iconst (v := 1) dX11_saw_16 (by decide) ?_
    refine g_cSp (n := 3) (As := [.int a3, .int 0, .int 1]) (rest := []) hF (tX11_in hG hF hM a3 0 1 S_1) gX11_saw_X11_in rfl ⟨by decide +kernel, by decide +kernel, by decide +kernel⟩ rfl (gRm_ok (by decide) (by decide)) rfl (Nat.le_of_ble_eq_true rfl) dX11_saw_17 (fun v_3 => ?_)
    refine g_if_ne (tgt := 25) dX11_saw_20 (by decide) (fun h_2 => ?_) (fun h_2 => ?_)
    · refine g_aload_n 0 dX11_saw_25 rfl ?_
      refine g_getK (ci := 11) (k0 := 10) (C0 := RX11) (T := TX11) (N := 17) (hM 77 (by decide)) rfl rfl hiX11_saw_11 (by decide) (List.mem_of_getElem? (i := 2) rfl) rfl dX11_saw_26 ?_
      refine g_bipush (v := 8) dX11_saw_29 (by decide) ?_
      refine g_iald hG (hM 80 (by decide)) rfl dX11_saw_31 ?_
      refine g_bipush (v := 10) dX11_saw_32 (by decide) ?_
      refine g_icmp_ne (tgt := 40) dX11_saw_34 (by decide) (fun h_3 => ?_) (fun h_3 => ?_)
      · refine g_aload_n 0 dX11_saw_40 rfl ?_
        refine g_getK (ci := 11) (k0 := 10) (C0 := RX11) (T := TX11) (N := 17) (hM 77 (by decide)) rfl rfl hiX11_saw_11 (by decide) (List.mem_of_getElem? (i := 2) rfl) rfl dX11_saw_41 ?_
        refine g_bipush (v := 9) dX11_saw_44 (by decide) ?_
        refine g_iconst (v := 3) dX11_saw_46 (by decide) ?_
        refine g_aload_n 0 dX11_saw_47 rfl ?_
        refine g_getK (ci := 11) (k0 := 10) (C0 := RX11) (T := TX11) (N := 17) (hM 77 (by decide)) rfl rfl hiX11_saw_11 (by decide) (List.mem_of_getElem? (i := 2) rfl) rfl dX11_saw_48 ?_
        refine g_bipush (v := 8) dX11_saw_51 (by decide) ?_
        refine g_iald hG (hM 80 (by decide)) rfl dX11_saw_53 ?_
        refine g_imul dX11_saw_54 ?_
        refine g_iadd dX11_saw_55 ?_
        refine g_iload_n 1 dX11_saw_56 rfl ?_
        refine g_iast hG (hM 80 (by decide)) rfl dX11_saw_57 ?_
        refine g_nS (fun S_4 => ?_)
        refine g_aload_n 0 dX11_saw_58 rfl ?_
        refine g_getK (ci := 11) (k0 := 10) (C0 := RX11) (T := TX11) (N := 17) (hM 77 (by decide)) rfl rfl hiX11_saw_11 (by decide) (List.mem_of_getElem? (i := 2) rfl) rfl dX11_saw_59 ?_
        refine g_bipush (v := 9) dX11_saw_62 (by decide) ?_
        refine g_iconst (v := 3) dX11_saw_64 (by decide) ?_
        refine g_aload_n 0 dX11_saw_65 rfl ?_
        refine g_getK (ci := 11) (k0 := 10) (C0 := RX11) (T := TX11) (N := 17) (hM 77 (by decide)) rfl rfl hiX11_saw_11 (by decide) (List.mem_of_getElem? (i := 2) rfl) rfl dX11_saw_66 ?_
        refine g_bipush (v := 8) dX11_saw_69 (by decide) ?_
        refine g_iald hG (hM 80 (by decide)) rfl dX11_saw_71 ?_
        refine g_imul dX11_saw_72 ?_
        refine g_iadd dX11_saw_73 ?_
        refine g_iconst (v := 1) dX11_saw_74 (by decide) ?_
        refine g_iadd dX11_saw_75 ?_
        refine g_iload_n 2 dX11_saw_76 rfl ?_
        refine g_iast hG (hM 80 (by decide)) rfl dX11_saw_77 ?_
        refine g_nS (fun S_5 => ?_)
        refine g_aload_n 0 dX11_saw_78 rfl ?_
        refine g_getK (ci := 11) (k0 := 10) (C0 := RX11) (T := TX11) (N := 17) (hM 77 (by decide)) rfl rfl hiX11_saw_11 (by decide) (List.mem_of_getElem? (i := 2) rfl) rfl dX11_saw_79 ?_
        refine g_bipush (v := 9) dX11_saw_82 (by decide) ?_
        refine g_iconst (v := 3) dX11_saw_84 (by decide) ?_
        refine g_aload_n 0 dX11_saw_85 rfl ?_
        refine g_getK (ci := 11) (k0 := 10) (C0 := RX11) (T := TX11) (N := 17) (hM 77 (by decide)) rfl rfl hiX11_saw_11 (by decide) (List.mem_of_getElem? (i := 2) rfl) rfl dX11_saw_86 ?_
        refine g_bipush (v := 8) dX11_saw_89 (by decide) ?_
        refine g_iald hG (hM 80 (by decide)) rfl dX11_saw_91 ?_
        refine g_imul dX11_saw_92 ?_
        refine g_iadd dX11_saw_93 ?_
        refine g_iconst (v := 2) dX11_saw_94 (by decide) ?_
        refine g_iadd dX11_saw_95 ?_
        refine g_iload_n 3 dX11_saw_96 rfl ?_
        refine g_iast hG (hM 80 (by decide)) rfl dX11_saw_97 ?_
        refine g_nS (fun S_6 => ?_)
        refine g_aload_n 0 dX11_saw_98 rfl ?_
        refine g_getK (ci := 11) (k0 := 10) (C0 := RX11) (T := TX11) (N := 17) (hM 77 (by decide)) rfl rfl hiX11_saw_11 (by decide) (List.mem_of_getElem? (i := 2) rfl) rfl dX11_saw_99 ?_
        refine g_bipush (v := 8) dX11_saw_102 (by decide) ?_
        refine g_dup2 dX11_saw_104 rfl rfl ?_
        refine g_iald hG (hM 80 (by decide)) rfl dX11_saw_105 ?_
        refine g_iconst (v := 1) dX11_saw_106 (by decide) ?_
        refine g_iadd dX11_saw_107 ?_
        refine g_iast hG (hM 80 (by decide)) rfl dX11_saw_108 ?_
        refine g_nS (fun S_7 => ?_)
        refine g_aload_n 0 dX11_saw_109 rfl ?_
        refine g_getK (ci := 11) (k0 := 10) (C0 := RX11) (T := TX11) (N := 17) (hM 77 (by decide)) rfl rfl hiX11_saw_11 (by decide) (List.mem_of_getElem? (i := 2) rfl) rfl dX11_saw_110 ?_
        refine g_bipush (v := 8) dX11_saw_113 (by decide) ?_
        refine g_iald hG (hM 80 (by decide)) rfl dX11_saw_115 ?_
        exact g_iret dX11_saw_116 rfl
      · refine g_bipush (v := (-3)) dX11_saw_37 (by decide) ?_
        exact g_iret dX11_saw_39 rfl
    · refine g_iconst (v := (-1)) dX11_saw_23 (by decide) ?_
      exact g_iret dX11_saw_24 rfl
set_option maxRecDepth 100000 in
set_option maxHeartbeats 4000000 in
theorem tX11_saw {G : gGG} {F : State → Heap → Prop} (hG : gOK G) (hF : gSb G F) (hM : gPM G) (a1 : Int32) (a2 : Int32) (a3 : Int32) (S : gSt) : gCt G F yX11_saw wsX11_saw 3 [.ref (gad G 77), .int a1, .int a2, .int a3] S ((fX11_saw a1 a2 a3 S).map (fun x => (some (.int x.1), x.2))) := g_met (by decide +kernel) rfl (Nat.le_of_ble_eq_true rfl) (tX11_saw_L hG hF hM a1 a2 a3 S)
/-! X11_forget -/
theorem hiX11_forget_11 : ∀ w ∈ u_ws RX11 TX11 17, w ∈ wsX11_forget := fun _ hw => List.mem_cons_of_mem _ (List.mem_append_right _ (hw))
set_option maxRecDepth 100000 in
set_option maxHeartbeats 4000000 in
theorem tX11_forget_L {G : gGG} {F : State → Heap → Prop} (hG : gOK G) (hF : gSb G F) (hM : gPM G) (S : gSt) : Gof G F RX11 cX11_forget 2 wsX11_forget (some .int) (gRm 0) 0 0 (gQ G (fun x => (some (.int x.1), x.2))) 0 [(0, .ref (gad G 77))] [] S (fX11_forget S) := by
  unfold fX11_forget
  refine g_aload_n 0 dX11_forget_0 rfl ?_
  refine g_iconst (v := 0) dX11_forget_1 (by decide) ?_
  refine g_putI hG (ci := 11) (k0 := 0) (C0 := RX11) (T := TX11) (N := 17) (hM 77 (by decide)) rfl rfl hiX11_forget_11 (by decide) (List.mem_of_getElem? (i := 1) rfl) tyX11 tyX11_ok nmX11 rfl rfl rfl rfl dX11_forget_2 ?_
  refine g_nS (fun S_1 => ?_)
  refine g_aload_n 0 dX11_forget_5 rfl ?_
  refine g_getK (ci := 11) (k0 := 10) (C0 := RX11) (T := TX11) (N := 17) (hM 77 (by decide)) rfl rfl hiX11_forget_11 (by decide) (List.mem_of_getElem? (i := 2) rfl) rfl dX11_forget_6 ?_
  refine g_bipush (v := 8) dX11_forget_9 (by decide) ?_
  refine g_iald hG (hM 80 (by decide)) rfl dX11_forget_11 ?_
  refine g_nI (fun v_2 => ?_)
  refine g_istore_n (i := 1) (env' := [(1, .int v_2), (0, .ref (gad G 77))]) dX11_forget_12 rfl (by decide) rfl ?_
  refine g_aload_n 1 dX11_forget_13 rfl ?_
  refine g_getK (ci := 11) (k0 := 10) (C0 := RX11) (T := TX11) (N := 17) (hM 77 (by decide)) rfl rfl hiX11_forget_11 (by decide) (List.mem_of_getElem? (i := 2) rfl) rfl dX11_forget_14 ?_
  refine g_bipush (v := 8) dX11_forget_17 (by decide) ?_
  refine g_iconst (v := 0) dX11_forget_19 (by decide) ?_
  refine g_iast hG (hM 80 (by decide)) rfl dX11_forget_20 ?_
  refine g_nS (fun S_3 => ?_)
  refine g_iload_n 0 dX11_forget_21 rfl ?_
  exact g_iret dX11_forget_22 rfl
set_option maxRecDepth 100000 in
set_option maxHeartbeats 4000000 in
theorem tX11_forget {G : gGG} {F : State → Heap → Prop} (hG : gOK G) (hF : gSb G F) (hM : gPM G) (S : gSt) : gCt G F yX11_forget wsX11_forget 0 [.ref (gad G 77)] S ((fX11_forget S).map (fun x => (some (.int x.1), x.2))) := g_met (by decide +kernel) rfl (Nat.le_of_ble_eq_true rfl) (tX11_forget_L hG hF hM S)
/-! X11_fits -/
theorem hiX11_fits_11 : ∀ w ∈ u_ws RX11 TX11 17, w ∈ wsX11_fits := fun _ hw => List.mem_cons_of_mem _ (List.mem_append_right _ (hw))
set_option maxRecDepth 100000 in
set_option maxHeartbeats 4000000 in
theorem tX11_fits_L92 {G : gGG} {F : State → Heap → Prop} (hG : gOK G) (hF : gSb G F) (hM : gPM G) (S : gSt) (k11 : Int32 → Int32 → Option (Int32)) (hk11 : ∀ (x1 : Int32) (x2 : Int32), Gof G F RX11 cX11_fits 4 wsX11_fits (some .boolean) (gRm 3) 0 0 (gQ G (fun x => (some (.int x), S))) 11 [(0, .ref (gad G 77)), (1, .int x1), (2, .int x2)] [] S (k11 x1 x2)) (x2 : Int32) (s0 : Int32) (s1 : Int32) : Gof G F RX11 cX11_fits 4 wsX11_fits (some .boolean) (gRm 3) 0 0 (gQ G (fun x => (some (.int x), S))) 92 [(0, .ref (gad G 77)), (2, .int x2)] [.int s1, .int s0] S (fX11_fits_L92 k11 S x2 s0 s1) := by
  unfold fX11_fits_L92
  refine g_icmp_ne (tgt := 99) dX11_fits_92 (by decide) (fun h_1 => ?_) (fun h_1 => ?_)
  · refine g_iconst (v := 0) dX11_fits_99 (by decide) ?_
    refine g_istore_n (i := 1) (env' := [(1, .int 0), (0, .ref (gad G 77)), (2, .int x2)]) dX11_fits_100 rfl (by decide) rfl ?_
    refine g_iinc 2 (v := (x2 + 1)) (env' := [(2, .int (x2 + 1)), (1, .int 0), (0, .ref (gad G 77))]) dX11_fits_101 rfl rfl (by decide) rfl ?_
    refine g_goto (tgt := 11) dX11_fits_104 (by decide) ?_
    refine g_env (env' := [(0, .ref (gad G 77)), (1, .int 0), (2, .int (x2 + 1))]) [2, 1, 0] rfl ?_
    exact hk11 0 (x2 + 1)
  · refine g_iconst (v := 1) dX11_fits_95 (by decide) ?_
    refine g_goto (tgt := 100) dX11_fits_96 (by decide) ?_
    refine g_istore_n (i := 1) (env' := [(1, .int 1), (0, .ref (gad G 77)), (2, .int x2)]) dX11_fits_100 rfl (by decide) rfl ?_
    refine g_iinc 2 (v := (x2 + 1)) (env' := [(2, .int (x2 + 1)), (1, .int 1), (0, .ref (gad G 77))]) dX11_fits_101 rfl rfl (by decide) rfl ?_
    refine g_goto (tgt := 11) dX11_fits_104 (by decide) ?_
    refine g_env (env' := [(0, .ref (gad G 77)), (1, .int 1), (2, .int (x2 + 1))]) [2, 1, 0] rfl ?_
    exact hk11 1 (x2 + 1)
set_option maxRecDepth 100000 in
set_option maxHeartbeats 4000000 in
theorem tX11_fits_L64 {G : gGG} {F : State → Heap → Prop} (hG : gOK G) (hF : gSb G F) (hM : gPM G) (S : gSt) (k11 : Int32 → Int32 → Option (Int32)) (hk11 : ∀ (x1 : Int32) (x2 : Int32), Gof G F RX11 cX11_fits 4 wsX11_fits (some .boolean) (gRm 3) 0 0 (gQ G (fun x => (some (.int x), S))) 11 [(0, .ref (gad G 77)), (1, .int x1), (2, .int x2)] [] S (k11 x1 x2)) (x1 : Int32) (x2 : Int32) (s0 : Int32) : Gof G F RX11 cX11_fits 4 wsX11_fits (some .boolean) (gRm 3) 0 0 (gQ G (fun x => (some (.int x), S))) 64 [(0, .ref (gad G 77)), (1, .int x1), (2, .int x2)] [.int s0] S (fX11_fits_L64 k11 S x1 x2 s0) := by
  unfold fX11_fits_L64
  refine g_istore_n (i := 3) (env' := [(3, .int s0), (0, .ref (gad G 77)), (1, .int x1), (2, .int x2)]) dX11_fits_64 rfl (by decide) rfl ?_
  refine g_iload_n 2 dX11_fits_65 rfl ?_
  refine g_if_eq (tgt := 99) dX11_fits_66 (by decide) (fun h_1 => ?_) (fun h_1 => ?_)
  · refine g_iconst (v := 0) dX11_fits_99 (by decide) ?_
    refine g_istore_n (i := 1) (env' := [(1, .int 0), (3, .int s0), (0, .ref (gad G 77)), (2, .int x2)]) dX11_fits_100 rfl (by decide) rfl ?_
    refine g_iinc 3 (v := (x2 + 1)) (env' := [(2, .int (x2 + 1)), (1, .int 0), (3, .int s0), (0, .ref (gad G 77))]) dX11_fits_101 rfl rfl (by decide) rfl ?_
    refine g_goto (tgt := 11) dX11_fits_104 (by decide) ?_
    refine g_env (env' := [(0, .ref (gad G 77)), (1, .int 0), (2, .int (x2 + 1))]) [3, 1, 0] rfl ?_
    exact hk11 0 (x2 + 1)
  · refine g_iload_n 0 dX11_fits_69 rfl ?_
    refine g_aload_n 1 dX11_fits_70 rfl ?_
    refine g_getK (ci := 11) (k0 := 10) (C0 := RX11) (T := TX11) (N := 17) (hM 77 (by decide)) rfl rfl hiX11_fits_11 (by decide) (List.mem_of_getElem? (i := 2) rfl) rfl dX11_fits_71 ?_
    refine g_bipush (v := 9) dX11_fits_74 (by decide) ?_
    refine g_iconst (v := 3) dX11_fits_76 (by decide) ?_
    refine g_iload_n 3 dX11_fits_77 rfl ?_
    refine g_imul dX11_fits_78 ?_
    refine g_iadd dX11_fits_79 ?_
    refine g_iconst (v := 2) dX11_fits_80 (by decide) ?_
    refine g_iadd dX11_fits_81 ?_
    refine g_iald hG (hM 80 (by decide)) rfl dX11_fits_82 ?_
    refine g_iconst (v := 1) dX11_fits_83 (by decide) ?_
    refine g_icmp_ne (tgt := 91) dX11_fits_84 (by decide) (fun h_2 => ?_) (fun h_2 => ?_)
    · refine g_iconst (v := 0) dX11_fits_91 (by decide) ?_
      refine g_env (env' := [(0, .ref (gad G 77)), (2, .int x2)]) [1, 3] rfl ?_
      exact tX11_fits_L92 hG hF hM S k11 hk11 x2 s0 0
    · refine g_iconst (v := 1) dX11_fits_87 (by decide) ?_
      refine g_goto (tgt := 92) dX11_fits_88 (by decide) ?_
      refine g_env (env' := [(0, .ref (gad G 77)), (2, .int x2)]) [1, 3] rfl ?_
      exact tX11_fits_L92 hG hF hM S k11 hk11 x2 s0 1
set_option maxRecDepth 100000 in
set_option maxHeartbeats 4000000 in
theorem tX11_fits_L11 {G : gGG} {F : State → Heap → Prop} (hG : gOK G) (hF : gSb G F) (hM : gPM G) (S : gSt) : ∀ (n : Nat) (x1 : Int32) (x2 : Int32), Gof G F RX11 cX11_fits 4 wsX11_fits (some .boolean) (gRm 3) 0 0 (gQ G (fun x => (some (.int x), S))) 11 [(0, .ref (gad G 77)), (1, .int x1), (2, .int x2)] [] S (fX11_fits_L11 S n x1 x2) := by
  intro n
  induction n with
  | zero => intro x1 x2; exact g_none
  | succ n ih =>
    intro x1 x2
    unfold fX11_fits_L11
    refine g_iload_n 2 dX11_fits_11 rfl ?_
    refine g_aload_n 0 dX11_fits_12 rfl ?_
    refine g_getK (ci := 11) (k0 := 10) (C0 := RX11) (T := TX11) (N := 17) (hM 77 (by decide)) rfl rfl hiX11_fits_11 (by decide) (List.mem_of_getElem? (i := 2) rfl) rfl dX11_fits_13 ?_
    refine g_bipush (v := 8) dX11_fits_16 (by decide) ?_
    refine g_iald hG (hM 80 (by decide)) rfl dX11_fits_18 ?_
    refine g_icmp_ge (tgt := 107) dX11_fits_19 (by decide) (fun h_1 => ?_) (fun h_1 => ?_)
    · refine g_iload_n 1 dX11_fits_107 rfl ?_
      refine g_gC (fun h_2 => ?_)
      exact g_zret (gBo_nar h_2) dX11_fits_108 rfl
    · refine g_aload_n 0 dX11_fits_22 rfl ?_
      refine g_getK (ci := 11) (k0 := 13) (C0 := RX11) (T := TX11) (N := 17) (hM 77 (by decide)) rfl rfl hiX11_fits_11 (by decide) (List.mem_of_getElem? (i := 1) rfl) rfl dX11_fits_23 ?_
      refine g_aload_n 0 dX11_fits_26 rfl ?_
      refine g_getK (ci := 11) (k0 := 10) (C0 := RX11) (T := TX11) (N := 17) (hM 77 (by decide)) rfl rfl hiX11_fits_11 (by decide) (List.mem_of_getElem? (i := 2) rfl) rfl dX11_fits_27 ?_
      refine g_bipush (v := 9) dX11_fits_30 (by decide) ?_
      refine g_iconst (v := 3) dX11_fits_32 (by decide) ?_
      refine g_iload_n 2 dX11_fits_33 rfl ?_
      refine g_imul dX11_fits_34 ?_
      refine g_iadd dX11_fits_35 ?_
      refine g_iald hG (hM 80 (by decide)) rfl dX11_fits_36 ?_
      refine g_iald hG (hM 83 (by decide)) rfl dX11_fits_37 ?_
      refine g_aload_n 0 dX11_fits_38 rfl ?_
      refine g_getK (ci := 11) (k0 := 13) (C0 := RX11) (T := TX11) (N := 17) (hM 77 (by decide)) rfl rfl hiX11_fits_11 (by decide) (List.mem_of_getElem? (i := 1) rfl) rfl dX11_fits_39 ?_
      refine g_aload_n 0 dX11_fits_42 rfl ?_
      refine g_getK (ci := 11) (k0 := 10) (C0 := RX11) (T := TX11) (N := 17) (hM 77 (by decide)) rfl rfl hiX11_fits_11 (by decide) (List.mem_of_getElem? (i := 2) rfl) rfl dX11_fits_43 ?_
      refine g_bipush (v := 9) dX11_fits_46 (by decide) ?_
      refine g_iconst (v := 3) dX11_fits_48 (by decide) ?_
      refine g_iload_n 2 dX11_fits_49 rfl ?_
      refine g_imul dX11_fits_50 ?_
      refine g_iadd dX11_fits_51 ?_
      refine g_iconst (v := 1) dX11_fits_52 (by decide) ?_
      refine g_iadd dX11_fits_53 ?_
      refine g_iald hG (hM 80 (by decide)) rfl dX11_fits_54 ?_
      refine g_iald hG (hM 83 (by decide)) rfl dX11_fits_55 ?_
      refine g_icmp_ne (tgt := 63) dX11_fits_56 (by decide) (fun h_3 => ?_) (fun h_3 => ?_)
      · refine g_iconst (v := 0) dX11_fits_63 (by decide) ?_
        exact tX11_fits_L64 hG hF hM S (fX11_fits_L11 S n) ih x1 x2 0
      · refine g_iconst (v := 1) dX11_fits_59 (by decide) ?_
        refine g_goto (tgt := 64) dX11_fits_60 (by decide) ?_
        exact tX11_fits_L64 hG hF hM S (fX11_fits_L11 S n) ih x1 x2 1
set_option maxRecDepth 100000 in
set_option maxHeartbeats 4000000 in
theorem tX11_fits_L {G : gGG} {F : State → Heap → Prop} (hG : gOK G) (hF : gSb G F) (hM : gPM G) (S : gSt) : Gof G F RX11 cX11_fits 4 wsX11_fits (some .boolean) (gRm 3) 0 0 (gQ G (fun x => (some (.int x), S))) 0 [(0, .ref (gad G 77))] [] S (fX11_fits S) := by
  unfold fX11_fits
  refine g_aload_n 0 dX11_fits_0 rfl ?_
  refine g_aload_n 0 dX11_fits_1 rfl ?_
  refine g_getK (ci := 11) (k0 := 13) (C0 := RX11) (T := TX11) (N := 17) (hM 77 (by decide)) rfl rfl hiX11_fits_11 (by decide) (List.mem_of_getElem? (i := 1) rfl) rfl dX11_fits_2 ?_
  refine g_cVp (ci := 11) (C0 := RX11) (T := TX11) (N := 17) (n := 1) (As := [.ref (gad G 83)]) (rest := []) hF (tX11_isLawful hG hF hM (rfl : gArM 83 = true) S) gX11_fits_X11_isLawful rfl (hM 77 (by decide)) rfl rfl ⟨rfl, by decide +kernel, by decide +kernel, by decide +kernel⟩ rfl (gRm_ok (by decide) (by decide)) rfl (Nat.le_of_ble_eq_true rfl) dX11_fits_5 (fun v_1 => ?_)
  refine g_istore_n (i := 1) (env' := [(1, .int v_1), (0, .ref (gad G 77))]) dX11_fits_8 rfl (by decide) rfl ?_
  refine g_iconst (v := 0) dX11_fits_9 (by decide) ?_
  refine g_istore_n (i := 2) (env' := [(2, .int 0), (1, .int v_1), (0, .ref (gad G 77))]) dX11_fits_10 rfl (by decide) rfl ?_
  refine g_env (env' := [(0, .ref (gad G 77)), (1, .int v_1), (2, .int 0)]) [2, 1, 0] rfl ?_
  exact tX11_fits_L11 hG hF hM S gFU v_1 0
set_option maxRecDepth 100000 in
set_option maxHeartbeats 4000000 in
theorem tX11_fits {G : gGG} {F : State → Heap → Prop} (hG : gOK G) (hF : gSb G F) (hM : gPM G) (S : gSt) : gCt G F yX11_fits wsX11_fits 3 [.ref (gad G 77)] S ((fX11_fits S).map (fun x => (some (.int x), S))) := g_met (by decide +kernel) rfl (Nat.le_of_ble_eq_true rfl) (tX11_fits_L hG hF hM S)
/-! X11_leftWith -/
theorem hiX11_leftWith_11 : ∀ w ∈ u_ws RX11 TX11 17, w ∈ wsX11_leftWith := fun _ hw => List.mem_cons_of_mem _ (List.mem_append_right _ (hw))
set_option maxRecDepth 100000 in
set_option maxHeartbeats 4000000 in
theorem tX11_leftWith_L42 {G : gGG} {F : State → Heap → Prop} (hG : gOK G) (hF : gSb G F) (hM : gPM G) (k9 : Int32 → Int32 → Int32 → Int32 → gSt → Option (Int32 × gSt)) (hk9 : ∀ (x1 : Int32) (x2 : Int32) (x3 : Int32) (x4 : Int32) (S : gSt), Gof G F RX11 cX11_leftWith 5 wsX11_leftWith (some .int) (gRm 4) 0 0 (gQ G (fun x => (some (.int x.1), x.2))) 9 [(0, .ref (gad G 77)), (1, .int x1), (2, .int x2), (3, .int x3), (4, .int x4)] [] S (k9 x1 x2 x3 x4 S)) (x1 : Int32) (x2 : Int32) (s0 : Int32) (s1 : Int32) (S : gSt) : Gof G F RX11 cX11_leftWith 5 wsX11_leftWith (some .int) (gRm 4) 0 0 (gQ G (fun x => (some (.int x.1), x.2))) 42 [(0, .ref (gad G 77)), (1, .int x1), (2, .int x2)] [.int s1, .int s0] S (fX11_leftWith_L42 k9 x1 x2 s0 s1 S) := by
  unfold fX11_leftWith_L42
  refine g_iadd dX11_leftWith_42 ?_
  refine g_nI (fun v_1 => ?_)
  refine g_istore_n (i := 3) (env' := [(3, .int v_1), (0, .ref (gad G 77)), (1, .int x1), (2, .int x2)]) dX11_leftWith_43 rfl (by decide) rfl ?_
  refine g_aload_n 1 dX11_leftWith_44 rfl ?_
  refine g_cVi (ci := 11) (C0 := RX11) (T := TX11) (N := 17) (n := 0) (As := []) (rest := []) hF (tX11_nextRow hG hF hM S) gX11_leftWith_X11_nextRow rfl (hM 77 (by decide)) rfl rfl ⟨rfl, by decide +kernel, by decide +kernel, by decide +kernel⟩ rfl (gRm_ok (by decide) (by decide)) rfl (Nat.le_of_ble_eq_true rfl) dX11_leftWith_45 (fun v_2 S_3 => ?_)
  refine g_istore (i := 4) (env' := [(4, .int v_2), (3, .int v_1), (0, .ref (gad G 77)), (1, .int x1), (2, .int x2)]) dX11_leftWith_48 (by decide) rfl ?_
  refine g_goto (tgt := 9) dX11_leftWith_50 (by decide) ?_
  refine g_env (env' := [(0, .ref (gad G 77)), (1, .int x1), (2, .int x2), (3, .int v_1), (4, .int v_2)]) [2, 3, 4, 1, 0] rfl ?_
  exact hk9 x1 x2 v_1 v_2 S_3
set_option maxRecDepth 100000 in
set_option maxHeartbeats 4000000 in
theorem tX11_leftWith_L9 {G : gGG} {F : State → Heap → Prop} (hG : gOK G) (hF : gSb G F) (hM : gPM G) : ∀ (n : Nat) (x1 : Int32) (x2 : Int32) (x3 : Int32) (x4 : Int32) (S : gSt), Gof G F RX11 cX11_leftWith 5 wsX11_leftWith (some .int) (gRm 4) 0 0 (gQ G (fun x => (some (.int x.1), x.2))) 9 [(0, .ref (gad G 77)), (1, .int x1), (2, .int x2), (3, .int x3), (4, .int x4)] [] S (fX11_leftWith_L9 n x1 x2 x3 x4 S) := by
  intro n
  induction n with
  | zero => intro x1 x2 x3 x4 S; exact g_none
  | succ n ih =>
    intro x1 x2 x3 x4 S
    unfold fX11_leftWith_L9
    refine g_iload 4 dX11_leftWith_9 rfl ?_
    refine g_if_eq (tgt := 53) dX11_leftWith_11 (by decide) (fun h_1 => ?_) (fun h_1 => ?_)
    · refine g_iload_n 3 dX11_leftWith_53 rfl ?_
      exact g_iret dX11_leftWith_54 rfl
    · refine g_iload_n 3 dX11_leftWith_14 rfl ?_
      refine g_aload_n 0 dX11_leftWith_15 rfl ?_
      refine g_getK (ci := 11) (k0 := 13) (C0 := RX11) (T := TX11) (N := 17) (hM 77 (by decide)) rfl rfl hiX11_leftWith_11 (by decide) (List.mem_of_getElem? (i := 1) rfl) rfl dX11_leftWith_16 ?_
      refine g_iload_n 1 dX11_leftWith_19 rfl ?_
      refine g_iald hG (hM 83 (by decide)) rfl dX11_leftWith_20 ?_
      refine g_aload_n 0 dX11_leftWith_21 rfl ?_
      refine g_getK (ci := 11) (k0 := 13) (C0 := RX11) (T := TX11) (N := 17) (hM 77 (by decide)) rfl rfl hiX11_leftWith_11 (by decide) (List.mem_of_getElem? (i := 1) rfl) rfl dX11_leftWith_22 ?_
      refine g_iload_n 2 dX11_leftWith_25 rfl ?_
      refine g_iald hG (hM 83 (by decide)) rfl dX11_leftWith_26 ?_
      refine g_icmp_ne (tgt := 41) dX11_leftWith_27 (by decide) (fun h_2 => ?_) (fun h_2 => ?_)
      · refine g_iconst (v := 0) dX11_leftWith_41 (by decide) ?_
        refine g_env (env' := [(0, .ref (gad G 77)), (1, .int x1), (2, .int x2)]) [0, 1, 2] rfl ?_
        exact tX11_leftWith_L42 hG hF hM (fX11_leftWith_L9 n) ih x1 x2 x3 0 S
      · refine g_aload_n 0 dX11_leftWith_30 rfl ?_
        refine g_cVp (ci := 11) (C0 := RX11) (T := TX11) (N := 17) (n := 0) (As := []) (rest := [.int x3]) hF (tX11_fits hG hF hM S) gX11_leftWith_X11_fits rfl (hM 77 (by decide)) rfl rfl ⟨rfl, by decide +kernel, by decide +kernel, by decide +kernel⟩ rfl (gRm_ok (by decide) (by decide)) rfl (Nat.le_of_ble_eq_true rfl) dX11_leftWith_31 (fun v_1 => ?_)
        refine g_if_eq (tgt := 41) dX11_leftWith_34 (by decide) (fun h_3 => ?_) (fun h_3 => ?_)
        · refine g_iconst (v := 0) dX11_leftWith_41 (by decide) ?_
          refine g_env (env' := [(0, .ref (gad G 77)), (1, .int x1), (2, .int x2)]) [0, 1, 2] rfl ?_
          exact tX11_leftWith_L42 hG hF hM (fX11_leftWith_L9 n) ih x1 x2 x3 0 S
        · refine g_iconst (v := 1) dX11_leftWith_37 (by decide) ?_
          refine g_goto (tgt := 42) dX11_leftWith_38 (by decide) ?_
          refine g_env (env' := [(0, .ref (gad G 77)), (1, .int x1), (2, .int x2)]) [0, 1, 2] rfl ?_
          exact tX11_leftWith_L42 hG hF hM (fX11_leftWith_L9 n) ih x1 x2 x3 1 S
set_option maxRecDepth 100000 in
set_option maxHeartbeats 4000000 in
theorem tX11_leftWith_L {G : gGG} {F : State → Heap → Prop} (hG : gOK G) (hF : gSb G F) (hM : gPM G) (a1 : Int32) (a2 : Int32) (S : gSt) : Gof G F RX11 cX11_leftWith 5 wsX11_leftWith (some .int) (gRm 4) 0 0 (gQ G (fun x => (some (.int x.1), x.2))) 0 [(0, .ref (gad G 77)), (1, .int a1), (2, .int a2)] [] S (fX11_leftWith a1 a2 S) := by
  unfold fX11_leftWith
  refine g_iconst (v := 0) dX11_leftWith_0 (by decide) ?_
  refine g_istore_n (i := 3) (env' := [(3, .int 0), (0, .ref (gad G 77)), (1, .int a1), (2, .int a2)]) dX11_leftWith_1 rfl (by decide) rfl ?_
  refine g_aload_n 1 dX11_leftWith_2 rfl ?_
  refine g_cVv (ci := 11) (C0 := RX11) (T := TX11) (N := 17) (n := 0) (As := []) (rest := []) hF (tX11_firstRow hG hF hM S) gX11_leftWith_X11_firstRow rfl (hM 77 (by decide)) rfl rfl ⟨rfl, by decide +kernel, by decide +kernel, by decide +kernel⟩ rfl (gRm_ok (by decide) (by decide)) rfl (Nat.le_of_ble_eq_true rfl) dX11_leftWith_3 (fun S_1 => ?_)
  refine g_iconst (v := 1) dX11_leftWith_6 (by decide) ?_
  refine g_istore (i := 4) (env' := [(4, .int 1), (3, .int 0), (0, .ref (gad G 77)), (1, .int a1), (2, .int a2)]) dX11_leftWith_7 (by decide) rfl ?_
  refine g_env (env' := [(0, .ref (gad G 77)), (1, .int a1), (2, .int a2), (3, .int 0), (4, .int 1)]) [2, 3, 4, 1, 0] rfl ?_
  exact tX11_leftWith_L9 hG hF hM gFU a1 a2 0 1 S_1
set_option maxRecDepth 100000 in
set_option maxHeartbeats 4000000 in
theorem tX11_leftWith {G : gGG} {F : State → Heap → Prop} (hG : gOK G) (hF : gSb G F) (hM : gPM G) (a1 : Int32) (a2 : Int32) (S : gSt) : gCt G F yX11_leftWith wsX11_leftWith 4 [.ref (gad G 77), .int a1, .int a2] S ((fX11_leftWith a1 a2 S).map (fun x => (some (.int x.1), x.2))) := g_met (by decide +kernel) rfl (Nat.le_of_ble_eq_true rfl) (tX11_leftWith_L hG hF hM a1 a2 S)
/-! X11_left -/
theorem hiX11_left_11 : ∀ w ∈ u_ws RX11 TX11 17, w ∈ wsX11_left := fun _ hw => List.mem_cons_of_mem _ (List.mem_append_right _ (hw))
set_option maxRecDepth 100000 in
set_option maxHeartbeats 4000000 in
theorem tX11_left_L {G : gGG} {F : State → Heap → Prop} (hG : gOK G) (hF : gSb G F) (hM : gPM G) (S : gSt) : Gof G F RX11 cX11_left 1 wsX11_left (some .int) (gRm 5) 0 0 (gQ G (fun x => (some (.int x.1), x.2))) 0 [(0, .ref (gad G 77))] [] S (fX11_left S) := by
  unfold fX11_left
  refine g_aload_n 0 dX11_left_0 rfl ?_
  refine g_iconst (v := 0) dX11_left_1 (by decide) ?_
  refine g_putI hG (ci := 11) (k0 := 0) (C0 := RX11) (T := TX11) (N := 17) (hM 77 (by decide)) rfl rfl hiX11_left_11 (by decide) (List.mem_of_getElem? (i := 1) rfl) tyX11 tyX11_ok nmX11 rfl rfl rfl rfl dX11_left_2 ?_
  refine g_nS (fun S_1 => ?_)
  refine g_aload_n 0 dX11_left_5 rfl ?_
  refine g_iconst (v := 0) dX11_left_6 (by decide) ?_
  refine g_iconst (v := 0) dX11_left_7 (by decide) ?_
  refine g_cVi (ci := 11) (C0 := RX11) (T := TX11) (N := 17) (n := 2) (As := [.int 0, .int 0]) (rest := []) hF (tX11_leftWith hG hF hM 0 0 S_1) gX11_left_X11_leftWith rfl (hM 77 (by decide)) rfl rfl ⟨rfl, by decide +kernel, by decide +kernel, by decide +kernel⟩ rfl (gRm_ok (by decide) (by decide)) rfl (Nat.le_of_ble_eq_true rfl) dX11_left_8 (fun v_2 S_3 => ?_)
  exact g_iret dX11_left_11 rfl
set_option maxRecDepth 100000 in
set_option maxHeartbeats 4000000 in
theorem tX11_left {G : gGG} {F : State → Heap → Prop} (hG : gOK G) (hF : gSb G F) (hM : gPM G) (S : gSt) : gCt G F yX11_left wsX11_left 5 [.ref (gad G 77)] S ((fX11_left S).map (fun x => (some (.int x.1), x.2))) := g_met (by decide +kernel) rfl (Nat.le_of_ble_eq_true rfl) (tX11_left_L hG hF hM S)
/-! X11_sure -/
theorem hiX11_sure_11 : ∀ w ∈ u_ws RX11 TX11 17, w ∈ wsX11_sure := fun _ hw => List.mem_cons_of_mem _ (List.mem_append_right _ (hw))
set_option maxRecDepth 100000 in
set_option maxHeartbeats 4000000 in
theorem tX11_sure_L {G : gGG} {F : State → Heap → Prop} (hG : gOK G) (hF : gSb G F) (hM : gPM G) (a1 : Int32) (a2 : Int32) (S : gSt) : Gof G F RX11 cX11_sure 5 wsX11_sure (some .int) (gRm 5) 0 0 (gQ G (fun x => (some (.int x.1), x.2))) 0 [(0, .ref (gad G 77)), (1, .int a1), (2, .int a2)] [] S (fX11_sure a1 a2 S) := by
  unfold fX11_sure
  refine g_aload_n 0 dX11_sure_0 rfl ?_
  refine g_iconst (v := 0) dX11_sure_1 (by decide) ?_
  refine g_putI hG (ci := 11) (k0 := 0) (C0 := RX11) (T := TX11) (N := 17) (hM 77 (by decide)) rfl rfl hiX11_sure_11 (by decide) (List.mem_of_getElem? (i := 1) rfl) tyX11 tyX11_ok nmX11 rfl rfl rfl rfl dX11_sure_2 ?_
  refine g_nS (fun S_1 => ?_)
  refine g_aload_n 0 dX11_sure_5 rfl ?_
  refine g_iload_n 1 dX11_sure_6 rfl ?_
  refine g_iload_n 2 dX11_sure_7 rfl ?_
  refine g_cVp (ci := 11) (C0 := RX11) (T := TX11) (N := 17) (n := 2) (As := [.int a1, .int a2]) (rest := []) hF (tX11_areTwo hG hF hM a1 a2 S_1) gX11_sure_X11_areTwo rfl (hM 77 (by decide)) rfl rfl ⟨rfl, by decide +kernel, by decide +kernel, by decide +kernel⟩ rfl (gRm_ok (by decide) (by decide)) rfl (Nat.le_of_ble_eq_true rfl) dX11_sure_8 (fun v_2 => ?_)
  refine g_if_ne (tgt := 16) dX11_sure_11 (by decide) (fun h_1 => ?_) (fun h_1 => ?_)
  · refine g_aload_n 0 dX11_sure_16 rfl ?_
    refine g_iconst (v := 0) dX11_sure_17 (by decide) ?_
    refine g_iconst (v := 0) dX11_sure_18 (by decide) ?_
    refine g_cVi (ci := 11) (C0 := RX11) (T := TX11) (N := 17) (n := 2) (As := [.int 0, .int 0]) (rest := []) hF (tX11_leftWith hG hF hM 0 0 S_1) gX11_sure_X11_leftWith rfl (hM 77 (by decide)) rfl rfl ⟨rfl, by decide +kernel, by decide +kernel, by decide +kernel⟩ rfl (gRm_ok (by decide) (by decide)) rfl (Nat.le_of_ble_eq_true rfl) dX11_sure_19 (fun v_3 S_4 => ?_)
    refine g_istore_n (i := 3) (env' := [(3, .int v_3), (0, .ref (gad G 77)), (1, .int a1), (2, .int a2)]) dX11_sure_22 rfl (by decide) rfl ?_
    refine g_aload_n 1 dX11_sure_23 rfl ?_
    refine g_iload_n 2 dX11_sure_24 rfl ?_
    refine g_iload_n 3 dX11_sure_25 rfl ?_
    refine g_cVi (ci := 11) (C0 := RX11) (T := TX11) (N := 17) (n := 2) (As := [.int a1, .int a2]) (rest := []) hF (tX11_leftWith hG hF hM a1 a2 S_4) gX11_sure_X11_leftWith rfl (hM 77 (by decide)) rfl rfl ⟨rfl, by decide +kernel, by decide +kernel, by decide +kernel⟩ rfl (gRm_ok (by decide) (by decide)) rfl (Nat.le_of_ble_eq_true rfl) dX11_sure_26 (fun v_5 S_6 => ?_)
    refine g_istore (i := 4) (env' := [(4, .int v_5), (3, .int v_3), (0, .ref (gad G 77)), (1, .int a1), (2, .int a2)]) dX11_sure_29 (by decide) rfl ?_
    refine g_iload_n 1 dX11_sure_31 rfl ?_
    refine g_if_ne (tgt := 40) dX11_sure_32 (by decide) (fun h_2 => ?_) (fun h_2 => ?_)
    · refine g_iload 0 dX11_sure_40 rfl ?_
      refine g_iload_n 1 dX11_sure_42 rfl ?_
      refine g_icmp_ne (tgt := 50) dX11_sure_43 (by decide) (fun h_3 => ?_) (fun h_3 => ?_)
      · refine g_iload 0 dX11_sure_50 rfl ?_
        refine g_if_ne (tgt := 59) dX11_sure_52 (by decide) (fun h_4 => ?_) (fun h_4 => ?_)
        · refine g_bipush (v := (-9)) dX11_sure_59 (by decide) ?_
          exact g_iret dX11_sure_61 rfl
        · refine g_iconst (v := 0) dX11_sure_55 (by decide) ?_
          refine g_goto (tgt := 61) dX11_sure_56 (by decide) ?_
          exact g_iret dX11_sure_61 rfl
      · refine g_iconst (v := 1) dX11_sure_46 (by decide) ?_
        refine g_goto (tgt := 61) dX11_sure_47 (by decide) ?_
        exact g_iret dX11_sure_61 rfl
    · refine g_bipush (v := (-9)) dX11_sure_35 (by decide) ?_
      refine g_goto (tgt := 61) dX11_sure_37 (by decide) ?_
      exact g_iret dX11_sure_61 rfl
  · refine g_iconst (v := (-1)) dX11_sure_14 (by decide) ?_
    exact g_iret dX11_sure_15 rfl
set_option maxRecDepth 100000 in
set_option maxHeartbeats 4000000 in
theorem tX11_sure {G : gGG} {F : State → Heap → Prop} (hG : gOK G) (hF : gSb G F) (hM : gPM G) (a1 : Int32) (a2 : Int32) (S : gSt) : gCt G F yX11_sure wsX11_sure 5 [.ref (gad G 77), .int a1, .int a2] S ((fX11_sure a1 a2 S).map (fun x => (some (.int x.1), x.2))) := g_met (by decide +kernel) rfl (Nat.le_of_ble_eq_true rfl) (tX11_sure_L hG hF hM a1 a2 S)
/-! X11_isImage -/
set_option maxRecDepth 100000 in
set_option maxHeartbeats 4000000 in
theorem tX11_isImage_L {G : gGG} {F : State → Heap → Prop} (hG : gOK G) (hF : gSb G F) (hM : gPM G) (a0 : Int32) (S : gSt) : Gof G F RX11 cX11_isImage 1 wsX11_isImage (some .boolean) (gRm 1) 0 0 (gQ G (fun x => (some (.int x), S))) 0 [(0, .int a0)] [] S (fX11_isImage a0 S) := by
  unfold fX11_isImage
  refine g_iload_n 0 dX11_isImage_0 rfl ?_
  refine g_iconst (v := 0) dX11_isImage_1 (by decide) ?_
  refine g_iconst (v := 1) dX11_isImage_2 (by decide) ?_
  refine g_cSp (n := 3) (As := [.int a0, .int 0, .int 1]) (rest := []) hF (tX11_in hG hF hM a0 0 1 S) gX11_isImage_X11_in rfl ⟨by decide +kernel, by decide +kernel, by decide +kernel⟩ rfl (gRm_ok (by decide) (by decide)) rfl (Nat.le_of_ble_eq_true rfl) dX11_isImage_3 (fun v_1 => ?_)
  refine g_gC (fun h_1 => ?_)
  exact g_zret (gBo_nar h_1) dX11_isImage_6 rfl
set_option maxRecDepth 100000 in
set_option maxHeartbeats 4000000 in
theorem tX11_isImage {G : gGG} {F : State → Heap → Prop} (hG : gOK G) (hF : gSb G F) (hM : gPM G) (a0 : Int32) (S : gSt) : gCt G F yX11_isImage wsX11_isImage 1 [.int a0] S ((fX11_isImage a0 S).map (fun x => (some (.int x), S))) := g_met (by decide +kernel) rfl (Nat.le_of_ble_eq_true rfl) (tX11_isImage_L hG hF hM a0 S)
/-! X11_finer -/
theorem hiX11_finer_11 : ∀ w ∈ u_ws RX11 TX11 17, w ∈ wsX11_finer := fun _ hw => List.mem_cons_of_mem _ (List.mem_append_right _ (hw))
set_option maxRecDepth 100000 in
set_option maxHeartbeats 4000000 in
theorem tX11_finer_L2 {G : gGG} {F : State → Heap → Prop} (hG : gOK G) (hF : gSb G F) (hM : gPM G) : ∀ (n : Nat) (x1 : Int32) (x2 : Int32) (S : gSt), Gof G F RX11 cX11_finer 3 wsX11_finer none (gRm 2) 0 0 (gQ G (fun x => (none, x))) 2 [(0, .ref (gad G 77)), (1, .int x1), (2, .int x2)] [] S (fX11_finer_L2 n x1 x2 S) := by
  intro n
  induction n with
  | zero => intro x1 x2 S; exact g_none
  | succ n ih =>
    intro x1 x2 S
    unfold fX11_finer_L2
    refine g_iload_n 2 dX11_finer_2 rfl ?_
    refine g_aload_n 0 dX11_finer_3 rfl ?_
    refine g_cVp (ci := 11) (C0 := RX11) (T := TX11) (N := 17) (n := 0) (As := []) (rest := [.int x2]) hF (tX11_guests hG hF hM S) gX11_finer_X11_guests rfl (hM 77 (by decide)) rfl rfl ⟨rfl, by decide +kernel, by decide +kernel, by decide +kernel⟩ rfl (gRm_ok (by decide) (by decide)) rfl (Nat.le_of_ble_eq_true rfl) dX11_finer_4 (fun v_1 => ?_)
    refine g_icmp_ge (tgt := 43) dX11_finer_7 (by decide) (fun h_1 => ?_) (fun h_1 => ?_)
    · refine g_aload_n 0 dX11_finer_43 rfl ?_
      refine g_aload_n 0 dX11_finer_44 rfl ?_
      refine g_getK (ci := 11) (k0 := 13) (C0 := RX11) (T := TX11) (N := 17) (hM 77 (by decide)) rfl rfl hiX11_finer_11 (by decide) (List.mem_of_getElem? (i := 1) rfl) rfl dX11_finer_45 ?_
      refine g_cVv (ci := 11) (C0 := RX11) (T := TX11) (N := 17) (n := 1) (As := [.ref (gad G 83)]) (rest := []) hF (tX11_numbers hG hF hM (rfl : gArM 83 = true) S) gX11_finer_X11_numbers rfl (hM 77 (by decide)) rfl rfl ⟨rfl, by decide +kernel, by decide +kernel, by decide +kernel⟩ rfl (gRm_ok (by decide) (by decide)) rfl (Nat.le_of_ble_eq_true rfl) dX11_finer_48 (fun S_2 => ?_)
      exact g_vret dX11_finer_51 rfl
    · refine g_aload_n 0 dX11_finer_10 rfl ?_
      refine g_getK (ci := 11) (k0 := 13) (C0 := RX11) (T := TX11) (N := 17) (hM 77 (by decide)) rfl rfl hiX11_finer_11 (by decide) (List.mem_of_getElem? (i := 1) rfl) rfl dX11_finer_11 ?_
      refine g_iload_n 2 dX11_finer_14 rfl ?_
      refine g_bipush (v := 8) dX11_finer_15 (by decide) ?_
      refine g_aload_n 0 dX11_finer_17 rfl ?_
      refine g_getK (ci := 11) (k0 := 10) (C0 := RX11) (T := TX11) (N := 17) (hM 77 (by decide)) rfl rfl hiX11_finer_11 (by decide) (List.mem_of_getElem? (i := 2) rfl) rfl dX11_finer_18 ?_
      refine g_iload_n 2 dX11_finer_21 rfl ?_
      refine g_iald hG (hM 80 (by decide)) rfl dX11_finer_22 ?_
      refine g_imul dX11_finer_23 ?_
      refine g_aload_n 0 dX11_finer_24 rfl ?_
      refine g_getK (ci := 11) (k0 := 11) (C0 := RX11) (T := TX11) (N := 17) (hM 77 (by decide)) rfl rfl hiX11_finer_11 (by decide) (List.mem_of_getElem? (i := 3) rfl) rfl dX11_finer_25 ?_
      refine g_bipush (v := 40) dX11_finer_28 (by decide) ?_
      refine g_iload_n 1 dX11_finer_30 rfl ?_
      refine g_imul dX11_finer_31 ?_
      refine g_iload_n 2 dX11_finer_32 rfl ?_
      refine g_iadd dX11_finer_33 ?_
      refine g_iald hG (hM 81 (by decide)) rfl dX11_finer_34 ?_
      refine g_iadd dX11_finer_35 ?_
      refine g_iast hG (hM 83 (by decide)) rfl dX11_finer_36 ?_
      refine g_nS (fun S_3 => ?_)
      refine g_iinc 2 (v := (x2 + 1)) (env' := [(2, .int (x2 + 1)), (0, .ref (gad G 77)), (1, .int x1)]) dX11_finer_37 rfl rfl (by decide) rfl ?_
      refine g_goto (tgt := 2) dX11_finer_40 (by decide) ?_
      refine g_env (env' := [(0, .ref (gad G 77)), (1, .int x1), (2, .int (x2 + 1))]) [1, 2, 0] rfl ?_
      exact ih x1 (x2 + 1) S_3
set_option maxRecDepth 100000 in
set_option maxHeartbeats 4000000 in
theorem tX11_finer_L {G : gGG} {F : State → Heap → Prop} (hG : gOK G) (hF : gSb G F) (hM : gPM G) (a1 : Int32) (S : gSt) : Gof G F RX11 cX11_finer 3 wsX11_finer none (gRm 2) 0 0 (gQ G (fun x => (none, x))) 0 [(0, .ref (gad G 77)), (1, .int a1)] [] S (fX11_finer a1 S) := by
  unfold fX11_finer
  refine g_iconst (v := 0) dX11_finer_0 (by decide) ?_
  refine g_istore_n (i := 2) (env' := [(2, .int 0), (0, .ref (gad G 77)), (1, .int a1)]) dX11_finer_1 rfl (by decide) rfl ?_
  refine g_env (env' := [(0, .ref (gad G 77)), (1, .int a1), (2, .int 0)]) [1, 2, 0] rfl ?_
  exact tX11_finer_L2 hG hF hM gFU a1 0 S
set_option maxRecDepth 100000 in
set_option maxHeartbeats 4000000 in
theorem tX11_finer {G : gGG} {F : State → Heap → Prop} (hG : gOK G) (hF : gSb G F) (hM : gPM G) (a1 : Int32) (S : gSt) : gCt G F yX11_finer wsX11_finer 2 [.ref (gad G 77), .int a1] S ((fX11_finer a1 S).map (fun x => (none, x))) := g_met (by decide +kernel) rfl (Nat.le_of_ble_eq_true rfl) (tX11_finer_L hG hF hM a1 S)
/-! X11_coarser -/
theorem hiX11_coarser_11 : ∀ w ∈ u_ws RX11 TX11 17, w ∈ wsX11_coarser := fun _ hw => List.mem_cons_of_mem _ (List.mem_append_right _ (hw))
set_option maxRecDepth 100000 in
set_option maxHeartbeats 4000000 in
theorem tX11_coarser_L102 {G : gGG} {F : State → Heap → Prop} (hG : gOK G) (hF : gSb G F) (hM : gPM G) (k25 : Int32 → Int32 → gSt → Option (gSt)) (hk25 : ∀ (x1 : Int32) (x2 : Int32) (S : gSt), Gof G F RX11 cX11_coarser 6 wsX11_coarser none (gRm 2) 0 0 (gQ G (fun x => (none, x))) 25 [(0, .ref (gad G 77)), (1, .int x1), (2, .int x2)] [] S (k25 x1 x2 S)) (k35 : Int32 → Int32 → Int32 → gSt → Option (gSt)) (hk35 : ∀ (x1 : Int32) (x2 : Int32) (x3 : Int32) (S : gSt), Gof G F RX11 cX11_coarser 6 wsX11_coarser none (gRm 2) 0 0 (gQ G (fun x => (none, x))) 35 [(0, .ref (gad G 77)), (1, .int x1), (2, .int x2), (3, .int x3)] [] S (k35 x1 x2 x3 S)) (k46 : Int32 → Int32 → Int32 → Int32 → gSt → Option (gSt)) (hk46 : ∀ (x1 : Int32) (x2 : Int32) (x3 : Int32) (x4 : Int32) (S : gSt), Gof G F RX11 cX11_coarser 6 wsX11_coarser none (gRm 2) 0 0 (gQ G (fun x => (none, x))) 46 [(0, .ref (gad G 77)), (1, .int x1), (2, .int x2), (3, .int x3), (4, .int x4)] [] S (k46 x1 x2 x3 x4 S)) (x1 : Int32) (x2 : Int32) (x3 : Int32) (x4 : Int32) (s0 : Int32) (S : gSt) : Gof G F RX11 cX11_coarser 6 wsX11_coarser none (gRm 2) 0 0 (gQ G (fun x => (none, x))) 102 [(0, .ref (gad G 77)), (1, .int x1), (2, .int x2), (3, .int x3), (4, .int x4)] [.int s0] S (fX11_coarser_L102 k25 k35 k46 x1 x2 x3 x4 s0 S) := by
  unfold fX11_coarser_L102
  refine g_istore (i := 5) (env' := [(5, .int s0), (0, .ref (gad G 77)), (1, .int x1), (2, .int x2), (3, .int x3), (4, .int x4)]) dX11_coarser_102 (by decide) rfl ?_
  refine g_aload_n 1 dX11_coarser_104 rfl ?_
  refine g_getK (ci := 11) (k0 := 13) (C0 := RX11) (T := TX11) (N := 17) (hM 77 (by decide)) rfl rfl hiX11_coarser_11 (by decide) (List.mem_of_getElem? (i := 1) rfl) rfl dX11_coarser_105 ?_
  refine g_iload_n 4 dX11_coarser_108 rfl ?_
  refine g_iload 0 dX11_coarser_109 rfl ?_
  refine g_if_eq (tgt := 140) dX11_coarser_111 (by decide) (fun h_1 => ?_) (fun h_1 => ?_)
  · refine g_aload_n 1 dX11_coarser_140 rfl ?_
    refine g_getK (ci := 11) (k0 := 13) (C0 := RX11) (T := TX11) (N := 17) (hM 77 (by decide)) rfl rfl hiX11_coarser_11 (by decide) (List.mem_of_getElem? (i := 1) rfl) rfl dX11_coarser_141 ?_
    refine g_iload_n 4 dX11_coarser_144 rfl ?_
    refine g_iald hG (hM 83 (by decide)) rfl dX11_coarser_145 ?_
    refine g_iast hG (hM 83 (by decide)) rfl dX11_coarser_146 ?_
    refine g_nS (fun S_1 => ?_)
    refine g_iinc 5 (v := (x4 + 1)) (env' := [(4, .int (x4 + 1)), (5, .int s0), (0, .ref (gad G 77)), (1, .int x1), (2, .int x2), (3, .int x3)]) dX11_coarser_147 rfl rfl (by decide) rfl ?_
    refine g_goto (tgt := 46) dX11_coarser_150 (by decide) ?_
    refine g_env (env' := [(0, .ref (gad G 77)), (1, .int x1), (2, .int x2), (3, .int x3), (4, .int (x4 + 1))]) [2, 3, 4, 5, 0] rfl ?_
    exact hk46 x1 x2 x3 (x4 + 1) S_1
  · refine g_aload_n 1 dX11_coarser_114 rfl ?_
    refine g_getK (ci := 11) (k0 := 13) (C0 := RX11) (T := TX11) (N := 17) (hM 77 (by decide)) rfl rfl hiX11_coarser_11 (by decide) (List.mem_of_getElem? (i := 1) rfl) rfl dX11_coarser_115 ?_
    refine g_iload 5 dX11_coarser_118 rfl ?_
    refine g_iald hG (hM 83 (by decide)) rfl dX11_coarser_120 ?_
    refine g_aload_n 1 dX11_coarser_121 rfl ?_
    refine g_getK (ci := 11) (k0 := 13) (C0 := RX11) (T := TX11) (N := 17) (hM 77 (by decide)) rfl rfl hiX11_coarser_11 (by decide) (List.mem_of_getElem? (i := 1) rfl) rfl dX11_coarser_122 ?_
    refine g_iload_n 4 dX11_coarser_125 rfl ?_
    refine g_iald hG (hM 83 (by decide)) rfl dX11_coarser_126 ?_
    refine g_icmp_ge (tgt := 140) dX11_coarser_127 (by decide) (fun h_2 => ?_) (fun h_2 => ?_)
    · refine g_aload_n 1 dX11_coarser_140 rfl ?_
      refine g_getK (ci := 11) (k0 := 13) (C0 := RX11) (T := TX11) (N := 17) (hM 77 (by decide)) rfl rfl hiX11_coarser_11 (by decide) (List.mem_of_getElem? (i := 1) rfl) rfl dX11_coarser_141 ?_
      refine g_iload_n 4 dX11_coarser_144 rfl ?_
      refine g_iald hG (hM 83 (by decide)) rfl dX11_coarser_145 ?_
      refine g_iast hG (hM 83 (by decide)) rfl dX11_coarser_146 ?_
      refine g_nS (fun S_2 => ?_)
      refine g_iinc 5 (v := (x4 + 1)) (env' := [(4, .int (x4 + 1)), (5, .int s0), (0, .ref (gad G 77)), (1, .int x1), (2, .int x2), (3, .int x3)]) dX11_coarser_147 rfl rfl (by decide) rfl ?_
      refine g_goto (tgt := 46) dX11_coarser_150 (by decide) ?_
      refine g_env (env' := [(0, .ref (gad G 77)), (1, .int x1), (2, .int x2), (3, .int x3), (4, .int (x4 + 1))]) [2, 3, 4, 5, 0] rfl ?_
      exact hk46 x1 x2 x3 (x4 + 1) S_2
    · refine g_aload_n 1 dX11_coarser_130 rfl ?_
      refine g_getK (ci := 11) (k0 := 13) (C0 := RX11) (T := TX11) (N := 17) (hM 77 (by decide)) rfl rfl hiX11_coarser_11 (by decide) (List.mem_of_getElem? (i := 1) rfl) rfl dX11_coarser_131 ?_
      refine g_iload 5 dX11_coarser_134 rfl ?_
      refine g_iald hG (hM 83 (by decide)) rfl dX11_coarser_136 ?_
      refine g_goto (tgt := 146) dX11_coarser_137 (by decide) ?_
      refine g_iast hG (hM 83 (by decide)) rfl dX11_coarser_146 ?_
      refine g_nS (fun S_3 => ?_)
      refine g_iinc 5 (v := (x4 + 1)) (env' := [(4, .int (x4 + 1)), (5, .int s0), (0, .ref (gad G 77)), (1, .int x1), (2, .int x2), (3, .int x3)]) dX11_coarser_147 rfl rfl (by decide) rfl ?_
      refine g_goto (tgt := 46) dX11_coarser_150 (by decide) ?_
      refine g_env (env' := [(0, .ref (gad G 77)), (1, .int x1), (2, .int x2), (3, .int x3), (4, .int (x4 + 1))]) [2, 3, 4, 5, 0] rfl ?_
      exact hk46 x1 x2 x3 (x4 + 1) S_3
set_option maxRecDepth 100000 in
set_option maxHeartbeats 4000000 in
theorem tX11_coarser_L46 {G : gGG} {F : State → Heap → Prop} (hG : gOK G) (hF : gSb G F) (hM : gPM G) (k25 : Int32 → Int32 → gSt → Option (gSt)) (hk25 : ∀ (x1 : Int32) (x2 : Int32) (S : gSt), Gof G F RX11 cX11_coarser 6 wsX11_coarser none (gRm 2) 0 0 (gQ G (fun x => (none, x))) 25 [(0, .ref (gad G 77)), (1, .int x1), (2, .int x2)] [] S (k25 x1 x2 S)) (k35 : Int32 → Int32 → Int32 → gSt → Option (gSt)) (hk35 : ∀ (x1 : Int32) (x2 : Int32) (x3 : Int32) (S : gSt), Gof G F RX11 cX11_coarser 6 wsX11_coarser none (gRm 2) 0 0 (gQ G (fun x => (none, x))) 35 [(0, .ref (gad G 77)), (1, .int x1), (2, .int x2), (3, .int x3)] [] S (k35 x1 x2 x3 S)) : ∀ (n : Nat) (x1 : Int32) (x2 : Int32) (x3 : Int32) (x4 : Int32) (S : gSt), Gof G F RX11 cX11_coarser 6 wsX11_coarser none (gRm 2) 0 0 (gQ G (fun x => (none, x))) 46 [(0, .ref (gad G 77)), (1, .int x1), (2, .int x2), (3, .int x3), (4, .int x4)] [] S (fX11_coarser_L46 k25 k35 n x1 x2 x3 x4 S) := by
  intro n
  induction n with
  | zero => intro x1 x2 x3 x4 S; exact g_none
  | succ n ih =>
    intro x1 x2 x3 x4 S
    unfold fX11_coarser_L46
    refine g_iload 4 dX11_coarser_46 rfl ?_
    refine g_aload_n 0 dX11_coarser_48 rfl ?_
    refine g_cVp (ci := 11) (C0 := RX11) (T := TX11) (N := 17) (n := 0) (As := []) (rest := [.int x4]) hF (tX11_guests hG hF hM S) gX11_coarser_X11_guests rfl (hM 77 (by decide)) rfl rfl ⟨rfl, by decide +kernel, by decide +kernel, by decide +kernel⟩ rfl (gRm_ok (by decide) (by decide)) rfl (Nat.le_of_ble_eq_true rfl) dX11_coarser_49 (fun v_1 => ?_)
    refine g_icmp_ge (tgt := 153) dX11_coarser_52 (by decide) (fun h_1 => ?_) (fun h_1 => ?_)
    · refine g_iinc 3 (v := (x3 + 1)) (env' := [(3, .int (x3 + 1)), (0, .ref (gad G 77)), (1, .int x1), (2, .int x2), (4, .int x4)]) dX11_coarser_153 rfl rfl (by decide) rfl ?_
      refine g_goto (tgt := 35) dX11_coarser_156 (by decide) ?_
      refine g_env (env' := [(0, .ref (gad G 77)), (1, .int x1), (2, .int x2), (3, .int (x3 + 1))]) [1, 2, 3, 0] rfl ?_
      exact hk35 x1 x2 (x3 + 1) S
    · refine g_aload_n 0 dX11_coarser_55 rfl ?_
      refine g_getK (ci := 11) (k0 := 10) (C0 := RX11) (T := TX11) (N := 17) (hM 77 (by decide)) rfl rfl hiX11_coarser_11 (by decide) (List.mem_of_getElem? (i := 2) rfl) rfl dX11_coarser_56 ?_
      refine g_iload_n 3 dX11_coarser_59 rfl ?_
      refine g_iald hG (hM 80 (by decide)) rfl dX11_coarser_60 ?_
      refine g_aload_n 0 dX11_coarser_61 rfl ?_
      refine g_getK (ci := 11) (k0 := 10) (C0 := RX11) (T := TX11) (N := 17) (hM 77 (by decide)) rfl rfl hiX11_coarser_11 (by decide) (List.mem_of_getElem? (i := 2) rfl) rfl dX11_coarser_62 ?_
      refine g_iload 4 dX11_coarser_65 rfl ?_
      refine g_iald hG (hM 80 (by decide)) rfl dX11_coarser_67 ?_
      refine g_icmp_eq (tgt := 97) dX11_coarser_68 (by decide) (fun h_2 => ?_) (fun h_2 => ?_)
      · refine g_iconst (v := 1) dX11_coarser_97 (by decide) ?_
        refine g_goto (tgt := 102) dX11_coarser_98 (by decide) ?_
        exact tX11_coarser_L102 hG hF hM k25 hk25 k35 hk35 (fX11_coarser_L46 k25 k35 n) ih x1 x2 x3 x4 1 S
      · refine g_aload_n 0 dX11_coarser_71 rfl ?_
        refine g_getK (ci := 11) (k0 := 11) (C0 := RX11) (T := TX11) (N := 17) (hM 77 (by decide)) rfl rfl hiX11_coarser_11 (by decide) (List.mem_of_getElem? (i := 3) rfl) rfl dX11_coarser_72 ?_
        refine g_bipush (v := 40) dX11_coarser_75 (by decide) ?_
        refine g_iload_n 1 dX11_coarser_77 rfl ?_
        refine g_imul dX11_coarser_78 ?_
        refine g_iload_n 3 dX11_coarser_79 rfl ?_
        refine g_iadd dX11_coarser_80 ?_
        refine g_iald hG (hM 81 (by decide)) rfl dX11_coarser_81 ?_
        refine g_aload_n 0 dX11_coarser_82 rfl ?_
        refine g_getK (ci := 11) (k0 := 11) (C0 := RX11) (T := TX11) (N := 17) (hM 77 (by decide)) rfl rfl hiX11_coarser_11 (by decide) (List.mem_of_getElem? (i := 3) rfl) rfl dX11_coarser_83 ?_
        refine g_bipush (v := 40) dX11_coarser_86 (by decide) ?_
        refine g_iload_n 1 dX11_coarser_88 rfl ?_
        refine g_imul dX11_coarser_89 ?_
        refine g_iload 4 dX11_coarser_90 rfl ?_
        refine g_iadd dX11_coarser_92 ?_
        refine g_iald hG (hM 81 (by decide)) rfl dX11_coarser_93 ?_
        refine g_icmp_ne (tgt := 101) dX11_coarser_94 (by decide) (fun h_3 => ?_) (fun h_3 => ?_)
        · refine g_iconst (v := 0) dX11_coarser_101 (by decide) ?_
          exact tX11_coarser_L102 hG hF hM k25 hk25 k35 hk35 (fX11_coarser_L46 k25 k35 n) ih x1 x2 x3 x4 0 S
        · refine g_iconst (v := 1) dX11_coarser_97 (by decide) ?_
          refine g_goto (tgt := 102) dX11_coarser_98 (by decide) ?_
          exact tX11_coarser_L102 hG hF hM k25 hk25 k35 hk35 (fX11_coarser_L46 k25 k35 n) ih x1 x2 x3 x4 1 S
set_option maxRecDepth 100000 in
set_option maxHeartbeats 4000000 in
theorem tX11_coarser_L35 {G : gGG} {F : State → Heap → Prop} (hG : gOK G) (hF : gSb G F) (hM : gPM G) (k25 : Int32 → Int32 → gSt → Option (gSt)) (hk25 : ∀ (x1 : Int32) (x2 : Int32) (S : gSt), Gof G F RX11 cX11_coarser 6 wsX11_coarser none (gRm 2) 0 0 (gQ G (fun x => (none, x))) 25 [(0, .ref (gad G 77)), (1, .int x1), (2, .int x2)] [] S (k25 x1 x2 S)) : ∀ (n : Nat) (x1 : Int32) (x2 : Int32) (x3 : Int32) (S : gSt), Gof G F RX11 cX11_coarser 6 wsX11_coarser none (gRm 2) 0 0 (gQ G (fun x => (none, x))) 35 [(0, .ref (gad G 77)), (1, .int x1), (2, .int x2), (3, .int x3)] [] S (fX11_coarser_L35 k25 n x1 x2 x3 S) := by
  intro n
  induction n with
  | zero => intro x1 x2 x3 S; exact g_none
  | succ n ih =>
    intro x1 x2 x3 S
    unfold fX11_coarser_L35
    refine g_iload_n 3 dX11_coarser_35 rfl ?_
    refine g_aload_n 0 dX11_coarser_36 rfl ?_
    refine g_cVp (ci := 11) (C0 := RX11) (T := TX11) (N := 17) (n := 0) (As := []) (rest := [.int x3]) hF (tX11_guests hG hF hM S) gX11_coarser_X11_guests rfl (hM 77 (by decide)) rfl rfl ⟨rfl, by decide +kernel, by decide +kernel, by decide +kernel⟩ rfl (gRm_ok (by decide) (by decide)) rfl (Nat.le_of_ble_eq_true rfl) dX11_coarser_37 (fun v_1 => ?_)
    refine g_icmp_ge (tgt := 159) dX11_coarser_40 (by decide) (fun h_1 => ?_) (fun h_1 => ?_)
    · refine g_iinc 2 (v := (x2 + 1)) (env' := [(2, .int (x2 + 1)), (0, .ref (gad G 77)), (1, .int x1), (3, .int x3)]) dX11_coarser_159 rfl rfl (by decide) rfl ?_
      refine g_goto (tgt := 25) dX11_coarser_162 (by decide) ?_
      refine g_env (env' := [(0, .ref (gad G 77)), (1, .int x1), (2, .int (x2 + 1))]) [1, 2, 0] rfl ?_
      exact hk25 x1 (x2 + 1) S
    · refine g_iconst (v := 0) dX11_coarser_43 (by decide) ?_
      refine g_istore (i := 4) (env' := [(4, .int 0), (0, .ref (gad G 77)), (1, .int x1), (2, .int x2), (3, .int x3)]) dX11_coarser_44 (by decide) rfl ?_
      refine g_env (env' := [(0, .ref (gad G 77)), (1, .int x1), (2, .int x2), (3, .int x3), (4, .int 0)]) [1, 2, 3, 4, 0] rfl ?_
      exact tX11_coarser_L46 hG hF hM k25 hk25 (fX11_coarser_L35 k25 n) ih gFU x1 x2 x3 0 S
set_option maxRecDepth 100000 in
set_option maxHeartbeats 4000000 in
theorem tX11_coarser_L25 {G : gGG} {F : State → Heap → Prop} (hG : gOK G) (hF : gSb G F) (hM : gPM G) : ∀ (n : Nat) (x1 : Int32) (x2 : Int32) (S : gSt), Gof G F RX11 cX11_coarser 6 wsX11_coarser none (gRm 2) 0 0 (gQ G (fun x => (none, x))) 25 [(0, .ref (gad G 77)), (1, .int x1), (2, .int x2)] [] S (fX11_coarser_L25 n x1 x2 S) := by
  intro n
  induction n with
  | zero => intro x1 x2 S; exact g_none
  | succ n ih =>
    intro x1 x2 S
    unfold fX11_coarser_L25
    refine g_iload_n 2 dX11_coarser_25 rfl ?_
    refine g_aload_n 0 dX11_coarser_26 rfl ?_
    refine g_cVp (ci := 11) (C0 := RX11) (T := TX11) (N := 17) (n := 0) (As := []) (rest := [.int x2]) hF (tX11_guests hG hF hM S) gX11_coarser_X11_guests rfl (hM 77 (by decide)) rfl rfl ⟨rfl, by decide +kernel, by decide +kernel, by decide +kernel⟩ rfl (gRm_ok (by decide) (by decide)) rfl (Nat.le_of_ble_eq_true rfl) dX11_coarser_27 (fun v_1 => ?_)
    refine g_icmp_ge (tgt := 165) dX11_coarser_30 (by decide) (fun h_1 => ?_) (fun h_1 => ?_)
    · refine g_aload_n 0 dX11_coarser_165 rfl ?_
      refine g_aload_n 0 dX11_coarser_166 rfl ?_
      refine g_getK (ci := 11) (k0 := 13) (C0 := RX11) (T := TX11) (N := 17) (hM 77 (by decide)) rfl rfl hiX11_coarser_11 (by decide) (List.mem_of_getElem? (i := 1) rfl) rfl dX11_coarser_167 ?_
      refine g_cVv (ci := 11) (C0 := RX11) (T := TX11) (N := 17) (n := 1) (As := [.ref (gad G 83)]) (rest := []) hF (tX11_numbers hG hF hM (rfl : gArM 83 = true) S) gX11_coarser_X11_numbers rfl (hM 77 (by decide)) rfl rfl ⟨rfl, by decide +kernel, by decide +kernel, by decide +kernel⟩ rfl (gRm_ok (by decide) (by decide)) rfl (Nat.le_of_ble_eq_true rfl) dX11_coarser_170 (fun S_2 => ?_)
      exact g_vret dX11_coarser_173 rfl
    · refine g_iconst (v := 0) dX11_coarser_33 (by decide) ?_
      refine g_istore_n (i := 3) (env' := [(3, .int 0), (0, .ref (gad G 77)), (1, .int x1), (2, .int x2)]) dX11_coarser_34 rfl (by decide) rfl ?_
      refine g_env (env' := [(0, .ref (gad G 77)), (1, .int x1), (2, .int x2), (3, .int 0)]) [1, 2, 3, 0] rfl ?_
      exact tX11_coarser_L35 hG hF hM (fX11_coarser_L25 n) ih gFU x1 x2 0 S
set_option maxRecDepth 100000 in
set_option maxHeartbeats 4000000 in
theorem tX11_coarser_L2 {G : gGG} {F : State → Heap → Prop} (hG : gOK G) (hF : gSb G F) (hM : gPM G) : ∀ (n : Nat) (x1 : Int32) (x2 : Int32) (S : gSt), Gof G F RX11 cX11_coarser 6 wsX11_coarser none (gRm 2) 0 0 (gQ G (fun x => (none, x))) 2 [(0, .ref (gad G 77)), (1, .int x1), (2, .int x2)] [] S (fX11_coarser_L2 n x1 x2 S) := by
  intro n
  induction n with
  | zero => intro x1 x2 S; exact g_none
  | succ n ih =>
    intro x1 x2 S
    unfold fX11_coarser_L2
    refine g_iload_n 2 dX11_coarser_2 rfl ?_
    refine g_aload_n 0 dX11_coarser_3 rfl ?_
    refine g_cVp (ci := 11) (C0 := RX11) (T := TX11) (N := 17) (n := 0) (As := []) (rest := [.int x2]) hF (tX11_guests hG hF hM S) gX11_coarser_X11_guests rfl (hM 77 (by decide)) rfl rfl ⟨rfl, by decide +kernel, by decide +kernel, by decide +kernel⟩ rfl (gRm_ok (by decide) (by decide)) rfl (Nat.le_of_ble_eq_true rfl) dX11_coarser_4 (fun v_1 => ?_)
    refine g_icmp_ge (tgt := 23) dX11_coarser_7 (by decide) (fun h_1 => ?_) (fun h_1 => ?_)
    · refine g_iconst (v := 0) dX11_coarser_23 (by decide) ?_
      refine g_istore_n (i := 2) (env' := [(2, .int 0), (0, .ref (gad G 77)), (1, .int x1)]) dX11_coarser_24 rfl (by decide) rfl ?_
      refine g_env (env' := [(0, .ref (gad G 77)), (1, .int x1), (2, .int 0)]) [1, 2, 0] rfl ?_
      exact tX11_coarser_L25 hG hF hM gFU x1 0 S
    · refine g_aload_n 0 dX11_coarser_10 rfl ?_
      refine g_getK (ci := 11) (k0 := 13) (C0 := RX11) (T := TX11) (N := 17) (hM 77 (by decide)) rfl rfl hiX11_coarser_11 (by decide) (List.mem_of_getElem? (i := 1) rfl) rfl dX11_coarser_11 ?_
      refine g_iload_n 2 dX11_coarser_14 rfl ?_
      refine g_iload_n 2 dX11_coarser_15 rfl ?_
      refine g_iast hG (hM 83 (by decide)) rfl dX11_coarser_16 ?_
      refine g_nS (fun S_2 => ?_)
      refine g_iinc 2 (v := (x2 + 1)) (env' := [(2, .int (x2 + 1)), (0, .ref (gad G 77)), (1, .int x1)]) dX11_coarser_17 rfl rfl (by decide) rfl ?_
      refine g_goto (tgt := 2) dX11_coarser_20 (by decide) ?_
      refine g_env (env' := [(0, .ref (gad G 77)), (1, .int x1), (2, .int (x2 + 1))]) [1, 2, 0] rfl ?_
      exact ih x1 (x2 + 1) S_2
set_option maxRecDepth 100000 in
set_option maxHeartbeats 4000000 in
theorem tX11_coarser_L {G : gGG} {F : State → Heap → Prop} (hG : gOK G) (hF : gSb G F) (hM : gPM G) (a1 : Int32) (S : gSt) : Gof G F RX11 cX11_coarser 6 wsX11_coarser none (gRm 2) 0 0 (gQ G (fun x => (none, x))) 0 [(0, .ref (gad G 77)), (1, .int a1)] [] S (fX11_coarser a1 S) := by
  unfold fX11_coarser
  refine g_iconst (v := 0) dX11_coarser_0 (by decide) ?_
  refine g_istore_n (i := 2) (env' := [(2, .int 0), (0, .ref (gad G 77)), (1, .int a1)]) dX11_coarser_1 rfl (by decide) rfl ?_
  refine g_env (env' := [(0, .ref (gad G 77)), (1, .int a1), (2, .int 0)]) [1, 2, 0] rfl ?_
  exact tX11_coarser_L2 hG hF hM gFU a1 0 S
set_option maxRecDepth 100000 in
set_option maxHeartbeats 4000000 in
theorem tX11_coarser {G : gGG} {F : State → Heap → Prop} (hG : gOK G) (hF : gSb G F) (hM : gPM G) (a1 : Int32) (S : gSt) : gCt G F yX11_coarser wsX11_coarser 2 [.ref (gad G 77), .int a1] S ((fX11_coarser a1 S).map (fun x => (none, x))) := g_met (by decide +kernel) rfl (Nat.le_of_ble_eq_true rfl) (tX11_coarser_L hG hF hM a1 S)
/-! X11_two -/
theorem hiX11_two_11 : ∀ w ∈ u_ws RX11 TX11 17, w ∈ wsX11_two := fun _ hw => List.mem_cons_of_mem _ (List.mem_append_right _ (hw))
set_option maxRecDepth 100000 in
set_option maxHeartbeats 4000000 in
theorem tX11_two_L {G : gGG} {F : State → Heap → Prop} (hG : gOK G) (hF : gSb G F) (hM : gPM G) (a1 : Int32) (a2 : Int32) (a3 : Int32) (S : gSt) : Gof G F RX11 cX11_two 4 wsX11_two (some .int) (gRm 3) 0 0 (gQ G (fun x => (some (.int x.1), x.2))) 0 [(0, .ref (gad G 77)), (1, .int a1), (2, .int a2), (3, .int a3)] [] S (fX11_two a1 a2 a3 S) := by
  unfold fX11_two
  refine g_aload_n 0 dX11_two_0 rfl ?_
  refine g_iconst (v := 0) dX11_two_1 (by decide) ?_
  refine g_putI hG (ci := 11) (k0 := 0) (C0 := RX11) (T := TX11) (N := 17) (hM 77 (by decide)) rfl rfl hiX11_two_11 (by decide) (List.mem_of_getElem? (i := 1) rfl) tyX11 tyX11_ok nmX11 rfl rfl rfl rfl dX11_two_2 ?_
  refine g_nS (fun S_1 => ?_)
  refine g_iload_n 1 dX11_two_5 rfl ?_
  refine g_cSp (n := 1) (As := [.int a1]) (rest := []) hF (tX11_isImage hG hF hM a1 S_1) gX11_two_X11_isImage rfl ⟨by decide +kernel, by decide +kernel, by decide +kernel⟩ rfl (gRm_ok (by decide) (by decide)) rfl (Nat.le_of_ble_eq_true rfl) dX11_two_6 (fun v_2 => ?_)
  refine g_if_eq (tgt := 29) dX11_two_9 (by decide) (fun h_1 => ?_) (fun h_1 => ?_)
  · refine g_iconst (v := (-1)) dX11_two_29 (by decide) ?_
    exact g_iret dX11_two_30 rfl
  · refine g_iload_n 2 dX11_two_12 rfl ?_
    refine g_iconst (v := 0) dX11_two_13 (by decide) ?_
    refine g_iconst (v := 1) dX11_two_14 (by decide) ?_
    refine g_cSp (n := 3) (As := [.int a2, .int 0, .int 1]) (rest := []) hF (tX11_in hG hF hM a2 0 1 S_1) gX11_two_X11_in rfl ⟨by decide +kernel, by decide +kernel, by decide +kernel⟩ rfl (gRm_ok (by decide) (by decide)) rfl (Nat.le_of_ble_eq_true rfl) dX11_two_15 (fun v_3 => ?_)
    refine g_if_eq (tgt := 29) dX11_two_18 (by decide) (fun h_2 => ?_) (fun h_2 => ?_)
    · refine g_iconst (v := (-1)) dX11_two_29 (by decide) ?_
      exact g_iret dX11_two_30 rfl
    · refine g_aload_n 0 dX11_two_21 rfl ?_
      refine g_iload_n 3 dX11_two_22 rfl ?_
      refine g_cVp (ci := 11) (C0 := RX11) (T := TX11) (N := 17) (n := 1) (As := [.int a3]) (rest := []) hF (tX11_isGuest hG hF hM a3 S_1) gX11_two_X11_isGuest rfl (hM 77 (by decide)) rfl rfl ⟨rfl, by decide +kernel, by decide +kernel, by decide +kernel⟩ rfl (gRm_ok (by decide) (by decide)) rfl (Nat.le_of_ble_eq_true rfl) dX11_two_23 (fun v_4 => ?_)
      refine g_if_ne (tgt := 31) dX11_two_26 (by decide) (fun h_3 => ?_) (fun h_3 => ?_)
      · refine g_aload_n 0 dX11_two_31 rfl ?_
        refine g_getK (ci := 11) (k0 := 12) (C0 := RX11) (T := TX11) (N := 17) (hM 77 (by decide)) rfl rfl hiX11_two_11 (by decide) (List.mem_of_getElem? (i := 2) rfl) rfl dX11_two_32 ?_
        refine g_iload_n 1 dX11_two_35 rfl ?_
        refine g_zald hG (hM 82 (by decide)) rfl dX11_two_36 ?_
        refine g_if_ne (tgt := 43) dX11_two_37 (by decide) (fun h_4 => ?_) (fun h_4 => ?_)
        · refine g_iload_n 2 dX11_two_43 rfl ?_
          refine g_if_ne (tgt := 55) dX11_two_44 (by decide) (fun h_5 => ?_) (fun h_5 => ?_)
          · refine g_aload_n 0 dX11_two_55 rfl ?_
            refine g_iload_n 1 dX11_two_56 rfl ?_
            refine g_cVv (ci := 11) (C0 := RX11) (T := TX11) (N := 17) (n := 1) (As := [.int a1]) (rest := []) hF (tX11_coarser hG hF hM a1 S_1) gX11_two_X11_coarser rfl (hM 77 (by decide)) rfl rfl ⟨rfl, by decide +kernel, by decide +kernel, by decide +kernel⟩ rfl (gRm_ok (by decide) (by decide)) rfl (Nat.le_of_ble_eq_true rfl) dX11_two_57 (fun S_5 => ?_)
            refine g_aload_n 0 dX11_two_60 rfl ?_
            refine g_getK (ci := 11) (k0 := 13) (C0 := RX11) (T := TX11) (N := 17) (hM 77 (by decide)) rfl rfl hiX11_two_11 (by decide) (List.mem_of_getElem? (i := 3) rfl) rfl dX11_two_61 ?_
            refine g_iload_n 3 dX11_two_64 rfl ?_
            refine g_iald hG (hM 83 (by decide)) rfl dX11_two_65 ?_
            exact g_iret dX11_two_66 rfl
          · refine g_aload_n 0 dX11_two_47 rfl ?_
            refine g_iload_n 1 dX11_two_48 rfl ?_
            refine g_cVv (ci := 11) (C0 := RX11) (T := TX11) (N := 17) (n := 1) (As := [.int a1]) (rest := []) hF (tX11_finer hG hF hM a1 S_1) gX11_two_X11_finer rfl (hM 77 (by decide)) rfl rfl ⟨rfl, by decide +kernel, by decide +kernel, by decide +kernel⟩ rfl (gRm_ok (by decide) (by decide)) rfl (Nat.le_of_ble_eq_true rfl) dX11_two_49 (fun S_6 => ?_)
            refine g_goto (tgt := 60) dX11_two_52 (by decide) ?_
            refine g_aload_n 0 dX11_two_60 rfl ?_
            refine g_getK (ci := 11) (k0 := 13) (C0 := RX11) (T := TX11) (N := 17) (hM 77 (by decide)) rfl rfl hiX11_two_11 (by decide) (List.mem_of_getElem? (i := 3) rfl) rfl dX11_two_61 ?_
            refine g_iload_n 3 dX11_two_64 rfl ?_
            refine g_iald hG (hM 83 (by decide)) rfl dX11_two_65 ?_
            exact g_iret dX11_two_66 rfl
        · refine g_bipush (v := (-2)) dX11_two_40 (by decide) ?_
          exact g_iret dX11_two_42 rfl
      · refine g_iconst (v := (-1)) dX11_two_29 (by decide) ?_
        exact g_iret dX11_two_30 rfl
set_option maxRecDepth 100000 in
set_option maxHeartbeats 4000000 in
theorem tX11_two {G : gGG} {F : State → Heap → Prop} (hG : gOK G) (hF : gSb G F) (hM : gPM G) (a1 : Int32) (a2 : Int32) (a3 : Int32) (S : gSt) : gCt G F yX11_two wsX11_two 3 [.ref (gad G 77), .int a1, .int a2, .int a3] S ((fX11_two a1 a2 a3 S).map (fun x => (some (.int x.1), x.2))) := g_met (by decide +kernel) rfl (Nat.le_of_ble_eq_true rfl) (tX11_two_L hG hF hM a1 a2 a3 S)
/-! X11_bell -/
set_option maxRecDepth 100000 in
set_option maxHeartbeats 4000000 in
theorem tX11_bell_L74 {G : gGG} {F : State → Heap → Prop} (hG : gOK G) (hF : gSb G F) (hM : gPM G) (S : gSt) (s0 : Int32) : Gof G F RX11 cX11_bell 1 wsX11_bell (some .int) (gRm 0) 0 0 (gQ G (fun x => (some (.int x), S))) 74 [] [.int s0] S (fX11_bell_L74 S s0) := by
  unfold fX11_bell_L74
  exact g_iret dX11_bell_74 rfl
set_option maxRecDepth 100000 in
set_option maxHeartbeats 4000000 in
theorem tX11_bell_L {G : gGG} {F : State → Heap → Prop} (hG : gOK G) (hF : gSb G F) (hM : gPM G) (a0 : Int32) (S : gSt) : Gof G F RX11 cX11_bell 1 wsX11_bell (some .int) (gRm 0) 0 0 (gQ G (fun x => (some (.int x), S))) 0 [(0, .int a0)] [] S (fX11_bell a0 S) := by
  unfold fX11_bell
  refine g_iload_n 0 dX11_bell_0 rfl ?_
  refine g_iconst (v := 2) dX11_bell_1 (by decide) ?_
  refine g_icmp_ge (tgt := 9) dX11_bell_2 (by decide) (fun h_1 => ?_) (fun h_1 => ?_)
  · refine g_iload_n 0 dX11_bell_9 rfl ?_
    refine g_iconst (v := 2) dX11_bell_10 (by decide) ?_
    refine g_icmp_ne (tgt := 18) dX11_bell_11 (by decide) (fun h_2 => ?_) (fun h_2 => ?_)
    · refine g_iload_n 0 dX11_bell_18 rfl ?_
      refine g_iconst (v := 3) dX11_bell_19 (by decide) ?_
      refine g_icmp_ne (tgt := 27) dX11_bell_20 (by decide) (fun h_3 => ?_) (fun h_3 => ?_)
      · refine g_iload_n 0 dX11_bell_27 rfl ?_
        refine g_iconst (v := 4) dX11_bell_28 (by decide) ?_
        refine g_icmp_ne (tgt := 37) dX11_bell_29 (by decide) (fun h_4 => ?_) (fun h_4 => ?_)
        · refine g_iload_n 0 dX11_bell_37 rfl ?_
          refine g_iconst (v := 5) dX11_bell_38 (by decide) ?_
          refine g_icmp_ne (tgt := 47) dX11_bell_39 (by decide) (fun h_5 => ?_) (fun h_5 => ?_)
          · refine g_iload_n 0 dX11_bell_47 rfl ?_
            refine g_bipush (v := 6) dX11_bell_48 (by decide) ?_
            refine g_icmp_ne (tgt := 59) dX11_bell_50 (by decide) (fun h_6 => ?_) (fun h_6 => ?_)
            · refine g_iload_n 0 dX11_bell_59 rfl ?_
              refine g_bipush (v := 7) dX11_bell_60 (by decide) ?_
              refine g_icmp_ne (tgt := 71) dX11_bell_62 (by decide) (fun h_7 => ?_) (fun h_7 => ?_)
              · refine g_sipush (v := 4140) dX11_bell_71 (by decide) ?_
                refine g_env (env' := []) [] rfl ?_
                exact tX11_bell_L74 hG hF hM S 4140
              · refine g_sipush (v := 877) dX11_bell_65 (by decide) ?_
                refine g_goto (tgt := 74) dX11_bell_68 (by decide) ?_
                refine g_env (env' := []) [] rfl ?_
                exact tX11_bell_L74 hG hF hM S 877
            · refine g_sipush (v := 203) dX11_bell_53 (by decide) ?_
              refine g_goto (tgt := 74) dX11_bell_56 (by decide) ?_
              refine g_env (env' := []) [] rfl ?_
              exact tX11_bell_L74 hG hF hM S 203
          · refine g_bipush (v := 52) dX11_bell_42 (by decide) ?_
            refine g_goto (tgt := 74) dX11_bell_44 (by decide) ?_
            refine g_env (env' := []) [] rfl ?_
            exact tX11_bell_L74 hG hF hM S 52
        · refine g_bipush (v := 15) dX11_bell_32 (by decide) ?_
          refine g_goto (tgt := 74) dX11_bell_34 (by decide) ?_
          refine g_env (env' := []) [] rfl ?_
          exact tX11_bell_L74 hG hF hM S 15
      · refine g_iconst (v := 5) dX11_bell_23 (by decide) ?_
        refine g_goto (tgt := 74) dX11_bell_24 (by decide) ?_
        refine g_env (env' := []) [] rfl ?_
        exact tX11_bell_L74 hG hF hM S 5
    · refine g_iconst (v := 2) dX11_bell_14 (by decide) ?_
      refine g_goto (tgt := 74) dX11_bell_15 (by decide) ?_
      refine g_env (env' := []) [] rfl ?_
      exact tX11_bell_L74 hG hF hM S 2
  · refine g_iconst (v := 1) dX11_bell_5 (by decide) ?_
    refine g_goto (tgt := 74) dX11_bell_6 (by decide) ?_
    refine g_env (env' := []) [] rfl ?_
    exact tX11_bell_L74 hG hF hM S 1
set_option maxRecDepth 100000 in
set_option maxHeartbeats 4000000 in
theorem tX11_bell {G : gGG} {F : State → Heap → Prop} (hG : gOK G) (hF : gSb G F) (hM : gPM G) (a0 : Int32) (S : gSt) : gCt G F yX11_bell wsX11_bell 0 [.int a0] S ((fX11_bell a0 S).map (fun x => (some (.int x), S))) := g_met (by decide +kernel) rfl (Nat.le_of_ble_eq_true rfl) (tX11_bell_L hG hF hM a0 S)
/-! X11_ones -/
set_option maxRecDepth 100000 in
set_option maxHeartbeats 4000000 in
theorem tX11_ones_L4 {G : gGG} {F : State → Heap → Prop} (hG : gOK G) (hF : gSb G F) (hM : gPM G) (S : gSt) : ∀ (n : Nat) (x0 : Int32) (x1 : Int32) (x2 : Int32), Gof G F RX11 cX11_ones 3 wsX11_ones (some .int) (gRm 0) 0 0 (gQ G (fun x => (some (.int x), S))) 4 [(0, .int x0), (1, .int x1), (2, .int x2)] [] S (fX11_ones_L4 S n x0 x1 x2) := by
  intro n
  induction n with
  | zero => intro x0 x1 x2; exact g_none
  | succ n ih =>
    intro x0 x1 x2
    unfold fX11_ones_L4
    refine g_iload_n 2 dX11_ones_4 rfl ?_
    refine g_bipush (v := 8) dX11_ones_5 (by decide) ?_
    refine g_icmp_ge (tgt := 24) dX11_ones_7 (by decide) (fun h_1 => ?_) (fun h_1 => ?_)
    · refine g_iload_n 1 dX11_ones_24 rfl ?_
      exact g_iret dX11_ones_25 rfl
    · refine g_iload_n 1 dX11_ones_10 rfl ?_
      refine g_iload_n 0 dX11_ones_11 rfl ?_
      refine g_iload_n 2 dX11_ones_12 rfl ?_
      refine g_ishr dX11_ones_13 ?_
      refine g_iconst (v := 1) dX11_ones_14 (by decide) ?_
      refine g_iand dX11_ones_15 ?_
      refine g_iadd dX11_ones_16 ?_
      refine g_nI (fun v_1 => ?_)
      refine g_istore_n (i := 1) (env' := [(1, .int v_1), (0, .int x0), (2, .int x2)]) dX11_ones_17 rfl (by decide) rfl ?_
      refine g_iinc 2 (v := (x2 + 1)) (env' := [(2, .int (x2 + 1)), (1, .int v_1), (0, .int x0)]) dX11_ones_18 rfl rfl (by decide) rfl ?_
      refine g_goto (tgt := 4) dX11_ones_21 (by decide) ?_
      refine g_env (env' := [(0, .int x0), (1, .int v_1), (2, .int (x2 + 1))]) [2, 1, 0] rfl ?_
      exact ih x0 v_1 (x2 + 1)
set_option maxRecDepth 100000 in
set_option maxHeartbeats 4000000 in
theorem tX11_ones_L {G : gGG} {F : State → Heap → Prop} (hG : gOK G) (hF : gSb G F) (hM : gPM G) (a0 : Int32) (S : gSt) : Gof G F RX11 cX11_ones 3 wsX11_ones (some .int) (gRm 0) 0 0 (gQ G (fun x => (some (.int x), S))) 0 [(0, .int a0)] [] S (fX11_ones a0 S) := by
  unfold fX11_ones
  refine g_iconst (v := 0) dX11_ones_0 (by decide) ?_
  refine g_istore_n (i := 1) (env' := [(1, .int 0), (0, .int a0)]) dX11_ones_1 rfl (by decide) rfl ?_
  refine g_iconst (v := 0) dX11_ones_2 (by decide) ?_
  refine g_istore_n (i := 2) (env' := [(2, .int 0), (1, .int 0), (0, .int a0)]) dX11_ones_3 rfl (by decide) rfl ?_
  refine g_env (env' := [(0, .int a0), (1, .int 0), (2, .int 0)]) [2, 1, 0] rfl ?_
  exact tX11_ones_L4 hG hF hM S gFU a0 0 0
set_option maxRecDepth 100000 in
set_option maxHeartbeats 4000000 in
theorem tX11_ones {G : gGG} {F : State → Heap → Prop} (hG : gOK G) (hF : gSb G F) (hM : gPM G) (a0 : Int32) (S : gSt) : gCt G F yX11_ones wsX11_ones 0 [.int a0] S ((fX11_ones a0 S).map (fun x => (some (.int x), S))) := g_met (by decide +kernel) rfl (Nat.le_of_ble_eq_true rfl) (tX11_ones_L hG hF hM a0 S)
/-! X11_between -/
theorem hiX11_between_11 : ∀ w ∈ u_ws RX11 TX11 17, w ∈ wsX11_between := fun _ hw => List.mem_cons_of_mem _ (List.mem_append_right _ (hw))
set_option maxRecDepth 100000 in
set_option maxHeartbeats 4000000 in
theorem tX11_between_L86 {G : gGG} {F : State → Heap → Prop} (hG : gOK G) (hF : gSb G F) (hM : gPM G) (k68 : Int32 → Int32 → gSt → Option (Int32 × gSt)) (hk68 : ∀ (x2 : Int32) (x3 : Int32) (S : gSt), Gof G F RX11 cX11_between 6 wsX11_between (some .int) (gRm 3) 0 0 (gQ G (fun x => (some (.int x.1), x.2))) 68 [(0, .ref (gad G 77)), (2, .int x2), (3, .int x3)] [] S (k68 x2 x3 S)) : ∀ (n : Nat) (x2 : Int32) (x3 : Int32) (x4 : Int32) (x5 : Int32) (S : gSt), Gof G F RX11 cX11_between 6 wsX11_between (some .int) (gRm 3) 0 0 (gQ G (fun x => (some (.int x.1), x.2))) 86 [(0, .ref (gad G 77)), (2, .int x2), (3, .int x3), (4, .int x4), (5, .int x5)] [] S (fX11_between_L86 k68 n x2 x3 x4 x5 S) := by
  intro n
  induction n with
  | zero => intro x2 x3 x4 x5 S; exact g_none
  | succ n ih =>
    intro x2 x3 x4 x5 S
    unfold fX11_between_L86
    refine g_iload 4 dX11_between_86 rfl ?_
    refine g_aload_n 0 dX11_between_88 rfl ?_
    refine g_cVp (ci := 11) (C0 := RX11) (T := TX11) (N := 17) (n := 0) (As := []) (rest := [.int x5]) hF (tX11_guests hG hF hM S) gX11_between_X11_guests rfl (hM 77 (by decide)) rfl rfl ⟨rfl, by decide +kernel, by decide +kernel, by decide +kernel⟩ rfl (gRm_ok (by decide) (by decide)) rfl (Nat.le_of_ble_eq_true rfl) dX11_between_89 (fun v_1 => ?_)
    refine g_icmp_ge (tgt := 130) dX11_between_92 (by decide) (fun h_1 => ?_) (fun h_1 => ?_)
    · refine g_iload_n 1 dX11_between_130 rfl ?_
      refine g_iload 3 dX11_between_131 rfl ?_
      refine g_cSp (n := 1) (As := [.int x4]) (rest := [.int x2]) hF (tX11_ones hG hF hM x4 S) gX11_between_X11_ones rfl ⟨by decide +kernel, by decide +kernel, by decide +kernel⟩ rfl (gRm_ok (by decide) (by decide)) rfl (Nat.le_of_ble_eq_true rfl) dX11_between_133 (fun v_2 => ?_)
      refine g_cSp (n := 1) (As := [.int v_2]) (rest := [.int x2]) hF (tX11_bell hG hF hM v_2 S) gX11_between_X11_bell rfl ⟨by decide +kernel, by decide +kernel, by decide +kernel⟩ rfl (gRm_ok (by decide) (by decide)) rfl (Nat.le_of_ble_eq_true rfl) dX11_between_136 (fun v_3 => ?_)
      refine g_imul dX11_between_139 ?_
      refine g_nI (fun v_4 => ?_)
      refine g_istore_n (i := 2) (env' := [(2, .int v_4), (0, .ref (gad G 77)), (3, .int x3), (4, .int x4), (5, .int x5)]) dX11_between_140 rfl (by decide) rfl ?_
      refine g_iinc 2 (v := (x3 + 1)) (env' := [(3, .int (x3 + 1)), (2, .int v_4), (0, .ref (gad G 77)), (4, .int x4), (5, .int x5)]) dX11_between_141 rfl rfl (by decide) rfl ?_
      refine g_goto (tgt := 68) dX11_between_144 (by decide) ?_
      refine g_env (env' := [(0, .ref (gad G 77)), (2, .int v_4), (3, .int (x3 + 1))]) [2, 1, 0] rfl ?_
      exact hk68 v_4 (x3 + 1) S
    · refine g_iload 3 dX11_between_95 rfl ?_
      refine g_aload_n 0 dX11_between_97 rfl ?_
      refine g_getK (ci := 11) (k0 := 13) (C0 := RX11) (T := TX11) (N := 17) (hM 77 (by decide)) rfl rfl hiX11_between_11 (by decide) (List.mem_of_getElem? (i := 4) rfl) rfl dX11_between_98 ?_
      refine g_iload 4 dX11_between_101 rfl ?_
      refine g_iald hG (hM 83 (by decide)) rfl dX11_between_103 ?_
      refine g_iload_n 2 dX11_between_104 rfl ?_
      refine g_icmp_ne (tgt := 120) dX11_between_105 (by decide) (fun h_2 => ?_) (fun h_2 => ?_)
      · refine g_iconst (v := 0) dX11_between_120 (by decide) ?_
        refine g_ior dX11_between_121 ?_
        refine g_nI (fun v_5 => ?_)
        refine g_istore (i := 4) (env' := [(4, .int v_5), (0, .ref (gad G 77)), (2, .int x2), (3, .int x3), (5, .int x5)]) dX11_between_122 (by decide) rfl ?_
        refine g_iinc 4 (v := (x5 + 1)) (env' := [(5, .int (x5 + 1)), (4, .int v_5), (0, .ref (gad G 77)), (2, .int x2), (3, .int x3)]) dX11_between_124 rfl rfl (by decide) rfl ?_
        refine g_goto (tgt := 86) dX11_between_127 (by decide) ?_
        refine g_env (env' := [(0, .ref (gad G 77)), (2, .int x2), (3, .int x3), (4, .int v_5), (5, .int (x5 + 1))]) [2, 3, 4, 1, 0] rfl ?_
        exact ih x2 x3 v_5 (x5 + 1) S
      · refine g_iconst (v := 1) dX11_between_108 (by decide) ?_
        refine g_aload_n 0 dX11_between_109 rfl ?_
        refine g_getK (ci := 11) (k0 := 14) (C0 := RX11) (T := TX11) (N := 17) (hM 77 (by decide)) rfl rfl hiX11_between_11 (by decide) (List.mem_of_getElem? (i := 3) rfl) rfl dX11_between_110 ?_
        refine g_iload 4 dX11_between_113 rfl ?_
        refine g_iald hG (hM 84 (by decide)) rfl dX11_between_115 ?_
        refine g_ishl dX11_between_116 ?_
        refine g_goto (tgt := 121) dX11_between_117 (by decide) ?_
        refine g_ior dX11_between_121 ?_
        refine g_nI (fun v_6 => ?_)
        refine g_istore (i := 4) (env' := [(4, .int v_6), (0, .ref (gad G 77)), (2, .int x2), (3, .int x3), (5, .int x5)]) dX11_between_122 (by decide) rfl ?_
        refine g_iinc 4 (v := (x5 + 1)) (env' := [(5, .int (x5 + 1)), (4, .int v_6), (0, .ref (gad G 77)), (2, .int x2), (3, .int x3)]) dX11_between_124 rfl rfl (by decide) rfl ?_
        refine g_goto (tgt := 86) dX11_between_127 (by decide) ?_
        refine g_env (env' := [(0, .ref (gad G 77)), (2, .int x2), (3, .int x3), (4, .int v_6), (5, .int (x5 + 1))]) [2, 3, 4, 1, 0] rfl ?_
        exact ih x2 x3 v_6 (x5 + 1) S
set_option maxRecDepth 100000 in
set_option maxHeartbeats 4000000 in
theorem tX11_between_L68 {G : gGG} {F : State → Heap → Prop} (hG : gOK G) (hF : gSb G F) (hM : gPM G) : ∀ (n : Nat) (x2 : Int32) (x3 : Int32) (S : gSt), Gof G F RX11 cX11_between 6 wsX11_between (some .int) (gRm 3) 0 0 (gQ G (fun x => (some (.int x.1), x.2))) 68 [(0, .ref (gad G 77)), (2, .int x2), (3, .int x3)] [] S (fX11_between_L68 n x2 x3 S) := by
  intro n
  induction n with
  | zero => intro x2 x3 S; exact g_none
  | succ n ih =>
    intro x2 x3 S
    unfold fX11_between_L68
    refine g_iload_n 2 dX11_between_68 rfl ?_
    refine g_aload_n 0 dX11_between_69 rfl ?_
    refine g_aload_n 0 dX11_between_70 rfl ?_
    refine g_getK (ci := 11) (k0 := 13) (C0 := RX11) (T := TX11) (N := 17) (hM 77 (by decide)) rfl rfl hiX11_between_11 (by decide) (List.mem_of_getElem? (i := 4) rfl) rfl dX11_between_71 ?_
    refine g_cVp (ci := 11) (C0 := RX11) (T := TX11) (N := 17) (n := 1) (As := [.ref (gad G 83)]) (rest := [.int x3]) hF (tX11_partiesOf hG hF hM (rfl : gArM 83 = true) S) gX11_between_X11_partiesOf rfl (hM 77 (by decide)) rfl rfl ⟨rfl, by decide +kernel, by decide +kernel, by decide +kernel⟩ rfl (gRm_ok (by decide) (by decide)) rfl (Nat.le_of_ble_eq_true rfl) dX11_between_74 (fun v_1 => ?_)
    refine g_icmp_ge (tgt := 147) dX11_between_77 (by decide) (fun h_1 => ?_) (fun h_1 => ?_)
    · refine g_iload_n 1 dX11_between_147 rfl ?_
      exact g_iret dX11_between_148 rfl
    · refine g_iconst (v := 0) dX11_between_80 (by decide) ?_
      refine g_istore (i := 4) (env' := [(4, .int 0), (0, .ref (gad G 77)), (2, .int x2), (3, .int x3)]) dX11_between_81 (by decide) rfl ?_
      refine g_iconst (v := 0) dX11_between_83 (by decide) ?_
      refine g_istore (i := 5) (env' := [(5, .int 0), (4, .int 0), (0, .ref (gad G 77)), (2, .int x2), (3, .int x3)]) dX11_between_84 (by decide) rfl ?_
      refine g_env (env' := [(0, .ref (gad G 77)), (2, .int x2), (3, .int x3), (4, .int 0), (5, .int 0)]) [2, 3, 4, 1, 0] rfl ?_
      exact tX11_between_L86 hG hF hM (fX11_between_L68 n) ih gFU x2 x3 0 0 S
set_option maxRecDepth 100000 in
set_option maxHeartbeats 4000000 in
theorem tX11_between_L33 {G : gGG} {F : State → Heap → Prop} (hG : gOK G) (hF : gSb G F) (hM : gPM G) : ∀ (n : Nat) (x1 : Int32) (x2 : Int32) (S : gSt), Gof G F RX11 cX11_between 6 wsX11_between (some .int) (gRm 3) 0 0 (gQ G (fun x => (some (.int x.1), x.2))) 33 [(0, .ref (gad G 77)), (1, .int x1), (2, .int x2)] [] S (fX11_between_L33 n x1 x2 S) := by
  intro n
  induction n with
  | zero => intro x1 x2 S; exact g_none
  | succ n ih =>
    intro x1 x2 S
    unfold fX11_between_L33
    refine g_iload_n 2 dX11_between_33 rfl ?_
    refine g_aload_n 0 dX11_between_34 rfl ?_
    refine g_cVp (ci := 11) (C0 := RX11) (T := TX11) (N := 17) (n := 0) (As := []) (rest := [.int x2]) hF (tX11_guests hG hF hM S) gX11_between_X11_guests rfl (hM 77 (by decide)) rfl rfl ⟨rfl, by decide +kernel, by decide +kernel, by decide +kernel⟩ rfl (gRm_ok (by decide) (by decide)) rfl (Nat.le_of_ble_eq_true rfl) dX11_between_35 (fun v_1 => ?_)
    refine g_icmp_ge (tgt := 59) dX11_between_38 (by decide) (fun h_1 => ?_) (fun h_1 => ?_)
    · refine g_aload_n 0 dX11_between_59 rfl ?_
      refine g_iload_n 1 dX11_between_60 rfl ?_
      refine g_cVv (ci := 11) (C0 := RX11) (T := TX11) (N := 17) (n := 1) (As := [.int x1]) (rest := []) hF (tX11_coarser hG hF hM x1 S) gX11_between_X11_coarser rfl (hM 77 (by decide)) rfl rfl ⟨rfl, by decide +kernel, by decide +kernel, by decide +kernel⟩ rfl (gRm_ok (by decide) (by decide)) rfl (Nat.le_of_ble_eq_true rfl) dX11_between_61 (fun S_2 => ?_)
      refine g_iconst (v := 1) dX11_between_64 (by decide) ?_
      refine g_istore_n (i := 2) (env' := [(2, .int 1), (0, .ref (gad G 77)), (1, .int x1)]) dX11_between_65 rfl (by decide) rfl ?_
      refine g_iconst (v := 0) dX11_between_66 (by decide) ?_
      refine g_istore_n (i := 3) (env' := [(3, .int 0), (2, .int 1), (0, .ref (gad G 77)), (1, .int x1)]) dX11_between_67 rfl (by decide) rfl ?_
      refine g_env (env' := [(0, .ref (gad G 77)), (2, .int 1), (3, .int 0)]) [2, 1, 0] rfl ?_
      exact tX11_between_L68 hG hF hM gFU 1 0 S_2
    · refine g_aload_n 0 dX11_between_41 rfl ?_
      refine g_getK (ci := 11) (k0 := 14) (C0 := RX11) (T := TX11) (N := 17) (hM 77 (by decide)) rfl rfl hiX11_between_11 (by decide) (List.mem_of_getElem? (i := 3) rfl) rfl dX11_between_42 ?_
      refine g_iload_n 2 dX11_between_45 rfl ?_
      refine g_aload_n 0 dX11_between_46 rfl ?_
      refine g_getK (ci := 11) (k0 := 13) (C0 := RX11) (T := TX11) (N := 17) (hM 77 (by decide)) rfl rfl hiX11_between_11 (by decide) (List.mem_of_getElem? (i := 4) rfl) rfl dX11_between_47 ?_
      refine g_iload_n 2 dX11_between_50 rfl ?_
      refine g_iald hG (hM 83 (by decide)) rfl dX11_between_51 ?_
      refine g_iast hG (hM 84 (by decide)) rfl dX11_between_52 ?_
      refine g_nS (fun S_3 => ?_)
      refine g_iinc 2 (v := (x2 + 1)) (env' := [(2, .int (x2 + 1)), (0, .ref (gad G 77)), (1, .int x1)]) dX11_between_53 rfl rfl (by decide) rfl ?_
      refine g_goto (tgt := 33) dX11_between_56 (by decide) ?_
      refine g_env (env' := [(0, .ref (gad G 77)), (1, .int x1), (2, .int (x2 + 1))]) [1, 2, 0] rfl ?_
      exact ih x1 (x2 + 1) S_3
set_option maxRecDepth 100000 in
set_option maxHeartbeats 4000000 in
theorem tX11_between_L {G : gGG} {F : State → Heap → Prop} (hG : gOK G) (hF : gSb G F) (hM : gPM G) (a1 : Int32) (S : gSt) : Gof G F RX11 cX11_between 6 wsX11_between (some .int) (gRm 3) 0 0 (gQ G (fun x => (some (.int x.1), x.2))) 0 [(0, .ref (gad G 77)), (1, .int a1)] [] S (fX11_between a1 S) := by
  unfold fX11_between
  refine g_aload_n 0 dX11_between_0 rfl ?_
  refine g_iconst (v := 0) dX11_between_1 (by decide) ?_
  refine g_putI hG (ci := 11) (k0 := 0) (C0 := RX11) (T := TX11) (N := 17) (hM 77 (by decide)) rfl rfl hiX11_between_11 (by decide) (List.mem_of_getElem? (i := 1) rfl) tyX11 tyX11_ok nmX11 rfl rfl rfl rfl dX11_between_2 ?_
  refine g_nS (fun S_1 => ?_)
  refine g_iload_n 1 dX11_between_5 rfl ?_
  refine g_cSp (n := 1) (As := [.int a1]) (rest := []) hF (tX11_isImage hG hF hM a1 S_1) gX11_between_X11_isImage rfl ⟨by decide +kernel, by decide +kernel, by decide +kernel⟩ rfl (gRm_ok (by decide) (by decide)) rfl (Nat.le_of_ble_eq_true rfl) dX11_between_6 (fun v_2 => ?_)
  refine g_if_ne (tgt := 14) dX11_between_9 (by decide) (fun h_1 => ?_) (fun h_1 => ?_)
  · refine g_aload_n 0 dX11_between_14 rfl ?_
    refine g_getK (ci := 11) (k0 := 12) (C0 := RX11) (T := TX11) (N := 17) (hM 77 (by decide)) rfl rfl hiX11_between_11 (by decide) (List.mem_of_getElem? (i := 2) rfl) rfl dX11_between_15 ?_
    refine g_iload_n 1 dX11_between_18 rfl ?_
    refine g_zald hG (hM 82 (by decide)) rfl dX11_between_19 ?_
    refine g_if_ne (tgt := 26) dX11_between_20 (by decide) (fun h_2 => ?_) (fun h_2 => ?_)
    · refine g_aload_n 0 dX11_between_26 rfl ?_
      refine g_iload_n 1 dX11_between_27 rfl ?_
      refine g_cVv (ci := 11) (C0 := RX11) (T := TX11) (N := 17) (n := 1) (As := [.int a1]) (rest := []) hF (tX11_finer hG hF hM a1 S_1) gX11_between_X11_finer rfl (hM 77 (by decide)) rfl rfl ⟨rfl, by decide +kernel, by decide +kernel, by decide +kernel⟩ rfl (gRm_ok (by decide) (by decide)) rfl (Nat.le_of_ble_eq_true rfl) dX11_between_28 (fun S_3 => ?_)
      refine g_iconst (v := 0) dX11_between_31 (by decide) ?_
      refine g_istore_n (i := 2) (env' := [(2, .int 0), (0, .ref (gad G 77)), (1, .int a1)]) dX11_between_32 rfl (by decide) rfl ?_
      refine g_env (env' := [(0, .ref (gad G 77)), (1, .int a1), (2, .int 0)]) [1, 2, 0] rfl ?_
      exact tX11_between_L33 hG hF hM gFU a1 0 S_3
    · refine g_bipush (v := (-2)) dX11_between_23 (by decide) ?_
      exact g_iret dX11_between_25 rfl
  · refine g_iconst (v := (-1)) dX11_between_12 (by decide) ?_
    exact g_iret dX11_between_13 rfl
set_option maxRecDepth 100000 in
set_option maxHeartbeats 4000000 in
theorem tX11_between {G : gGG} {F : State → Heap → Prop} (hG : gOK G) (hF : gSb G F) (hM : gPM G) (a1 : Int32) (S : gSt) : gCt G F yX11_between wsX11_between 3 [.ref (gad G 77), .int a1] S ((fX11_between a1 S).map (fun x => (some (.int x.1), x.2))) := g_met (by decide +kernel) rfl (Nat.le_of_ble_eq_true rfl) (tX11_between_L hG hF hM a1 S)
/-! X11_fewest -/
theorem hiX11_fewest_11 : ∀ w ∈ u_ws RX11 TX11 17, w ∈ wsX11_fewest := fun _ hw => List.mem_cons_of_mem _ (List.mem_append_right _ (hw))
set_option maxRecDepth 100000 in
set_option maxHeartbeats 4000000 in
theorem tX11_fewest_L244 {G : gGG} {F : State → Heap → Prop} (hG : gOK G) (hF : gSb G F) (hM : gPM G) : ∀ (n : Nat) (x2 : Int32) (x3 : Int32) (S : gSt), Gof G F RX11 cX11_fewest 7 wsX11_fewest (some .int) (gRm 2) 0 0 (gQ G (fun x => (some (.int x.1), x.2))) 244 [(0, .ref (gad G 77)), (2, .int x2), (3, .int x3)] [] S (fX11_fewest_L244 n x2 x3 S) := by
  intro n
  induction n with
  | zero => intro x2 x3 S; exact g_none
  | succ n ih =>
    intro x2 x3 S
    unfold fX11_fewest_L244
    refine g_iload_n 2 dX11_fewest_244 rfl ?_
    refine g_sipush (v := 256) dX11_fewest_245 (by decide) ?_
    refine g_icmp_ge (tgt := 278) dX11_fewest_248 (by decide) (fun h_1 => ?_) (fun h_1 => ?_)
    · refine g_aload_n 0 dX11_fewest_278 rfl ?_
      refine g_cVp (ci := 11) (C0 := RX11) (T := TX11) (N := 17) (n := 0) (As := []) (rest := []) hF (tX11_guests hG hF hM S) gX11_fewest_X11_guests rfl (hM 77 (by decide)) rfl rfl ⟨rfl, by decide +kernel, by decide +kernel, by decide +kernel⟩ rfl (gRm_ok (by decide) (by decide)) rfl (Nat.le_of_ble_eq_true rfl) dX11_fewest_279 (fun v_1 => ?_)
      refine g_iload_n 1 dX11_fewest_282 rfl ?_
      refine g_isub dX11_fewest_283 ?_
      exact g_iret dX11_fewest_284 rfl
    · refine g_aload_n 0 dX11_fewest_251 rfl ?_
      refine g_getK (ci := 11) (k0 := 16) (C0 := RX11) (T := TX11) (N := 17) (hM 77 (by decide)) rfl rfl hiX11_fewest_11 (by decide) (List.mem_of_getElem? (i := 3) rfl) rfl dX11_fewest_252 ?_
      refine g_iload_n 2 dX11_fewest_255 rfl ?_
      refine g_iald hG (hM 86 (by decide)) rfl dX11_fewest_256 ?_
      refine g_iload_n 1 dX11_fewest_257 rfl ?_
      refine g_icmp_le (tgt := 270) dX11_fewest_258 (by decide) (fun h_2 => ?_) (fun h_2 => ?_)
      · refine g_iload_n 1 dX11_fewest_270 rfl ?_
        refine g_istore_n (i := 2) (env' := [(2, .int x2), (0, .ref (gad G 77)), (3, .int x3)]) dX11_fewest_271 rfl (by decide) rfl ?_
        refine g_iinc 2 (v := (x3 + 1)) (env' := [(3, .int (x3 + 1)), (2, .int x2), (0, .ref (gad G 77))]) dX11_fewest_272 rfl rfl (by decide) rfl ?_
        refine g_goto (tgt := 244) dX11_fewest_275 (by decide) ?_
        refine g_env (env' := [(0, .ref (gad G 77)), (2, .int x2), (3, .int (x3 + 1))]) [2, 1, 0] rfl ?_
        exact ih x2 (x3 + 1) S
      · refine g_aload_n 0 dX11_fewest_261 rfl ?_
        refine g_getK (ci := 11) (k0 := 16) (C0 := RX11) (T := TX11) (N := 17) (hM 77 (by decide)) rfl rfl hiX11_fewest_11 (by decide) (List.mem_of_getElem? (i := 3) rfl) rfl dX11_fewest_262 ?_
        refine g_iload_n 2 dX11_fewest_265 rfl ?_
        refine g_iald hG (hM 86 (by decide)) rfl dX11_fewest_266 ?_
        refine g_goto (tgt := 271) dX11_fewest_267 (by decide) ?_
        refine g_nI (fun v_2 => ?_)
        refine g_istore_n (i := 2) (env' := [(2, .int v_2), (0, .ref (gad G 77)), (3, .int x3)]) dX11_fewest_271 rfl (by decide) rfl ?_
        refine g_iinc 2 (v := (x3 + 1)) (env' := [(3, .int (x3 + 1)), (2, .int v_2), (0, .ref (gad G 77))]) dX11_fewest_272 rfl rfl (by decide) rfl ?_
        refine g_goto (tgt := 244) dX11_fewest_275 (by decide) ?_
        refine g_env (env' := [(0, .ref (gad G 77)), (2, .int v_2), (3, .int (x3 + 1))]) [2, 1, 0] rfl ?_
        exact ih v_2 (x3 + 1) S
set_option maxRecDepth 100000 in
set_option maxHeartbeats 4000000 in
theorem tX11_fewest_L123 {G : gGG} {F : State → Heap → Prop} (hG : gOK G) (hF : gSb G F) (hM : gPM G) (k59 : Int32 → Int32 → gSt → Option (Int32 × gSt)) (hk59 : ∀ (x1 : Int32) (x2 : Int32) (S : gSt), Gof G F RX11 cX11_fewest 7 wsX11_fewest (some .int) (gRm 2) 0 0 (gQ G (fun x => (some (.int x.1), x.2))) 59 [(0, .ref (gad G 77)), (1, .int x1), (2, .int x2)] [] S (k59 x1 x2 S)) (k75 : Int32 → Int32 → Int32 → gSt → Option (Int32 × gSt)) (hk75 : ∀ (x1 : Int32) (x2 : Int32) (x3 : Int32) (S : gSt), Gof G F RX11 cX11_fewest 7 wsX11_fewest (some .int) (gRm 2) 0 0 (gQ G (fun x => (some (.int x.1), x.2))) 75 [(0, .ref (gad G 77)), (1, .int x1), (2, .int x2), (3, .int x3)] [] S (k75 x1 x2 x3 S)) (k82 : Int32 → Int32 → Int32 → Int32 → gSt → Option (Int32 × gSt)) (hk82 : ∀ (x1 : Int32) (x2 : Int32) (x3 : Int32) (x4 : Int32) (S : gSt), Gof G F RX11 cX11_fewest 7 wsX11_fewest (some .int) (gRm 2) 0 0 (gQ G (fun x => (some (.int x.1), x.2))) 82 [(0, .ref (gad G 77)), (1, .int x1), (2, .int x2), (3, .int x3), (4, .int x4)] [] S (k82 x1 x2 x3 x4 S)) : ∀ (n : Nat) (x1 : Int32) (x2 : Int32) (x3 : Int32) (x4 : Int32) (x5 : Int32) (x6 : Int32) (S : gSt), Gof G F RX11 cX11_fewest 7 wsX11_fewest (some .int) (gRm 2) 0 0 (gQ G (fun x => (some (.int x.1), x.2))) 123 [(0, .ref (gad G 77)), (1, .int x1), (2, .int x2), (3, .int x3), (4, .int x4), (5, .int x5), (6, .int x6)] [] S (fX11_fewest_L123 k59 k75 k82 n x1 x2 x3 x4 x5 x6 S) := by
  intro n
  induction n with
  | zero => intro x1 x2 x3 x4 x5 x6 S; exact g_none
  | succ n ih =>
    intro x1 x2 x3 x4 x5 x6 S
    unfold fX11_fewest_L123
    refine g_iload 6 dX11_fewest_123 rfl ?_
    refine g_aload_n 0 dX11_fewest_125 rfl ?_
    refine g_cVp (ci := 11) (C0 := RX11) (T := TX11) (N := 17) (n := 0) (As := []) (rest := [.int x6]) hF (tX11_guests hG hF hM S) gX11_fewest_X11_guests rfl (hM 77 (by decide)) rfl rfl ⟨rfl, by decide +kernel, by decide +kernel, by decide +kernel⟩ rfl (gRm_ok (by decide) (by decide)) rfl (Nat.le_of_ble_eq_true rfl) dX11_fewest_126 (fun v_1 => ?_)
    refine g_icmp_ge (tgt := 176) dX11_fewest_129 (by decide) (fun h_1 => ?_) (fun h_1 => ?_)
    · refine g_aload_n 0 dX11_fewest_176 rfl ?_
      refine g_getK (ci := 11) (k0 := 16) (C0 := RX11) (T := TX11) (N := 17) (hM 77 (by decide)) rfl rfl hiX11_fewest_11 (by decide) (List.mem_of_getElem? (i := 3) rfl) rfl dX11_fewest_177 ?_
      refine g_iload_n 3 dX11_fewest_180 rfl ?_
      refine g_iconst (v := 1) dX11_fewest_181 (by decide) ?_
      refine g_iload 4 dX11_fewest_182 rfl ?_
      refine g_ishl dX11_fewest_184 ?_
      refine g_iconst (v := (-1)) dX11_fewest_185 (by decide) ?_
      refine g_ixor dX11_fewest_186 ?_
      refine g_iand dX11_fewest_187 ?_
      refine g_iald hG (hM 86 (by decide)) rfl dX11_fewest_188 ?_
      refine g_iload 5 dX11_fewest_189 rfl ?_
      refine g_iadd dX11_fewest_191 ?_
      refine g_nI (fun v_2 => ?_)
      refine g_istore (i := 6) (env' := [(6, .int v_2), (0, .ref (gad G 77)), (1, .int x1), (2, .int x2), (3, .int x3), (4, .int x4), (5, .int x5)]) dX11_fewest_192 (by decide) rfl ?_
      refine g_aload_n 1 dX11_fewest_194 rfl ?_
      refine g_getK (ci := 11) (k0 := 16) (C0 := RX11) (T := TX11) (N := 17) (hM 77 (by decide)) rfl rfl hiX11_fewest_11 (by decide) (List.mem_of_getElem? (i := 3) rfl) rfl dX11_fewest_195 ?_
      refine g_iload_n 4 dX11_fewest_198 rfl ?_
      refine g_iload 0 dX11_fewest_199 rfl ?_
      refine g_aload_n 1 dX11_fewest_201 rfl ?_
      refine g_getK (ci := 11) (k0 := 16) (C0 := RX11) (T := TX11) (N := 17) (hM 77 (by decide)) rfl rfl hiX11_fewest_11 (by decide) (List.mem_of_getElem? (i := 3) rfl) rfl dX11_fewest_202 ?_
      refine g_iload_n 4 dX11_fewest_205 rfl ?_
      refine g_iald hG (hM 86 (by decide)) rfl dX11_fewest_206 ?_
      refine g_icmp_le (tgt := 215) dX11_fewest_207 (by decide) (fun h_2 => ?_) (fun h_2 => ?_)
      · refine g_aload_n 1 dX11_fewest_215 rfl ?_
        refine g_getK (ci := 11) (k0 := 16) (C0 := RX11) (T := TX11) (N := 17) (hM 77 (by decide)) rfl rfl hiX11_fewest_11 (by decide) (List.mem_of_getElem? (i := 3) rfl) rfl dX11_fewest_216 ?_
        refine g_iload_n 4 dX11_fewest_219 rfl ?_
        refine g_iald hG (hM 86 (by decide)) rfl dX11_fewest_220 ?_
        refine g_iast hG (hM 86 (by decide)) rfl dX11_fewest_221 ?_
        refine g_nS (fun S_3 => ?_)
        refine g_iinc 5 (v := (x4 + 1)) (env' := [(4, .int (x4 + 1)), (6, .int v_2), (0, .ref (gad G 77)), (1, .int x1), (2, .int x2), (3, .int x3), (5, .int x5)]) dX11_fewest_222 rfl rfl (by decide) rfl ?_
        refine g_goto (tgt := 82) dX11_fewest_225 (by decide) ?_
        refine g_env (env' := [(0, .ref (gad G 77)), (1, .int x1), (2, .int x2), (3, .int x3), (4, .int (x4 + 1))]) [2, 3, 4, 5, 0] rfl ?_
        exact hk82 x1 x2 x3 (x4 + 1) S_3
      · refine g_iload 0 dX11_fewest_210 rfl ?_
        refine g_goto (tgt := 221) dX11_fewest_212 (by decide) ?_
        refine g_iast hG (hM 86 (by decide)) rfl dX11_fewest_221 ?_
        refine g_nS (fun S_4 => ?_)
        refine g_iinc 5 (v := (x4 + 1)) (env' := [(4, .int (x4 + 1)), (6, .int v_2), (0, .ref (gad G 77)), (1, .int x1), (2, .int x2), (3, .int x3), (5, .int x5)]) dX11_fewest_222 rfl rfl (by decide) rfl ?_
        refine g_goto (tgt := 82) dX11_fewest_225 (by decide) ?_
        refine g_env (env' := [(0, .ref (gad G 77)), (1, .int x1), (2, .int x2), (3, .int x3), (4, .int (x4 + 1))]) [2, 3, 4, 5, 0] rfl ?_
        exact hk82 x1 x2 x3 (x4 + 1) S_4
    · refine g_iload 5 dX11_fewest_132 rfl ?_
      refine g_aload_n 0 dX11_fewest_134 rfl ?_
      refine g_getK (ci := 11) (k0 := 10) (C0 := RX11) (T := TX11) (N := 17) (hM 77 (by decide)) rfl rfl hiX11_fewest_11 (by decide) (List.mem_of_getElem? (i := 4) rfl) rfl dX11_fewest_135 ?_
      refine g_iload 6 dX11_fewest_138 rfl ?_
      refine g_iald hG (hM 80 (by decide)) rfl dX11_fewest_140 ?_
      refine g_iload_n 2 dX11_fewest_141 rfl ?_
      refine g_icmp_ne (tgt := 166) dX11_fewest_142 (by decide) (fun h_3 => ?_) (fun h_3 => ?_)
      · refine g_iconst (v := 0) dX11_fewest_166 (by decide) ?_
        refine g_iadd dX11_fewest_167 ?_
        refine g_nI (fun v_5 => ?_)
        refine g_istore (i := 5) (env' := [(5, .int v_5), (0, .ref (gad G 77)), (1, .int x1), (2, .int x2), (3, .int x3), (4, .int x4), (6, .int x6)]) dX11_fewest_168 (by decide) rfl ?_
        refine g_iinc 6 (v := (x6 + 1)) (env' := [(6, .int (x6 + 1)), (5, .int v_5), (0, .ref (gad G 77)), (1, .int x1), (2, .int x2), (3, .int x3), (4, .int x4)]) dX11_fewest_170 rfl rfl (by decide) rfl ?_
        refine g_goto (tgt := 123) dX11_fewest_173 (by decide) ?_
        refine g_env (env' := [(0, .ref (gad G 77)), (1, .int x1), (2, .int x2), (3, .int x3), (4, .int x4), (5, .int v_5), (6, .int (x6 + 1))]) [2, 3, 4, 5, 6, 1, 0] rfl ?_
        exact ih x1 x2 x3 x4 v_5 (x6 + 1) S
      · refine g_aload_n 0 dX11_fewest_145 rfl ?_
        refine g_getK (ci := 11) (k0 := 11) (C0 := RX11) (T := TX11) (N := 17) (hM 77 (by decide)) rfl rfl hiX11_fewest_11 (by decide) (List.mem_of_getElem? (i := 5) rfl) rfl dX11_fewest_146 ?_
        refine g_bipush (v := 40) dX11_fewest_149 (by decide) ?_
        refine g_iload_n 1 dX11_fewest_151 rfl ?_
        refine g_imul dX11_fewest_152 ?_
        refine g_iload 6 dX11_fewest_153 rfl ?_
        refine g_iadd dX11_fewest_155 ?_
        refine g_iald hG (hM 81 (by decide)) rfl dX11_fewest_156 ?_
        refine g_iload 4 dX11_fewest_157 rfl ?_
        refine g_icmp_ne (tgt := 166) dX11_fewest_159 (by decide) (fun h_4 => ?_) (fun h_4 => ?_)
        · refine g_iconst (v := 0) dX11_fewest_166 (by decide) ?_
          refine g_iadd dX11_fewest_167 ?_
          refine g_nI (fun v_6 => ?_)
          refine g_istore (i := 5) (env' := [(5, .int v_6), (0, .ref (gad G 77)), (1, .int x1), (2, .int x2), (3, .int x3), (4, .int x4), (6, .int x6)]) dX11_fewest_168 (by decide) rfl ?_
          refine g_iinc 6 (v := (x6 + 1)) (env' := [(6, .int (x6 + 1)), (5, .int v_6), (0, .ref (gad G 77)), (1, .int x1), (2, .int x2), (3, .int x3), (4, .int x4)]) dX11_fewest_170 rfl rfl (by decide) rfl ?_
          refine g_goto (tgt := 123) dX11_fewest_173 (by decide) ?_
          refine g_env (env' := [(0, .ref (gad G 77)), (1, .int x1), (2, .int x2), (3, .int x3), (4, .int x4), (5, .int v_6), (6, .int (x6 + 1))]) [2, 3, 4, 5, 6, 1, 0] rfl ?_
          exact ih x1 x2 x3 x4 v_6 (x6 + 1) S
        · refine g_iconst (v := 1) dX11_fewest_162 (by decide) ?_
          refine g_goto (tgt := 167) dX11_fewest_163 (by decide) ?_
          refine g_iadd dX11_fewest_167 ?_
          refine g_nI (fun v_7 => ?_)
          refine g_istore (i := 5) (env' := [(5, .int v_7), (0, .ref (gad G 77)), (1, .int x1), (2, .int x2), (3, .int x3), (4, .int x4), (6, .int x6)]) dX11_fewest_168 (by decide) rfl ?_
          refine g_iinc 6 (v := (x6 + 1)) (env' := [(6, .int (x6 + 1)), (5, .int v_7), (0, .ref (gad G 77)), (1, .int x1), (2, .int x2), (3, .int x3), (4, .int x4)]) dX11_fewest_170 rfl rfl (by decide) rfl ?_
          refine g_goto (tgt := 123) dX11_fewest_173 (by decide) ?_
          refine g_env (env' := [(0, .ref (gad G 77)), (1, .int x1), (2, .int x2), (3, .int x3), (4, .int x4), (5, .int v_7), (6, .int (x6 + 1))]) [2, 3, 4, 5, 6, 1, 0] rfl ?_
          exact ih x1 x2 x3 x4 v_7 (x6 + 1) S
set_option maxRecDepth 100000 in
set_option maxHeartbeats 4000000 in
theorem tX11_fewest_L82 {G : gGG} {F : State → Heap → Prop} (hG : gOK G) (hF : gSb G F) (hM : gPM G) (k59 : Int32 → Int32 → gSt → Option (Int32 × gSt)) (hk59 : ∀ (x1 : Int32) (x2 : Int32) (S : gSt), Gof G F RX11 cX11_fewest 7 wsX11_fewest (some .int) (gRm 2) 0 0 (gQ G (fun x => (some (.int x.1), x.2))) 59 [(0, .ref (gad G 77)), (1, .int x1), (2, .int x2)] [] S (k59 x1 x2 S)) (k75 : Int32 → Int32 → Int32 → gSt → Option (Int32 × gSt)) (hk75 : ∀ (x1 : Int32) (x2 : Int32) (x3 : Int32) (S : gSt), Gof G F RX11 cX11_fewest 7 wsX11_fewest (some .int) (gRm 2) 0 0 (gQ G (fun x => (some (.int x.1), x.2))) 75 [(0, .ref (gad G 77)), (1, .int x1), (2, .int x2), (3, .int x3)] [] S (k75 x1 x2 x3 S)) : ∀ (n : Nat) (x1 : Int32) (x2 : Int32) (x3 : Int32) (x4 : Int32) (S : gSt), Gof G F RX11 cX11_fewest 7 wsX11_fewest (some .int) (gRm 2) 0 0 (gQ G (fun x => (some (.int x.1), x.2))) 82 [(0, .ref (gad G 77)), (1, .int x1), (2, .int x2), (3, .int x3), (4, .int x4)] [] S (fX11_fewest_L82 k59 k75 n x1 x2 x3 x4 S) := by
  intro n
  induction n with
  | zero => intro x1 x2 x3 x4 S; exact g_none
  | succ n ih =>
    intro x1 x2 x3 x4 S
    unfold fX11_fewest_L82
    refine g_iload 4 dX11_fewest_82 rfl ?_
    refine g_bipush (v := 8) dX11_fewest_84 (by decide) ?_
    refine g_icmp_ge (tgt := 228) dX11_fewest_86 (by decide) (fun h_1 => ?_) (fun h_1 => ?_)
    · refine g_iinc 3 (v := (x3 + (-1))) (env' := [(3, .int (x3 + (-1))), (0, .ref (gad G 77)), (1, .int x1), (2, .int x2), (4, .int x4)]) dX11_fewest_228 rfl rfl (by decide) rfl ?_
      refine g_goto (tgt := 75) dX11_fewest_231 (by decide) ?_
      refine g_env (env' := [(0, .ref (gad G 77)), (1, .int x1), (2, .int x2), (3, .int (x3 + (-1)))]) [1, 2, 3, 0] rfl ?_
      exact hk75 x1 x2 (x3 + (-1)) S
    · refine g_iload_n 3 dX11_fewest_89 rfl ?_
      refine g_iload 4 dX11_fewest_90 rfl ?_
      refine g_ishr dX11_fewest_92 ?_
      refine g_iconst (v := 1) dX11_fewest_93 (by decide) ?_
      refine g_iand dX11_fewest_94 ?_
      refine g_iconst (v := 1) dX11_fewest_95 (by decide) ?_
      refine g_icmp_ne (tgt := 222) dX11_fewest_96 (by decide) (fun h_2 => ?_) (fun h_2 => ?_)
      · refine g_iinc 4 (v := (x4 + 1)) (env' := [(4, .int (x4 + 1)), (0, .ref (gad G 77)), (1, .int x1), (2, .int x2), (3, .int x3)]) dX11_fewest_222 rfl rfl (by decide) rfl ?_
        refine g_goto (tgt := 82) dX11_fewest_225 (by decide) ?_
        refine g_env (env' := [(0, .ref (gad G 77)), (1, .int x1), (2, .int x2), (3, .int x3), (4, .int (x4 + 1))]) [1, 2, 3, 4, 0] rfl ?_
        exact ih x1 x2 x3 (x4 + 1) S
      · refine g_aload_n 0 dX11_fewest_99 rfl ?_
        refine g_getK (ci := 11) (k0 := 16) (C0 := RX11) (T := TX11) (N := 17) (hM 77 (by decide)) rfl rfl hiX11_fewest_11 (by decide) (List.mem_of_getElem? (i := 3) rfl) rfl dX11_fewest_100 ?_
        refine g_iload_n 3 dX11_fewest_103 rfl ?_
        refine g_iconst (v := 1) dX11_fewest_104 (by decide) ?_
        refine g_iload 4 dX11_fewest_105 rfl ?_
        refine g_ishl dX11_fewest_107 ?_
        refine g_iconst (v := (-1)) dX11_fewest_108 (by decide) ?_
        refine g_ixor dX11_fewest_109 ?_
        refine g_iand dX11_fewest_110 ?_
        refine g_iald hG (hM 86 (by decide)) rfl dX11_fewest_111 ?_
        refine g_bipush (v := (-9)) dX11_fewest_112 (by decide) ?_
        refine g_icmp_eq (tgt := 222) dX11_fewest_114 (by decide) (fun h_3 => ?_) (fun h_3 => ?_)
        · refine g_iinc 4 (v := (x4 + 1)) (env' := [(4, .int (x4 + 1)), (0, .ref (gad G 77)), (1, .int x1), (2, .int x2), (3, .int x3)]) dX11_fewest_222 rfl rfl (by decide) rfl ?_
          refine g_goto (tgt := 82) dX11_fewest_225 (by decide) ?_
          refine g_env (env' := [(0, .ref (gad G 77)), (1, .int x1), (2, .int x2), (3, .int x3), (4, .int (x4 + 1))]) [1, 2, 3, 4, 0] rfl ?_
          exact ih x1 x2 x3 (x4 + 1) S
        · refine g_iconst (v := 0) dX11_fewest_117 (by decide) ?_
          refine g_istore (i := 5) (env' := [(5, .int 0), (0, .ref (gad G 77)), (1, .int x1), (2, .int x2), (3, .int x3), (4, .int x4)]) dX11_fewest_118 (by decide) rfl ?_
          refine g_iconst (v := 0) dX11_fewest_120 (by decide) ?_
          refine g_istore (i := 6) (env' := [(6, .int 0), (5, .int 0), (0, .ref (gad G 77)), (1, .int x1), (2, .int x2), (3, .int x3), (4, .int x4)]) dX11_fewest_121 (by decide) rfl ?_
          refine g_env (env' := [(0, .ref (gad G 77)), (1, .int x1), (2, .int x2), (3, .int x3), (4, .int x4), (5, .int 0), (6, .int 0)]) [2, 3, 4, 5, 6, 1, 0] rfl ?_
          exact tX11_fewest_L123 hG hF hM k59 hk59 k75 hk75 (fX11_fewest_L82 k59 k75 n) ih gFU x1 x2 x3 x4 0 0 S
set_option maxRecDepth 100000 in
set_option maxHeartbeats 4000000 in
theorem tX11_fewest_L75 {G : gGG} {F : State → Heap → Prop} (hG : gOK G) (hF : gSb G F) (hM : gPM G) (k59 : Int32 → Int32 → gSt → Option (Int32 × gSt)) (hk59 : ∀ (x1 : Int32) (x2 : Int32) (S : gSt), Gof G F RX11 cX11_fewest 7 wsX11_fewest (some .int) (gRm 2) 0 0 (gQ G (fun x => (some (.int x.1), x.2))) 59 [(0, .ref (gad G 77)), (1, .int x1), (2, .int x2)] [] S (k59 x1 x2 S)) : ∀ (n : Nat) (x1 : Int32) (x2 : Int32) (x3 : Int32) (S : gSt), Gof G F RX11 cX11_fewest 7 wsX11_fewest (some .int) (gRm 2) 0 0 (gQ G (fun x => (some (.int x.1), x.2))) 75 [(0, .ref (gad G 77)), (1, .int x1), (2, .int x2), (3, .int x3)] [] S (fX11_fewest_L75 k59 n x1 x2 x3 S) := by
  intro n
  induction n with
  | zero => intro x1 x2 x3 S; exact g_none
  | succ n ih =>
    intro x1 x2 x3 S
    unfold fX11_fewest_L75
    refine g_iload_n 3 dX11_fewest_75 rfl ?_
    refine g_if_lt (tgt := 234) dX11_fewest_76 (by decide) (fun h_1 => ?_) (fun h_1 => ?_)
    · refine g_iinc 2 (v := (x2 + 1)) (env' := [(2, .int (x2 + 1)), (0, .ref (gad G 77)), (1, .int x1), (3, .int x3)]) dX11_fewest_234 rfl rfl (by decide) rfl ?_
      refine g_goto (tgt := 59) dX11_fewest_237 (by decide) ?_
      refine g_env (env' := [(0, .ref (gad G 77)), (1, .int x1), (2, .int (x2 + 1))]) [1, 2, 0] rfl ?_
      exact hk59 x1 (x2 + 1) S
    · refine g_iconst (v := 0) dX11_fewest_79 (by decide) ?_
      refine g_istore (i := 4) (env' := [(4, .int 0), (0, .ref (gad G 77)), (1, .int x1), (2, .int x2), (3, .int x3)]) dX11_fewest_80 (by decide) rfl ?_
      refine g_env (env' := [(0, .ref (gad G 77)), (1, .int x1), (2, .int x2), (3, .int x3), (4, .int 0)]) [1, 2, 3, 4, 0] rfl ?_
      exact tX11_fewest_L82 hG hF hM k59 hk59 (fX11_fewest_L75 k59 n) ih gFU x1 x2 x3 0 S
set_option maxRecDepth 100000 in
set_option maxHeartbeats 4000000 in
theorem tX11_fewest_L59 {G : gGG} {F : State → Heap → Prop} (hG : gOK G) (hF : gSb G F) (hM : gPM G) : ∀ (n : Nat) (x1 : Int32) (x2 : Int32) (S : gSt), Gof G F RX11 cX11_fewest 7 wsX11_fewest (some .int) (gRm 2) 0 0 (gQ G (fun x => (some (.int x.1), x.2))) 59 [(0, .ref (gad G 77)), (1, .int x1), (2, .int x2)] [] S (fX11_fewest_L59 n x1 x2 S) := by
  intro n
  induction n with
  | zero => intro x1 x2 S; exact g_none
  | succ n ih =>
    intro x1 x2 S
    unfold fX11_fewest_L59
    refine g_iload_n 2 dX11_fewest_59 rfl ?_
    refine g_aload_n 0 dX11_fewest_60 rfl ?_
    refine g_aload_n 0 dX11_fewest_61 rfl ?_
    refine g_getK (ci := 11) (k0 := 10) (C0 := RX11) (T := TX11) (N := 17) (hM 77 (by decide)) rfl rfl hiX11_fewest_11 (by decide) (List.mem_of_getElem? (i := 4) rfl) rfl dX11_fewest_62 ?_
    refine g_cVp (ci := 11) (C0 := RX11) (T := TX11) (N := 17) (n := 1) (As := [.ref (gad G 80)]) (rest := [.int x2]) hF (tX11_partiesOf hG hF hM (rfl : gArM 80 = true) S) gX11_fewest_X11_partiesOf rfl (hM 77 (by decide)) rfl rfl ⟨rfl, by decide +kernel, by decide +kernel, by decide +kernel⟩ rfl (gRm_ok (by decide) (by decide)) rfl (Nat.le_of_ble_eq_true rfl) dX11_fewest_65 (fun v_1 => ?_)
    refine g_icmp_ge (tgt := 240) dX11_fewest_68 (by decide) (fun h_1 => ?_) (fun h_1 => ?_)
    · refine g_iconst (v := 0) dX11_fewest_240 (by decide) ?_
      refine g_istore_n (i := 2) (env' := [(2, .int 0), (0, .ref (gad G 77)), (1, .int x1)]) dX11_fewest_241 rfl (by decide) rfl ?_
      refine g_iconst (v := 0) dX11_fewest_242 (by decide) ?_
      refine g_istore_n (i := 3) (env' := [(3, .int 0), (2, .int 0), (0, .ref (gad G 77)), (1, .int x1)]) dX11_fewest_243 rfl (by decide) rfl ?_
      refine g_env (env' := [(0, .ref (gad G 77)), (2, .int 0), (3, .int 0)]) [2, 1, 0] rfl ?_
      exact tX11_fewest_L244 hG hF hM gFU 0 0 S
    · refine g_sipush (v := 255) dX11_fewest_71 (by decide) ?_
      refine g_istore_n (i := 3) (env' := [(3, .int 255), (0, .ref (gad G 77)), (1, .int x1), (2, .int x2)]) dX11_fewest_74 rfl (by decide) rfl ?_
      refine g_env (env' := [(0, .ref (gad G 77)), (1, .int x1), (2, .int x2), (3, .int 255)]) [1, 2, 3, 0] rfl ?_
      exact tX11_fewest_L75 hG hF hM (fX11_fewest_L59 n) ih gFU x1 x2 255 S
set_option maxRecDepth 100000 in
set_option maxHeartbeats 4000000 in
theorem tX11_fewest_L28 {G : gGG} {F : State → Heap → Prop} (hG : gOK G) (hF : gSb G F) (hM : gPM G) : ∀ (n : Nat) (x1 : Int32) (x2 : Int32) (S : gSt), Gof G F RX11 cX11_fewest 7 wsX11_fewest (some .int) (gRm 2) 0 0 (gQ G (fun x => (some (.int x.1), x.2))) 28 [(0, .ref (gad G 77)), (1, .int x1), (2, .int x2)] [] S (fX11_fewest_L28 n x1 x2 S) := by
  intro n
  induction n with
  | zero => intro x1 x2 S; exact g_none
  | succ n ih =>
    intro x1 x2 S
    unfold fX11_fewest_L28
    refine g_iload_n 2 dX11_fewest_28 rfl ?_
    refine g_sipush (v := 256) dX11_fewest_29 (by decide) ?_
    refine g_icmp_ge (tgt := 57) dX11_fewest_32 (by decide) (fun h_1 => ?_) (fun h_1 => ?_)
    · refine g_iconst (v := 0) dX11_fewest_57 (by decide) ?_
      refine g_istore_n (i := 2) (env' := [(2, .int 0), (0, .ref (gad G 77)), (1, .int x1)]) dX11_fewest_58 rfl (by decide) rfl ?_
      refine g_env (env' := [(0, .ref (gad G 77)), (1, .int x1), (2, .int 0)]) [1, 2, 0] rfl ?_
      exact tX11_fewest_L59 hG hF hM gFU x1 0 S
    · refine g_aload_n 0 dX11_fewest_35 rfl ?_
      refine g_getK (ci := 11) (k0 := 16) (C0 := RX11) (T := TX11) (N := 17) (hM 77 (by decide)) rfl rfl hiX11_fewest_11 (by decide) (List.mem_of_getElem? (i := 3) rfl) rfl dX11_fewest_36 ?_
      refine g_iload_n 2 dX11_fewest_39 rfl ?_
      refine g_iload_n 2 dX11_fewest_40 rfl ?_
      refine g_if_ne (tgt := 48) dX11_fewest_41 (by decide) (fun h_2 => ?_) (fun h_2 => ?_)
      · refine g_bipush (v := (-9)) dX11_fewest_48 (by decide) ?_
        refine g_iast hG (hM 86 (by decide)) rfl dX11_fewest_50 ?_
        refine g_nS (fun S_1 => ?_)
        refine g_iinc 2 (v := (x2 + 1)) (env' := [(2, .int (x2 + 1)), (0, .ref (gad G 77)), (1, .int x1)]) dX11_fewest_51 rfl rfl (by decide) rfl ?_
        refine g_goto (tgt := 28) dX11_fewest_54 (by decide) ?_
        refine g_env (env' := [(0, .ref (gad G 77)), (1, .int x1), (2, .int (x2 + 1))]) [1, 2, 0] rfl ?_
        exact ih x1 (x2 + 1) S_1
      · refine g_iconst (v := 0) dX11_fewest_44 (by decide) ?_
        refine g_goto (tgt := 50) dX11_fewest_45 (by decide) ?_
        refine g_iast hG (hM 86 (by decide)) rfl dX11_fewest_50 ?_
        refine g_nS (fun S_2 => ?_)
        refine g_iinc 2 (v := (x2 + 1)) (env' := [(2, .int (x2 + 1)), (0, .ref (gad G 77)), (1, .int x1)]) dX11_fewest_51 rfl rfl (by decide) rfl ?_
        refine g_goto (tgt := 28) dX11_fewest_54 (by decide) ?_
        refine g_env (env' := [(0, .ref (gad G 77)), (1, .int x1), (2, .int (x2 + 1))]) [1, 2, 0] rfl ?_
        exact ih x1 (x2 + 1) S_2
set_option maxRecDepth 100000 in
set_option maxHeartbeats 4000000 in
theorem tX11_fewest_L {G : gGG} {F : State → Heap → Prop} (hG : gOK G) (hF : gSb G F) (hM : gPM G) (a1 : Int32) (S : gSt) : Gof G F RX11 cX11_fewest 7 wsX11_fewest (some .int) (gRm 2) 0 0 (gQ G (fun x => (some (.int x.1), x.2))) 0 [(0, .ref (gad G 77)), (1, .int a1)] [] S (fX11_fewest a1 S) := by
  unfold fX11_fewest
  refine g_aload_n 0 dX11_fewest_0 rfl ?_
  refine g_iconst (v := 0) dX11_fewest_1 (by decide) ?_
  refine g_putI hG (ci := 11) (k0 := 0) (C0 := RX11) (T := TX11) (N := 17) (hM 77 (by decide)) rfl rfl hiX11_fewest_11 (by decide) (List.mem_of_getElem? (i := 1) rfl) tyX11 tyX11_ok nmX11 rfl rfl rfl rfl dX11_fewest_2 ?_
  refine g_nS (fun S_1 => ?_)
  refine g_iload_n 1 dX11_fewest_5 rfl ?_
  refine g_cSp (n := 1) (As := [.int a1]) (rest := []) hF (tX11_isImage hG hF hM a1 S_1) gX11_fewest_X11_isImage rfl ⟨by decide +kernel, by decide +kernel, by decide +kernel⟩ rfl (gRm_ok (by decide) (by decide)) rfl (Nat.le_of_ble_eq_true rfl) dX11_fewest_6 (fun v_2 => ?_)
  refine g_if_ne (tgt := 14) dX11_fewest_9 (by decide) (fun h_1 => ?_) (fun h_1 => ?_)
  · refine g_aload_n 0 dX11_fewest_14 rfl ?_
    refine g_getK (ci := 11) (k0 := 12) (C0 := RX11) (T := TX11) (N := 17) (hM 77 (by decide)) rfl rfl hiX11_fewest_11 (by decide) (List.mem_of_getElem? (i := 2) rfl) rfl dX11_fewest_15 ?_
    refine g_iload_n 1 dX11_fewest_18 rfl ?_
    refine g_zald hG (hM 82 (by decide)) rfl dX11_fewest_19 ?_
    refine g_if_ne (tgt := 26) dX11_fewest_20 (by decide) (fun h_2 => ?_) (fun h_2 => ?_)
    · refine g_iconst (v := 0) dX11_fewest_26 (by decide) ?_
      refine g_istore_n (i := 2) (env' := [(2, .int 0), (0, .ref (gad G 77)), (1, .int a1)]) dX11_fewest_27 rfl (by decide) rfl ?_
      refine g_env (env' := [(0, .ref (gad G 77)), (1, .int a1), (2, .int 0)]) [1, 2, 0] rfl ?_
      exact tX11_fewest_L28 hG hF hM gFU a1 0 S_1
    · refine g_bipush (v := (-2)) dX11_fewest_23 (by decide) ?_
      exact g_iret dX11_fewest_25 rfl
  · refine g_iconst (v := (-1)) dX11_fewest_12 (by decide) ?_
    exact g_iret dX11_fewest_13 rfl
set_option maxRecDepth 100000 in
set_option maxHeartbeats 4000000 in
theorem tX11_fewest {G : gGG} {F : State → Heap → Prop} (hG : gOK G) (hF : gSb G F) (hM : gPM G) (a1 : Int32) (S : gSt) : gCt G F yX11_fewest wsX11_fewest 2 [.ref (gad G 77), .int a1] S ((fX11_fewest a1 S).map (fun x => (some (.int x.1), x.2))) := g_met (by decide +kernel) rfl (Nat.le_of_ble_eq_true rfl) (tX11_fewest_L hG hF hM a1 S)
/-! X11_best -/
theorem hiX11_best_11 : ∀ w ∈ u_ws RX11 TX11 17, w ∈ wsX11_best := fun _ hw => List.mem_cons_of_mem _ (List.mem_append_right _ (hw))
set_option maxRecDepth 100000 in
set_option maxHeartbeats 4000000 in
theorem tX11_best_L96 {G : gGG} {F : State → Heap → Prop} (hG : gOK G) (hF : gSb G F) (hM : gPM G) (k30 : Int32 → Int32 → Int32 → gSt → Option (Int32 × gSt)) (hk30 : ∀ (x1 : Int32) (x2 : Int32) (x3 : Int32) (S : gSt), Gof G F RX11 cX11_best 5 wsX11_best (some .int) (gRm 3) 0 0 (gQ G (fun x => (some (.int x.1), x.2))) 30 [(0, .ref (gad G 77)), (1, .int x1), (2, .int x2), (3, .int x3)] [] S (k30 x1 x2 x3 S)) (x1 : Int32) (x2 : Int32) (S : gSt) : Gof G F RX11 cX11_best 5 wsX11_best (some .int) (gRm 3) 0 0 (gQ G (fun x => (some (.int x.1), x.2))) 96 [(0, .ref (gad G 77)), (1, .int x1), (2, .int x2)] [] S (fX11_best_L96 k30 x1 x2 S) := by
  unfold fX11_best_L96
  refine g_aload_n 0 dX11_best_96 rfl ?_
  refine g_cVi (ci := 11) (C0 := RX11) (T := TX11) (N := 17) (n := 0) (As := []) (rest := []) hF (tX11_nextRow hG hF hM S) gX11_best_X11_nextRow rfl (hM 77 (by decide)) rfl rfl ⟨rfl, by decide +kernel, by decide +kernel, by decide +kernel⟩ rfl (gRm_ok (by decide) (by decide)) rfl (Nat.le_of_ble_eq_true rfl) dX11_best_97 (fun v_1 S_2 => ?_)
  refine g_istore_n (i := 3) (env' := [(3, .int v_1), (0, .ref (gad G 77)), (1, .int x1), (2, .int x2)]) dX11_best_100 rfl (by decide) rfl ?_
  refine g_goto (tgt := 30) dX11_best_101 (by decide) ?_
  refine g_env (env' := [(0, .ref (gad G 77)), (1, .int x1), (2, .int x2), (3, .int v_1)]) [1, 2, 3, 0] rfl ?_
  exact hk30 x1 x2 v_1 S_2
set_option maxRecDepth 100000 in
set_option maxHeartbeats 4000000 in
theorem tX11_best_L69 {G : gGG} {F : State → Heap → Prop} (hG : gOK G) (hF : gSb G F) (hM : gPM G) (k30 : Int32 → Int32 → Int32 → gSt → Option (Int32 × gSt)) (hk30 : ∀ (x1 : Int32) (x2 : Int32) (x3 : Int32) (S : gSt), Gof G F RX11 cX11_best 5 wsX11_best (some .int) (gRm 3) 0 0 (gQ G (fun x => (some (.int x.1), x.2))) 30 [(0, .ref (gad G 77)), (1, .int x1), (2, .int x2), (3, .int x3)] [] S (k30 x1 x2 x3 S)) : ∀ (n : Nat) (x1 : Int32) (x2 : Int32) (x4 : Int32) (S : gSt), Gof G F RX11 cX11_best 5 wsX11_best (some .int) (gRm 3) 0 0 (gQ G (fun x => (some (.int x.1), x.2))) 69 [(0, .ref (gad G 77)), (1, .int x1), (2, .int x2), (4, .int x4)] [] S (fX11_best_L69 k30 n x1 x2 x4 S) := by
  intro n
  induction n with
  | zero => intro x1 x2 x4 S; exact g_none
  | succ n ih =>
    intro x1 x2 x4 S
    unfold fX11_best_L69
    refine g_iload 3 dX11_best_69 rfl ?_
    refine g_bipush (v := 8) dX11_best_71 (by decide) ?_
    refine g_icmp_ge (tgt := 96) dX11_best_73 (by decide) (fun h_1 => ?_) (fun h_1 => ?_)
    · refine g_env (env' := [(0, .ref (gad G 77)), (1, .int x1), (2, .int x2)]) [0, 1, 2] rfl ?_
      exact tX11_best_L96 hG hF hM k30 hk30 x1 x2 S
    · refine g_aload_n 0 dX11_best_76 rfl ?_
      refine g_getK (ci := 11) (k0 := 14) (C0 := RX11) (T := TX11) (N := 17) (hM 77 (by decide)) rfl rfl hiX11_best_11 (by decide) (List.mem_of_getElem? (i := 4) rfl) rfl dX11_best_77 ?_
      refine g_iload 3 dX11_best_80 rfl ?_
      refine g_aload_n 0 dX11_best_82 rfl ?_
      refine g_getK (ci := 11) (k0 := 13) (C0 := RX11) (T := TX11) (N := 17) (hM 77 (by decide)) rfl rfl hiX11_best_11 (by decide) (List.mem_of_getElem? (i := 3) rfl) rfl dX11_best_83 ?_
      refine g_iload 3 dX11_best_86 rfl ?_
      refine g_iald hG (hM 83 (by decide)) rfl dX11_best_88 ?_
      refine g_iast hG (hM 84 (by decide)) rfl dX11_best_89 ?_
      refine g_nS (fun S_1 => ?_)
      refine g_iinc 3 (v := (x4 + 1)) (env' := [(4, .int (x4 + 1)), (0, .ref (gad G 77)), (1, .int x1), (2, .int x2)]) dX11_best_90 rfl rfl (by decide) rfl ?_
      refine g_goto (tgt := 69) dX11_best_93 (by decide) ?_
      refine g_env (env' := [(0, .ref (gad G 77)), (1, .int x1), (2, .int x2), (4, .int (x4 + 1))]) [1, 2, 3, 0] rfl ?_
      exact ih x1 x2 (x4 + 1) S_1
set_option maxRecDepth 100000 in
set_option maxHeartbeats 4000000 in
theorem tX11_best_L30 {G : gGG} {F : State → Heap → Prop} (hG : gOK G) (hF : gSb G F) (hM : gPM G) : ∀ (n : Nat) (x1 : Int32) (x2 : Int32) (x3 : Int32) (S : gSt), Gof G F RX11 cX11_best 5 wsX11_best (some .int) (gRm 3) 0 0 (gQ G (fun x => (some (.int x.1), x.2))) 30 [(0, .ref (gad G 77)), (1, .int x1), (2, .int x2), (3, .int x3)] [] S (fX11_best_L30 n x1 x2 x3 S) := by
  intro n
  induction n with
  | zero => intro x1 x2 x3 S; exact g_none
  | succ n ih =>
    intro x1 x2 x3 S
    unfold fX11_best_L30
    refine g_iload_n 3 dX11_best_30 rfl ?_
    refine g_if_eq (tgt := 104) dX11_best_31 (by decide) (fun h_1 => ?_) (fun h_1 => ?_)
    · refine g_iload_n 2 dX11_best_104 rfl ?_
      refine g_ldc (List.mem_of_getElem? (i := 2) rfl) dX11_best_105 ?_
      refine g_icmp_eq (tgt := 115) dX11_best_107 (by decide) (fun h_2 => ?_) (fun h_2 => ?_)
      · refine g_iload_n 2 dX11_best_115 rfl ?_
        refine g_goto (tgt := 125) dX11_best_116 (by decide) ?_
        exact g_iret dX11_best_125 rfl
      · refine g_iload_n 1 dX11_best_110 rfl ?_
        refine g_iconst (v := (-1)) dX11_best_111 (by decide) ?_
        refine g_icmp_ne (tgt := 119) dX11_best_112 (by decide) (fun h_3 => ?_) (fun h_3 => ?_)
        · refine g_aload_n 0 dX11_best_119 rfl ?_
          refine g_getK (ci := 11) (k0 := 14) (C0 := RX11) (T := TX11) (N := 17) (hM 77 (by decide)) rfl rfl hiX11_best_11 (by decide) (List.mem_of_getElem? (i := 4) rfl) rfl dX11_best_120 ?_
          refine g_iload_n 1 dX11_best_123 rfl ?_
          refine g_iald hG (hM 84 (by decide)) rfl dX11_best_124 ?_
          exact g_iret dX11_best_125 rfl
        · refine g_iload_n 2 dX11_best_115 rfl ?_
          refine g_goto (tgt := 125) dX11_best_116 (by decide) ?_
          exact g_iret dX11_best_125 rfl
    · refine g_aload_n 0 dX11_best_34 rfl ?_
      refine g_aload_n 0 dX11_best_35 rfl ?_
      refine g_getK (ci := 11) (k0 := 13) (C0 := RX11) (T := TX11) (N := 17) (hM 77 (by decide)) rfl rfl hiX11_best_11 (by decide) (List.mem_of_getElem? (i := 3) rfl) rfl dX11_best_36 ?_
      refine g_cVp (ci := 11) (C0 := RX11) (T := TX11) (N := 17) (n := 1) (As := [.ref (gad G 83)]) (rest := []) hF (tX11_isLawful hG hF hM (rfl : gArM 83 = true) S) gX11_best_X11_isLawful rfl (hM 77 (by decide)) rfl rfl ⟨rfl, by decide +kernel, by decide +kernel, by decide +kernel⟩ rfl (gRm_ok (by decide) (by decide)) rfl (Nat.le_of_ble_eq_true rfl) dX11_best_39 (fun v_1 => ?_)
      refine g_if_eq (tgt := 96) dX11_best_42 (by decide) (fun h_4 => ?_) (fun h_4 => ?_)
      · refine g_env (env' := [(0, .ref (gad G 77)), (1, .int x1), (2, .int x2)]) [0, 1, 2] rfl ?_
        exact tX11_best_L96 hG hF hM (fX11_best_L30 n) ih x1 x2 S
      · refine g_aload_n 0 dX11_best_45 rfl ?_
        refine g_aload_n 0 dX11_best_46 rfl ?_
        refine g_getK (ci := 11) (k0 := 13) (C0 := RX11) (T := TX11) (N := 17) (hM 77 (by decide)) rfl rfl hiX11_best_11 (by decide) (List.mem_of_getElem? (i := 3) rfl) rfl dX11_best_47 ?_
        refine g_cVp (ci := 11) (C0 := RX11) (T := TX11) (N := 17) (n := 1) (As := [.ref (gad G 83)]) (rest := []) hF (tX11_worthOf hG hF hM (rfl : gArM 83 = true) S) gX11_best_X11_worthOf rfl (hM 77 (by decide)) rfl rfl ⟨rfl, by decide +kernel, by decide +kernel, by decide +kernel⟩ rfl (gRm_ok (by decide) (by decide)) rfl (Nat.le_of_ble_eq_true rfl) dX11_best_50 (fun v_2 => ?_)
        refine g_iload_n 2 dX11_best_53 rfl ?_
        refine g_icmp_le (tgt := 96) dX11_best_54 (by decide) (fun h_5 => ?_) (fun h_5 => ?_)
        · refine g_env (env' := [(0, .ref (gad G 77)), (1, .int x1), (2, .int x2)]) [0, 1, 2] rfl ?_
          exact tX11_best_L96 hG hF hM (fX11_best_L30 n) ih x1 x2 S
        · refine g_aload_n 0 dX11_best_57 rfl ?_
          refine g_aload_n 0 dX11_best_58 rfl ?_
          refine g_getK (ci := 11) (k0 := 13) (C0 := RX11) (T := TX11) (N := 17) (hM 77 (by decide)) rfl rfl hiX11_best_11 (by decide) (List.mem_of_getElem? (i := 3) rfl) rfl dX11_best_59 ?_
          refine g_cVp (ci := 11) (C0 := RX11) (T := TX11) (N := 17) (n := 1) (As := [.ref (gad G 83)]) (rest := []) hF (tX11_worthOf hG hF hM (rfl : gArM 83 = true) S) gX11_best_X11_worthOf rfl (hM 77 (by decide)) rfl rfl ⟨rfl, by decide +kernel, by decide +kernel, by decide +kernel⟩ rfl (gRm_ok (by decide) (by decide)) rfl (Nat.le_of_ble_eq_true rfl) dX11_best_62 (fun v_3 => ?_)
          refine g_istore_n (i := 2) (env' := [(2, .int v_3), (0, .ref (gad G 77)), (1, .int x1), (3, .int x3)]) dX11_best_65 rfl (by decide) rfl ?_
          refine g_iconst (v := 0) dX11_best_66 (by decide) ?_
          refine g_istore (i := 4) (env' := [(4, .int 0), (2, .int v_3), (0, .ref (gad G 77)), (1, .int x1), (3, .int x3)]) dX11_best_67 (by decide) rfl ?_
          refine g_env (env' := [(0, .ref (gad G 77)), (1, .int x1), (2, .int v_3), (4, .int 0)]) [2, 3, 1, 0] rfl ?_
          exact tX11_best_L69 hG hF hM (fX11_best_L30 n) ih gFU x1 v_3 0 S
set_option maxRecDepth 100000 in
set_option maxHeartbeats 4000000 in
theorem tX11_best_L21 {G : gGG} {F : State → Heap → Prop} (hG : gOK G) (hF : gSb G F) (hM : gPM G) (x1 : Int32) (S : gSt) : Gof G F RX11 cX11_best 5 wsX11_best (some .int) (gRm 3) 0 0 (gQ G (fun x => (some (.int x.1), x.2))) 21 [(0, .ref (gad G 77)), (1, .int x1)] [] S (fX11_best_L21 x1 S) := by
  unfold fX11_best_L21
  refine g_ldc (List.mem_of_getElem? (i := 2) rfl) dX11_best_21 ?_
  refine g_istore_n (i := 2) (env' := [(2, .int (-1000000)), (0, .ref (gad G 77)), (1, .int x1)]) dX11_best_23 rfl (by decide) rfl ?_
  refine g_aload_n 1 dX11_best_24 rfl ?_
  refine g_cVv (ci := 11) (C0 := RX11) (T := TX11) (N := 17) (n := 0) (As := []) (rest := []) hF (tX11_firstRow hG hF hM S) gX11_best_X11_firstRow rfl (hM 77 (by decide)) rfl rfl ⟨rfl, by decide +kernel, by decide +kernel, by decide +kernel⟩ rfl (gRm_ok (by decide) (by decide)) rfl (Nat.le_of_ble_eq_true rfl) dX11_best_25 (fun S_1 => ?_)
  refine g_iconst (v := 1) dX11_best_28 (by decide) ?_
  refine g_istore_n (i := 3) (env' := [(3, .int 1), (2, .int (-1000000)), (0, .ref (gad G 77)), (1, .int x1)]) dX11_best_29 rfl (by decide) rfl ?_
  refine g_env (env' := [(0, .ref (gad G 77)), (1, .int x1), (2, .int (-1000000)), (3, .int 1)]) [2, 3, 1, 0] rfl ?_
  exact tX11_best_L30 hG hF hM gFU x1 (-1000000) 1 S_1
set_option maxRecDepth 100000 in
set_option maxHeartbeats 4000000 in
theorem tX11_best_L {G : gGG} {F : State → Heap → Prop} (hG : gOK G) (hF : gSb G F) (hM : gPM G) (a1 : Int32) (S : gSt) : Gof G F RX11 cX11_best 5 wsX11_best (some .int) (gRm 3) 0 0 (gQ G (fun x => (some (.int x.1), x.2))) 0 [(0, .ref (gad G 77)), (1, .int a1)] [] S (fX11_best a1 S) := by
  unfold fX11_best
  refine g_aload_n 0 dX11_best_0 rfl ?_
  refine g_iconst (v := 0) dX11_best_1 (by decide) ?_
  refine g_putI hG (ci := 11) (k0 := 0) (C0 := RX11) (T := TX11) (N := 17) (hM 77 (by decide)) rfl rfl hiX11_best_11 (by decide) (List.mem_of_getElem? (i := 1) rfl) tyX11 tyX11_ok nmX11 rfl rfl rfl rfl dX11_best_2 ?_
  refine g_nS (fun S_1 => ?_)
  refine g_iload_n 1 dX11_best_5 rfl ?_
  refine g_iconst (v := (-1)) dX11_best_6 (by decide) ?_
  refine g_icmp_eq (tgt := 21) dX11_best_7 (by decide) (fun h_1 => ?_) (fun h_1 => ?_)
  · exact tX11_best_L21 hG hF hM a1 S_1
  · refine g_aload_n 0 dX11_best_10 rfl ?_
    refine g_iload_n 1 dX11_best_11 rfl ?_
    refine g_cVp (ci := 11) (C0 := RX11) (T := TX11) (N := 17) (n := 1) (As := [.int a1]) (rest := []) hF (tX11_isGuest hG hF hM a1 S_1) gX11_best_X11_isGuest rfl (hM 77 (by decide)) rfl rfl ⟨rfl, by decide +kernel, by decide +kernel, by decide +kernel⟩ rfl (gRm_ok (by decide) (by decide)) rfl (Nat.le_of_ble_eq_true rfl) dX11_best_12 (fun v_2 => ?_)
    refine g_if_ne (tgt := 21) dX11_best_15 (by decide) (fun h_2 => ?_) (fun h_2 => ?_)
    · exact tX11_best_L21 hG hF hM a1 S_1
    · refine g_ldc (List.mem_of_getElem? (i := 2) rfl) dX11_best_18 ?_
      exact g_iret dX11_best_20 rfl
set_option maxRecDepth 100000 in
set_option maxHeartbeats 4000000 in
theorem tX11_best {G : gGG} {F : State → Heap → Prop} (hG : gOK G) (hF : gSb G F) (hM : gPM G) (a1 : Int32) (S : gSt) : gCt G F yX11_best wsX11_best 3 [.ref (gad G 77), .int a1] S ((fX11_best a1 S).map (fun x => (some (.int x.1), x.2))) := g_met (by decide +kernel) rfl (Nat.le_of_ble_eq_true rfl) (tX11_best_L hG hF hM a1 S)
/-! X11_ratherAt -/
theorem hiX11_ratherAt_11 : ∀ w ∈ u_ws RX11 TX11 17, w ∈ wsX11_ratherAt := fun _ hw => List.mem_cons_of_mem _ (List.mem_append_right _ (hw))
set_option maxRecDepth 100000 in
set_option maxHeartbeats 4000000 in
theorem tX11_ratherAt_L168 {G : gGG} {F : State → Heap → Prop} (hG : gOK G) (hF : gSb G F) (hM : gPM G) (k115 : Int32 → Int32 → Int32 → Int32 → gSt → Option (Int32 × gSt)) (hk115 : ∀ (x1 : Int32) (x3 : Int32) (x4 : Int32) (x5 : Int32) (S : gSt), Gof G F RX11 cX11_ratherAt 7 wsX11_ratherAt (some .int) (gRm 2) 0 0 (gQ G (fun x => (some (.int x.1), x.2))) 115 [(0, .ref (gad G 77)), (1, .int x1), (3, .int x3), (4, .int x4), (5, .int x5)] [] S (k115 x1 x3 x4 x5 S)) : ∀ (n : Nat) (x1 : Int32) (x3 : Int32) (x4 : Int32) (x5 : Int32) (x6 : Int32) (S : gSt), Gof G F RX11 cX11_ratherAt 7 wsX11_ratherAt (some .int) (gRm 2) 0 0 (gQ G (fun x => (some (.int x.1), x.2))) 168 [(0, .ref (gad G 77)), (1, .int x1), (3, .int x3), (4, .int x4), (5, .int x5), (6, .int x6)] [] S (fX11_ratherAt_L168 k115 n x1 x3 x4 x5 x6 S) := by
  intro n
  induction n with
  | zero => intro x1 x3 x4 x5 x6 S; exact g_none
  | succ n ih =>
    intro x1 x3 x4 x5 x6 S
    unfold fX11_ratherAt_L168
    refine g_iload 5 dX11_ratherAt_168 rfl ?_
    refine g_if_lt (tgt := 198) dX11_ratherAt_170 (by decide) (fun h_1 => ?_) (fun h_1 => ?_)
    · refine g_iinc 4 (v := (x5 + 1)) (env' := [(5, .int (x5 + 1)), (0, .ref (gad G 77)), (1, .int x1), (3, .int x3), (4, .int x4), (6, .int x6)]) dX11_ratherAt_198 rfl rfl (by decide) rfl ?_
      refine g_goto (tgt := 115) dX11_ratherAt_201 (by decide) ?_
      refine g_env (env' := [(0, .ref (gad G 77)), (1, .int x1), (3, .int x3), (4, .int x4), (5, .int (x5 + 1))]) [1, 2, 3, 4, 0] rfl ?_
      exact hk115 x1 x3 x4 (x5 + 1) S
    · refine g_aload_n 0 dX11_ratherAt_173 rfl ?_
      refine g_getK (ci := 11) (k0 := 13) (C0 := RX11) (T := TX11) (N := 17) (hM 77 (by decide)) rfl rfl hiX11_ratherAt_11 (by decide) (List.mem_of_getElem? (i := 2) rfl) rfl dX11_ratherAt_174 ?_
      refine g_iload 5 dX11_ratherAt_177 rfl ?_
      refine g_iald hG (hM 83 (by decide)) rfl dX11_ratherAt_179 ?_
      refine g_iload 4 dX11_ratherAt_180 rfl ?_
      refine g_icmp_ne (tgt := 190) dX11_ratherAt_182 (by decide) (fun h_2 => ?_) (fun h_2 => ?_)
      · refine g_iload_n 2 dX11_ratherAt_190 rfl ?_
        refine g_istore_n (i := 3) (env' := [(3, .int x3), (0, .ref (gad G 77)), (1, .int x1), (4, .int x4), (5, .int x5), (6, .int x6)]) dX11_ratherAt_191 rfl (by decide) rfl ?_
        refine g_iinc 5 (v := (x6 + (-1))) (env' := [(6, .int (x6 + (-1))), (3, .int x3), (0, .ref (gad G 77)), (1, .int x1), (4, .int x4), (5, .int x5)]) dX11_ratherAt_192 rfl rfl (by decide) rfl ?_
        refine g_goto (tgt := 168) dX11_ratherAt_195 (by decide) ?_
        refine g_env (env' := [(0, .ref (gad G 77)), (1, .int x1), (3, .int x3), (4, .int x4), (5, .int x5), (6, .int (x6 + (-1)))]) [2, 3, 1, 4, 5, 0] rfl ?_
        exact ih x1 x3 x4 x5 (x6 + (-1)) S
      · refine g_iload 5 dX11_ratherAt_185 rfl ?_
        refine g_goto (tgt := 191) dX11_ratherAt_187 (by decide) ?_
        refine g_istore_n (i := 3) (env' := [(3, .int x6), (0, .ref (gad G 77)), (1, .int x1), (4, .int x4), (5, .int x5), (6, .int x6)]) dX11_ratherAt_191 rfl (by decide) rfl ?_
        refine g_iinc 5 (v := (x6 + (-1))) (env' := [(6, .int (x6 + (-1))), (3, .int x6), (0, .ref (gad G 77)), (1, .int x1), (4, .int x4), (5, .int x5)]) dX11_ratherAt_192 rfl rfl (by decide) rfl ?_
        refine g_goto (tgt := 168) dX11_ratherAt_195 (by decide) ?_
        refine g_env (env' := [(0, .ref (gad G 77)), (1, .int x1), (3, .int x6), (4, .int x4), (5, .int x5), (6, .int (x6 + (-1)))]) [2, 3, 1, 4, 5, 0] rfl ?_
        exact ih x1 x6 x4 x5 (x6 + (-1)) S
set_option maxRecDepth 100000 in
set_option maxHeartbeats 4000000 in
theorem tX11_ratherAt_L115 {G : gGG} {F : State → Heap → Prop} (hG : gOK G) (hF : gSb G F) (hM : gPM G) : ∀ (n : Nat) (x1 : Int32) (x3 : Int32) (x4 : Int32) (x5 : Int32) (S : gSt), Gof G F RX11 cX11_ratherAt 7 wsX11_ratherAt (some .int) (gRm 2) 0 0 (gQ G (fun x => (some (.int x.1), x.2))) 115 [(0, .ref (gad G 77)), (1, .int x1), (3, .int x3), (4, .int x4), (5, .int x5)] [] S (fX11_ratherAt_L115 n x1 x3 x4 x5 S) := by
  intro n
  induction n with
  | zero => intro x1 x3 x4 x5 S; exact g_none
  | succ n ih =>
    intro x1 x3 x4 x5 S
    unfold fX11_ratherAt_L115
    refine g_iload 4 dX11_ratherAt_115 rfl ?_
    refine g_aload_n 0 dX11_ratherAt_117 rfl ?_
    refine g_aload_n 0 dX11_ratherAt_118 rfl ?_
    refine g_getK (ci := 11) (k0 := 13) (C0 := RX11) (T := TX11) (N := 17) (hM 77 (by decide)) rfl rfl hiX11_ratherAt_11 (by decide) (List.mem_of_getElem? (i := 2) rfl) rfl dX11_ratherAt_119 ?_
    refine g_cVp (ci := 11) (C0 := RX11) (T := TX11) (N := 17) (n := 1) (As := [.ref (gad G 83)]) (rest := [.int x5]) hF (tX11_partiesOf hG hF hM (rfl : gArM 83 = true) S) gX11_ratherAt_X11_partiesOf rfl (hM 77 (by decide)) rfl rfl ⟨rfl, by decide +kernel, by decide +kernel, by decide +kernel⟩ rfl (gRm_ok (by decide) (by decide)) rfl (Nat.le_of_ble_eq_true rfl) dX11_ratherAt_122 (fun v_1 => ?_)
    refine g_icmp_ge (tgt := 204) dX11_ratherAt_125 (by decide) (fun h_1 => ?_) (fun h_1 => ?_)
    · refine g_iload_n 2 dX11_ratherAt_204 rfl ?_
      exact g_iret dX11_ratherAt_205 rfl
    · refine g_iload 4 dX11_ratherAt_128 rfl ?_
      refine g_aload_n 0 dX11_ratherAt_130 rfl ?_
      refine g_getK (ci := 11) (k0 := 13) (C0 := RX11) (T := TX11) (N := 17) (hM 77 (by decide)) rfl rfl hiX11_ratherAt_11 (by decide) (List.mem_of_getElem? (i := 2) rfl) rfl dX11_ratherAt_131 ?_
      refine g_iload_n 1 dX11_ratherAt_134 rfl ?_
      refine g_iald hG (hM 83 (by decide)) rfl dX11_ratherAt_135 ?_
      refine g_icmp_eq (tgt := 198) dX11_ratherAt_136 (by decide) (fun h_2 => ?_) (fun h_2 => ?_)
      · refine g_iinc 4 (v := (x5 + 1)) (env' := [(5, .int (x5 + 1)), (0, .ref (gad G 77)), (1, .int x1), (3, .int x3), (4, .int x4)]) dX11_ratherAt_198 rfl rfl (by decide) rfl ?_
        refine g_goto (tgt := 115) dX11_ratherAt_201 (by decide) ?_
        refine g_env (env' := [(0, .ref (gad G 77)), (1, .int x1), (3, .int x3), (4, .int x4), (5, .int (x5 + 1))]) [1, 2, 3, 4, 0] rfl ?_
        exact ih x1 x3 x4 (x5 + 1) S
      · refine g_aload_n 0 dX11_ratherAt_139 rfl ?_
        refine g_getK (ci := 11) (k0 := 15) (C0 := RX11) (T := TX11) (N := 17) (hM 77 (by decide)) rfl rfl hiX11_ratherAt_11 (by decide) (List.mem_of_getElem? (i := 1) rfl) rfl dX11_ratherAt_140 ?_
        refine g_iload 4 dX11_ratherAt_143 rfl ?_
        refine g_iald hG (hM 85 (by decide)) rfl dX11_ratherAt_145 ?_
        refine g_iload 3 dX11_ratherAt_146 rfl ?_
        refine g_icmp_le (tgt := 198) dX11_ratherAt_148 (by decide) (fun h_3 => ?_) (fun h_3 => ?_)
        · refine g_iinc 4 (v := (x5 + 1)) (env' := [(5, .int (x5 + 1)), (0, .ref (gad G 77)), (1, .int x1), (3, .int x3), (4, .int x4)]) dX11_ratherAt_198 rfl rfl (by decide) rfl ?_
          refine g_goto (tgt := 115) dX11_ratherAt_201 (by decide) ?_
          refine g_env (env' := [(0, .ref (gad G 77)), (1, .int x1), (3, .int x3), (4, .int x4), (5, .int (x5 + 1))]) [1, 2, 3, 4, 0] rfl ?_
          exact ih x1 x3 x4 (x5 + 1) S
        · refine g_aload_n 0 dX11_ratherAt_151 rfl ?_
          refine g_getK (ci := 11) (k0 := 15) (C0 := RX11) (T := TX11) (N := 17) (hM 77 (by decide)) rfl rfl hiX11_ratherAt_11 (by decide) (List.mem_of_getElem? (i := 1) rfl) rfl dX11_ratherAt_152 ?_
          refine g_iload 4 dX11_ratherAt_155 rfl ?_
          refine g_iald hG (hM 85 (by decide)) rfl dX11_ratherAt_157 ?_
          refine g_nI (fun v_2 => ?_)
          refine g_istore (i := 4) (env' := [(4, .int v_2), (0, .ref (gad G 77)), (1, .int x1), (3, .int x3), (5, .int x5)]) dX11_ratherAt_158 (by decide) rfl ?_
          refine g_aload_n 1 dX11_ratherAt_160 rfl ?_
          refine g_cVp (ci := 11) (C0 := RX11) (T := TX11) (N := 17) (n := 0) (As := []) (rest := []) hF (tX11_guests hG hF hM S) gX11_ratherAt_X11_guests rfl (hM 77 (by decide)) rfl rfl ⟨rfl, by decide +kernel, by decide +kernel, by decide +kernel⟩ rfl (gRm_ok (by decide) (by decide)) rfl (Nat.le_of_ble_eq_true rfl) dX11_ratherAt_161 (fun v_3 => ?_)
          refine g_iconst (v := 1) dX11_ratherAt_164 (by decide) ?_
          refine g_isub dX11_ratherAt_165 ?_
          refine g_nI (fun v_4 => ?_)
          refine g_istore (i := 6) (env' := [(6, .int v_4), (4, .int v_2), (0, .ref (gad G 77)), (1, .int x1), (3, .int x3), (5, .int x5)]) dX11_ratherAt_166 (by decide) rfl ?_
          refine g_env (env' := [(0, .ref (gad G 77)), (1, .int x1), (3, .int x3), (4, .int v_2), (5, .int x5), (6, .int v_4)]) [2, 3, 4, 1, 5, 0] rfl ?_
          exact tX11_ratherAt_L168 hG hF hM (fX11_ratherAt_L115 n) ih gFU x1 x3 v_2 x5 v_4 S
set_option maxRecDepth 100000 in
set_option maxHeartbeats 4000000 in
theorem tX11_ratherAt_L99 {G : gGG} {F : State → Heap → Prop} (hG : gOK G) (hF : gSb G F) (hM : gPM G) (x1 : Int32) (x2 : Int32) (s0 : Int32) (S : gSt) : Gof G F RX11 cX11_ratherAt 7 wsX11_ratherAt (some .int) (gRm 2) 0 0 (gQ G (fun x => (some (.int x.1), x.2))) 99 [(0, .ref (gad G 77)), (1, .int x1), (2, .int x2)] [.int s0] S (fX11_ratherAt_L99 x1 x2 s0 S) := by
  unfold fX11_ratherAt_L99
  refine g_istore_n (i := 3) (env' := [(3, .int s0), (0, .ref (gad G 77)), (1, .int x1), (2, .int x2)]) dX11_ratherAt_99 rfl (by decide) rfl ?_
  refine g_iconst (v := 0) dX11_ratherAt_100 (by decide) ?_
  refine g_iload_n 3 dX11_ratherAt_101 rfl ?_
  refine g_icmp_le (tgt := 109) dX11_ratherAt_102 (by decide) (fun h_1 => ?_) (fun h_1 => ?_)
  · refine g_iload_n 3 dX11_ratherAt_109 rfl ?_
    refine g_istore (i := 4) (env' := [(4, .int x2), (3, .int s0), (0, .ref (gad G 77)), (1, .int x1), (2, .int x2)]) dX11_ratherAt_110 (by decide) rfl ?_
    refine g_iconst (v := 0) dX11_ratherAt_112 (by decide) ?_
    refine g_istore (i := 5) (env' := [(5, .int 0), (4, .int x2), (3, .int s0), (0, .ref (gad G 77)), (1, .int x1), (2, .int x2)]) dX11_ratherAt_113 (by decide) rfl ?_
    refine g_env (env' := [(0, .ref (gad G 77)), (1, .int x1), (3, .int s0), (4, .int x2), (5, .int 0)]) [3, 4, 2, 1, 0] rfl ?_
    exact tX11_ratherAt_L115 hG hF hM gFU x1 s0 x2 0 S
  · refine g_iconst (v := 0) dX11_ratherAt_105 (by decide) ?_
    refine g_goto (tgt := 110) dX11_ratherAt_106 (by decide) ?_
    refine g_istore (i := 4) (env' := [(4, .int 0), (3, .int s0), (0, .ref (gad G 77)), (1, .int x1), (2, .int x2)]) dX11_ratherAt_110 (by decide) rfl ?_
    refine g_iconst (v := 0) dX11_ratherAt_112 (by decide) ?_
    refine g_istore (i := 5) (env' := [(5, .int 0), (4, .int 0), (3, .int s0), (0, .ref (gad G 77)), (1, .int x1), (2, .int x2)]) dX11_ratherAt_113 (by decide) rfl ?_
    refine g_env (env' := [(0, .ref (gad G 77)), (1, .int x1), (3, .int s0), (4, .int 0), (5, .int 0)]) [3, 4, 2, 1, 0] rfl ?_
    exact tX11_ratherAt_L115 hG hF hM gFU x1 s0 0 0 S
set_option maxRecDepth 100000 in
set_option maxHeartbeats 4000000 in
theorem tX11_ratherAt_L25 {G : gGG} {F : State → Heap → Prop} (hG : gOK G) (hF : gSb G F) (hM : gPM G) : ∀ (n : Nat) (x1 : Int32) (x3 : Int32) (S : gSt), Gof G F RX11 cX11_ratherAt 7 wsX11_ratherAt (some .int) (gRm 2) 0 0 (gQ G (fun x => (some (.int x.1), x.2))) 25 [(0, .ref (gad G 77)), (1, .int x1), (3, .int x3)] [] S (fX11_ratherAt_L25 n x1 x3 S) := by
  intro n
  induction n with
  | zero => intro x1 x3 S; exact g_none
  | succ n ih =>
    intro x1 x3 S
    unfold fX11_ratherAt_L25
    refine g_iload_n 2 dX11_ratherAt_25 rfl ?_
    refine g_aload_n 0 dX11_ratherAt_26 rfl ?_
    refine g_cVp (ci := 11) (C0 := RX11) (T := TX11) (N := 17) (n := 0) (As := []) (rest := [.int x3]) hF (tX11_guests hG hF hM S) gX11_ratherAt_X11_guests rfl (hM 77 (by decide)) rfl rfl ⟨rfl, by decide +kernel, by decide +kernel, by decide +kernel⟩ rfl (gRm_ok (by decide) (by decide)) rfl (Nat.le_of_ble_eq_true rfl) dX11_ratherAt_27 (fun v_1 => ?_)
    refine g_icmp_ge (tgt := 76) dX11_ratherAt_30 (by decide) (fun h_1 => ?_) (fun h_1 => ?_)
    · refine g_aload_n 0 dX11_ratherAt_76 rfl ?_
      refine g_getK (ci := 11) (k0 := 15) (C0 := RX11) (T := TX11) (N := 17) (hM 77 (by decide)) rfl rfl hiX11_ratherAt_11 (by decide) (List.mem_of_getElem? (i := 1) rfl) rfl dX11_ratherAt_77 ?_
      refine g_aload_n 0 dX11_ratherAt_80 rfl ?_
      refine g_getK (ci := 11) (k0 := 13) (C0 := RX11) (T := TX11) (N := 17) (hM 77 (by decide)) rfl rfl hiX11_ratherAt_11 (by decide) (List.mem_of_getElem? (i := 2) rfl) rfl dX11_ratherAt_81 ?_
      refine g_iload_n 1 dX11_ratherAt_84 rfl ?_
      refine g_iald hG (hM 83 (by decide)) rfl dX11_ratherAt_85 ?_
      refine g_iald hG (hM 85 (by decide)) rfl dX11_ratherAt_86 ?_
      refine g_nI (fun v_2 => ?_)
      refine g_istore_n (i := 2) (env' := [(2, .int v_2), (0, .ref (gad G 77)), (1, .int x1), (3, .int x3)]) dX11_ratherAt_87 rfl (by decide) rfl ?_
      refine g_iconst (v := 0) dX11_ratherAt_88 (by decide) ?_
      refine g_iload_n 0 dX11_ratherAt_89 rfl ?_
      refine g_icmp_le (tgt := 97) dX11_ratherAt_90 (by decide) (fun h_2 => ?_) (fun h_2 => ?_)
      · refine g_bipush (v := (-9)) dX11_ratherAt_97 (by decide) ?_
        refine g_env (env' := [(0, .ref (gad G 77)), (1, .int x1), (2, .int v_2)]) [1, 2, 0] rfl ?_
        exact tX11_ratherAt_L99 hG hF hM x1 v_2 (-9) S
      · refine g_iload_n 2 dX11_ratherAt_93 rfl ?_
        refine g_goto (tgt := 99) dX11_ratherAt_94 (by decide) ?_
        refine g_env (env' := [(0, .ref (gad G 77)), (1, .int x1), (2, .int v_2)]) [1, 2, 0] rfl ?_
        exact tX11_ratherAt_L99 hG hF hM x1 v_2 x1 S
    · refine g_aload_n 0 dX11_ratherAt_33 rfl ?_
      refine g_getK (ci := 11) (k0 := 15) (C0 := RX11) (T := TX11) (N := 17) (hM 77 (by decide)) rfl rfl hiX11_ratherAt_11 (by decide) (List.mem_of_getElem? (i := 1) rfl) rfl dX11_ratherAt_34 ?_
      refine g_aload_n 0 dX11_ratherAt_37 rfl ?_
      refine g_getK (ci := 11) (k0 := 13) (C0 := RX11) (T := TX11) (N := 17) (hM 77 (by decide)) rfl rfl hiX11_ratherAt_11 (by decide) (List.mem_of_getElem? (i := 2) rfl) rfl dX11_ratherAt_38 ?_
      refine g_iload_n 2 dX11_ratherAt_41 rfl ?_
      refine g_iald hG (hM 83 (by decide)) rfl dX11_ratherAt_42 ?_
      refine g_dup2 dX11_ratherAt_43 rfl rfl ?_
      refine g_iald hG (hM 85 (by decide)) rfl dX11_ratherAt_44 ?_
      refine g_iload_n 2 dX11_ratherAt_45 rfl ?_
      refine g_iload_n 1 dX11_ratherAt_46 rfl ?_
      refine g_icmp_ne (tgt := 54) dX11_ratherAt_47 (by decide) (fun h_3 => ?_) (fun h_3 => ?_)
      · refine g_aload_n 0 dX11_ratherAt_54 rfl ?_
        refine g_getK (ci := 11) (k0 := 9) (C0 := RX11) (T := TX11) (N := 17) (hM 77 (by decide)) rfl rfl hiX11_ratherAt_11 (by decide) (List.mem_of_getElem? (i := 3) rfl) rfl dX11_ratherAt_55 ?_
        refine g_bipush (v := 30) dX11_ratherAt_58 (by decide) ?_
        refine g_bipush (v := 8) dX11_ratherAt_60 (by decide) ?_
        refine g_iload_n 1 dX11_ratherAt_62 rfl ?_
        refine g_imul dX11_ratherAt_63 ?_
        refine g_iadd dX11_ratherAt_64 ?_
        refine g_iload_n 2 dX11_ratherAt_65 rfl ?_
        refine g_iadd dX11_ratherAt_66 ?_
        refine g_iald hG (hM 79 (by decide)) rfl dX11_ratherAt_67 ?_
        refine g_iadd dX11_ratherAt_68 ?_
        refine g_iast hG (hM 85 (by decide)) rfl dX11_ratherAt_69 ?_
        refine g_nS (fun S_3 => ?_)
        refine g_iinc 2 (v := (x3 + 1)) (env' := [(3, .int (x3 + 1)), (0, .ref (gad G 77)), (1, .int x1)]) dX11_ratherAt_70 rfl rfl (by decide) rfl ?_
        refine g_goto (tgt := 25) dX11_ratherAt_73 (by decide) ?_
        refine g_env (env' := [(0, .ref (gad G 77)), (1, .int x1), (3, .int (x3 + 1))]) [1, 2, 0] rfl ?_
        exact ih x1 (x3 + 1) S_3
      · refine g_iconst (v := 0) dX11_ratherAt_50 (by decide) ?_
        refine g_goto (tgt := 68) dX11_ratherAt_51 (by decide) ?_
        refine g_iadd dX11_ratherAt_68 ?_
        refine g_iast hG (hM 85 (by decide)) rfl dX11_ratherAt_69 ?_
        refine g_nS (fun S_4 => ?_)
        refine g_iinc 2 (v := (x3 + 1)) (env' := [(3, .int (x3 + 1)), (0, .ref (gad G 77)), (1, .int x1)]) dX11_ratherAt_70 rfl rfl (by decide) rfl ?_
        refine g_goto (tgt := 25) dX11_ratherAt_73 (by decide) ?_
        refine g_env (env' := [(0, .ref (gad G 77)), (1, .int x1), (3, .int (x3 + 1))]) [1, 2, 0] rfl ?_
        exact ih x1 (x3 + 1) S_4
set_option maxRecDepth 100000 in
set_option maxHeartbeats 4000000 in
theorem tX11_ratherAt_L4 {G : gGG} {F : State → Heap → Prop} (hG : gOK G) (hF : gSb G F) (hM : gPM G) : ∀ (n : Nat) (x1 : Int32) (x3 : Int32) (S : gSt), Gof G F RX11 cX11_ratherAt 7 wsX11_ratherAt (some .int) (gRm 2) 0 0 (gQ G (fun x => (some (.int x.1), x.2))) 4 [(0, .ref (gad G 77)), (1, .int x1), (3, .int x3)] [] S (fX11_ratherAt_L4 n x1 x3 S) := by
  intro n
  induction n with
  | zero => intro x1 x3 S; exact g_none
  | succ n ih =>
    intro x1 x3 S
    unfold fX11_ratherAt_L4
    refine g_iload_n 2 dX11_ratherAt_4 rfl ?_
    refine g_bipush (v := 8) dX11_ratherAt_5 (by decide) ?_
    refine g_icmp_ge (tgt := 23) dX11_ratherAt_7 (by decide) (fun h_1 => ?_) (fun h_1 => ?_)
    · refine g_iconst (v := 0) dX11_ratherAt_23 (by decide) ?_
      refine g_istore_n (i := 3) (env' := [(3, .int 0), (0, .ref (gad G 77)), (1, .int x1)]) dX11_ratherAt_24 rfl (by decide) rfl ?_
      refine g_env (env' := [(0, .ref (gad G 77)), (1, .int x1), (3, .int 0)]) [1, 2, 0] rfl ?_
      exact tX11_ratherAt_L25 hG hF hM gFU x1 0 S
    · refine g_aload_n 0 dX11_ratherAt_10 rfl ?_
      refine g_getK (ci := 11) (k0 := 15) (C0 := RX11) (T := TX11) (N := 17) (hM 77 (by decide)) rfl rfl hiX11_ratherAt_11 (by decide) (List.mem_of_getElem? (i := 1) rfl) rfl dX11_ratherAt_11 ?_
      refine g_iload_n 2 dX11_ratherAt_14 rfl ?_
      refine g_iconst (v := 0) dX11_ratherAt_15 (by decide) ?_
      refine g_iast hG (hM 85 (by decide)) rfl dX11_ratherAt_16 ?_
      refine g_nS (fun S_1 => ?_)
      refine g_iinc 2 (v := (x3 + 1)) (env' := [(3, .int (x3 + 1)), (0, .ref (gad G 77)), (1, .int x1)]) dX11_ratherAt_17 rfl rfl (by decide) rfl ?_
      refine g_goto (tgt := 4) dX11_ratherAt_20 (by decide) ?_
      refine g_env (env' := [(0, .ref (gad G 77)), (1, .int x1), (3, .int (x3 + 1))]) [1, 2, 0] rfl ?_
      exact ih x1 (x3 + 1) S_1
set_option maxRecDepth 100000 in
set_option maxHeartbeats 4000000 in
theorem tX11_ratherAt_L {G : gGG} {F : State → Heap → Prop} (hG : gOK G) (hF : gSb G F) (hM : gPM G) (a1 : Int32) (S : gSt) : Gof G F RX11 cX11_ratherAt 7 wsX11_ratherAt (some .int) (gRm 2) 0 0 (gQ G (fun x => (some (.int x.1), x.2))) 0 [(0, .ref (gad G 77)), (1, .int a1)] [] S (fX11_ratherAt a1 S) := by
  unfold fX11_ratherAt
  refine g_iconst (v := 0) dX11_ratherAt_0 (by decide) ?_
  refine g_istore_n (i := 2) (env' := [(2, .int 0), (0, .ref (gad G 77)), (1, .int a1)]) dX11_ratherAt_1 rfl (by decide) rfl ?_
  refine g_iconst (v := 0) dX11_ratherAt_2 (by decide) ?_
  refine g_istore_n (i := 3) (env' := [(3, .int 0), (2, .int 0), (0, .ref (gad G 77)), (1, .int a1)]) dX11_ratherAt_3 rfl (by decide) rfl ?_
  refine g_env (env' := [(0, .ref (gad G 77)), (1, .int a1), (3, .int 0)]) [2, 3, 0] rfl ?_
  exact tX11_ratherAt_L4 hG hF hM gFU a1 0 S
set_option maxRecDepth 100000 in
set_option maxHeartbeats 4000000 in
theorem tX11_ratherAt {G : gGG} {F : State → Heap → Prop} (hG : gOK G) (hF : gSb G F) (hM : gPM G) (a1 : Int32) (S : gSt) : gCt G F yX11_ratherAt wsX11_ratherAt 2 [.ref (gad G 77), .int a1] S ((fX11_ratherAt a1 S).map (fun x => (some (.int x.1), x.2))) := g_met (by decide +kernel) rfl (Nat.le_of_ble_eq_true rfl) (tX11_ratherAt_L hG hF hM a1 S)
/-! X11_leaving -/
theorem hiX11_leaving_11 : ∀ w ∈ u_ws RX11 TX11 17, w ∈ wsX11_leaving := fun _ hw => List.mem_cons_of_mem _ (List.mem_append_right _ (hw))
set_option maxRecDepth 100000 in
set_option maxHeartbeats 4000000 in
theorem tX11_leaving_L122 {G : gGG} {F : State → Heap → Prop} (hG : gOK G) (hF : gSb G F) (hM : gPM G) (x1 : Int32) (x2 : Int32) (S : gSt) : Gof G F RX11 cX11_leaving 6 wsX11_leaving (some .int) (gRm 3) 0 0 (gQ G (fun x => (some (.int x.1), x.2))) 122 [(0, .ref (gad G 77)), (1, .int x1), (2, .int x2)] [] S (fX11_leaving_L122 x1 x2 S) := by
  unfold fX11_leaving_L122
  refine g_iload_n 1 dX11_leaving_122 rfl ?_
  refine g_if_lt (tgt := 135) dX11_leaving_123 (by decide) (fun h_1 => ?_) (fun h_1 => ?_)
  · refine g_iload_n 2 dX11_leaving_135 rfl ?_
    refine g_bipush (v := 60) dX11_leaving_136 (by decide) ?_
    refine g_icmp_ne (tgt := 146) dX11_leaving_138 (by decide) (fun h_2 => ?_) (fun h_2 => ?_)
    · refine g_iload_n 2 dX11_leaving_146 rfl ?_
      exact g_iret dX11_leaving_147 rfl
    · refine g_bipush (v := (-9)) dX11_leaving_141 (by decide) ?_
      refine g_goto (tgt := 147) dX11_leaving_143 (by decide) ?_
      exact g_iret dX11_leaving_147 rfl
  · refine g_aload_n 0 dX11_leaving_126 rfl ?_
    refine g_getK (ci := 11) (k0 := 13) (C0 := RX11) (T := TX11) (N := 17) (hM 77 (by decide)) rfl rfl hiX11_leaving_11 (by decide) (List.mem_of_getElem? (i := 2) rfl) rfl dX11_leaving_127 ?_
    refine g_iload_n 1 dX11_leaving_130 rfl ?_
    refine g_iald hG (hM 83 (by decide)) rfl dX11_leaving_131 ?_
    refine g_goto (tgt := 147) dX11_leaving_132 (by decide) ?_
    exact g_iret dX11_leaving_147 rfl
set_option maxRecDepth 100000 in
set_option maxHeartbeats 4000000 in
theorem tX11_leaving_L108 {G : gGG} {F : State → Heap → Prop} (hG : gOK G) (hF : gSb G F) (hM : gPM G) (k53 : Int32 → Int32 → Int32 → Int32 → gSt → Option (Int32 × gSt)) (hk53 : ∀ (x1 : Int32) (x2 : Int32) (x3 : Int32) (x4 : Int32) (S : gSt), Gof G F RX11 cX11_leaving 6 wsX11_leaving (some .int) (gRm 3) 0 0 (gQ G (fun x => (some (.int x.1), x.2))) 53 [(0, .ref (gad G 77)), (1, .int x1), (2, .int x2), (3, .int x3), (4, .int x4)] [] S (k53 x1 x2 x3 x4 S)) (x1 : Int32) (x2 : Int32) (x3 : Int32) (x4 : Int32) (S : gSt) : Gof G F RX11 cX11_leaving 6 wsX11_leaving (some .int) (gRm 3) 0 0 (gQ G (fun x => (some (.int x.1), x.2))) 108 [(0, .ref (gad G 77)), (1, .int x1), (2, .int x2), (3, .int x3), (4, .int x4)] [] S (fX11_leaving_L108 k53 x1 x2 x3 x4 S) := by
  unfold fX11_leaving_L108
  refine g_iload 4 dX11_leaving_108 rfl ?_
  refine g_iconst (v := 1) dX11_leaving_110 (by decide) ?_
  refine g_iadd dX11_leaving_111 ?_
  refine g_aload_n 0 dX11_leaving_112 rfl ?_
  refine g_cVp (ci := 11) (C0 := RX11) (T := TX11) (N := 17) (n := 0) (As := []) (rest := [.int (x4 + 1)]) hF (tX11_guests hG hF hM S) gX11_leaving_X11_guests rfl (hM 77 (by decide)) rfl rfl ⟨rfl, by decide +kernel, by decide +kernel, by decide +kernel⟩ rfl (gRm_ok (by decide) (by decide)) rfl (Nat.le_of_ble_eq_true rfl) dX11_leaving_113 (fun v_1 => ?_)
  refine g_irem dX11_leaving_116 ?_
  refine g_nI (fun v_2 => ?_)
  refine g_istore (i := 4) (env' := [(4, .int v_2), (0, .ref (gad G 77)), (1, .int x1), (2, .int x2), (3, .int x3)]) dX11_leaving_117 (by decide) rfl ?_
  refine g_goto (tgt := 53) dX11_leaving_119 (by decide) ?_
  refine g_env (env' := [(0, .ref (gad G 77)), (1, .int x1), (2, .int x2), (3, .int x3), (4, .int v_2)]) [1, 2, 3, 4, 0] rfl ?_
  exact hk53 x1 x2 x3 v_2 S
set_option maxRecDepth 100000 in
set_option maxHeartbeats 4000000 in
theorem tX11_leaving_L53 {G : gGG} {F : State → Heap → Prop} (hG : gOK G) (hF : gSb G F) (hM : gPM G) : ∀ (n : Nat) (x1 : Int32) (x2 : Int32) (x3 : Int32) (x4 : Int32) (S : gSt), Gof G F RX11 cX11_leaving 6 wsX11_leaving (some .int) (gRm 3) 0 0 (gQ G (fun x => (some (.int x.1), x.2))) 53 [(0, .ref (gad G 77)), (1, .int x1), (2, .int x2), (3, .int x3), (4, .int x4)] [] S (fX11_leaving_L53 n x1 x2 x3 x4 S) := by
  intro n
  induction n with
  | zero => intro x1 x2 x3 x4 S; exact g_none
  | succ n ih =>
    intro x1 x2 x3 x4 S
    unfold fX11_leaving_L53
    refine g_iload_n 3 dX11_leaving_53 rfl ?_
    refine g_aload_n 0 dX11_leaving_54 rfl ?_
    refine g_cVp (ci := 11) (C0 := RX11) (T := TX11) (N := 17) (n := 0) (As := []) (rest := [.int x3]) hF (tX11_guests hG hF hM S) gX11_leaving_X11_guests rfl (hM 77 (by decide)) rfl rfl ⟨rfl, by decide +kernel, by decide +kernel, by decide +kernel⟩ rfl (gRm_ok (by decide) (by decide)) rfl (Nat.le_of_ble_eq_true rfl) dX11_leaving_55 (fun v_1 => ?_)
    refine g_icmp_ge (tgt := 122) dX11_leaving_58 (by decide) (fun h_1 => ?_) (fun h_1 => ?_)
    · refine g_env (env' := [(0, .ref (gad G 77)), (1, .int x1), (2, .int x2)]) [0, 1, 2] rfl ?_
      exact tX11_leaving_L122 hG hF hM x1 x2 S
    · refine g_iload_n 2 dX11_leaving_61 rfl ?_
      refine g_bipush (v := 60) dX11_leaving_62 (by decide) ?_
      refine g_icmp_ge (tgt := 122) dX11_leaving_64 (by decide) (fun h_2 => ?_) (fun h_2 => ?_)
      · refine g_env (env' := [(0, .ref (gad G 77)), (1, .int x1), (2, .int x2)]) [0, 1, 2] rfl ?_
        exact tX11_leaving_L122 hG hF hM x1 x2 S
      · refine g_aload_n 0 dX11_leaving_67 rfl ?_
        refine g_iload 4 dX11_leaving_68 rfl ?_
        refine g_cVi (ci := 11) (C0 := RX11) (T := TX11) (N := 17) (n := 1) (As := [.int x4]) (rest := []) hF (tX11_ratherAt hG hF hM x4 S) gX11_leaving_X11_ratherAt rfl (hM 77 (by decide)) rfl rfl ⟨rfl, by decide +kernel, by decide +kernel, by decide +kernel⟩ rfl (gRm_ok (by decide) (by decide)) rfl (Nat.le_of_ble_eq_true rfl) dX11_leaving_70 (fun v_2 S_3 => ?_)
        refine g_istore (i := 5) (env' := [(5, .int v_2), (0, .ref (gad G 77)), (1, .int x1), (2, .int x2), (3, .int x3), (4, .int x4)]) dX11_leaving_73 (by decide) rfl ?_
        refine g_iload 0 dX11_leaving_75 rfl ?_
        refine g_bipush (v := (-9)) dX11_leaving_77 (by decide) ?_
        refine g_icmp_eq (tgt := 105) dX11_leaving_79 (by decide) (fun h_3 => ?_) (fun h_3 => ?_)
        · refine g_iinc 4 (v := (x3 + 1)) (env' := [(3, .int (x3 + 1)), (5, .int v_2), (0, .ref (gad G 77)), (1, .int x1), (2, .int x2), (4, .int x4)]) dX11_leaving_105 rfl rfl (by decide) rfl ?_
          refine g_env (env' := [(0, .ref (gad G 77)), (1, .int x1), (2, .int x2), (3, .int (x3 + 1)), (4, .int x4)]) [2, 3, 4, 0, 5] rfl ?_
          exact tX11_leaving_L108 hG hF hM (fX11_leaving_L53 n) ih x1 x2 (x3 + 1) x4 S_3
        · refine g_aload_n 1 dX11_leaving_82 rfl ?_
          refine g_aload_n 1 dX11_leaving_83 rfl ?_
          refine g_getK (ci := 11) (k0 := 13) (C0 := RX11) (T := TX11) (N := 17) (hM 77 (by decide)) rfl rfl hiX11_leaving_11 (by decide) (List.mem_of_getElem? (i := 2) rfl) rfl dX11_leaving_84 ?_
          refine g_iload 5 dX11_leaving_87 rfl ?_
          refine g_iload 0 dX11_leaving_89 rfl ?_
          refine g_cVi (ci := 11) (C0 := RX11) (T := TX11) (N := 17) (n := 3) (As := [.ref (gad G 83), .int x4, .int v_2]) (rest := []) hF (tX11_moves hG hF hM (rfl : gArM 83 = true) x4 v_2 S_3) gX11_leaving_X11_moves rfl (hM 77 (by decide)) rfl rfl ⟨rfl, by decide +kernel, by decide +kernel, by decide +kernel⟩ rfl (gRm_ok (by decide) (by decide)) rfl (Nat.le_of_ble_eq_true rfl) dX11_leaving_91 (fun v_4 S_5 => ?_)
          refine g_if_eq (tgt := 105) dX11_leaving_94 (by decide) (fun h_4 => ?_) (fun h_4 => ?_)
          · refine g_iinc 4 (v := (x3 + 1)) (env' := [(3, .int (x3 + 1)), (5, .int v_2), (0, .ref (gad G 77)), (1, .int x1), (2, .int x2), (4, .int x4)]) dX11_leaving_105 rfl rfl (by decide) rfl ?_
            refine g_env (env' := [(0, .ref (gad G 77)), (1, .int x1), (2, .int x2), (3, .int (x3 + 1)), (4, .int x4)]) [2, 3, 4, 0, 5] rfl ?_
            exact tX11_leaving_L108 hG hF hM (fX11_leaving_L53 n) ih x1 x2 (x3 + 1) x4 S_5
          · refine g_iinc 3 (v := (x2 + 1)) (env' := [(2, .int (x2 + 1)), (5, .int v_2), (0, .ref (gad G 77)), (1, .int x1), (3, .int x3), (4, .int x4)]) dX11_leaving_97 rfl rfl (by decide) rfl ?_
            refine g_iconst (v := 0) dX11_leaving_100 (by decide) ?_
            refine g_istore_n (i := 3) (env' := [(3, .int 0), (2, .int (x2 + 1)), (5, .int v_2), (0, .ref (gad G 77)), (1, .int x1), (4, .int x4)]) dX11_leaving_101 rfl (by decide) rfl ?_
            refine g_goto (tgt := 108) dX11_leaving_102 (by decide) ?_
            refine g_env (env' := [(0, .ref (gad G 77)), (1, .int x1), (2, .int (x2 + 1)), (3, .int 0), (4, .int x4)]) [3, 4, 1, 0, 5] rfl ?_
            exact tX11_leaving_L108 hG hF hM (fX11_leaving_L53 n) ih x1 (x2 + 1) 0 x4 S_5
set_option maxRecDepth 100000 in
set_option maxHeartbeats 4000000 in
theorem tX11_leaving_L22 {G : gGG} {F : State → Heap → Prop} (hG : gOK G) (hF : gSb G F) (hM : gPM G) : ∀ (n : Nat) (x1 : Int32) (x2 : Int32) (S : gSt), Gof G F RX11 cX11_leaving 6 wsX11_leaving (some .int) (gRm 3) 0 0 (gQ G (fun x => (some (.int x.1), x.2))) 22 [(0, .ref (gad G 77)), (1, .int x1), (2, .int x2)] [] S (fX11_leaving_L22 n x1 x2 S) := by
  intro n
  induction n with
  | zero => intro x1 x2 S; exact g_none
  | succ n ih =>
    intro x1 x2 S
    unfold fX11_leaving_L22
    refine g_iload_n 2 dX11_leaving_22 rfl ?_
    refine g_bipush (v := 8) dX11_leaving_23 (by decide) ?_
    refine g_icmp_ge (tgt := 46) dX11_leaving_25 (by decide) (fun h_1 => ?_) (fun h_1 => ?_)
    · refine g_iconst (v := 0) dX11_leaving_46 (by decide) ?_
      refine g_istore_n (i := 2) (env' := [(2, .int 0), (0, .ref (gad G 77)), (1, .int x1)]) dX11_leaving_47 rfl (by decide) rfl ?_
      refine g_iconst (v := 0) dX11_leaving_48 (by decide) ?_
      refine g_istore_n (i := 3) (env' := [(3, .int 0), (2, .int 0), (0, .ref (gad G 77)), (1, .int x1)]) dX11_leaving_49 rfl (by decide) rfl ?_
      refine g_iconst (v := 0) dX11_leaving_50 (by decide) ?_
      refine g_istore (i := 4) (env' := [(4, .int 0), (3, .int 0), (2, .int 0), (0, .ref (gad G 77)), (1, .int x1)]) dX11_leaving_51 (by decide) rfl ?_
      refine g_env (env' := [(0, .ref (gad G 77)), (1, .int x1), (2, .int 0), (3, .int 0), (4, .int 0)]) [3, 4, 2, 1, 0] rfl ?_
      exact tX11_leaving_L53 hG hF hM gFU x1 0 0 0 S
    · refine g_aload_n 0 dX11_leaving_28 rfl ?_
      refine g_getK (ci := 11) (k0 := 13) (C0 := RX11) (T := TX11) (N := 17) (hM 77 (by decide)) rfl rfl hiX11_leaving_11 (by decide) (List.mem_of_getElem? (i := 2) rfl) rfl dX11_leaving_29 ?_
      refine g_iload_n 2 dX11_leaving_32 rfl ?_
      refine g_aload_n 0 dX11_leaving_33 rfl ?_
      refine g_getK (ci := 11) (k0 := 10) (C0 := RX11) (T := TX11) (N := 17) (hM 77 (by decide)) rfl rfl hiX11_leaving_11 (by decide) (List.mem_of_getElem? (i := 3) rfl) rfl dX11_leaving_34 ?_
      refine g_iload_n 2 dX11_leaving_37 rfl ?_
      refine g_iald hG (hM 80 (by decide)) rfl dX11_leaving_38 ?_
      refine g_iast hG (hM 83 (by decide)) rfl dX11_leaving_39 ?_
      refine g_nS (fun S_1 => ?_)
      refine g_iinc 2 (v := (x2 + 1)) (env' := [(2, .int (x2 + 1)), (0, .ref (gad G 77)), (1, .int x1)]) dX11_leaving_40 rfl rfl (by decide) rfl ?_
      refine g_goto (tgt := 22) dX11_leaving_43 (by decide) ?_
      refine g_env (env' := [(0, .ref (gad G 77)), (1, .int x1), (2, .int (x2 + 1))]) [1, 2, 0] rfl ?_
      exact ih x1 (x2 + 1) S_1
set_option maxRecDepth 100000 in
set_option maxHeartbeats 4000000 in
theorem tX11_leaving_L {G : gGG} {F : State → Heap → Prop} (hG : gOK G) (hF : gSb G F) (hM : gPM G) (a1 : Int32) (S : gSt) : Gof G F RX11 cX11_leaving 6 wsX11_leaving (some .int) (gRm 3) 0 0 (gQ G (fun x => (some (.int x.1), x.2))) 0 [(0, .ref (gad G 77)), (1, .int a1)] [] S (fX11_leaving a1 S) := by
  unfold fX11_leaving
  refine g_aload_n 0 dX11_leaving_0 rfl ?_
  refine g_iconst (v := 0) dX11_leaving_1 (by decide) ?_
  refine g_putI hG (ci := 11) (k0 := 0) (C0 := RX11) (T := TX11) (N := 17) (hM 77 (by decide)) rfl rfl hiX11_leaving_11 (by decide) (List.mem_of_getElem? (i := 1) rfl) tyX11 tyX11_ok nmX11 rfl rfl rfl rfl dX11_leaving_2 ?_
  refine g_nS (fun S_1 => ?_)
  refine g_iload_n 1 dX11_leaving_5 rfl ?_
  refine g_iconst (v := (-1)) dX11_leaving_6 (by decide) ?_
  refine g_icmp_eq (tgt := 20) dX11_leaving_7 (by decide) (fun h_1 => ?_) (fun h_1 => ?_)
  · refine g_iconst (v := 0) dX11_leaving_20 (by decide) ?_
    refine g_istore_n (i := 2) (env' := [(2, .int 0), (0, .ref (gad G 77)), (1, .int a1)]) dX11_leaving_21 rfl (by decide) rfl ?_
    refine g_env (env' := [(0, .ref (gad G 77)), (1, .int a1), (2, .int 0)]) [1, 2, 0] rfl ?_
    exact tX11_leaving_L22 hG hF hM gFU a1 0 S_1
  · refine g_aload_n 0 dX11_leaving_10 rfl ?_
    refine g_iload_n 1 dX11_leaving_11 rfl ?_
    refine g_cVp (ci := 11) (C0 := RX11) (T := TX11) (N := 17) (n := 1) (As := [.int a1]) (rest := []) hF (tX11_isGuest hG hF hM a1 S_1) gX11_leaving_X11_isGuest rfl (hM 77 (by decide)) rfl rfl ⟨rfl, by decide +kernel, by decide +kernel, by decide +kernel⟩ rfl (gRm_ok (by decide) (by decide)) rfl (Nat.le_of_ble_eq_true rfl) dX11_leaving_12 (fun v_2 => ?_)
    refine g_if_ne (tgt := 20) dX11_leaving_15 (by decide) (fun h_2 => ?_) (fun h_2 => ?_)
    · refine g_iconst (v := 0) dX11_leaving_20 (by decide) ?_
      refine g_istore_n (i := 2) (env' := [(2, .int 0), (0, .ref (gad G 77)), (1, .int a1)]) dX11_leaving_21 rfl (by decide) rfl ?_
      refine g_env (env' := [(0, .ref (gad G 77)), (1, .int a1), (2, .int 0)]) [1, 2, 0] rfl ?_
      exact tX11_leaving_L22 hG hF hM gFU a1 0 S_1
    · refine g_iconst (v := (-1)) dX11_leaving_18 (by decide) ?_
      exact g_iret dX11_leaving_19 rfl
set_option maxRecDepth 100000 in
set_option maxHeartbeats 4000000 in
theorem tX11_leaving {G : gGG} {F : State → Heap → Prop} (hG : gOK G) (hF : gSb G F) (hM : gPM G) (a1 : Int32) (S : gSt) : gCt G F yX11_leaving wsX11_leaving 3 [.ref (gad G 77), .int a1] S ((fX11_leaving a1 S).map (fun x => (some (.int x.1), x.2))) := g_met (by decide +kernel) rfl (Nat.le_of_ble_eq_true rfl) (tX11_leaving_L hG hF hM a1 S)
/-! X11_evening -/
theorem hiX11_evening_11 : ∀ w ∈ u_ws RX11 TX11 17, w ∈ wsX11_evening := fun _ hw => List.mem_cons_of_mem _ (List.mem_append_right _ (hw))
set_option maxRecDepth 100000 in
set_option maxHeartbeats 4000000 in
theorem tX11_evening_L21 {G : gGG} {F : State → Heap → Prop} (hG : gOK G) (hF : gSb G F) (hM : gPM G) : ∀ (n : Nat) (x1 : Int32) (x2 : Int32) (x3 : Int32) (S : gSt), Gof G F RX11 cX11_evening 6 wsX11_evening (some .int) (gRm 3) 0 0 (gQ G (fun x => (some (.int x.1), x.2))) 21 [(0, .ref (gad G 77)), (1, .int x1), (2, .int x2), (3, .int x3)] [] S (fX11_evening_L21 n x1 x2 x3 S) := by
  intro n
  induction n with
  | zero => intro x1 x2 x3 S; exact g_none
  | succ n ih =>
    intro x1 x2 x3 S
    unfold fX11_evening_L21
    refine g_iload_n 3 dX11_evening_21 rfl ?_
    refine g_iload_n 1 dX11_evening_22 rfl ?_
    refine g_icmp_ge (tgt := 80) dX11_evening_23 (by decide) (fun h_1 => ?_) (fun h_1 => ?_)
    · refine g_iload_n 2 dX11_evening_80 rfl ?_
      exact g_iret dX11_evening_81 rfl
    · refine g_aload_n 0 dX11_evening_26 rfl ?_
      refine g_aload_n 0 dX11_evening_27 rfl ?_
      refine g_cVp (ci := 11) (C0 := RX11) (T := TX11) (N := 17) (n := 0) (As := []) (rest := [.ref (gad G 77)]) hF (tX11_guests hG hF hM S) gX11_evening_X11_guests rfl (hM 77 (by decide)) rfl rfl ⟨rfl, by decide +kernel, by decide +kernel, by decide +kernel⟩ rfl (gRm_ok (by decide) (by decide)) rfl (Nat.le_of_ble_eq_true rfl) dX11_evening_28 (fun v_1 => ?_)
      refine g_cVi (ci := 11) (C0 := RX11) (T := TX11) (N := 17) (n := 1) (As := [.int v_1]) (rest := []) hF (tX11_draws hG hF hM v_1 S) gX11_evening_X11_draws rfl (hM 77 (by decide)) rfl rfl ⟨rfl, by decide +kernel, by decide +kernel, by decide +kernel⟩ rfl (gRm_ok (by decide) (by decide)) rfl (Nat.le_of_ble_eq_true rfl) dX11_evening_31 (fun v_2 S_3 => ?_)
      refine g_istore (i := 4) (env' := [(4, .int v_2), (0, .ref (gad G 77)), (1, .int x1), (2, .int x2), (3, .int x3)]) dX11_evening_34 (by decide) rfl ?_
      refine g_aload_n 1 dX11_evening_36 rfl ?_
      refine g_aload_n 1 dX11_evening_37 rfl ?_
      refine g_cVp (ci := 11) (C0 := RX11) (T := TX11) (N := 17) (n := 0) (As := []) (rest := [.ref (gad G 77)]) hF (tX11_guests hG hF hM S_3) gX11_evening_X11_guests rfl (hM 77 (by decide)) rfl rfl ⟨rfl, by decide +kernel, by decide +kernel, by decide +kernel⟩ rfl (gRm_ok (by decide) (by decide)) rfl (Nat.le_of_ble_eq_true rfl) dX11_evening_38 (fun v_4 => ?_)
      refine g_cVi (ci := 11) (C0 := RX11) (T := TX11) (N := 17) (n := 1) (As := [.int v_4]) (rest := []) hF (tX11_draws hG hF hM v_4 S_3) gX11_evening_X11_draws rfl (hM 77 (by decide)) rfl rfl ⟨rfl, by decide +kernel, by decide +kernel, by decide +kernel⟩ rfl (gRm_ok (by decide) (by decide)) rfl (Nat.le_of_ble_eq_true rfl) dX11_evening_41 (fun v_5 S_6 => ?_)
      refine g_istore (i := 5) (env' := [(5, .int v_5), (4, .int v_2), (0, .ref (gad G 77)), (1, .int x1), (2, .int x2), (3, .int x3)]) dX11_evening_44 (by decide) rfl ?_
      refine g_aload_n 2 dX11_evening_46 rfl ?_
      refine g_aload_n 2 dX11_evening_47 rfl ?_
      refine g_getK (ci := 11) (k0 := 10) (C0 := RX11) (T := TX11) (N := 17) (hM 77 (by decide)) rfl rfl hiX11_evening_11 (by decide) (List.mem_of_getElem? (i := 2) rfl) rfl dX11_evening_48 ?_
      refine g_iload 1 dX11_evening_51 rfl ?_
      refine g_iload 0 dX11_evening_53 rfl ?_
      refine g_cVi (ci := 11) (C0 := RX11) (T := TX11) (N := 17) (n := 3) (As := [.ref (gad G 80), .int v_2, .int v_5]) (rest := []) hF (tX11_moves hG hF hM (rfl : gArM 80 = true) v_2 v_5 S_6) gX11_evening_X11_moves rfl (hM 77 (by decide)) rfl rfl ⟨rfl, by decide +kernel, by decide +kernel, by decide +kernel⟩ rfl (gRm_ok (by decide) (by decide)) rfl (Nat.le_of_ble_eq_true rfl) dX11_evening_55 (fun v_7 S_8 => ?_)
      refine g_pop dX11_evening_58 rfl ?_
      refine g_iload_n 4 dX11_evening_59 rfl ?_
      refine g_aload_n 2 dX11_evening_60 rfl ?_
      refine g_cVp (ci := 11) (C0 := RX11) (T := TX11) (N := 17) (n := 0) (As := []) (rest := [.int x2]) hF (tX11_alone hG hF hM S_8) gX11_evening_X11_alone rfl (hM 77 (by decide)) rfl rfl ⟨rfl, by decide +kernel, by decide +kernel, by decide +kernel⟩ rfl (gRm_ok (by decide) (by decide)) rfl (Nat.le_of_ble_eq_true rfl) dX11_evening_61 (fun v_9 => ?_)
      refine g_if_le (tgt := 71) dX11_evening_64 (by decide) (fun h_2 => ?_) (fun h_2 => ?_)
      · refine g_iconst (v := 0) dX11_evening_71 (by decide) ?_
        refine g_iadd dX11_evening_72 ?_
        refine g_nI (fun v_10 => ?_)
        refine g_istore_n (i := 2) (env' := [(2, .int v_10), (5, .int v_5), (4, .int v_2), (0, .ref (gad G 77)), (1, .int x1), (3, .int x3)]) dX11_evening_73 rfl (by decide) rfl ?_
        refine g_iinc 5 (v := (x3 + 1)) (env' := [(3, .int (x3 + 1)), (2, .int v_10), (5, .int v_5), (4, .int v_2), (0, .ref (gad G 77)), (1, .int x1)]) dX11_evening_74 rfl rfl (by decide) rfl ?_
        refine g_goto (tgt := 21) dX11_evening_77 (by decide) ?_
        refine g_env (env' := [(0, .ref (gad G 77)), (1, .int x1), (2, .int v_10), (3, .int (x3 + 1))]) [4, 5, 1, 0] rfl ?_
        exact ih x1 v_10 (x3 + 1) S_8
      · refine g_iconst (v := 1) dX11_evening_67 (by decide) ?_
        refine g_goto (tgt := 72) dX11_evening_68 (by decide) ?_
        refine g_iadd dX11_evening_72 ?_
        refine g_nI (fun v_11 => ?_)
        refine g_istore_n (i := 2) (env' := [(2, .int v_11), (5, .int v_5), (4, .int v_2), (0, .ref (gad G 77)), (1, .int x1), (3, .int x3)]) dX11_evening_73 rfl (by decide) rfl ?_
        refine g_iinc 5 (v := (x3 + 1)) (env' := [(3, .int (x3 + 1)), (2, .int v_11), (5, .int v_5), (4, .int v_2), (0, .ref (gad G 77)), (1, .int x1)]) dX11_evening_74 rfl rfl (by decide) rfl ?_
        refine g_goto (tgt := 21) dX11_evening_77 (by decide) ?_
        refine g_env (env' := [(0, .ref (gad G 77)), (1, .int x1), (2, .int v_11), (3, .int (x3 + 1))]) [4, 5, 1, 0] rfl ?_
        exact ih x1 v_11 (x3 + 1) S_8
set_option maxRecDepth 100000 in
set_option maxHeartbeats 4000000 in
theorem tX11_evening_L {G : gGG} {F : State → Heap → Prop} (hG : gOK G) (hF : gSb G F) (hM : gPM G) (a1 : Int32) (S : gSt) : Gof G F RX11 cX11_evening 6 wsX11_evening (some .int) (gRm 3) 0 0 (gQ G (fun x => (some (.int x.1), x.2))) 0 [(0, .ref (gad G 77)), (1, .int a1)] [] S (fX11_evening a1 S) := by
  unfold fX11_evening
  refine g_aload_n 0 dX11_evening_0 rfl ?_
  refine g_iconst (v := 0) dX11_evening_1 (by decide) ?_
  refine g_putI hG (ci := 11) (k0 := 0) (C0 := RX11) (T := TX11) (N := 17) (hM 77 (by decide)) rfl rfl hiX11_evening_11 (by decide) (List.mem_of_getElem? (i := 1) rfl) tyX11 tyX11_ok nmX11 rfl rfl rfl rfl dX11_evening_2 ?_
  refine g_nS (fun S_1 => ?_)
  refine g_iload_n 1 dX11_evening_5 rfl ?_
  refine g_iconst (v := 1) dX11_evening_6 (by decide) ?_
  refine g_bipush (v := 99) dX11_evening_7 (by decide) ?_
  refine g_cSp (n := 3) (As := [.int a1, .int 1, .int 99]) (rest := []) hF (tX11_in hG hF hM a1 1 99 S_1) gX11_evening_X11_in rfl ⟨by decide +kernel, by decide +kernel, by decide +kernel⟩ rfl (gRm_ok (by decide) (by decide)) rfl (Nat.le_of_ble_eq_true rfl) dX11_evening_9 (fun v_2 => ?_)
  refine g_if_ne (tgt := 17) dX11_evening_12 (by decide) (fun h_1 => ?_) (fun h_1 => ?_)
  · refine g_iconst (v := 0) dX11_evening_17 (by decide) ?_
    refine g_istore_n (i := 2) (env' := [(2, .int 0), (0, .ref (gad G 77)), (1, .int a1)]) dX11_evening_18 rfl (by decide) rfl ?_
    refine g_iconst (v := 0) dX11_evening_19 (by decide) ?_
    refine g_istore_n (i := 3) (env' := [(3, .int 0), (2, .int 0), (0, .ref (gad G 77)), (1, .int a1)]) dX11_evening_20 rfl (by decide) rfl ?_
    refine g_env (env' := [(0, .ref (gad G 77)), (1, .int a1), (2, .int 0), (3, .int 0)]) [2, 3, 1, 0] rfl ?_
    exact tX11_evening_L21 hG hF hM gFU a1 0 0 S_1
  · refine g_iconst (v := (-1)) dX11_evening_15 (by decide) ?_
    exact g_iret dX11_evening_16 rfl
set_option maxRecDepth 100000 in
set_option maxHeartbeats 4000000 in
theorem tX11_evening {G : gGG} {F : State → Heap → Prop} (hG : gOK G) (hF : gSb G F) (hM : gPM G) (a1 : Int32) (S : gSt) : gCt G F yX11_evening wsX11_evening 3 [.ref (gad G 77), .int a1] S ((fX11_evening a1 S).map (fun x => (some (.int x.1), x.2))) := g_met (by decide +kernel) rfl (Nat.le_of_ble_eq_true rfl) (tX11_evening_L hG hF hM a1 S)
/-! X11_rate -/
theorem hiX11_rate_11 : ∀ w ∈ u_ws RX11 TX11 17, w ∈ wsX11_rate := fun _ hw => List.mem_cons_of_mem _ (List.mem_append_right _ (hw))
set_option maxRecDepth 100000 in
set_option maxHeartbeats 4000000 in
theorem tX11_rate_L250 {G : gGG} {F : State → Heap → Prop} (hG : gOK G) (hF : gSb G F) (hM : gPM G) (s0 : Int32) (S : gSt) : Gof G F RX11 cX11_rate 6 wsX11_rate (some .int) (gRm 2) 0 0 (gQ G (fun x => (some (.int x.1), x.2))) 250 [] [.int s0] S (fX11_rate_L250 s0 S) := by
  unfold fX11_rate_L250
  exact g_iret dX11_rate_250 rfl
set_option maxRecDepth 100000 in
set_option maxHeartbeats 4000000 in
theorem tX11_rate_L179 {G : gGG} {F : State → Heap → Prop} (hG : gOK G) (hF : gSb G F) (hM : gPM G) (x1 : Int32) (x2 : Int32) (x3 : Int32) (x4 : Int32) (x5 : Int32) (s1 : Int64) (s2 : Int64) (S : gSt) : Gof G F RX11 cX11_rate 6 wsX11_rate (some .int) (gRm 2) 0 0 (gQ G (fun x => (some (.int x.1), x.2))) 179 [(0, .ref (gad G 77)), (1, .int x1), (2, .int x2), (3, .int x3), (4, .int x4), (5, .int x5)] [.long s2, .long s1, .ref (gad G 77)] S (fX11_rate_L179 x1 x2 x3 x4 x5 s1 s2 S) := by
  unfold fX11_rate_L179
  refine g_ladd dX11_rate_179 ?_
  refine g_putJ hG (ci := 11) (k0 := 1) (C0 := RX11) (T := TX11) (N := 17) (hM 77 (by decide)) rfl rfl hiX11_rate_11 (by decide) (List.mem_of_getElem? (i := 5) rfl) tyX11 tyX11_ok nmX11 rfl gOne11 rfl rfl rfl dX11_rate_180 ?_
  refine g_nS (fun S_1 => ?_)
  refine g_iload_n 1 dX11_rate_183 rfl ?_
  refine g_if_ne (tgt := 191) dX11_rate_184 (by decide) (fun h_1 => ?_) (fun h_1 => ?_)
  · refine g_iload_n 1 dX11_rate_191 rfl ?_
    refine g_iconst (v := 1) dX11_rate_192 (by decide) ?_
    refine g_icmp_ne (tgt := 201) dX11_rate_193 (by decide) (fun h_2 => ?_) (fun h_2 => ?_)
    · refine g_iload_n 1 dX11_rate_201 rfl ?_
      refine g_iconst (v := 2) dX11_rate_202 (by decide) ?_
      refine g_icmp_ne (tgt := 211) dX11_rate_203 (by decide) (fun h_3 => ?_) (fun h_3 => ?_)
      · refine g_iload_n 1 dX11_rate_211 rfl ?_
        refine g_iconst (v := 3) dX11_rate_212 (by decide) ?_
        refine g_icmp_ne (tgt := 223) dX11_rate_213 (by decide) (fun h_4 => ?_) (fun h_4 => ?_)
        · refine g_iload_n 1 dX11_rate_223 rfl ?_
          refine g_iconst (v := 4) dX11_rate_224 (by decide) ?_
          refine g_icmp_ne (tgt := 240) dX11_rate_225 (by decide) (fun h_5 => ?_) (fun h_5 => ?_)
          · refine g_iload_n 3 dX11_rate_240 rfl ?_
            refine g_aload_n 0 dX11_rate_241 rfl ?_
            refine g_aload_n 0 dX11_rate_242 rfl ?_
            refine g_getK (ci := 11) (k0 := 10) (C0 := RX11) (T := TX11) (N := 17) (hM 77 (by decide)) rfl rfl hiX11_rate_11 (by decide) (List.mem_of_getElem? (i := 3) rfl) rfl dX11_rate_243 ?_
            refine g_cVp (ci := 11) (C0 := RX11) (T := TX11) (N := 17) (n := 1) (As := [.ref (gad G 80)]) (rest := [.int x3]) hF (tX11_partiesOf hG hF hM (rfl : gArM 80 = true) S_1) gX11_rate_X11_partiesOf rfl (hM 77 (by decide)) rfl rfl ⟨rfl, by decide +kernel, by decide +kernel, by decide +kernel⟩ rfl (gRm_ok (by decide) (by decide)) rfl (Nat.le_of_ble_eq_true rfl) dX11_rate_246 (fun v_2 => ?_)
            refine g_iadd dX11_rate_249 ?_
            refine g_env (env' := []) [] rfl ?_
            exact tX11_rate_L250 hG hF hM (x3 + v_2) S_1
          · refine g_iload 5 dX11_rate_228 rfl ?_
            refine g_aload_n 0 dX11_rate_230 rfl ?_
            refine g_getK (ci := 11) (k0 := 10) (C0 := RX11) (T := TX11) (N := 17) (hM 77 (by decide)) rfl rfl hiX11_rate_11 (by decide) (List.mem_of_getElem? (i := 3) rfl) rfl dX11_rate_231 ?_
            refine g_iload_n 2 dX11_rate_234 rfl ?_
            refine g_iald hG (hM 80 (by decide)) rfl dX11_rate_235 ?_
            refine g_iadd dX11_rate_236 ?_
            refine g_goto (tgt := 250) dX11_rate_237 (by decide) ?_
            refine g_env (env' := []) [] rfl ?_
            exact tX11_rate_L250 hG hF hM (x5 + (gR S_1 80 (gN x2))) S_1
        · refine g_iconst (v := 2) dX11_rate_216 (by decide) ?_
          refine g_iload 4 dX11_rate_217 rfl ?_
          refine g_imul dX11_rate_219 ?_
          refine g_goto (tgt := 250) dX11_rate_220 (by decide) ?_
          refine g_env (env' := []) [] rfl ?_
          exact tX11_rate_L250 hG hF hM (2 * x4) S_1
      · refine g_iload 5 dX11_rate_206 rfl ?_
        refine g_goto (tgt := 250) dX11_rate_208 (by decide) ?_
        refine g_env (env' := []) [] rfl ?_
        exact tX11_rate_L250 hG hF hM x5 S_1
    · refine g_iload 4 dX11_rate_196 rfl ?_
      refine g_goto (tgt := 250) dX11_rate_198 (by decide) ?_
      refine g_env (env' := []) [] rfl ?_
      exact tX11_rate_L250 hG hF hM x4 S_1
  · refine g_iload_n 3 dX11_rate_187 rfl ?_
    refine g_goto (tgt := 250) dX11_rate_188 (by decide) ?_
    refine g_env (env' := []) [] rfl ?_
    exact tX11_rate_L250 hG hF hM x3 S_1
set_option maxRecDepth 100000 in
set_option maxHeartbeats 4000000 in
theorem tX11_rate_L46 {G : gGG} {F : State → Heap → Prop} (hG : gOK G) (hF : gSb G F) (hM : gPM G) : ∀ (n : Nat) (x1 : Int32) (x2 : Int32) (x3 : Int32) (x4 : Int32) (x5 : Int32) (S : gSt), Gof G F RX11 cX11_rate 6 wsX11_rate (some .int) (gRm 2) 0 0 (gQ G (fun x => (some (.int x.1), x.2))) 46 [(0, .ref (gad G 77)), (1, .int x1), (2, .int x2), (3, .int x3), (4, .int x4), (5, .int x5)] [] S (fX11_rate_L46 n x1 x2 x3 x4 x5 S) := by
  intro n
  induction n with
  | zero => intro x1 x2 x3 x4 x5 S; exact g_none
  | succ n ih =>
    intro x1 x2 x3 x4 x5 S
    unfold fX11_rate_L46
    refine g_iload 5 dX11_rate_46 rfl ?_
    refine g_aload_n 0 dX11_rate_48 rfl ?_
    refine g_cVp (ci := 11) (C0 := RX11) (T := TX11) (N := 17) (n := 0) (As := []) (rest := [.int x5]) hF (tX11_guests hG hF hM S) gX11_rate_X11_guests rfl (hM 77 (by decide)) rfl rfl ⟨rfl, by decide +kernel, by decide +kernel, by decide +kernel⟩ rfl (gRm_ok (by decide) (by decide)) rfl (Nat.le_of_ble_eq_true rfl) dX11_rate_49 (fun v_1 => ?_)
    refine g_icmp_ge (tgt := 107) dX11_rate_52 (by decide) (fun h_1 => ?_) (fun h_1 => ?_)
    · refine g_iload_n 3 dX11_rate_107 rfl ?_
      refine g_aload_n 0 dX11_rate_108 rfl ?_
      refine g_getK (ci := 11) (k0 := 9) (C0 := RX11) (T := TX11) (N := 17) (hM 77 (by decide)) rfl rfl hiX11_rate_11 (by decide) (List.mem_of_getElem? (i := 4) rfl) rfl dX11_rate_109 ?_
      refine g_iconst (v := 1) dX11_rate_112 (by decide) ?_
      refine g_iload_n 2 dX11_rate_113 rfl ?_
      refine g_iadd dX11_rate_114 ?_
      refine g_iald hG (hM 79 (by decide)) rfl dX11_rate_115 ?_
      refine g_isub dX11_rate_116 ?_
      refine g_nI (fun v_2 => ?_)
      refine g_istore (i := 5) (env' := [(5, .int v_2), (0, .ref (gad G 77)), (1, .int x1), (2, .int x2), (3, .int x3), (4, .int x4)]) dX11_rate_117 (by decide) rfl ?_
      refine g_aload_n 1 dX11_rate_119 rfl ?_
      refine g_dup dX11_rate_120 rfl ?_
      refine g_getJ (ci := 11) (k0 := 1) (C0 := RX11) (T := TX11) (N := 17) (hM 77 (by decide)) rfl rfl hiX11_rate_11 (by decide) (List.mem_of_getElem? (i := 5) rfl) rfl dX11_rate_121 ?_
      refine g_iload_n 2 dX11_rate_124 rfl ?_
      refine g_if_ne (tgt := 132) dX11_rate_125 (by decide) (fun h_2 => ?_) (fun h_2 => ?_)
      · refine g_iload_n 2 dX11_rate_132 rfl ?_
        refine g_iconst (v := 1) dX11_rate_133 (by decide) ?_
        refine g_icmp_ne (tgt := 143) dX11_rate_134 (by decide) (fun h_3 => ?_) (fun h_3 => ?_)
        · refine g_iload_n 2 dX11_rate_143 rfl ?_
          refine g_iconst (v := 2) dX11_rate_144 (by decide) ?_
          refine g_icmp_ne (tgt := 154) dX11_rate_145 (by decide) (fun h_4 => ?_) (fun h_4 => ?_)
          · refine g_iload_n 2 dX11_rate_154 rfl ?_
            refine g_iconst (v := 3) dX11_rate_155 (by decide) ?_
            refine g_icmp_ne (tgt := 165) dX11_rate_156 (by decide) (fun h_5 => ?_) (fun h_5 => ?_)
            · refine g_iload_n 2 dX11_rate_165 rfl ?_
              refine g_iconst (v := 4) dX11_rate_166 (by decide) ?_
              refine g_icmp_ne (tgt := 176) dX11_rate_167 (by decide) (fun h_6 => ?_) (fun h_6 => ?_)
              · refine g_ldc2 (List.mem_of_getElem? (i := 10) rfl) dX11_rate_176 ?_
                refine g_env (env' := [(0, .ref (gad G 77)), (1, .int x1), (2, .int x2), (3, .int x3), (4, .int x4), (5, .int v_2)]) [1, 2, 3, 4, 5, 0] rfl ?_
                exact tX11_rate_L179 hG hF hM x1 x2 x3 x4 v_2 (gRL S 77) 100001 S
              · refine g_ldc2 (List.mem_of_getElem? (i := 9) rfl) dX11_rate_170 ?_
                refine g_goto (tgt := 179) dX11_rate_173 (by decide) ?_
                refine g_env (env' := [(0, .ref (gad G 77)), (1, .int x1), (2, .int x2), (3, .int x3), (4, .int x4), (5, .int v_2)]) [1, 2, 3, 4, 5, 0] rfl ?_
                exact tX11_rate_L179 hG hF hM x1 x2 x3 x4 v_2 (gRL S 77) 10101 S
            · refine g_ldc2 (List.mem_of_getElem? (i := 8) rfl) dX11_rate_159 ?_
              refine g_goto (tgt := 179) dX11_rate_162 (by decide) ?_
              refine g_env (env' := [(0, .ref (gad G 77)), (1, .int x1), (2, .int x2), (3, .int x3), (4, .int x4), (5, .int v_2)]) [1, 2, 3, 4, 5, 0] rfl ?_
              exact tX11_rate_L179 hG hF hM x1 x2 x3 x4 v_2 (gRL S 77) 1011 S
          · refine g_ldc2 (List.mem_of_getElem? (i := 7) rfl) dX11_rate_148 ?_
            refine g_goto (tgt := 179) dX11_rate_151 (by decide) ?_
            refine g_env (env' := [(0, .ref (gad G 77)), (1, .int x1), (2, .int x2), (3, .int x3), (4, .int x4), (5, .int v_2)]) [1, 2, 3, 4, 5, 0] rfl ?_
            exact tX11_rate_L179 hG hF hM x1 x2 x3 x4 v_2 (gRL S 77) 101 S
        · refine g_ldc2 (List.mem_of_getElem? (i := 6) rfl) dX11_rate_137 ?_
          refine g_goto (tgt := 179) dX11_rate_140 (by decide) ?_
          refine g_env (env' := [(0, .ref (gad G 77)), (1, .int x1), (2, .int x2), (3, .int x3), (4, .int x4), (5, .int v_2)]) [1, 2, 3, 4, 5, 0] rfl ?_
          exact tX11_rate_L179 hG hF hM x1 x2 x3 x4 v_2 (gRL S 77) 11 S
      · refine g_lconst (v := 1) dX11_rate_128 rfl ?_
        refine g_goto (tgt := 179) dX11_rate_129 (by decide) ?_
        refine g_env (env' := [(0, .ref (gad G 77)), (1, .int x1), (2, .int x2), (3, .int x3), (4, .int x4), (5, .int v_2)]) [1, 2, 3, 4, 5, 0] rfl ?_
        exact tX11_rate_L179 hG hF hM x1 x2 x3 x4 v_2 (gRL S 77) 1 S
    · refine g_iload 4 dX11_rate_55 rfl ?_
      refine g_iload 5 dX11_rate_57 rfl ?_
      refine g_iload_n 2 dX11_rate_59 rfl ?_
      refine g_icmp_eq (tgt := 97) dX11_rate_60 (by decide) (fun h_7 => ?_) (fun h_7 => ?_)
      · refine g_iconst (v := 0) dX11_rate_97 (by decide) ?_
        refine g_iadd dX11_rate_98 ?_
        refine g_nI (fun v_3 => ?_)
        refine g_istore (i := 4) (env' := [(4, .int v_3), (0, .ref (gad G 77)), (1, .int x1), (2, .int x2), (3, .int x3), (5, .int x5)]) dX11_rate_99 (by decide) rfl ?_
        refine g_iinc 5 (v := (x5 + 1)) (env' := [(5, .int (x5 + 1)), (4, .int v_3), (0, .ref (gad G 77)), (1, .int x1), (2, .int x2), (3, .int x3)]) dX11_rate_101 rfl rfl (by decide) rfl ?_
        refine g_goto (tgt := 46) dX11_rate_104 (by decide) ?_
        refine g_env (env' := [(0, .ref (gad G 77)), (1, .int x1), (2, .int x2), (3, .int x3), (4, .int v_3), (5, .int (x5 + 1))]) [2, 3, 4, 5, 1, 0] rfl ?_
        exact ih x1 x2 x3 v_3 (x5 + 1) S
      · refine g_aload_n 0 dX11_rate_63 rfl ?_
        refine g_getK (ci := 11) (k0 := 10) (C0 := RX11) (T := TX11) (N := 17) (hM 77 (by decide)) rfl rfl hiX11_rate_11 (by decide) (List.mem_of_getElem? (i := 3) rfl) rfl dX11_rate_64 ?_
        refine g_iload 5 dX11_rate_67 rfl ?_
        refine g_iald hG (hM 80 (by decide)) rfl dX11_rate_69 ?_
        refine g_aload_n 0 dX11_rate_70 rfl ?_
        refine g_getK (ci := 11) (k0 := 10) (C0 := RX11) (T := TX11) (N := 17) (hM 77 (by decide)) rfl rfl hiX11_rate_11 (by decide) (List.mem_of_getElem? (i := 3) rfl) rfl dX11_rate_71 ?_
        refine g_iload_n 2 dX11_rate_74 rfl ?_
        refine g_iald hG (hM 80 (by decide)) rfl dX11_rate_75 ?_
        refine g_icmp_ne (tgt := 97) dX11_rate_76 (by decide) (fun h_8 => ?_) (fun h_8 => ?_)
        · refine g_iconst (v := 0) dX11_rate_97 (by decide) ?_
          refine g_iadd dX11_rate_98 ?_
          refine g_nI (fun v_4 => ?_)
          refine g_istore (i := 4) (env' := [(4, .int v_4), (0, .ref (gad G 77)), (1, .int x1), (2, .int x2), (3, .int x3), (5, .int x5)]) dX11_rate_99 (by decide) rfl ?_
          refine g_iinc 5 (v := (x5 + 1)) (env' := [(5, .int (x5 + 1)), (4, .int v_4), (0, .ref (gad G 77)), (1, .int x1), (2, .int x2), (3, .int x3)]) dX11_rate_101 rfl rfl (by decide) rfl ?_
          refine g_goto (tgt := 46) dX11_rate_104 (by decide) ?_
          refine g_env (env' := [(0, .ref (gad G 77)), (1, .int x1), (2, .int x2), (3, .int x3), (4, .int v_4), (5, .int (x5 + 1))]) [2, 3, 4, 5, 1, 0] rfl ?_
          exact ih x1 x2 x3 v_4 (x5 + 1) S
        · refine g_aload_n 0 dX11_rate_79 rfl ?_
          refine g_getK (ci := 11) (k0 := 9) (C0 := RX11) (T := TX11) (N := 17) (hM 77 (by decide)) rfl rfl hiX11_rate_11 (by decide) (List.mem_of_getElem? (i := 4) rfl) rfl dX11_rate_80 ?_
          refine g_bipush (v := 30) dX11_rate_83 (by decide) ?_
          refine g_bipush (v := 8) dX11_rate_85 (by decide) ?_
          refine g_iload_n 2 dX11_rate_87 rfl ?_
          refine g_imul dX11_rate_88 ?_
          refine g_iadd dX11_rate_89 ?_
          refine g_iload 5 dX11_rate_90 rfl ?_
          refine g_iadd dX11_rate_92 ?_
          refine g_iald hG (hM 79 (by decide)) rfl dX11_rate_93 ?_
          refine g_goto (tgt := 98) dX11_rate_94 (by decide) ?_
          refine g_iadd dX11_rate_98 ?_
          refine g_nI (fun v_5 => ?_)
          refine g_istore (i := 4) (env' := [(4, .int v_5), (0, .ref (gad G 77)), (1, .int x1), (2, .int x2), (3, .int x3), (5, .int x5)]) dX11_rate_99 (by decide) rfl ?_
          refine g_iinc 5 (v := (x5 + 1)) (env' := [(5, .int (x5 + 1)), (4, .int v_5), (0, .ref (gad G 77)), (1, .int x1), (2, .int x2), (3, .int x3)]) dX11_rate_101 rfl rfl (by decide) rfl ?_
          refine g_goto (tgt := 46) dX11_rate_104 (by decide) ?_
          refine g_env (env' := [(0, .ref (gad G 77)), (1, .int x1), (2, .int x2), (3, .int x3), (4, .int v_5), (5, .int (x5 + 1))]) [2, 3, 4, 5, 1, 0] rfl ?_
          exact ih x1 x2 x3 v_5 (x5 + 1) S
set_option maxRecDepth 100000 in
set_option maxHeartbeats 4000000 in
theorem tX11_rate_L {G : gGG} {F : State → Heap → Prop} (hG : gOK G) (hF : gSb G F) (hM : gPM G) (a1 : Int32) (a2 : Int32) (S : gSt) : Gof G F RX11 cX11_rate 6 wsX11_rate (some .int) (gRm 2) 0 0 (gQ G (fun x => (some (.int x.1), x.2))) 0 [(0, .ref (gad G 77)), (1, .int a1), (2, .int a2)] [] S (fX11_rate a1 a2 S) := by
  unfold fX11_rate
  refine g_aload_n 0 dX11_rate_0 rfl ?_
  refine g_iconst (v := 0) dX11_rate_1 (by decide) ?_
  refine g_putI hG (ci := 11) (k0 := 0) (C0 := RX11) (T := TX11) (N := 17) (hM 77 (by decide)) rfl rfl hiX11_rate_11 (by decide) (List.mem_of_getElem? (i := 1) rfl) tyX11 tyX11_ok nmX11 rfl rfl rfl rfl dX11_rate_2 ?_
  refine g_nS (fun S_1 => ?_)
  refine g_iload_n 1 dX11_rate_5 rfl ?_
  refine g_iconst (v := 0) dX11_rate_6 (by decide) ?_
  refine g_iconst (v := 5) dX11_rate_7 (by decide) ?_
  refine g_cSp (n := 3) (As := [.int a1, .int 0, .int 5]) (rest := []) hF (tX11_in hG hF hM a1 0 5 S_1) gX11_rate_X11_in rfl ⟨by decide +kernel, by decide +kernel, by decide +kernel⟩ rfl (gRm_ok (by decide) (by decide)) rfl (Nat.le_of_ble_eq_true rfl) dX11_rate_8 (fun v_2 => ?_)
  refine g_if_eq (tgt := 22) dX11_rate_11 (by decide) (fun h_1 => ?_) (fun h_1 => ?_)
  · refine g_ldc (List.mem_of_getElem? (i := 2) rfl) dX11_rate_22 ?_
    exact g_iret dX11_rate_24 rfl
  · refine g_aload_n 0 dX11_rate_14 rfl ?_
    refine g_iload_n 2 dX11_rate_15 rfl ?_
    refine g_cVp (ci := 11) (C0 := RX11) (T := TX11) (N := 17) (n := 1) (As := [.int a2]) (rest := []) hF (tX11_isGuest hG hF hM a2 S_1) gX11_rate_X11_isGuest rfl (hM 77 (by decide)) rfl rfl ⟨rfl, by decide +kernel, by decide +kernel, by decide +kernel⟩ rfl (gRm_ok (by decide) (by decide)) rfl (Nat.le_of_ble_eq_true rfl) dX11_rate_16 (fun v_3 => ?_)
    refine g_if_ne (tgt := 25) dX11_rate_19 (by decide) (fun h_2 => ?_) (fun h_2 => ?_)
    · refine g_aload_n 0 dX11_rate_25 rfl ?_
      refine g_aload_n 0 dX11_rate_26 rfl ?_
      refine g_getK (ci := 11) (k0 := 10) (C0 := RX11) (T := TX11) (N := 17) (hM 77 (by decide)) rfl rfl hiX11_rate_11 (by decide) (List.mem_of_getElem? (i := 3) rfl) rfl dX11_rate_27 ?_
      refine g_aload_n 0 dX11_rate_30 rfl ?_
      refine g_getK (ci := 11) (k0 := 10) (C0 := RX11) (T := TX11) (N := 17) (hM 77 (by decide)) rfl rfl hiX11_rate_11 (by decide) (List.mem_of_getElem? (i := 3) rfl) rfl dX11_rate_31 ?_
      refine g_iload_n 2 dX11_rate_34 rfl ?_
      refine g_iald hG (hM 80 (by decide)) rfl dX11_rate_35 ?_
      refine g_cVp (ci := 11) (C0 := RX11) (T := TX11) (N := 17) (n := 2) (As := [.ref (gad G 80), .int (gR S_1 80 (gN a2))]) (rest := []) hF (tX11_sizeOf hG hF hM (rfl : gArM 80 = true) (gR S_1 80 (gN a2)) S_1) gX11_rate_X11_sizeOf rfl (hM 77 (by decide)) rfl rfl ⟨rfl, by decide +kernel, by decide +kernel, by decide +kernel⟩ rfl (gRm_ok (by decide) (by decide)) rfl (Nat.le_of_ble_eq_true rfl) dX11_rate_36 (fun v_4 => ?_)
      refine g_istore_n (i := 3) (env' := [(3, .int v_4), (0, .ref (gad G 77)), (1, .int a1), (2, .int a2)]) dX11_rate_39 rfl (by decide) rfl ?_
      refine g_iload_n 0 dX11_rate_40 rfl ?_
      refine g_istore (i := 4) (env' := [(4, .int v_4), (3, .int v_4), (0, .ref (gad G 77)), (1, .int a1), (2, .int a2)]) dX11_rate_41 (by decide) rfl ?_
      refine g_iconst (v := 0) dX11_rate_43 (by decide) ?_
      refine g_istore (i := 5) (env' := [(5, .int 0), (4, .int v_4), (3, .int v_4), (0, .ref (gad G 77)), (1, .int a1), (2, .int a2)]) dX11_rate_44 (by decide) rfl ?_
      refine g_env (env' := [(0, .ref (gad G 77)), (1, .int a1), (2, .int a2), (3, .int v_4), (4, .int v_4), (5, .int 0)]) [3, 4, 5, 2, 1, 0] rfl ?_
      exact tX11_rate_L46 hG hF hM gFU a1 a2 v_4 v_4 0 S_1
    · refine g_ldc (List.mem_of_getElem? (i := 2) rfl) dX11_rate_22 ?_
      exact g_iret dX11_rate_24 rfl
set_option maxRecDepth 100000 in
set_option maxHeartbeats 4000000 in
theorem tX11_rate {G : gGG} {F : State → Heap → Prop} (hG : gOK G) (hF : gSb G F) (hM : gPM G) (a1 : Int32) (a2 : Int32) (S : gSt) : gCt G F yX11_rate wsX11_rate 2 [.ref (gad G 77), .int a1, .int a2] S ((fX11_rate a1 a2 S).map (fun x => (some (.int x.1), x.2))) := g_met (by decide +kernel) rfl (Nat.le_of_ble_eq_true rfl) (tX11_rate_L hG hF hM a1 a2 S)
/-! X11_keep -/
theorem hiX11_keep_11 : ∀ w ∈ u_ws RX11 TX11 17, w ∈ wsX11_keep := fun _ hw => List.mem_cons_of_mem _ (List.mem_append_right _ (hw))
set_option maxRecDepth 100000 in
set_option maxHeartbeats 4000000 in
theorem tX11_keep_L16 {G : gGG} {F : State → Heap → Prop} (hG : gOK G) (hF : gSb G F) (hM : gPM G) : ∀ (n : Nat) (x1 : Int32) (x2 : Int32) (S : gSt), Gof G F RX11 cX11_keep 3 wsX11_keep (some .int) (gRm 2) 0 0 (gQ G (fun x => (some (.int x.1), x.2))) 16 [(0, .ref (gad G 77)), (1, .int x1), (2, .int x2)] [] S (fX11_keep_L16 n x1 x2 S) := by
  intro n
  induction n with
  | zero => intro x1 x2 S; exact g_none
  | succ n ih =>
    intro x1 x2 S
    unfold fX11_keep_L16
    refine g_iload_n 2 dX11_keep_16 rfl ?_
    refine g_bipush (v := 40) dX11_keep_17 (by decide) ?_
    refine g_icmp_ge (tgt := 45) dX11_keep_19 (by decide) (fun h_1 => ?_) (fun h_1 => ?_)
    · refine g_aload_n 0 dX11_keep_45 rfl ?_
      refine g_getK (ci := 11) (k0 := 12) (C0 := RX11) (T := TX11) (N := 17) (hM 77 (by decide)) rfl rfl hiX11_keep_11 (by decide) (List.mem_of_getElem? (i := 4) rfl) rfl dX11_keep_46 ?_
      refine g_iload_n 1 dX11_keep_49 rfl ?_
      refine g_iconst (v := 1) dX11_keep_50 (by decide) ?_
      refine g_zast hG (hM 82 (by decide)) rfl dX11_keep_51 ?_
      refine g_nS (fun S_1 => ?_)
      refine g_aload_n 0 dX11_keep_52 rfl ?_
      refine g_aload_n 0 dX11_keep_53 rfl ?_
      refine g_getK (ci := 11) (k0 := 10) (C0 := RX11) (T := TX11) (N := 17) (hM 77 (by decide)) rfl rfl hiX11_keep_11 (by decide) (List.mem_of_getElem? (i := 3) rfl) rfl dX11_keep_54 ?_
      refine g_cVp (ci := 11) (C0 := RX11) (T := TX11) (N := 17) (n := 1) (As := [.ref (gad G 80)]) (rest := []) hF (tX11_partiesOf hG hF hM (rfl : gArM 80 = true) S_1) gX11_keep_X11_partiesOf rfl (hM 77 (by decide)) rfl rfl ⟨rfl, by decide +kernel, by decide +kernel, by decide +kernel⟩ rfl (gRm_ok (by decide) (by decide)) rfl (Nat.le_of_ble_eq_true rfl) dX11_keep_57 (fun v_2 => ?_)
      exact g_iret dX11_keep_60 rfl
    · refine g_aload_n 0 dX11_keep_22 rfl ?_
      refine g_getK (ci := 11) (k0 := 11) (C0 := RX11) (T := TX11) (N := 17) (hM 77 (by decide)) rfl rfl hiX11_keep_11 (by decide) (List.mem_of_getElem? (i := 2) rfl) rfl dX11_keep_23 ?_
      refine g_bipush (v := 40) dX11_keep_26 (by decide) ?_
      refine g_iload_n 1 dX11_keep_28 rfl ?_
      refine g_imul dX11_keep_29 ?_
      refine g_iload_n 2 dX11_keep_30 rfl ?_
      refine g_iadd dX11_keep_31 ?_
      refine g_aload_n 0 dX11_keep_32 rfl ?_
      refine g_getK (ci := 11) (k0 := 10) (C0 := RX11) (T := TX11) (N := 17) (hM 77 (by decide)) rfl rfl hiX11_keep_11 (by decide) (List.mem_of_getElem? (i := 3) rfl) rfl dX11_keep_33 ?_
      refine g_iload_n 2 dX11_keep_36 rfl ?_
      refine g_iald hG (hM 80 (by decide)) rfl dX11_keep_37 ?_
      refine g_iast hG (hM 81 (by decide)) rfl dX11_keep_38 ?_
      refine g_nS (fun S_3 => ?_)
      refine g_iinc 2 (v := (x2 + 1)) (env' := [(2, .int (x2 + 1)), (0, .ref (gad G 77)), (1, .int x1)]) dX11_keep_39 rfl rfl (by decide) rfl ?_
      refine g_goto (tgt := 16) dX11_keep_42 (by decide) ?_
      refine g_env (env' := [(0, .ref (gad G 77)), (1, .int x1), (2, .int (x2 + 1))]) [1, 2, 0] rfl ?_
      exact ih x1 (x2 + 1) S_3
set_option maxRecDepth 100000 in
set_option maxHeartbeats 4000000 in
theorem tX11_keep_L {G : gGG} {F : State → Heap → Prop} (hG : gOK G) (hF : gSb G F) (hM : gPM G) (a1 : Int32) (S : gSt) : Gof G F RX11 cX11_keep 3 wsX11_keep (some .int) (gRm 2) 0 0 (gQ G (fun x => (some (.int x.1), x.2))) 0 [(0, .ref (gad G 77)), (1, .int a1)] [] S (fX11_keep a1 S) := by
  unfold fX11_keep
  refine g_aload_n 0 dX11_keep_0 rfl ?_
  refine g_iconst (v := 0) dX11_keep_1 (by decide) ?_
  refine g_putI hG (ci := 11) (k0 := 0) (C0 := RX11) (T := TX11) (N := 17) (hM 77 (by decide)) rfl rfl hiX11_keep_11 (by decide) (List.mem_of_getElem? (i := 1) rfl) tyX11 tyX11_ok nmX11 rfl rfl rfl rfl dX11_keep_2 ?_
  refine g_nS (fun S_1 => ?_)
  refine g_iload_n 1 dX11_keep_5 rfl ?_
  refine g_cSp (n := 1) (As := [.int a1]) (rest := []) hF (tX11_isImage hG hF hM a1 S_1) gX11_keep_X11_isImage rfl ⟨by decide +kernel, by decide +kernel, by decide +kernel⟩ rfl (gRm_ok (by decide) (by decide)) rfl (Nat.le_of_ble_eq_true rfl) dX11_keep_6 (fun v_2 => ?_)
  refine g_if_ne (tgt := 14) dX11_keep_9 (by decide) (fun h_1 => ?_) (fun h_1 => ?_)
  · refine g_iconst (v := 0) dX11_keep_14 (by decide) ?_
    refine g_istore_n (i := 2) (env' := [(2, .int 0), (0, .ref (gad G 77)), (1, .int a1)]) dX11_keep_15 rfl (by decide) rfl ?_
    refine g_env (env' := [(0, .ref (gad G 77)), (1, .int a1), (2, .int 0)]) [1, 2, 0] rfl ?_
    exact tX11_keep_L16 hG hF hM gFU a1 0 S_1
  · refine g_iconst (v := (-1)) dX11_keep_12 (by decide) ?_
    exact g_iret dX11_keep_13 rfl
set_option maxRecDepth 100000 in
set_option maxHeartbeats 4000000 in
theorem tX11_keep {G : gGG} {F : State → Heap → Prop} (hG : gOK G) (hF : gSb G F) (hM : gPM G) (a1 : Int32) (S : gSt) : gCt G F yX11_keep wsX11_keep 2 [.ref (gad G 77), .int a1] S ((fX11_keep a1 S).map (fun x => (some (.int x.1), x.2))) := g_met (by decide +kernel) rfl (Nat.le_of_ble_eq_true rfl) (tX11_keep_L hG hF hM a1 S)
/-! X11_back -/
theorem hiX11_back_11 : ∀ w ∈ u_ws RX11 TX11 17, w ∈ wsX11_back := fun _ hw => List.mem_cons_of_mem _ (List.mem_append_right _ (hw))
set_option maxRecDepth 100000 in
set_option maxHeartbeats 4000000 in
theorem tX11_back_L28 {G : gGG} {F : State → Heap → Prop} (hG : gOK G) (hF : gSb G F) (hM : gPM G) : ∀ (n : Nat) (x1 : Int32) (x2 : Int32) (S : gSt), Gof G F RX11 cX11_back 3 wsX11_back (some .int) (gRm 2) 0 0 (gQ G (fun x => (some (.int x.1), x.2))) 28 [(0, .ref (gad G 77)), (1, .int x1), (2, .int x2)] [] S (fX11_back_L28 n x1 x2 S) := by
  intro n
  induction n with
  | zero => intro x1 x2 S; exact g_none
  | succ n ih =>
    intro x1 x2 S
    unfold fX11_back_L28
    refine g_iload_n 2 dX11_back_28 rfl ?_
    refine g_bipush (v := 40) dX11_back_29 (by decide) ?_
    refine g_icmp_ge (tgt := 57) dX11_back_31 (by decide) (fun h_1 => ?_) (fun h_1 => ?_)
    · refine g_aload_n 0 dX11_back_57 rfl ?_
      refine g_aload_n 0 dX11_back_58 rfl ?_
      refine g_getK (ci := 11) (k0 := 10) (C0 := RX11) (T := TX11) (N := 17) (hM 77 (by decide)) rfl rfl hiX11_back_11 (by decide) (List.mem_of_getElem? (i := 3) rfl) rfl dX11_back_59 ?_
      refine g_cVp (ci := 11) (C0 := RX11) (T := TX11) (N := 17) (n := 1) (As := [.ref (gad G 80)]) (rest := []) hF (tX11_partiesOf hG hF hM (rfl : gArM 80 = true) S) gX11_back_X11_partiesOf rfl (hM 77 (by decide)) rfl rfl ⟨rfl, by decide +kernel, by decide +kernel, by decide +kernel⟩ rfl (gRm_ok (by decide) (by decide)) rfl (Nat.le_of_ble_eq_true rfl) dX11_back_62 (fun v_1 => ?_)
      exact g_iret dX11_back_65 rfl
    · refine g_aload_n 0 dX11_back_34 rfl ?_
      refine g_getK (ci := 11) (k0 := 10) (C0 := RX11) (T := TX11) (N := 17) (hM 77 (by decide)) rfl rfl hiX11_back_11 (by decide) (List.mem_of_getElem? (i := 3) rfl) rfl dX11_back_35 ?_
      refine g_iload_n 2 dX11_back_38 rfl ?_
      refine g_aload_n 0 dX11_back_39 rfl ?_
      refine g_getK (ci := 11) (k0 := 11) (C0 := RX11) (T := TX11) (N := 17) (hM 77 (by decide)) rfl rfl hiX11_back_11 (by decide) (List.mem_of_getElem? (i := 4) rfl) rfl dX11_back_40 ?_
      refine g_bipush (v := 40) dX11_back_43 (by decide) ?_
      refine g_iload_n 1 dX11_back_45 rfl ?_
      refine g_imul dX11_back_46 ?_
      refine g_iload_n 2 dX11_back_47 rfl ?_
      refine g_iadd dX11_back_48 ?_
      refine g_iald hG (hM 81 (by decide)) rfl dX11_back_49 ?_
      refine g_iast hG (hM 80 (by decide)) rfl dX11_back_50 ?_
      refine g_nS (fun S_2 => ?_)
      refine g_iinc 2 (v := (x2 + 1)) (env' := [(2, .int (x2 + 1)), (0, .ref (gad G 77)), (1, .int x1)]) dX11_back_51 rfl rfl (by decide) rfl ?_
      refine g_goto (tgt := 28) dX11_back_54 (by decide) ?_
      refine g_env (env' := [(0, .ref (gad G 77)), (1, .int x1), (2, .int (x2 + 1))]) [1, 2, 0] rfl ?_
      exact ih x1 (x2 + 1) S_2
set_option maxRecDepth 100000 in
set_option maxHeartbeats 4000000 in
theorem tX11_back_L {G : gGG} {F : State → Heap → Prop} (hG : gOK G) (hF : gSb G F) (hM : gPM G) (a1 : Int32) (S : gSt) : Gof G F RX11 cX11_back 3 wsX11_back (some .int) (gRm 2) 0 0 (gQ G (fun x => (some (.int x.1), x.2))) 0 [(0, .ref (gad G 77)), (1, .int a1)] [] S (fX11_back a1 S) := by
  unfold fX11_back
  refine g_aload_n 0 dX11_back_0 rfl ?_
  refine g_iconst (v := 0) dX11_back_1 (by decide) ?_
  refine g_putI hG (ci := 11) (k0 := 0) (C0 := RX11) (T := TX11) (N := 17) (hM 77 (by decide)) rfl rfl hiX11_back_11 (by decide) (List.mem_of_getElem? (i := 1) rfl) tyX11 tyX11_ok nmX11 rfl rfl rfl rfl dX11_back_2 ?_
  refine g_nS (fun S_1 => ?_)
  refine g_iload_n 1 dX11_back_5 rfl ?_
  refine g_cSp (n := 1) (As := [.int a1]) (rest := []) hF (tX11_isImage hG hF hM a1 S_1) gX11_back_X11_isImage rfl ⟨by decide +kernel, by decide +kernel, by decide +kernel⟩ rfl (gRm_ok (by decide) (by decide)) rfl (Nat.le_of_ble_eq_true rfl) dX11_back_6 (fun v_2 => ?_)
  refine g_if_ne (tgt := 14) dX11_back_9 (by decide) (fun h_1 => ?_) (fun h_1 => ?_)
  · refine g_aload_n 0 dX11_back_14 rfl ?_
    refine g_getK (ci := 11) (k0 := 12) (C0 := RX11) (T := TX11) (N := 17) (hM 77 (by decide)) rfl rfl hiX11_back_11 (by decide) (List.mem_of_getElem? (i := 2) rfl) rfl dX11_back_15 ?_
    refine g_iload_n 1 dX11_back_18 rfl ?_
    refine g_zald hG (hM 82 (by decide)) rfl dX11_back_19 ?_
    refine g_if_ne (tgt := 26) dX11_back_20 (by decide) (fun h_2 => ?_) (fun h_2 => ?_)
    · refine g_iconst (v := 0) dX11_back_26 (by decide) ?_
      refine g_istore_n (i := 2) (env' := [(2, .int 0), (0, .ref (gad G 77)), (1, .int a1)]) dX11_back_27 rfl (by decide) rfl ?_
      refine g_env (env' := [(0, .ref (gad G 77)), (1, .int a1), (2, .int 0)]) [1, 2, 0] rfl ?_
      exact tX11_back_L28 hG hF hM gFU a1 0 S_1
    · refine g_bipush (v := (-2)) dX11_back_23 (by decide) ?_
      exact g_iret dX11_back_25 rfl
  · refine g_iconst (v := (-1)) dX11_back_12 (by decide) ?_
    exact g_iret dX11_back_13 rfl
set_option maxRecDepth 100000 in
set_option maxHeartbeats 4000000 in
theorem tX11_back {G : gGG} {F : State → Heap → Prop} (hG : gOK G) (hF : gSb G F) (hM : gPM G) (a1 : Int32) (S : gSt) : gCt G F yX11_back wsX11_back 2 [.ref (gad G 77), .int a1] S ((fX11_back a1 S).map (fun x => (some (.int x.1), x.2))) := g_met (by decide +kernel) rfl (Nat.le_of_ble_eq_true rfl) (tX11_back_L hG hF hM a1 S)
/-! X11_count -/
theorem hiX11_count_11 : ∀ w ∈ u_ws RX11 TX11 17, w ∈ wsX11_count := fun _ hw => List.mem_cons_of_mem _ (List.mem_append_right _ (hw))
set_option maxRecDepth 100000 in
set_option maxHeartbeats 4000000 in
theorem tX11_count_L121 {G : gGG} {F : State → Heap → Prop} (hG : gOK G) (hF : gSb G F) (hM : gPM G) (s0 : Int32) (S : gSt) : Gof G F RX11 cX11_count 4 wsX11_count (some .int) (gRm 1) 0 0 (gQ G (fun x => (some (.int x.1), x.2))) 121 [] [.int s0] S (fX11_count_L121 s0 S) := by
  unfold fX11_count_L121
  exact g_iret dX11_count_121 rfl
set_option maxRecDepth 100000 in
set_option maxHeartbeats 4000000 in
theorem tX11_count_L9 {G : gGG} {F : State → Heap → Prop} (hG : gOK G) (hF : gSb G F) (hM : gPM G) : ∀ (n : Nat) (x1 : Int32) (x2 : Int32) (x3 : Int32) (S : gSt), Gof G F RX11 cX11_count 4 wsX11_count (some .int) (gRm 1) 0 0 (gQ G (fun x => (some (.int x.1), x.2))) 9 [(0, .ref (gad G 77)), (1, .int x1), (2, .int x2), (3, .int x3)] [] S (fX11_count_L9 n x1 x2 x3 S) := by
  intro n
  induction n with
  | zero => intro x1 x2 x3 S; exact g_none
  | succ n ih =>
    intro x1 x2 x3 S
    unfold fX11_count_L9
    refine g_iload_n 3 dX11_count_9 rfl ?_
    refine g_aload_n 0 dX11_count_10 rfl ?_
    refine g_cVp (ci := 11) (C0 := RX11) (T := TX11) (N := 17) (n := 0) (As := []) (rest := [.int x3]) hF (tX11_guests hG hF hM S) gX11_count_X11_guests rfl (hM 77 (by decide)) rfl rfl ⟨rfl, by decide +kernel, by decide +kernel, by decide +kernel⟩ rfl (gRm_ok (by decide) (by decide)) rfl (Nat.le_of_ble_eq_true rfl) dX11_count_11 (fun v_1 => ?_)
    refine g_icmp_ge (tgt := 67) dX11_count_14 (by decide) (fun h_1 => ?_) (fun h_1 => ?_)
    · refine g_iload_n 1 dX11_count_67 rfl ?_
      refine g_if_ne (tgt := 78) dX11_count_68 (by decide) (fun h_2 => ?_) (fun h_2 => ?_)
      · refine g_iload_n 1 dX11_count_78 rfl ?_
        refine g_iconst (v := 1) dX11_count_79 (by decide) ?_
        refine g_icmp_ne (tgt := 93) dX11_count_80 (by decide) (fun h_3 => ?_) (fun h_3 => ?_)
        · refine g_iload_n 1 dX11_count_93 rfl ?_
          refine g_iconst (v := 2) dX11_count_94 (by decide) ?_
          refine g_iconst (v := 3) dX11_count_95 (by decide) ?_
          refine g_cSp (n := 3) (As := [.int x1, .int 2, .int 3]) (rest := []) hF (tX11_in hG hF hM x1 2 3 S) gX11_count_X11_in rfl ⟨by decide +kernel, by decide +kernel, by decide +kernel⟩ rfl (gRm_ok (by decide) (by decide)) rfl (Nat.le_of_ble_eq_true rfl) dX11_count_96 (fun v_2 => ?_)
          refine g_if_eq (tgt := 108) dX11_count_99 (by decide) (fun h_4 => ?_) (fun h_4 => ?_)
          · refine g_iload_n 1 dX11_count_108 rfl ?_
            refine g_iconst (v := 4) dX11_count_109 (by decide) ?_
            refine g_icmp_ne (tgt := 120) dX11_count_110 (by decide) (fun h_5 => ?_) (fun h_5 => ?_)
            · refine g_iconst (v := (-1)) dX11_count_120 (by decide) ?_
              refine g_env (env' := []) [] rfl ?_
              exact tX11_count_L121 hG hF hM (-1) S
            · refine g_aload_n 0 dX11_count_113 rfl ?_
              refine g_getI (ci := 11) (k0 := 3) (C0 := RX11) (T := TX11) (N := 17) (hM 77 (by decide)) rfl rfl hiX11_count_11 (by decide) (List.mem_of_getElem? (i := 4) rfl) rfl dX11_count_114 ?_
              refine g_goto (tgt := 121) dX11_count_117 (by decide) ?_
              refine g_env (env' := []) [] rfl ?_
              exact tX11_count_L121 hG hF hM (gR S 77 3) S
          · refine g_iload_n 2 dX11_count_102 rfl ?_
            refine g_iconst (v := 2) dX11_count_103 (by decide) ?_
            refine g_idiv dX11_count_104 ?_
            refine g_goto (tgt := 121) dX11_count_105 (by decide) ?_
            refine g_env (env' := []) [] rfl ?_
            exact tX11_count_L121 hG hF hM (x2 / 2) S
        · refine g_aload_n 0 dX11_count_83 rfl ?_
          refine g_getK (ci := 11) (k0 := 10) (C0 := RX11) (T := TX11) (N := 17) (hM 77 (by decide)) rfl rfl hiX11_count_11 (by decide) (List.mem_of_getElem? (i := 3) rfl) rfl dX11_count_84 ?_
          refine g_bipush (v := 8) dX11_count_87 (by decide) ?_
          refine g_iald hG (hM 80 (by decide)) rfl dX11_count_89 ?_
          refine g_goto (tgt := 121) dX11_count_90 (by decide) ?_
          refine g_env (env' := []) [] rfl ?_
          exact tX11_count_L121 hG hF hM (gR S 80 (gN 8)) S
      · refine g_aload_n 0 dX11_count_71 rfl ?_
        refine g_cVp (ci := 11) (C0 := RX11) (T := TX11) (N := 17) (n := 0) (As := []) (rest := []) hF (tX11_guests hG hF hM S) gX11_count_X11_guests rfl (hM 77 (by decide)) rfl rfl ⟨rfl, by decide +kernel, by decide +kernel, by decide +kernel⟩ rfl (gRm_ok (by decide) (by decide)) rfl (Nat.le_of_ble_eq_true rfl) dX11_count_72 (fun v_3 => ?_)
        refine g_goto (tgt := 121) dX11_count_75 (by decide) ?_
        refine g_env (env' := []) [] rfl ?_
        exact tX11_count_L121 hG hF hM v_3 S
    · refine g_iload_n 2 dX11_count_17 rfl ?_
      refine g_iload_n 1 dX11_count_18 rfl ?_
      refine g_iconst (v := 2) dX11_count_19 (by decide) ?_
      refine g_icmp_ne (tgt := 38) dX11_count_20 (by decide) (fun h_6 => ?_) (fun h_6 => ?_)
      · refine g_iload_n 1 dX11_count_38 rfl ?_
        refine g_iconst (v := 3) dX11_count_39 (by decide) ?_
        refine g_icmp_ne (tgt := 58) dX11_count_40 (by decide) (fun h_7 => ?_) (fun h_7 => ?_)
        · refine g_iconst (v := 0) dX11_count_58 (by decide) ?_
          refine g_iadd dX11_count_59 ?_
          refine g_nI (fun v_4 => ?_)
          refine g_istore_n (i := 2) (env' := [(2, .int v_4), (0, .ref (gad G 77)), (1, .int x1), (3, .int x3)]) dX11_count_60 rfl (by decide) rfl ?_
          refine g_iinc 3 (v := (x3 + 1)) (env' := [(3, .int (x3 + 1)), (2, .int v_4), (0, .ref (gad G 77)), (1, .int x1)]) dX11_count_61 rfl rfl (by decide) rfl ?_
          refine g_goto (tgt := 9) dX11_count_64 (by decide) ?_
          refine g_env (env' := [(0, .ref (gad G 77)), (1, .int x1), (2, .int v_4), (3, .int (x3 + 1))]) [2, 3, 1, 0] rfl ?_
          exact ih x1 v_4 (x3 + 1) S
        · refine g_aload_n 0 dX11_count_43 rfl ?_
          refine g_getK (ci := 11) (k0 := 9) (C0 := RX11) (T := TX11) (N := 17) (hM 77 (by decide)) rfl rfl hiX11_count_11 (by decide) (List.mem_of_getElem? (i := 2) rfl) rfl dX11_count_44 ?_
          refine g_bipush (v := 22) dX11_count_47 (by decide) ?_
          refine g_iload_n 3 dX11_count_49 rfl ?_
          refine g_iadd dX11_count_50 ?_
          refine g_iald hG (hM 79 (by decide)) rfl dX11_count_51 ?_
          refine g_cSp (n := 1) (As := [.int (gR S 79 (gN (22 + x3)))]) (rest := [.int x2]) hF (tX11_ones hG hF hM (gR S 79 (gN (22 + x3))) S) gX11_count_X11_ones rfl ⟨by decide +kernel, by decide +kernel, by decide +kernel⟩ rfl (gRm_ok (by decide) (by decide)) rfl (Nat.le_of_ble_eq_true rfl) dX11_count_52 (fun v_5 => ?_)
          refine g_goto (tgt := 59) dX11_count_55 (by decide) ?_
          refine g_iadd dX11_count_59 ?_
          refine g_nI (fun v_6 => ?_)
          refine g_istore_n (i := 2) (env' := [(2, .int v_6), (0, .ref (gad G 77)), (1, .int x1), (3, .int x3)]) dX11_count_60 rfl (by decide) rfl ?_
          refine g_iinc 3 (v := (x3 + 1)) (env' := [(3, .int (x3 + 1)), (2, .int v_6), (0, .ref (gad G 77)), (1, .int x1)]) dX11_count_61 rfl rfl (by decide) rfl ?_
          refine g_goto (tgt := 9) dX11_count_64 (by decide) ?_
          refine g_env (env' := [(0, .ref (gad G 77)), (1, .int x1), (2, .int v_6), (3, .int (x3 + 1))]) [2, 3, 1, 0] rfl ?_
          exact ih x1 v_6 (x3 + 1) S
      · refine g_aload_n 0 dX11_count_23 rfl ?_
        refine g_getK (ci := 11) (k0 := 9) (C0 := RX11) (T := TX11) (N := 17) (hM 77 (by decide)) rfl rfl hiX11_count_11 (by decide) (List.mem_of_getElem? (i := 2) rfl) rfl dX11_count_24 ?_
        refine g_bipush (v := 14) dX11_count_27 (by decide) ?_
        refine g_iload_n 3 dX11_count_29 rfl ?_
        refine g_iadd dX11_count_30 ?_
        refine g_iald hG (hM 79 (by decide)) rfl dX11_count_31 ?_
        refine g_cSp (n := 1) (As := [.int (gR S 79 (gN (14 + x3)))]) (rest := [.int x2]) hF (tX11_ones hG hF hM (gR S 79 (gN (14 + x3))) S) gX11_count_X11_ones rfl ⟨by decide +kernel, by decide +kernel, by decide +kernel⟩ rfl (gRm_ok (by decide) (by decide)) rfl (Nat.le_of_ble_eq_true rfl) dX11_count_32 (fun v_7 => ?_)
        refine g_goto (tgt := 59) dX11_count_35 (by decide) ?_
        refine g_iadd dX11_count_59 ?_
        refine g_nI (fun v_8 => ?_)
        refine g_istore_n (i := 2) (env' := [(2, .int v_8), (0, .ref (gad G 77)), (1, .int x1), (3, .int x3)]) dX11_count_60 rfl (by decide) rfl ?_
        refine g_iinc 3 (v := (x3 + 1)) (env' := [(3, .int (x3 + 1)), (2, .int v_8), (0, .ref (gad G 77)), (1, .int x1)]) dX11_count_61 rfl rfl (by decide) rfl ?_
        refine g_goto (tgt := 9) dX11_count_64 (by decide) ?_
        refine g_env (env' := [(0, .ref (gad G 77)), (1, .int x1), (2, .int v_8), (3, .int (x3 + 1))]) [2, 3, 1, 0] rfl ?_
        exact ih x1 v_8 (x3 + 1) S
set_option maxRecDepth 100000 in
set_option maxHeartbeats 4000000 in
theorem tX11_count_L {G : gGG} {F : State → Heap → Prop} (hG : gOK G) (hF : gSb G F) (hM : gPM G) (a1 : Int32) (S : gSt) : Gof G F RX11 cX11_count 4 wsX11_count (some .int) (gRm 1) 0 0 (gQ G (fun x => (some (.int x.1), x.2))) 0 [(0, .ref (gad G 77)), (1, .int a1)] [] S (fX11_count a1 S) := by
  unfold fX11_count
  refine g_aload_n 0 dX11_count_0 rfl ?_
  refine g_iconst (v := 0) dX11_count_1 (by decide) ?_
  refine g_putI hG (ci := 11) (k0 := 0) (C0 := RX11) (T := TX11) (N := 17) (hM 77 (by decide)) rfl rfl hiX11_count_11 (by decide) (List.mem_of_getElem? (i := 1) rfl) tyX11 tyX11_ok nmX11 rfl rfl rfl rfl dX11_count_2 ?_
  refine g_nS (fun S_1 => ?_)
  refine g_iconst (v := 0) dX11_count_5 (by decide) ?_
  refine g_istore_n (i := 2) (env' := [(2, .int 0), (0, .ref (gad G 77)), (1, .int a1)]) dX11_count_6 rfl (by decide) rfl ?_
  refine g_iconst (v := 0) dX11_count_7 (by decide) ?_
  refine g_istore_n (i := 3) (env' := [(3, .int 0), (2, .int 0), (0, .ref (gad G 77)), (1, .int a1)]) dX11_count_8 rfl (by decide) rfl ?_
  refine g_env (env' := [(0, .ref (gad G 77)), (1, .int a1), (2, .int 0), (3, .int 0)]) [2, 3, 1, 0] rfl ?_
  exact tX11_count_L9 hG hF hM gFU a1 0 0 S_1
set_option maxRecDepth 100000 in
set_option maxHeartbeats 4000000 in
theorem tX11_count {G : gGG} {F : State → Heap → Prop} (hG : gOK G) (hF : gSb G F) (hM : gPM G) (a1 : Int32) (S : gSt) : gCt G F yX11_count wsX11_count 1 [.ref (gad G 77), .int a1] S ((fX11_count a1 S).map (fun x => (some (.int x.1), x.2))) := g_met (by decide +kernel) rfl (Nat.le_of_ble_eq_true rfl) (tX11_count_L hG hF hM a1 S)
/-! X11_trace -/
theorem hiX11_trace_11 : ∀ w ∈ u_ws RX11 TX11 17, w ∈ wsX11_trace := fun _ hw => List.mem_cons_of_mem _ (List.mem_append_right _ (hw))
set_option maxRecDepth 100000 in
set_option maxHeartbeats 4000000 in
theorem tX11_trace_L {G : gGG} {F : State → Heap → Prop} (hG : gOK G) (hF : gSb G F) (hM : gPM G) (S : gSt) : Gof G F RX11 cX11_trace 1 wsX11_trace (some .long) (gRm 0) 0 0 (gQ G (fun x => (some (.long x.1), x.2))) 0 [(0, .ref (gad G 77))] [] S (fX11_trace S) := by
  unfold fX11_trace
  refine g_aload_n 0 dX11_trace_0 rfl ?_
  refine g_iconst (v := 0) dX11_trace_1 (by decide) ?_
  refine g_putI hG (ci := 11) (k0 := 0) (C0 := RX11) (T := TX11) (N := 17) (hM 77 (by decide)) rfl rfl hiX11_trace_11 (by decide) (List.mem_of_getElem? (i := 1) rfl) tyX11 tyX11_ok nmX11 rfl rfl rfl rfl dX11_trace_2 ?_
  refine g_nS (fun S_1 => ?_)
  refine g_aload_n 0 dX11_trace_5 rfl ?_
  refine g_getJ (ci := 11) (k0 := 1) (C0 := RX11) (T := TX11) (N := 17) (hM 77 (by decide)) rfl rfl hiX11_trace_11 (by decide) (List.mem_of_getElem? (i := 2) rfl) rfl dX11_trace_6 ?_
  exact g_lret dX11_trace_9 rfl
set_option maxRecDepth 100000 in
set_option maxHeartbeats 4000000 in
theorem tX11_trace {G : gGG} {F : State → Heap → Prop} (hG : gOK G) (hF : gSb G F) (hM : gPM G) (S : gSt) : gCt G F yX11_trace wsX11_trace 0 [.ref (gad G 77)] S ((fX11_trace S).map (fun x => (some (.long x.1), x.2))) := g_met (by decide +kernel) rfl (Nat.le_of_ble_eq_true rfl) (tX11_trace_L hG hF hM S)
