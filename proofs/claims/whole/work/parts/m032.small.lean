/-! X2_value -/
theorem hiX2_value_2 : ∀ w ∈ u_ws RX2 TX2 1, w ∈ wsX2_value := fun _ hw => List.mem_cons_of_mem _ (List.mem_append_right _ (hw))
set_option maxRecDepth 100000 in
set_option maxHeartbeats 4000000 in
theorem tX2_value_L {G : gGG} {F : State → Heap → Prop} (hG : gOK G) (hF : gSb G F) (hX : gPX G) (hQ : gOQ G) (S : gSt) : Gof G F RX2 cX2_value 1 wsX2_value (some .int) (gRm 0) 0 0 (gQ G (fun x => (some (.int x), S))) 0 [(0, .ref (gad G 44))] [] S (fX2_value S) := by
  unfold fX2_value
  refine g_aload_n 0 dX2_value_0 rfl ?_
  refine g_getI (ci := 2) (k0 := 0) (C0 := RX2) (T := TX2) (N := 1) (hX 44 (by decide)) rfl rfl hiX2_value_2 (by decide) (List.mem_of_getElem? (i := 1) rfl) rfl dX2_value_1 ?_
  exact g_iret dX2_value_4 rfl
set_option maxRecDepth 100000 in
set_option maxHeartbeats 4000000 in
theorem tX2_value {G : gGG} {F : State → Heap → Prop} (hG : gOK G) (hF : gSb G F) (hX : gPX G) (hQ : gOQ G) (S : gSt) : gCt G F yX2_value wsX2_value 0 [.ref (gad G 44)] S ((fX2_value S).map (fun x => (some (.int x), S))) := g_met (by decide +kernel) rfl (Nat.le_of_ble_eq_true rfl) (tX2_value_L hG hF hX hQ S)
/-! X2_become -/
theorem hiX2_become_2 : ∀ w ∈ u_ws RX2 TX2 1, w ∈ wsX2_become := fun _ hw => List.mem_cons_of_mem _ (List.mem_append_right _ (hw))
set_option maxRecDepth 100000 in
set_option maxHeartbeats 4000000 in
theorem tX2_become_L {G : gGG} {F : State → Heap → Prop} (hG : gOK G) (hF : gSb G F) (hX : gPX G) (hQ : gOQ G) (a1 : Int32) (S : gSt) : Gof G F RX2 cX2_become 2 wsX2_become none (gRm 0) 0 0 (gQ G (fun x => (none, x))) 0 [(0, .ref (gad G 44)), (1, .int a1)] [] S (fX2_become a1 S) := by
  unfold fX2_become
  refine g_aload_n 0 dX2_become_0 rfl ?_
  refine g_iload_n 1 dX2_become_1 rfl ?_
  refine g_putI hG (ci := 2) (k0 := 0) (C0 := RX2) (T := TX2) (N := 1) (hX 44 (by decide)) rfl rfl hiX2_become_2 (by decide) (List.mem_of_getElem? (i := 1) rfl) tyX2 tyX2_ok nmX2 rfl rfl rfl rfl dX2_become_2 ?_
  refine g_nS (fun S_1 => ?_)
  exact g_vret dX2_become_5 rfl
set_option maxRecDepth 100000 in
set_option maxHeartbeats 4000000 in
theorem tX2_become {G : gGG} {F : State → Heap → Prop} (hG : gOK G) (hF : gSb G F) (hX : gPX G) (hQ : gOQ G) (a1 : Int32) (S : gSt) : gCt G F yX2_become wsX2_become 0 [.ref (gad G 44), .int a1] S ((fX2_become a1 S).map (fun x => (none, x))) := g_met (by decide +kernel) rfl (Nat.le_of_ble_eq_true rfl) (tX2_become_L hG hF hX hQ a1 S)
/-! X2_nextBelow -/
theorem hiX2_nextBelow_2 : ∀ w ∈ u_ws RX2 TX2 1, w ∈ wsX2_nextBelow := fun _ hw => List.mem_cons_of_mem _ (List.mem_append_right _ (hw))
set_option maxRecDepth 100000 in
set_option maxHeartbeats 4000000 in
theorem tX2_nextBelow_L {G : gGG} {F : State → Heap → Prop} (hG : gOK G) (hF : gSb G F) (hX : gPX G) (hQ : gOQ G) (a1 : Int32) (S : gSt) : Gof G F RX2 cX2_nextBelow 2 wsX2_nextBelow (some .int) (gRm 0) 0 0 (gQ G (fun x => (some (.int x.1), x.2))) 0 [(0, .ref (gad G 44)), (1, .int a1)] [] S (fX2_nextBelow a1 S) := by
  unfold fX2_nextBelow
  refine g_aload_n 0 dX2_nextBelow_0 rfl ?_
  refine g_aload_n 0 dX2_nextBelow_1 rfl ?_
  refine g_getI (ci := 2) (k0 := 0) (C0 := RX2) (T := TX2) (N := 1) (hX 44 (by decide)) rfl rfl hiX2_nextBelow_2 (by decide) (List.mem_of_getElem? (i := 1) rfl) rfl dX2_nextBelow_2 ?_
  refine g_ldc (List.mem_of_getElem? (i := 2) rfl) dX2_nextBelow_5 ?_
  refine g_imul dX2_nextBelow_7 ?_
  refine g_sipush (v := 12345) dX2_nextBelow_8 (by decide) ?_
  refine g_iadd dX2_nextBelow_11 ?_
  refine g_putI hG (ci := 2) (k0 := 0) (C0 := RX2) (T := TX2) (N := 1) (hX 44 (by decide)) rfl rfl hiX2_nextBelow_2 (by decide) (List.mem_of_getElem? (i := 1) rfl) tyX2 tyX2_ok nmX2 rfl rfl rfl rfl dX2_nextBelow_12 ?_
  refine g_nS (fun S_1 => ?_)
  refine g_iload_n 1 dX2_nextBelow_15 rfl ?_
  refine g_if_le (tgt := 31) dX2_nextBelow_16 (by decide) (fun h_1 => ?_) (fun h_1 => ?_)
  · refine g_iconst (v := 0) dX2_nextBelow_31 (by decide) ?_
    exact g_iret dX2_nextBelow_32 rfl
  · refine g_aload_n 0 dX2_nextBelow_19 rfl ?_
    refine g_getI (ci := 2) (k0 := 0) (C0 := RX2) (T := TX2) (N := 1) (hX 44 (by decide)) rfl rfl hiX2_nextBelow_2 (by decide) (List.mem_of_getElem? (i := 1) rfl) rfl dX2_nextBelow_20 ?_
    refine g_bipush (v := 16) dX2_nextBelow_23 (by decide) ?_
    refine g_iushr dX2_nextBelow_25 ?_
    refine g_iload_n 1 dX2_nextBelow_26 rfl ?_
    refine g_irem dX2_nextBelow_27 ?_
    refine g_goto (tgt := 32) dX2_nextBelow_28 (by decide) ?_
    exact g_iret dX2_nextBelow_32 rfl
set_option maxRecDepth 100000 in
set_option maxHeartbeats 4000000 in
theorem tX2_nextBelow {G : gGG} {F : State → Heap → Prop} (hG : gOK G) (hF : gSb G F) (hX : gPX G) (hQ : gOQ G) (a1 : Int32) (S : gSt) : gCt G F yX2_nextBelow wsX2_nextBelow 0 [.ref (gad G 44), .int a1] S ((fX2_nextBelow a1 S).map (fun x => (some (.int x.1), x.2))) := g_met (by decide +kernel) rfl (Nat.le_of_ble_eq_true rfl) (tX2_nextBelow_L hG hF hX hQ a1 S)
/-! X8_length -/
theorem hiX8_length_8 : ∀ w ∈ u_ws RX8 TX8 2, w ∈ wsX8_length := fun _ hw => List.mem_cons_of_mem _ (List.mem_append_right _ (hw))
set_option maxRecDepth 100000 in
set_option maxHeartbeats 4000000 in
theorem tX8_length_L {G : gGG} {F : State → Heap → Prop} (hG : gOK G) (hF : gSb G F) (hX : gPX G) (hQ : gOQ G) (S : gSt) : Gof G F RX8 cX8_length 1 wsX8_length (some .int) (gRm 0) 0 0 (gQ G (fun x => (some (.int x), S))) 0 [(0, .ref (gad G 29))] [] S (fX8_length S) := by
  unfold fX8_length
  refine g_aload_n 0 dX8_length_0 rfl ?_
  refine g_getI (ci := 8) (k0 := 1) (C0 := RX8) (T := TX8) (N := 2) (hX 29 (by decide)) rfl rfl hiX8_length_8 (by decide) (List.mem_of_getElem? (i := 1) rfl) rfl dX8_length_1 ?_
  exact g_iret dX8_length_4 rfl
set_option maxRecDepth 100000 in
set_option maxHeartbeats 4000000 in
theorem tX8_length {G : gGG} {F : State → Heap → Prop} (hG : gOK G) (hF : gSb G F) (hX : gPX G) (hQ : gOQ G) (S : gSt) : gCt G F yX8_length wsX8_length 0 [.ref (gad G 29)] S ((fX8_length S).map (fun x => (some (.int x), S))) := g_met (by decide +kernel) rfl (Nat.le_of_ble_eq_true rfl) (tX8_length_L hG hF hX hQ S)
/-! X8_hasSpaceFor -/
theorem hiX8_hasSpaceFor_8 : ∀ w ∈ u_ws RX8 TX8 2, w ∈ wsX8_hasSpaceFor := fun _ hw => List.mem_cons_of_mem _ (List.mem_append_right _ (hw))
set_option maxRecDepth 100000 in
set_option maxHeartbeats 4000000 in
theorem tX8_hasSpaceFor_L {G : gGG} {F : State → Heap → Prop} (hG : gOK G) (hF : gSb G F) (hX : gPX G) (hQ : gOQ G) (a1 : Int32) (S : gSt) : Gof G F RX8 cX8_hasSpaceFor 2 wsX8_hasSpaceFor (some .boolean) (gRm 0) 0 0 (gQ G (fun x => (some (.int x), S))) 0 [(0, .ref (gad G 29)), (1, .int a1)] [] S (fX8_hasSpaceFor a1 S) := by
  unfold fX8_hasSpaceFor
  refine g_iload_n 1 dX8_hasSpaceFor_0 rfl ?_
  refine g_sipush (v := 300) dX8_hasSpaceFor_1 (by decide) ?_
  refine g_aload_n 0 dX8_hasSpaceFor_4 rfl ?_
  refine g_getI (ci := 8) (k0 := 1) (C0 := RX8) (T := TX8) (N := 2) (hX 29 (by decide)) rfl rfl hiX8_hasSpaceFor_8 (by decide) (List.mem_of_getElem? (i := 1) rfl) rfl dX8_hasSpaceFor_5 ?_
  refine g_isub dX8_hasSpaceFor_8 ?_
  refine g_icmp_gt (tgt := 16) dX8_hasSpaceFor_9 (by decide) (fun h_1 => ?_) (fun h_1 => ?_)
  · refine g_iconst (v := 0) dX8_hasSpaceFor_16 (by decide) ?_
    exact g_zret (by decide) dX8_hasSpaceFor_17 rfl
  · refine g_iconst (v := 1) dX8_hasSpaceFor_12 (by decide) ?_
    refine g_goto (tgt := 17) dX8_hasSpaceFor_13 (by decide) ?_
    exact g_zret (by decide) dX8_hasSpaceFor_17 rfl
set_option maxRecDepth 100000 in
set_option maxHeartbeats 4000000 in
theorem tX8_hasSpaceFor {G : gGG} {F : State → Heap → Prop} (hG : gOK G) (hF : gSb G F) (hX : gPX G) (hQ : gOQ G) (a1 : Int32) (S : gSt) : gCt G F yX8_hasSpaceFor wsX8_hasSpaceFor 0 [.ref (gad G 29), .int a1] S ((fX8_hasSpaceFor a1 S).map (fun x => (some (.int x), S))) := g_met (by decide +kernel) rfl (Nat.le_of_ble_eq_true rfl) (tX8_hasSpaceFor_L hG hF hX hQ a1 S)
/-! X8_append -/
theorem hiX8_append_8 : ∀ w ∈ u_ws RX8 TX8 2, w ∈ wsX8_append := fun _ hw => List.mem_cons_of_mem _ (List.mem_append_right _ (hw))
set_option maxRecDepth 100000 in
set_option maxHeartbeats 4000000 in
theorem tX8_append_L {G : gGG} {F : State → Heap → Prop} (hG : gOK G) (hF : gSb G F) (hX : gPX G) (hQ : gOQ G) (a1 : Int32) (S : gSt) : Gof G F RX8 cX8_append 2 wsX8_append none (gRm 0) 0 0 (gQ G (fun x => (none, x))) 0 [(0, .ref (gad G 29)), (1, .int a1)] [] S (fX8_append a1 S) := by
  unfold fX8_append
  refine g_aload_n 0 dX8_append_0 rfl ?_
  refine g_getI (ci := 8) (k0 := 1) (C0 := RX8) (T := TX8) (N := 2) (hX 29 (by decide)) rfl rfl hiX8_append_8 (by decide) (List.mem_of_getElem? (i := 1) rfl) rfl dX8_append_1 ?_
  refine g_sipush (v := 300) dX8_append_4 (by decide) ?_
  refine g_icmp_ge (tgt := 30) dX8_append_7 (by decide) (fun h_1 => ?_) (fun h_1 => ?_)
  · exact g_vret dX8_append_30 rfl
  · refine g_aload_n 0 dX8_append_10 rfl ?_
    refine g_getQ (ci := 8) (k0 := 0) (C0 := RX8) (T := TX8) (N := 2) (hX 29 (by decide)) rfl rfl hiX8_append_8 (by decide) (List.mem_of_getElem? (i := 2) rfl) rfl dX8_append_11 ?_
    refine g_aload_n 0 dX8_append_14 rfl ?_
    refine g_getI (ci := 8) (k0 := 1) (C0 := RX8) (T := TX8) (N := 2) (hX 29 (by decide)) rfl rfl hiX8_append_8 (by decide) (List.mem_of_getElem? (i := 1) rfl) rfl dX8_append_15 ?_
    refine g_iload_n 1 dX8_append_18 rfl ?_
    refine g_iast hG (hX 30 (by decide)) rfl dX8_append_19 ?_
    refine g_nS (fun S_1 => ?_)
    refine g_aload_n 0 dX8_append_20 rfl ?_
    refine g_dup dX8_append_21 rfl ?_
    refine g_getI (ci := 8) (k0 := 1) (C0 := RX8) (T := TX8) (N := 2) (hX 29 (by decide)) rfl rfl hiX8_append_8 (by decide) (List.mem_of_getElem? (i := 1) rfl) rfl dX8_append_22 ?_
    refine g_iconst (v := 1) dX8_append_25 (by decide) ?_
    refine g_iadd dX8_append_26 ?_
    refine g_putI hG (ci := 8) (k0 := 1) (C0 := RX8) (T := TX8) (N := 2) (hX 29 (by decide)) rfl rfl hiX8_append_8 (by decide) (List.mem_of_getElem? (i := 1) rfl) tyX8 tyX8_ok nmX8 rfl rfl rfl rfl dX8_append_27 ?_
    refine g_nS (fun S_2 => ?_)
    exact g_vret dX8_append_30 rfl
set_option maxRecDepth 100000 in
set_option maxHeartbeats 4000000 in
theorem tX8_append {G : gGG} {F : State → Heap → Prop} (hG : gOK G) (hF : gSb G F) (hX : gPX G) (hQ : gOQ G) (a1 : Int32) (S : gSt) : gCt G F yX8_append wsX8_append 0 [.ref (gad G 29), .int a1] S ((fX8_append a1 S).map (fun x => (none, x))) := g_met (by decide +kernel) rfl (Nat.le_of_ble_eq_true rfl) (tX8_append_L hG hF hX hQ a1 S)
/-! X8_byteAt -/
theorem hiX8_byteAt_8 : ∀ w ∈ u_ws RX8 TX8 2, w ∈ wsX8_byteAt := fun _ hw => List.mem_cons_of_mem _ (List.mem_append_right _ (hw))
set_option maxRecDepth 100000 in
set_option maxHeartbeats 4000000 in
theorem tX8_byteAt_L {G : gGG} {F : State → Heap → Prop} (hG : gOK G) (hF : gSb G F) (hX : gPX G) (hQ : gOQ G) (a1 : Int32) (S : gSt) : Gof G F RX8 cX8_byteAt 2 wsX8_byteAt (some .int) (gRm 0) 0 0 (gQ G (fun x => (some (.int x), S))) 0 [(0, .ref (gad G 29)), (1, .int a1)] [] S (fX8_byteAt a1 S) := by
  unfold fX8_byteAt
  refine g_iload_n 1 dX8_byteAt_0 rfl ?_
  refine g_if_lt (tgt := 21) dX8_byteAt_1 (by decide) (fun h_1 => ?_) (fun h_1 => ?_)
  · refine g_iconst (v := (-1)) dX8_byteAt_21 (by decide) ?_
    exact g_iret dX8_byteAt_22 rfl
  · refine g_iload_n 1 dX8_byteAt_4 rfl ?_
    refine g_aload_n 0 dX8_byteAt_5 rfl ?_
    refine g_getI (ci := 8) (k0 := 1) (C0 := RX8) (T := TX8) (N := 2) (hX 29 (by decide)) rfl rfl hiX8_byteAt_8 (by decide) (List.mem_of_getElem? (i := 1) rfl) rfl dX8_byteAt_6 ?_
    refine g_icmp_ge (tgt := 21) dX8_byteAt_9 (by decide) (fun h_2 => ?_) (fun h_2 => ?_)
    · refine g_iconst (v := (-1)) dX8_byteAt_21 (by decide) ?_
      exact g_iret dX8_byteAt_22 rfl
    · refine g_aload_n 0 dX8_byteAt_12 rfl ?_
      refine g_getQ (ci := 8) (k0 := 0) (C0 := RX8) (T := TX8) (N := 2) (hX 29 (by decide)) rfl rfl hiX8_byteAt_8 (by decide) (List.mem_of_getElem? (i := 2) rfl) rfl dX8_byteAt_13 ?_
      refine g_iload_n 1 dX8_byteAt_16 rfl ?_
      refine g_iald hG (hX 30 (by decide)) rfl dX8_byteAt_17 ?_
      refine g_goto (tgt := 22) dX8_byteAt_18 (by decide) ?_
      exact g_iret dX8_byteAt_22 rfl
set_option maxRecDepth 100000 in
set_option maxHeartbeats 4000000 in
theorem tX8_byteAt {G : gGG} {F : State → Heap → Prop} (hG : gOK G) (hF : gSb G F) (hX : gPX G) (hQ : gOQ G) (a1 : Int32) (S : gSt) : gCt G F yX8_byteAt wsX8_byteAt 0 [.ref (gad G 29), .int a1] S ((fX8_byteAt a1 S).map (fun x => (some (.int x), S))) := g_met (by decide +kernel) rfl (Nat.le_of_ble_eq_true rfl) (tX8_byteAt_L hG hF hX hQ a1 S)
/-! X8_empty -/
theorem hiX8_empty_8 : ∀ w ∈ u_ws RX8 TX8 2, w ∈ wsX8_empty := fun _ hw => List.mem_cons_of_mem _ (List.mem_append_right _ (hw))
set_option maxRecDepth 100000 in
set_option maxHeartbeats 4000000 in
theorem tX8_empty_L {G : gGG} {F : State → Heap → Prop} (hG : gOK G) (hF : gSb G F) (hX : gPX G) (hQ : gOQ G) (S : gSt) : Gof G F RX8 cX8_empty 1 wsX8_empty none (gRm 0) 0 0 (gQ G (fun x => (none, x))) 0 [(0, .ref (gad G 29))] [] S (fX8_empty S) := by
  unfold fX8_empty
  refine g_aload_n 0 dX8_empty_0 rfl ?_
  refine g_iconst (v := 0) dX8_empty_1 (by decide) ?_
  refine g_putI hG (ci := 8) (k0 := 1) (C0 := RX8) (T := TX8) (N := 2) (hX 29 (by decide)) rfl rfl hiX8_empty_8 (by decide) (List.mem_of_getElem? (i := 1) rfl) tyX8 tyX8_ok nmX8 rfl rfl rfl rfl dX8_empty_2 ?_
  refine g_nS (fun S_1 => ?_)
  exact g_vret dX8_empty_5 rfl
set_option maxRecDepth 100000 in
set_option maxHeartbeats 4000000 in
theorem tX8_empty {G : gGG} {F : State → Heap → Prop} (hG : gOK G) (hF : gSb G F) (hX : gPX G) (hQ : gOQ G) (S : gSt) : gCt G F yX8_empty wsX8_empty 0 [.ref (gad G 29)] S ((fX8_empty S).map (fun x => (none, x))) := g_met (by decide +kernel) rfl (Nat.le_of_ble_eq_true rfl) (tX8_empty_L hG hF hX hQ S)
