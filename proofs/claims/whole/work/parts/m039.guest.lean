/-! X10_type -/
theorem hiX10_type_10 : ∀ w ∈ u_ws RX10 TX10 13, w ∈ wsX10_type := fun _ hw => List.mem_cons_of_mem _ (List.mem_append_left _ (List.mem_append_right _ (hw)))
set_option maxRecDepth 100000 in
set_option maxHeartbeats 4000000 in
theorem tX10_type_L32 {G : gGG} {F : State → Heap → Prop} (hG : gOK G) (hF : gSb G F) (hX : gPX G) (hQ : gOQ G) : ∀ (n : Nat) (x1 : Int64) (x4 : Int32) (S : gSt), Gof G F RX10 cX10_type 5 wsX10_type (some .int) (gRm 1) 0 0 (gQ G (fun x => (some (.int x.1), x.2))) 32 [(0, .ref (gad G 0)), (1, .long x1), (4, .int x4)] [] S (fX10_type_L32 n x1 x4 S) := by
  intro n
  induction n with
  | zero => intro x1 x4 S; exact g_none
  | succ n ih =>
    intro x1 x4 S
    unfold fX10_type_L32
    refine g_iload 2 dX10_type_32 rfl ?_
    refine g_if_lt (tgt := 62) dX10_type_34 (by decide) (fun h_1 => ?_) (fun h_1 => ?_)
    · refine g_aload_n 0 dX10_type_62 rfl ?_
      refine g_getK (ci := 10) (k0 := 2) (C0 := RX10) (T := TX10) (N := 13) (hX 0 (by decide)) rfl rfl hiX10_type_10 (by decide) (List.mem_of_getElem? (i := 1) rfl) rfl dX10_type_63 ?_
      refine g_cVp (ci := 8) (C0 := RX8) (T := TX8) (N := 2) (n := 0) (As := []) (rest := []) hF (tX8_length hG hF hX hQ S) gX10_type_X8_length rfl (hX 29 (by decide)) rfl rfl ⟨rfl, by decide +kernel, by decide +kernel, by decide +kernel⟩ rfl (gRm_ok (by decide) (by decide)) rfl (Nat.le_of_ble_eq_true rfl) dX10_type_66 (fun v_1 => ?_)
      exact g_iret dX10_type_69 rfl
    · refine g_aload_n 0 dX10_type_37 rfl ?_
      refine g_getK (ci := 10) (k0 := 2) (C0 := RX10) (T := TX10) (N := 13) (hX 0 (by decide)) rfl rfl hiX10_type_10 (by decide) (List.mem_of_getElem? (i := 1) rfl) rfl dX10_type_38 ?_
      refine g_lload_n 1 dX10_type_41 rfl ?_
      refine g_bipush (v := 8) dX10_type_42 (by decide) ?_
      refine g_iload 2 dX10_type_44 rfl ?_
      refine g_imul dX10_type_46 ?_
      refine g_lushr dX10_type_47 ?_
      refine g_l2i dX10_type_48 ?_
      refine g_sipush (v := 255) dX10_type_49 (by decide) ?_
      refine g_iand dX10_type_52 ?_
      refine g_cVv (ci := 8) (C0 := RX8) (T := TX8) (N := 2) (n := 1) (As := [.int ((((x1.toUInt64 >>> ((8 * x4).toInt64.toUInt64 &&& Int64.toUInt64 63)).toInt64).toInt32) &&& 255)]) (rest := []) hF (tX8_append hG hF hX hQ ((((x1.toUInt64 >>> ((8 * x4).toInt64.toUInt64 &&& Int64.toUInt64 63)).toInt64).toInt32) &&& 255) S) gX10_type_X8_append rfl (hX 29 (by decide)) rfl rfl ⟨rfl, by decide +kernel, by decide +kernel, by decide +kernel⟩ rfl (gRm_ok (by decide) (by decide)) rfl (Nat.le_of_ble_eq_true rfl) dX10_type_53 (fun S_2 => ?_)
      refine g_iinc 2 (v := (x4 + (-1))) (env' := [(4, .int (x4 + (-1))), (0, .ref (gad G 0)), (1, .long x1)]) dX10_type_56 rfl rfl (by decide) rfl ?_
      refine g_goto (tgt := 32) dX10_type_59 (by decide) ?_
      refine g_env (env' := [(0, .ref (gad G 0)), (1, .long x1), (4, .int (x4 + (-1)))]) [1, 2, 0] rfl ?_
      exact ih x1 (x4 + (-1)) S_2
set_option maxRecDepth 100000 in
set_option maxHeartbeats 4000000 in
theorem tX10_type_L {G : gGG} {F : State → Heap → Prop} (hG : gOK G) (hF : gSb G F) (hX : gPX G) (hQ : gOQ G) (a1 : Int64) (a3 : Int32) (S : gSt) : Gof G F RX10 cX10_type 5 wsX10_type (some .int) (gRm 1) 0 0 (gQ G (fun x => (some (.int x.1), x.2))) 0 [(0, .ref (gad G 0)), (1, .long a1), (3, .int a3)] [] S (fX10_type a1 a3 S) := by
  unfold fX10_type
  refine g_iload_n 2 dX10_type_0 rfl ?_
  refine g_iconst (v := 1) dX10_type_1 (by decide) ?_
  refine g_icmp_lt (tgt := 11) dX10_type_2 (by decide) (fun h_1 => ?_) (fun h_1 => ?_)
  · refine g_iconst (v := (-1)) dX10_type_11 (by decide) ?_
    exact g_iret dX10_type_12 rfl
  · refine g_iload_n 2 dX10_type_5 rfl ?_
    refine g_bipush (v := 8) dX10_type_6 (by decide) ?_
    refine g_icmp_le (tgt := 13) dX10_type_8 (by decide) (fun h_2 => ?_) (fun h_2 => ?_)
    · refine g_aload_n 0 dX10_type_13 rfl ?_
      refine g_getK (ci := 10) (k0 := 2) (C0 := RX10) (T := TX10) (N := 13) (hX 0 (by decide)) rfl rfl hiX10_type_10 (by decide) (List.mem_of_getElem? (i := 1) rfl) rfl dX10_type_14 ?_
      refine g_iload_n 2 dX10_type_17 rfl ?_
      refine g_cVp (ci := 8) (C0 := RX8) (T := TX8) (N := 2) (n := 1) (As := [.int a3]) (rest := []) hF (tX8_hasSpaceFor hG hF hX hQ a3 S) gX10_type_X8_hasSpaceFor rfl (hX 29 (by decide)) rfl rfl ⟨rfl, by decide +kernel, by decide +kernel, by decide +kernel⟩ rfl (gRm_ok (by decide) (by decide)) rfl (Nat.le_of_ble_eq_true rfl) dX10_type_18 (fun v_1 => ?_)
      refine g_if_ne (tgt := 27) dX10_type_21 (by decide) (fun h_3 => ?_) (fun h_3 => ?_)
      · refine g_iload_n 2 dX10_type_27 rfl ?_
        refine g_iconst (v := 1) dX10_type_28 (by decide) ?_
        refine g_isub dX10_type_29 ?_
        refine g_nI (fun v_2 => ?_)
        refine g_istore (i := 4) (env' := [(4, .int v_2), (0, .ref (gad G 0)), (1, .long a1), (3, .int a3)]) dX10_type_30 (by decide) rfl ?_
        refine g_env (env' := [(0, .ref (gad G 0)), (1, .long a1), (4, .int v_2)]) [1, 2, 0] rfl ?_
        exact tX10_type_L32 hG hF hX hQ gFU a1 v_2 S
      · refine g_bipush (v := (-3)) dX10_type_24 (by decide) ?_
        exact g_iret dX10_type_26 rfl
    · refine g_iconst (v := (-1)) dX10_type_11 (by decide) ?_
      exact g_iret dX10_type_12 rfl
set_option maxRecDepth 100000 in
set_option maxHeartbeats 4000000 in
theorem tX10_type {G : gGG} {F : State → Heap → Prop} (hG : gOK G) (hF : gSb G F) (hX : gPX G) (hQ : gOQ G) (a1 : Int64) (a3 : Int32) (S : gSt) : gCt G F yX10_type wsX10_type 1 [.ref (gad G 0), .long a1, .int a3] S ((fX10_type a1 a3 S).map (fun x => (some (.int x.1), x.2))) := g_met (by decide +kernel) rfl (Nat.le_of_ble_eq_true rfl) (tX10_type_L hG hF hX hQ a1 a3 S)
/-! X10_clear -/
theorem hiX10_clear_10 : ∀ w ∈ u_ws RX10 TX10 13, w ∈ wsX10_clear := fun _ hw => List.mem_cons_of_mem _ (List.mem_append_left _ (List.mem_append_right _ (hw)))
set_option maxRecDepth 100000 in
set_option maxHeartbeats 4000000 in
theorem tX10_clear_L {G : gGG} {F : State → Heap → Prop} (hG : gOK G) (hF : gSb G F) (hX : gPX G) (hQ : gOQ G) (S : gSt) : Gof G F RX10 cX10_clear 2 wsX10_clear (some .int) (gRm 1) 0 0 (gQ G (fun x => (some (.int x.1), x.2))) 0 [(0, .ref (gad G 0))] [] S (fX10_clear S) := by
  unfold fX10_clear
  refine g_aload_n 0 dX10_clear_0 rfl ?_
  refine g_getK (ci := 10) (k0 := 2) (C0 := RX10) (T := TX10) (N := 13) (hX 0 (by decide)) rfl rfl hiX10_clear_10 (by decide) (List.mem_of_getElem? (i := 1) rfl) rfl dX10_clear_1 ?_
  refine g_cVp (ci := 8) (C0 := RX8) (T := TX8) (N := 2) (n := 0) (As := []) (rest := []) hF (tX8_length hG hF hX hQ S) gX10_clear_X8_length rfl (hX 29 (by decide)) rfl rfl ⟨rfl, by decide +kernel, by decide +kernel, by decide +kernel⟩ rfl (gRm_ok (by decide) (by decide)) rfl (Nat.le_of_ble_eq_true rfl) dX10_clear_4 (fun v_1 => ?_)
  refine g_istore_n (i := 1) (env' := [(1, .int v_1), (0, .ref (gad G 0))]) dX10_clear_7 rfl (by decide) rfl ?_
  refine g_aload_n 1 dX10_clear_8 rfl ?_
  refine g_getK (ci := 10) (k0 := 2) (C0 := RX10) (T := TX10) (N := 13) (hX 0 (by decide)) rfl rfl hiX10_clear_10 (by decide) (List.mem_of_getElem? (i := 1) rfl) rfl dX10_clear_9 ?_
  refine g_cVv (ci := 8) (C0 := RX8) (T := TX8) (N := 2) (n := 0) (As := []) (rest := []) hF (tX8_empty hG hF hX hQ S) gX10_clear_X8_empty rfl (hX 29 (by decide)) rfl rfl ⟨rfl, by decide +kernel, by decide +kernel, by decide +kernel⟩ rfl (gRm_ok (by decide) (by decide)) rfl (Nat.le_of_ble_eq_true rfl) dX10_clear_12 (fun S_2 => ?_)
  refine g_iload_n 0 dX10_clear_15 rfl ?_
  exact g_iret dX10_clear_16 rfl
set_option maxRecDepth 100000 in
set_option maxHeartbeats 4000000 in
theorem tX10_clear {G : gGG} {F : State → Heap → Prop} (hG : gOK G) (hF : gSb G F) (hX : gPX G) (hQ : gOQ G) (S : gSt) : gCt G F yX10_clear wsX10_clear 1 [.ref (gad G 0)] S ((fX10_clear S).map (fun x => (some (.int x.1), x.2))) := g_met (by decide +kernel) rfl (Nat.le_of_ble_eq_true rfl) (tX10_clear_L hG hF hX hQ S)
/-! X10_room -/
theorem hiX10_room_10 : ∀ w ∈ u_ws RX10 TX10 13, w ∈ wsX10_room := fun _ hw => List.mem_cons_of_mem _ (List.mem_append_left _ (List.mem_append_left _ (List.mem_append_left _ (List.mem_append_left _ (List.mem_append_left _ (List.mem_append_left _ (List.mem_append_left _ (List.mem_append_right _ (hw)))))))))
set_option maxRecDepth 100000 in
set_option maxHeartbeats 4000000 in
theorem tX10_room_L {G : gGG} {F : State → Heap → Prop} (hG : gOK G) (hF : gSb G F) (hX : gPX G) (hQ : gOQ G) (hV : gVX G F) (S : gSt) : Gof G F RX10 cX10_room 3 wsX10_room (some .int) (gRm 9) 0 0 (gQ G (fun x => (some (.int x.1), x.2))) 0 [(0, .ref (gad G 0))] [] S (fX10_room S) := by
  unfold fX10_room
  refine g_aload_n 0 dX10_room_0 rfl ?_
  refine g_getK (ci := 10) (k0 := 3) (C0 := RX10) (T := TX10) (N := 13) (hX 0 (by decide)) rfl rfl hiX10_room_10 (by decide) (List.mem_of_getElem? (i := 1) rfl) rfl dX10_room_1 ?_
  refine g_aload_n 0 dX10_room_4 rfl ?_
  refine g_gC (fun h_1 => ?_)
  refine g_getM (ci := 10) (k0 := 1) (C0 := RX10) (T := TX10) (N := 13) (hX 0 (by decide)) rfl rfl hiX10_room_10 (by decide) (List.mem_of_getElem? (i := 2) rfl) rfl dX10_room_5 ?_
  refine g_cVi (ci := 4) (C0 := RX4) (T := TX4) (N := 7) (n := 1) (As := [.ref (gad G (gN (gR S 0 1)))]) (rest := []) hF (tX4_readInto hG hF hX hQ hV h_1 S) gX10_room_X4_readInto rfl (hX 31 (by decide)) rfl rfl ⟨rfl, by decide +kernel, by decide +kernel, by decide +kernel⟩ rfl (gRm_ok (by decide) (by decide)) rfl (Nat.le_of_ble_eq_true rfl) dX10_room_8 (fun v_1 S_2 => ?_)
  refine g_istore_n (i := 1) (env' := [(1, .int v_1), (0, .ref (gad G 0))]) dX10_room_11 rfl (by decide) rfl ?_
  refine g_iload_n 0 dX10_room_12 rfl ?_
  refine g_if_ge (tgt := 18) dX10_room_13 (by decide) (fun h_2 => ?_) (fun h_2 => ?_)
  · refine g_aload_n 1 dX10_room_18 rfl ?_
    refine g_gC (fun h_3 => ?_)
    refine g_getM (ci := 10) (k0 := 0) (C0 := RX10) (T := TX10) (N := 13) (hX 0 (by decide)) rfl rfl hiX10_room_10 (by decide) (List.mem_of_getElem? (i := 3) rfl) rfl dX10_room_19 ?_
    refine g_astore_n (i := 2) (env' := [(2, .ref (gad G (gN (gR S_2 0 0)))), (1, .int v_1), (0, .ref (gad G 0))]) dX10_room_22 rfl (by decide) rfl ?_
    refine g_aload_n 2 dX10_room_23 rfl ?_
    refine g_aload_n 2 dX10_room_24 rfl ?_
    refine g_gC (fun h_4 => ?_)
    refine g_getM (ci := 10) (k0 := 1) (C0 := RX10) (T := TX10) (N := 13) (hX 0 (by decide)) rfl rfl hiX10_room_10 (by decide) (List.mem_of_getElem? (i := 2) rfl) rfl dX10_room_25 ?_
    refine g_putM hG (ci := 10) (k0 := 0) (C0 := RX10) (T := TX10) (N := 13) (hX 0 (by decide)) rfl rfl hiX10_room_10 (by decide) (List.mem_of_getElem? (i := 3) rfl) tyX10 tyX10_ok nmX10 rfl (gRu_lt h_4) rfl rfl rfl dX10_room_28 ?_
    refine g_nS (fun S_3 => ?_)
    refine g_aload_n 2 dX10_room_31 rfl ?_
    refine g_aload_n 0 dX10_room_32 rfl ?_
    refine g_putM hG (ci := 10) (k0 := 1) (C0 := RX10) (T := TX10) (N := 13) (hX 0 (by decide)) rfl rfl hiX10_room_10 (by decide) (List.mem_of_getElem? (i := 2) rfl) tyX10 tyX10_ok nmX10 rfl (gRu_lt h_3) rfl rfl rfl dX10_room_33 ?_
    refine g_nS (fun S_4 => ?_)
    refine g_aload_n 2 dX10_room_36 rfl ?_
    refine g_getK (ci := 10) (k0 := 2) (C0 := RX10) (T := TX10) (N := 13) (hX 0 (by decide)) rfl rfl hiX10_room_10 (by decide) (List.mem_of_getElem? (i := 4) rfl) rfl dX10_room_37 ?_
    refine g_cVv (ci := 8) (C0 := RX8) (T := TX8) (N := 2) (n := 0) (As := []) (rest := []) hF (tX8_empty hG hF hX hQ S_4) gX10_room_X8_empty rfl (hX 29 (by decide)) rfl rfl ⟨rfl, by decide +kernel, by decide +kernel, by decide +kernel⟩ rfl (gRm_ok (by decide) (by decide)) rfl (Nat.le_of_ble_eq_true rfl) dX10_room_40 (fun S_5 => ?_)
    refine g_aload_n 2 dX10_room_43 rfl ?_
    refine g_getK (ci := 10) (k0 := 5) (C0 := RX10) (T := TX10) (N := 13) (hX 0 (by decide)) rfl rfl hiX10_room_10 (by decide) (List.mem_of_getElem? (i := 5) rfl) rfl dX10_room_44 ?_
    refine g_aload_n 2 dX10_room_47 rfl ?_
    refine g_gC (fun h_5 => ?_)
    refine g_getM (ci := 10) (k0 := 0) (C0 := RX10) (T := TX10) (N := 13) (hX 0 (by decide)) rfl rfl hiX10_room_10 (by decide) (List.mem_of_getElem? (i := 3) rfl) rfl dX10_room_48 ?_
    refine g_cVp (ci := 5) (C0 := RX5) (T := TX5) (N := 6) (n := 0) (As := []) (rest := [.ref (gad G 36)]) hF (tX5_guests hG hF hX hQ h_5 S_5) gX10_room_X5_guests rfl (gRu_m hX h_5) (gRu_l h_5) rfl ⟨rfl, by decide +kernel, by decide +kernel, by decide +kernel⟩ rfl (gRm_ok (by decide) (by decide)) rfl (Nat.le_of_ble_eq_true rfl) dX10_room_51 (fun v_6 => ?_)
    refine g_cVv (ci := 7) (C0 := RX7) (T := TX7) (N := 5) (n := 1) (As := [.int v_6]) (rest := []) hF (tX7_scatter hG hF hX hQ (rfl : gIsSt 36 = true) v_6 S_5) gX10_room_X7_scatter rfl (gSt_m hX (rfl : gIsSt 36 = true)) (gSt_l (rfl : gIsSt 36 = true)) rfl ⟨rfl, by decide +kernel, by decide +kernel, by decide +kernel⟩ rfl (gRm_ok (by decide) (by decide)) rfl (Nat.le_of_ble_eq_true rfl) dX10_room_54 (fun S_7 => ?_)
    refine g_aload_n 2 dX10_room_57 rfl ?_
    refine g_getK (ci := 10) (k0 := 6) (C0 := RX10) (T := TX10) (N := 13) (hX 0 (by decide)) rfl rfl hiX10_room_10 (by decide) (List.mem_of_getElem? (i := 6) rfl) rfl dX10_room_58 ?_
    refine g_cVv (ci := 6) (C0 := RX6) (T := TX6) (N := 4) (n := 0) (As := []) (rest := []) hF (tX6_empty hG hF hX hQ (rfl : gIsSi 40 = true) S_7) gX10_room_X6_empty rfl (gSi_m hX (rfl : gIsSi 40 = true)) (gSi_l (rfl : gIsSi 40 = true)) rfl ⟨rfl, by decide +kernel, by decide +kernel, by decide +kernel⟩ rfl (gRm_ok (by decide) (by decide)) rfl (Nat.le_of_ble_eq_true rfl) dX10_room_61 (fun S_8 => ?_)
    refine g_aload_n 2 dX10_room_64 rfl ?_
    refine g_getK (ci := 10) (k0 := 8) (C0 := RX10) (T := TX10) (N := 13) (hX 0 (by decide)) rfl rfl hiX10_room_10 (by decide) (List.mem_of_getElem? (i := 7) rfl) rfl dX10_room_65 ?_
    refine g_cVv (ci := 1) (C0 := RX1) (T := TX1) (N := 4) (n := 0) (As := []) (rest := []) hF (tX1_drop hG hF hX hQ (rfl : gIsIm 45 = true) S_8) gX10_room_X1_drop rfl (gIm_m hX (rfl : gIsIm 45 = true)) (gIm_l (rfl : gIsIm 45 = true)) rfl ⟨rfl, by decide +kernel, by decide +kernel, by decide +kernel⟩ rfl (gRm_ok (by decide) (by decide)) rfl (Nat.le_of_ble_eq_true rfl) dX10_room_68 (fun S_9 => ?_)
    refine g_aload_n 2 dX10_room_71 rfl ?_
    refine g_getK (ci := 10) (k0 := 9) (C0 := RX10) (T := TX10) (N := 13) (hX 0 (by decide)) rfl rfl hiX10_room_10 (by decide) (List.mem_of_getElem? (i := 8) rfl) rfl dX10_room_72 ?_
    refine g_cVv (ci := 1) (C0 := RX1) (T := TX1) (N := 4) (n := 0) (As := []) (rest := []) hF (tX1_drop hG hF hX hQ (rfl : gIsIm 54 = true) S_9) gX10_room_X1_drop rfl (gIm_m hX (rfl : gIsIm 54 = true)) (gIm_l (rfl : gIsIm 54 = true)) rfl ⟨rfl, by decide +kernel, by decide +kernel, by decide +kernel⟩ rfl (gRm_ok (by decide) (by decide)) rfl (Nat.le_of_ble_eq_true rfl) dX10_room_75 (fun S_10 => ?_)
    refine g_aload_n 2 dX10_room_78 rfl ?_
    refine g_getK (ci := 10) (k0 := 4) (C0 := RX10) (T := TX10) (N := 13) (hX 0 (by decide)) rfl rfl hiX10_room_10 (by decide) (List.mem_of_getElem? (i := 9) rfl) rfl dX10_room_79 ?_
    refine g_aload_n 2 dX10_room_82 rfl ?_
    refine g_gC (fun h_6 => ?_)
    refine g_getM (ci := 10) (k0 := 0) (C0 := RX10) (T := TX10) (N := 13) (hX 0 (by decide)) rfl rfl hiX10_room_10 (by decide) (List.mem_of_getElem? (i := 3) rfl) rfl dX10_room_83 ?_
    refine g_cVv (ci := 9) (C0 := RX9) (T := TX9) (N := 8) (n := 1) (As := [.ref (gad G (gN (gR S_10 0 0)))]) (rest := []) hF (tX9_obey hG hF hX hQ h_6 S_10) gX10_room_X9_obey rfl (hX 32 (by decide)) rfl rfl ⟨rfl, by decide +kernel, by decide +kernel, by decide +kernel⟩ rfl (gRm_ok (by decide) (by decide)) rfl (Nat.le_of_ble_eq_true rfl) dX10_room_86 (fun S_11 => ?_)
    refine g_iload_n 1 dX10_room_89 rfl ?_
    exact g_iret dX10_room_90 rfl
  · refine g_iload_n 0 dX10_room_16 rfl ?_
    exact g_iret dX10_room_17 rfl
set_option maxRecDepth 100000 in
set_option maxHeartbeats 4000000 in
theorem tX10_room {G : gGG} {F : State → Heap → Prop} (hG : gOK G) (hF : gSb G F) (hX : gPX G) (hQ : gOQ G) (hV : gVX G F) (S : gSt) : gCt G F yX10_room wsX10_room 9 [.ref (gad G 0)] S ((fX10_room S).map (fun x => (some (.int x.1), x.2))) := g_met (by decide +kernel) rfl (Nat.le_of_ble_eq_true rfl) (tX10_room_L hG hF hX hQ hV S)
/-! X10_law -/
theorem hiX10_law_10 : ∀ w ∈ u_ws RX10 TX10 13, w ∈ wsX10_law := fun _ hw => List.mem_cons_of_mem _ (List.mem_append_left _ (List.mem_append_right _ (hw)))
set_option maxRecDepth 100000 in
set_option maxHeartbeats 4000000 in
theorem tX10_law_L {G : gGG} {F : State → Heap → Prop} (hG : gOK G) (hF : gSb G F) (hX : gPX G) (hQ : gOQ G) (a1 : Int32) (S : gSt) : Gof G F RX10 cX10_law 2 wsX10_law (some .int) (gRm 1) 0 0 (gQ G (fun x => (some (.int x), S))) 0 [(0, .ref (gad G 0)), (1, .int a1)] [] S (fX10_law a1 S) := by
  unfold fX10_law
  refine g_iload_n 1 dX10_law_0 rfl ?_
  refine g_if_lt (tgt := 20) dX10_law_1 (by decide) (fun h_1 => ?_) (fun h_1 => ?_)
  · refine g_iconst (v := (-1)) dX10_law_20 (by decide) ?_
    exact g_iret dX10_law_21 rfl
  · refine g_iload_n 1 dX10_law_4 rfl ?_
    refine g_iconst (v := 5) dX10_law_5 (by decide) ?_
    refine g_icmp_ge (tgt := 20) dX10_law_6 (by decide) (fun h_2 => ?_) (fun h_2 => ?_)
    · refine g_iconst (v := (-1)) dX10_law_20 (by decide) ?_
      exact g_iret dX10_law_21 rfl
    · refine g_aload_n 0 dX10_law_9 rfl ?_
      refine g_gC (fun h_3 => ?_)
      refine g_getM (ci := 10) (k0 := 0) (C0 := RX10) (T := TX10) (N := 13) (hX 0 (by decide)) rfl rfl hiX10_law_10 (by decide) (List.mem_of_getElem? (i := 1) rfl) rfl dX10_law_10 ?_
      refine g_iload_n 1 dX10_law_13 rfl ?_
      refine g_cVp (ci := 5) (C0 := RX5) (T := TX5) (N := 6) (n := 1) (As := [.int a1]) (rest := []) hF (tX5_lawOf hG hF hX hQ h_3 a1 S) gX10_law_X5_lawOf rfl (gRu_m hX h_3) (gRu_l h_3) rfl ⟨rfl, by decide +kernel, by decide +kernel, by decide +kernel⟩ rfl (gRm_ok (by decide) (by decide)) rfl (Nat.le_of_ble_eq_true rfl) dX10_law_14 (fun v_1 => ?_)
      refine g_goto (tgt := 21) dX10_law_17 (by decide) ?_
      exact g_iret dX10_law_21 rfl
set_option maxRecDepth 100000 in
set_option maxHeartbeats 4000000 in
theorem tX10_law {G : gGG} {F : State → Heap → Prop} (hG : gOK G) (hF : gSb G F) (hX : gPX G) (hQ : gOQ G) (a1 : Int32) (S : gSt) : gCt G F yX10_law wsX10_law 1 [.ref (gad G 0), .int a1] S ((fX10_law a1 S).map (fun x => (some (.int x), S))) := g_met (by decide +kernel) rfl (Nat.le_of_ble_eq_true rfl) (tX10_law_L hG hF hX hQ a1 S)
/-! X10_isGuest -/
theorem hiX10_isGuest_10 : ∀ w ∈ u_ws RX10 TX10 13, w ∈ wsX10_isGuest := fun _ hw => List.mem_cons_of_mem _ (List.mem_append_left _ (List.mem_append_right _ (hw)))
set_option maxRecDepth 100000 in
set_option maxHeartbeats 4000000 in
theorem tX10_isGuest_L {G : gGG} {F : State → Heap → Prop} (hG : gOK G) (hF : gSb G F) (hX : gPX G) (hQ : gOQ G) (a1 : Int32) (S : gSt) : Gof G F RX10 cX10_isGuest 2 wsX10_isGuest (some .boolean) (gRm 1) 0 0 (gQ G (fun x => (some (.int x), S))) 0 [(0, .ref (gad G 0)), (1, .int a1)] [] S (fX10_isGuest a1 S) := by
  unfold fX10_isGuest
  refine g_iload_n 1 dX10_isGuest_0 rfl ?_
  refine g_if_lt (tgt := 19) dX10_isGuest_1 (by decide) (fun h_1 => ?_) (fun h_1 => ?_)
  · refine g_iconst (v := 0) dX10_isGuest_19 (by decide) ?_
    exact g_zret (by decide) dX10_isGuest_20 rfl
  · refine g_iload_n 1 dX10_isGuest_4 rfl ?_
    refine g_aload_n 0 dX10_isGuest_5 rfl ?_
    refine g_gC (fun h_2 => ?_)
    refine g_getM (ci := 10) (k0 := 0) (C0 := RX10) (T := TX10) (N := 13) (hX 0 (by decide)) rfl rfl hiX10_isGuest_10 (by decide) (List.mem_of_getElem? (i := 1) rfl) rfl dX10_isGuest_6 ?_
    refine g_cVp (ci := 5) (C0 := RX5) (T := TX5) (N := 6) (n := 0) (As := []) (rest := [.int a1]) hF (tX5_guests hG hF hX hQ h_2 S) gX10_isGuest_X5_guests rfl (gRu_m hX h_2) (gRu_l h_2) rfl ⟨rfl, by decide +kernel, by decide +kernel, by decide +kernel⟩ rfl (gRm_ok (by decide) (by decide)) rfl (Nat.le_of_ble_eq_true rfl) dX10_isGuest_9 (fun v_1 => ?_)
    refine g_icmp_ge (tgt := 19) dX10_isGuest_12 (by decide) (fun h_3 => ?_) (fun h_3 => ?_)
    · refine g_iconst (v := 0) dX10_isGuest_19 (by decide) ?_
      exact g_zret (by decide) dX10_isGuest_20 rfl
    · refine g_iconst (v := 1) dX10_isGuest_15 (by decide) ?_
      refine g_goto (tgt := 20) dX10_isGuest_16 (by decide) ?_
      exact g_zret (by decide) dX10_isGuest_20 rfl
set_option maxRecDepth 100000 in
set_option maxHeartbeats 4000000 in
theorem tX10_isGuest {G : gGG} {F : State → Heap → Prop} (hG : gOK G) (hF : gSb G F) (hX : gPX G) (hQ : gOQ G) (a1 : Int32) (S : gSt) : gCt G F yX10_isGuest wsX10_isGuest 1 [.ref (gad G 0), .int a1] S ((fX10_isGuest a1 S).map (fun x => (some (.int x), S))) := g_met (by decide +kernel) rfl (Nat.le_of_ble_eq_true rfl) (tX10_isGuest_L hG hF hX hQ a1 S)
/-! X10_areTwoGuests -/
set_option maxRecDepth 100000 in
set_option maxHeartbeats 4000000 in
theorem tX10_areTwoGuests_L {G : gGG} {F : State → Heap → Prop} (hG : gOK G) (hF : gSb G F) (hX : gPX G) (hQ : gOQ G) (a1 : Int32) (a2 : Int32) (S : gSt) : Gof G F RX10 cX10_areTwoGuests 3 wsX10_areTwoGuests (some .boolean) (gRm 2) 0 0 (gQ G (fun x => (some (.int x), S))) 0 [(0, .ref (gad G 0)), (1, .int a1), (2, .int a2)] [] S (fX10_areTwoGuests a1 a2 S) := by
  unfold fX10_areTwoGuests
  refine g_aload_n 0 dX10_areTwoGuests_0 rfl ?_
  refine g_iload_n 1 dX10_areTwoGuests_1 rfl ?_
  refine g_cVp (ci := 10) (C0 := RX10) (T := TX10) (N := 13) (n := 1) (As := [.int a1]) (rest := []) hF (tX10_isGuest hG hF hX hQ a1 S) gX10_areTwoGuests_X10_isGuest rfl (hX 0 (by decide)) rfl rfl ⟨rfl, by decide +kernel, by decide +kernel, by decide +kernel⟩ rfl (gRm_ok (by decide) (by decide)) rfl (Nat.le_of_ble_eq_true rfl) dX10_areTwoGuests_2 (fun v_1 => ?_)
  refine g_if_eq (tgt := 25) dX10_areTwoGuests_5 (by decide) (fun h_1 => ?_) (fun h_1 => ?_)
  · refine g_iconst (v := 0) dX10_areTwoGuests_25 (by decide) ?_
    exact g_zret (by decide) dX10_areTwoGuests_26 rfl
  · refine g_aload_n 0 dX10_areTwoGuests_8 rfl ?_
    refine g_iload_n 2 dX10_areTwoGuests_9 rfl ?_
    refine g_cVp (ci := 10) (C0 := RX10) (T := TX10) (N := 13) (n := 1) (As := [.int a2]) (rest := []) hF (tX10_isGuest hG hF hX hQ a2 S) gX10_areTwoGuests_X10_isGuest rfl (hX 0 (by decide)) rfl rfl ⟨rfl, by decide +kernel, by decide +kernel, by decide +kernel⟩ rfl (gRm_ok (by decide) (by decide)) rfl (Nat.le_of_ble_eq_true rfl) dX10_areTwoGuests_10 (fun v_2 => ?_)
    refine g_if_eq (tgt := 25) dX10_areTwoGuests_13 (by decide) (fun h_2 => ?_) (fun h_2 => ?_)
    · refine g_iconst (v := 0) dX10_areTwoGuests_25 (by decide) ?_
      exact g_zret (by decide) dX10_areTwoGuests_26 rfl
    · refine g_iload_n 1 dX10_areTwoGuests_16 rfl ?_
      refine g_iload_n 2 dX10_areTwoGuests_17 rfl ?_
      refine g_icmp_eq (tgt := 25) dX10_areTwoGuests_18 (by decide) (fun h_3 => ?_) (fun h_3 => ?_)
      · refine g_iconst (v := 0) dX10_areTwoGuests_25 (by decide) ?_
        exact g_zret (by decide) dX10_areTwoGuests_26 rfl
      · refine g_iconst (v := 1) dX10_areTwoGuests_21 (by decide) ?_
        refine g_goto (tgt := 26) dX10_areTwoGuests_22 (by decide) ?_
        exact g_zret (by decide) dX10_areTwoGuests_26 rfl
set_option maxRecDepth 100000 in
set_option maxHeartbeats 4000000 in
theorem tX10_areTwoGuests {G : gGG} {F : State → Heap → Prop} (hG : gOK G) (hF : gSb G F) (hX : gPX G) (hQ : gOQ G) (a1 : Int32) (a2 : Int32) (S : gSt) : gCt G F yX10_areTwoGuests wsX10_areTwoGuests 2 [.ref (gad G 0), .int a1, .int a2] S ((fX10_areTwoGuests a1 a2 S).map (fun x => (some (.int x), S))) := g_met (by decide +kernel) rfl (Nat.le_of_ble_eq_true rfl) (tX10_areTwoGuests_L hG hF hX hQ a1 a2 S)
/-! X10_pair -/
theorem hiX10_pair_10 : ∀ w ∈ u_ws RX10 TX10 13, w ∈ wsX10_pair := fun _ hw => List.mem_cons_of_mem _ (List.mem_append_left _ (List.mem_append_right _ (hw)))
set_option maxRecDepth 100000 in
set_option maxHeartbeats 4000000 in
theorem tX10_pair_L {G : gGG} {F : State → Heap → Prop} (hG : gOK G) (hF : gSb G F) (hX : gPX G) (hQ : gOQ G) (a1 : Int32) (a2 : Int32) (a3 : Int32) (S : gSt) : Gof G F RX10 cX10_pair 4 wsX10_pair (some .int) (gRm 3) 0 0 (gQ G (fun x => (some (.int x), S))) 0 [(0, .ref (gad G 0)), (1, .int a1), (2, .int a2), (3, .int a3)] [] S (fX10_pair a1 a2 a3 S) := by
  unfold fX10_pair
  refine g_aload_n 0 dX10_pair_0 rfl ?_
  refine g_iload_n 1 dX10_pair_1 rfl ?_
  refine g_iload_n 2 dX10_pair_2 rfl ?_
  refine g_cVp (ci := 10) (C0 := RX10) (T := TX10) (N := 13) (n := 2) (As := [.int a1, .int a2]) (rest := []) hF (tX10_areTwoGuests hG hF hX hQ a1 a2 S) gX10_pair_X10_areTwoGuests rfl (hX 0 (by decide)) rfl rfl ⟨rfl, by decide +kernel, by decide +kernel, by decide +kernel⟩ rfl (gRm_ok (by decide) (by decide)) rfl (Nat.le_of_ble_eq_true rfl) dX10_pair_3 (fun v_1 => ?_)
  refine g_if_ne (tgt := 12) dX10_pair_6 (by decide) (fun h_1 => ?_) (fun h_1 => ?_)
  · refine g_iload_n 3 dX10_pair_12 rfl ?_
    refine g_ite (c0 := a3 = 0) (fun h_2 => ?_) (fun h_2 => ?_)
    · refine g_tin (tgt := 40) dX10_pair_13 (by rw [h_2]; decide) (by rw [h_2]; decide) (by rw [h_2]; rfl) (by decide) ?_
      refine g_aload_n 0 dX10_pair_40 rfl ?_
      refine g_gC (fun h_3 => ?_)
      refine g_getM (ci := 10) (k0 := 0) (C0 := RX10) (T := TX10) (N := 13) (hX 0 (by decide)) rfl rfl hiX10_pair_10 (by decide) (List.mem_of_getElem? (i := 2) rfl) rfl dX10_pair_41 ?_
      refine g_iload_n 1 dX10_pair_44 rfl ?_
      refine g_iload_n 2 dX10_pair_45 rfl ?_
      refine g_cVp (ci := 5) (C0 := RX5) (T := TX5) (N := 6) (n := 2) (As := [.int a1, .int a2]) (rest := []) hF (tX5_areTogether hG hF hX hQ h_3 a1 a2 S) gX10_pair_X5_areTogether rfl (gRu_m hX h_3) (gRu_l h_3) rfl ⟨rfl, by decide +kernel, by decide +kernel, by decide +kernel⟩ rfl (gRm_ok (by decide) (by decide)) rfl (Nat.le_of_ble_eq_true rfl) dX10_pair_46 (fun v_2 => ?_)
      refine g_if_eq (tgt := 56) dX10_pair_49 (by decide) (fun h_4 => ?_) (fun h_4 => ?_)
      · refine g_iconst (v := 0) dX10_pair_56 (by decide) ?_
        exact g_iret dX10_pair_57 rfl
      · refine g_iconst (v := 1) dX10_pair_52 (by decide) ?_
        refine g_goto (tgt := 57) dX10_pair_53 (by decide) ?_
        exact g_iret dX10_pair_57 rfl
    refine g_ite (c0 := a3 = 1) (fun h_5 => ?_) (fun h_5 => ?_)
    · refine g_tin (tgt := 58) dX10_pair_13 (by rw [h_5]; decide) (by rw [h_5]; decide) (by rw [h_5]; rfl) (by decide) ?_
      refine g_aload_n 0 dX10_pair_58 rfl ?_
      refine g_gC (fun h_6 => ?_)
      refine g_getM (ci := 10) (k0 := 0) (C0 := RX10) (T := TX10) (N := 13) (hX 0 (by decide)) rfl rfl hiX10_pair_10 (by decide) (List.mem_of_getElem? (i := 2) rfl) rfl dX10_pair_59 ?_
      refine g_iload_n 1 dX10_pair_62 rfl ?_
      refine g_iload_n 2 dX10_pair_63 rfl ?_
      refine g_cVp (ci := 5) (C0 := RX5) (T := TX5) (N := 6) (n := 2) (As := [.int a1, .int a2]) (rest := []) hF (tX5_areApart hG hF hX hQ h_6 a1 a2 S) gX10_pair_X5_areApart rfl (gRu_m hX h_6) (gRu_l h_6) rfl ⟨rfl, by decide +kernel, by decide +kernel, by decide +kernel⟩ rfl (gRm_ok (by decide) (by decide)) rfl (Nat.le_of_ble_eq_true rfl) dX10_pair_64 (fun v_3 => ?_)
      refine g_if_eq (tgt := 74) dX10_pair_67 (by decide) (fun h_7 => ?_) (fun h_7 => ?_)
      · refine g_iconst (v := 0) dX10_pair_74 (by decide) ?_
        exact g_iret dX10_pair_75 rfl
      · refine g_iconst (v := 1) dX10_pair_70 (by decide) ?_
        refine g_goto (tgt := 75) dX10_pair_71 (by decide) ?_
        exact g_iret dX10_pair_75 rfl
    refine g_ite (c0 := a3 = 2) (fun h_8 => ?_) (fun h_8 => ?_)
    · refine g_tin (tgt := 76) dX10_pair_13 (by rw [h_8]; decide) (by rw [h_8]; decide) (by rw [h_8]; rfl) (by decide) ?_
      refine g_aload_n 0 dX10_pair_76 rfl ?_
      refine g_gC (fun h_9 => ?_)
      refine g_getM (ci := 10) (k0 := 0) (C0 := RX10) (T := TX10) (N := 13) (hX 0 (by decide)) rfl rfl hiX10_pair_10 (by decide) (List.mem_of_getElem? (i := 2) rfl) rfl dX10_pair_77 ?_
      refine g_iload_n 1 dX10_pair_80 rfl ?_
      refine g_iload_n 2 dX10_pair_81 rfl ?_
      refine g_cVp (ci := 5) (C0 := RX5) (T := TX5) (N := 6) (n := 2) (As := [.int a1, .int a2]) (rest := []) hF (tX5_worthOf hG hF hX hQ h_9 a1 a2 S) gX10_pair_X5_worthOf rfl (gRu_m hX h_9) (gRu_l h_9) rfl ⟨rfl, by decide +kernel, by decide +kernel, by decide +kernel⟩ rfl (gRm_ok (by decide) (by decide)) rfl (Nat.le_of_ble_eq_true rfl) dX10_pair_82 (fun v_4 => ?_)
      exact g_iret dX10_pair_85 rfl
    refine g_tout (tgt := 86) dX10_pair_13 (by have nh_2 := lv_neT (a := 0) h_2 (by decide); have nh_5 := lv_neT (a := 1) h_5 (by decide); have nh_8 := lv_neT (a := 2) h_8 (by decide); omega) (by decide) ?_
    refine g_ldc (List.mem_of_getElem? (i := 1) rfl) dX10_pair_86 ?_
    exact g_iret dX10_pair_88 rfl
  · refine g_ldc (List.mem_of_getElem? (i := 1) rfl) dX10_pair_9 ?_
    exact g_iret dX10_pair_11 rfl
set_option maxRecDepth 100000 in
set_option maxHeartbeats 4000000 in
theorem tX10_pair {G : gGG} {F : State → Heap → Prop} (hG : gOK G) (hF : gSb G F) (hX : gPX G) (hQ : gOQ G) (a1 : Int32) (a2 : Int32) (a3 : Int32) (S : gSt) : gCt G F yX10_pair wsX10_pair 3 [.ref (gad G 0), .int a1, .int a2, .int a3] S ((fX10_pair a1 a2 a3 S).map (fun x => (some (.int x), S))) := g_met (by decide +kernel) rfl (Nat.le_of_ble_eq_true rfl) (tX10_pair_L hG hF hX hQ a1 a2 a3 S)
/-! X10_party -/
theorem hiX10_party_10 : ∀ w ∈ u_ws RX10 TX10 13, w ∈ wsX10_party := fun _ hw => List.mem_cons_of_mem _ (List.mem_append_left _ (List.mem_append_left _ (List.mem_append_right _ (hw))))
set_option maxRecDepth 100000 in
set_option maxHeartbeats 4000000 in
theorem tX10_party_L {G : gGG} {F : State → Heap → Prop} (hG : gOK G) (hF : gSb G F) (hX : gPX G) (hQ : gOQ G) (a1 : Int32) (S : gSt) : Gof G F RX10 cX10_party 2 wsX10_party (some .int) (gRm 2) 0 0 (gQ G (fun x => (some (.int x), S))) 0 [(0, .ref (gad G 0)), (1, .int a1)] [] S (fX10_party a1 S) := by
  unfold fX10_party
  refine g_aload_n 0 dX10_party_0 rfl ?_
  refine g_iload_n 1 dX10_party_1 rfl ?_
  refine g_cVp (ci := 10) (C0 := RX10) (T := TX10) (N := 13) (n := 1) (As := [.int a1]) (rest := []) hF (tX10_isGuest hG hF hX hQ a1 S) gX10_party_X10_isGuest rfl (hX 0 (by decide)) rfl rfl ⟨rfl, by decide +kernel, by decide +kernel, by decide +kernel⟩ rfl (gRm_ok (by decide) (by decide)) rfl (Nat.le_of_ble_eq_true rfl) dX10_party_2 (fun v_1 => ?_)
  refine g_if_eq (tgt := 19) dX10_party_5 (by decide) (fun h_1 => ?_) (fun h_1 => ?_)
  · refine g_iconst (v := (-1)) dX10_party_19 (by decide) ?_
    exact g_iret dX10_party_20 rfl
  · refine g_aload_n 0 dX10_party_8 rfl ?_
    refine g_getK (ci := 10) (k0 := 5) (C0 := RX10) (T := TX10) (N := 13) (hX 0 (by decide)) rfl rfl hiX10_party_10 (by decide) (List.mem_of_getElem? (i := 1) rfl) rfl dX10_party_9 ?_
    refine g_iload_n 1 dX10_party_12 rfl ?_
    refine g_cVp (ci := 7) (C0 := RX7) (T := TX7) (N := 5) (n := 1) (As := [.int a1]) (rest := []) hF (tX7_partyOf hG hF hX hQ (rfl : gIsSt 36 = true) a1 S) gX10_party_X7_partyOf rfl (gSt_m hX (rfl : gIsSt 36 = true)) (gSt_l (rfl : gIsSt 36 = true)) rfl ⟨rfl, by decide +kernel, by decide +kernel, by decide +kernel⟩ rfl (gRm_ok (by decide) (by decide)) rfl (Nat.le_of_ble_eq_true rfl) dX10_party_13 (fun v_2 => ?_)
    refine g_goto (tgt := 20) dX10_party_16 (by decide) ?_
    exact g_iret dX10_party_20 rfl
set_option maxRecDepth 100000 in
set_option maxHeartbeats 4000000 in
theorem tX10_party {G : gGG} {F : State → Heap → Prop} (hG : gOK G) (hF : gSb G F) (hX : gPX G) (hQ : gOQ G) (a1 : Int32) (S : gSt) : gCt G F yX10_party wsX10_party 2 [.ref (gad G 0), .int a1] S ((fX10_party a1 S).map (fun x => (some (.int x), S))) := g_met (by decide +kernel) rfl (Nat.le_of_ble_eq_true rfl) (tX10_party_L hG hF hX hQ a1 S)
/-! X10_goes -/
theorem hiX10_goes_10 : ∀ w ∈ u_ws RX10 TX10 13, w ∈ wsX10_goes := fun _ hw => List.mem_cons_of_mem _ (List.mem_append_left _ (List.mem_append_left _ (List.mem_append_right _ (hw))))
set_option maxRecDepth 100000 in
set_option maxHeartbeats 4000000 in
theorem tX10_goes_L58 {G : gGG} {F : State → Heap → Prop} (hG : gOK G) (hF : gSb G F) (hX : gPX G) (hQ : gOQ G) (x1 : Int32) (x2 : Int32) (s0 : Int32) (S : gSt) : Gof G F RX10 cX10_goes 4 wsX10_goes (some .int) (gRm 4) 0 0 (gQ G (fun x => (some (.int x.1), x.2))) 58 [(0, .ref (gad G 0)), (1, .int x1), (2, .int x2)] [.int s0] S (fX10_goes_L58 x1 x2 s0 S) := by
  unfold fX10_goes_L58
  refine g_istore_n (i := 3) (env' := [(3, .int s0), (0, .ref (gad G 0)), (1, .int x1), (2, .int x2)]) dX10_goes_58 rfl (by decide) rfl ?_
  refine g_iload_n 0 dX10_goes_59 rfl ?_
  refine g_if_eq (tgt := 66) dX10_goes_60 (by decide) (fun h_1 => ?_) (fun h_1 => ?_)
  · refine g_aload_n 1 dX10_goes_66 rfl ?_
    refine g_getK (ci := 10) (k0 := 5) (C0 := RX10) (T := TX10) (N := 13) (hX 0 (by decide)) rfl rfl hiX10_goes_10 (by decide) (List.mem_of_getElem? (i := 1) rfl) rfl dX10_goes_67 ?_
    refine g_iload_n 2 dX10_goes_70 rfl ?_
    refine g_iload_n 3 dX10_goes_71 rfl ?_
    refine g_cVv (ci := 7) (C0 := RX7) (T := TX7) (N := 5) (n := 2) (As := [.int x1, .int x2]) (rest := []) hF (tX7_sendTo hG hF hX hQ (rfl : gIsSt 36 = true) x1 x2 S) gX10_goes_X7_sendTo rfl (gSt_m hX (rfl : gIsSt 36 = true)) (gSt_l (rfl : gIsSt 36 = true)) rfl ⟨rfl, by decide +kernel, by decide +kernel, by decide +kernel⟩ rfl (gRm_ok (by decide) (by decide)) rfl (Nat.le_of_ble_eq_true rfl) dX10_goes_72 (fun S_1 => ?_)
    refine g_aload_n 1 dX10_goes_75 rfl ?_
    refine g_getK (ci := 10) (k0 := 5) (C0 := RX10) (T := TX10) (N := 13) (hX 0 (by decide)) rfl rfl hiX10_goes_10 (by decide) (List.mem_of_getElem? (i := 1) rfl) rfl dX10_goes_76 ?_
    refine g_iload_n 2 dX10_goes_79 rfl ?_
    refine g_cVp (ci := 7) (C0 := RX7) (T := TX7) (N := 5) (n := 1) (As := [.int x1]) (rest := []) hF (tX7_partyOf hG hF hX hQ (rfl : gIsSt 36 = true) x1 S_1) gX10_goes_X7_partyOf rfl (gSt_m hX (rfl : gIsSt 36 = true)) (gSt_l (rfl : gIsSt 36 = true)) rfl ⟨rfl, by decide +kernel, by decide +kernel, by decide +kernel⟩ rfl (gRm_ok (by decide) (by decide)) rfl (Nat.le_of_ble_eq_true rfl) dX10_goes_80 (fun v_2 => ?_)
    exact g_iret dX10_goes_83 rfl
  · refine g_bipush (v := (-2)) dX10_goes_63 (by decide) ?_
    exact g_iret dX10_goes_65 rfl
set_option maxRecDepth 100000 in
set_option maxHeartbeats 4000000 in
theorem tX10_goes_L {G : gGG} {F : State → Heap → Prop} (hG : gOK G) (hF : gSb G F) (hX : gPX G) (hQ : gOQ G) (a1 : Int32) (a2 : Int32) (S : gSt) : Gof G F RX10 cX10_goes 4 wsX10_goes (some .int) (gRm 4) 0 0 (gQ G (fun x => (some (.int x.1), x.2))) 0 [(0, .ref (gad G 0)), (1, .int a1), (2, .int a2)] [] S (fX10_goes a1 a2 S) := by
  unfold fX10_goes
  refine g_aload_n 0 dX10_goes_0 rfl ?_
  refine g_iload_n 1 dX10_goes_1 rfl ?_
  refine g_cVp (ci := 10) (C0 := RX10) (T := TX10) (N := 13) (n := 1) (As := [.int a1]) (rest := []) hF (tX10_isGuest hG hF hX hQ a1 S) gX10_goes_X10_isGuest rfl (hX 0 (by decide)) rfl rfl ⟨rfl, by decide +kernel, by decide +kernel, by decide +kernel⟩ rfl (gRm_ok (by decide) (by decide)) rfl (Nat.le_of_ble_eq_true rfl) dX10_goes_2 (fun v_1 => ?_)
  refine g_if_eq (tgt := 16) dX10_goes_5 (by decide) (fun h_1 => ?_) (fun h_1 => ?_)
  · refine g_iconst (v := (-1)) dX10_goes_16 (by decide) ?_
    exact g_iret dX10_goes_17 rfl
  · refine g_aload_n 0 dX10_goes_8 rfl ?_
    refine g_iload_n 2 dX10_goes_9 rfl ?_
    refine g_cVp (ci := 10) (C0 := RX10) (T := TX10) (N := 13) (n := 1) (As := [.int a2]) (rest := []) hF (tX10_isGuest hG hF hX hQ a2 S) gX10_goes_X10_isGuest rfl (hX 0 (by decide)) rfl rfl ⟨rfl, by decide +kernel, by decide +kernel, by decide +kernel⟩ rfl (gRm_ok (by decide) (by decide)) rfl (Nat.le_of_ble_eq_true rfl) dX10_goes_10 (fun v_2 => ?_)
    refine g_if_ne (tgt := 18) dX10_goes_13 (by decide) (fun h_2 => ?_) (fun h_2 => ?_)
    · refine g_iload_n 1 dX10_goes_18 rfl ?_
      refine g_iload_n 2 dX10_goes_19 rfl ?_
      refine g_icmp_ne (tgt := 34) dX10_goes_20 (by decide) (fun h_3 => ?_) (fun h_3 => ?_)
      · refine g_aload_n 0 dX10_goes_34 rfl ?_
        refine g_getK (ci := 10) (k0 := 5) (C0 := RX10) (T := TX10) (N := 13) (hX 0 (by decide)) rfl rfl hiX10_goes_10 (by decide) (List.mem_of_getElem? (i := 1) rfl) rfl dX10_goes_35 ?_
        refine g_iload_n 1 dX10_goes_38 rfl ?_
        refine g_cVp (ci := 7) (C0 := RX7) (T := TX7) (N := 5) (n := 1) (As := [.int a1]) (rest := []) hF (tX7_partyOf hG hF hX hQ (rfl : gIsSt 36 = true) a1 S) gX10_goes_X7_partyOf rfl (gSt_m hX (rfl : gIsSt 36 = true)) (gSt_l (rfl : gIsSt 36 = true)) rfl ⟨rfl, by decide +kernel, by decide +kernel, by decide +kernel⟩ rfl (gRm_ok (by decide) (by decide)) rfl (Nat.le_of_ble_eq_true rfl) dX10_goes_39 (fun v_3 => ?_)
        refine g_aload_n 0 dX10_goes_42 rfl ?_
        refine g_getK (ci := 10) (k0 := 5) (C0 := RX10) (T := TX10) (N := 13) (hX 0 (by decide)) rfl rfl hiX10_goes_10 (by decide) (List.mem_of_getElem? (i := 1) rfl) rfl dX10_goes_43 ?_
        refine g_iload_n 2 dX10_goes_46 rfl ?_
        refine g_cVp (ci := 7) (C0 := RX7) (T := TX7) (N := 5) (n := 1) (As := [.int a2]) (rest := [.int v_3]) hF (tX7_partyOf hG hF hX hQ (rfl : gIsSt 36 = true) a2 S) gX10_goes_X7_partyOf rfl (gSt_m hX (rfl : gIsSt 36 = true)) (gSt_l (rfl : gIsSt 36 = true)) rfl ⟨rfl, by decide +kernel, by decide +kernel, by decide +kernel⟩ rfl (gRm_ok (by decide) (by decide)) rfl (Nat.le_of_ble_eq_true rfl) dX10_goes_47 (fun v_4 => ?_)
        refine g_icmp_ne (tgt := 57) dX10_goes_50 (by decide) (fun h_4 => ?_) (fun h_4 => ?_)
        · refine g_iconst (v := 0) dX10_goes_57 (by decide) ?_
          exact tX10_goes_L58 hG hF hX hQ a1 a2 0 S
        · refine g_iconst (v := 1) dX10_goes_53 (by decide) ?_
          refine g_goto (tgt := 58) dX10_goes_54 (by decide) ?_
          exact tX10_goes_L58 hG hF hX hQ a1 a2 1 S
      · refine g_aload_n 0 dX10_goes_23 rfl ?_
        refine g_getK (ci := 10) (k0 := 5) (C0 := RX10) (T := TX10) (N := 13) (hX 0 (by decide)) rfl rfl hiX10_goes_10 (by decide) (List.mem_of_getElem? (i := 1) rfl) rfl dX10_goes_24 ?_
        refine g_iload_n 1 dX10_goes_27 rfl ?_
        refine g_cVp (ci := 7) (C0 := RX7) (T := TX7) (N := 5) (n := 1) (As := [.int a1]) (rest := []) hF (tX7_isAlone hG hF hX hQ (rfl : gIsSt 36 = true) a1 S) gX10_goes_X7_isAlone rfl (gSt_m hX (rfl : gIsSt 36 = true)) (gSt_l (rfl : gIsSt 36 = true)) rfl ⟨rfl, by decide +kernel, by decide +kernel, by decide +kernel⟩ rfl (gRm_ok (by decide) (by decide)) rfl (Nat.le_of_ble_eq_true rfl) dX10_goes_28 (fun v_5 => ?_)
        refine g_goto (tgt := 58) dX10_goes_31 (by decide) ?_
        exact tX10_goes_L58 hG hF hX hQ a1 a2 v_5 S
    · refine g_iconst (v := (-1)) dX10_goes_16 (by decide) ?_
      exact g_iret dX10_goes_17 rfl
set_option maxRecDepth 100000 in
set_option maxHeartbeats 4000000 in
theorem tX10_goes {G : gGG} {F : State → Heap → Prop} (hG : gOK G) (hF : gSb G F) (hX : gPX G) (hQ : gOQ G) (a1 : Int32) (a2 : Int32) (S : gSt) : gCt G F yX10_goes wsX10_goes 4 [.ref (gad G 0), .int a1, .int a2] S ((fX10_goes a1 a2 S).map (fun x => (some (.int x.1), x.2))) := g_met (by decide +kernel) rfl (Nat.le_of_ble_eq_true rfl) (tX10_goes_L hG hF hX hQ a1 a2 S)
/-! X10_isParty -/
theorem hiX10_isParty_10 : ∀ w ∈ u_ws RX10 TX10 13, w ∈ wsX10_isParty := fun _ hw => List.mem_cons_of_mem _ (List.mem_append_left _ (List.mem_append_right _ (hw)))
set_option maxRecDepth 100000 in
set_option maxHeartbeats 4000000 in
theorem tX10_isParty_L {G : gGG} {F : State → Heap → Prop} (hG : gOK G) (hF : gSb G F) (hX : gPX G) (hQ : gOQ G) (a1 : Int32) (S : gSt) : Gof G F RX10 cX10_isParty 2 wsX10_isParty (some .boolean) (gRm 1) 0 0 (gQ G (fun x => (some (.int x), S))) 0 [(0, .ref (gad G 0)), (1, .int a1)] [] S (fX10_isParty a1 S) := by
  unfold fX10_isParty
  refine g_iload_n 1 dX10_isParty_0 rfl ?_
  refine g_if_lt (tgt := 19) dX10_isParty_1 (by decide) (fun h_1 => ?_) (fun h_1 => ?_)
  · refine g_iconst (v := 0) dX10_isParty_19 (by decide) ?_
    exact g_zret (by decide) dX10_isParty_20 rfl
  · refine g_iload_n 1 dX10_isParty_4 rfl ?_
    refine g_aload_n 0 dX10_isParty_5 rfl ?_
    refine g_getK (ci := 10) (k0 := 5) (C0 := RX10) (T := TX10) (N := 13) (hX 0 (by decide)) rfl rfl hiX10_isParty_10 (by decide) (List.mem_of_getElem? (i := 1) rfl) rfl dX10_isParty_6 ?_
    refine g_cVp (ci := 7) (C0 := RX7) (T := TX7) (N := 5) (n := 0) (As := []) (rest := [.int a1]) hF (tX7_parties hG hF hX hQ (rfl : gIsSt 36 = true) S) gX10_isParty_X7_parties rfl (gSt_m hX (rfl : gIsSt 36 = true)) (gSt_l (rfl : gIsSt 36 = true)) rfl ⟨rfl, by decide +kernel, by decide +kernel, by decide +kernel⟩ rfl (gRm_ok (by decide) (by decide)) rfl (Nat.le_of_ble_eq_true rfl) dX10_isParty_9 (fun v_1 => ?_)
    refine g_icmp_ge (tgt := 19) dX10_isParty_12 (by decide) (fun h_2 => ?_) (fun h_2 => ?_)
    · refine g_iconst (v := 0) dX10_isParty_19 (by decide) ?_
      exact g_zret (by decide) dX10_isParty_20 rfl
    · refine g_iconst (v := 1) dX10_isParty_15 (by decide) ?_
      refine g_goto (tgt := 20) dX10_isParty_16 (by decide) ?_
      exact g_zret (by decide) dX10_isParty_20 rfl
set_option maxRecDepth 100000 in
set_option maxHeartbeats 4000000 in
theorem tX10_isParty {G : gGG} {F : State → Heap → Prop} (hG : gOK G) (hF : gSb G F) (hX : gPX G) (hQ : gOQ G) (a1 : Int32) (S : gSt) : gCt G F yX10_isParty wsX10_isParty 1 [.ref (gad G 0), .int a1] S ((fX10_isParty a1 S).map (fun x => (some (.int x), S))) := g_met (by decide +kernel) rfl (Nat.le_of_ble_eq_true rfl) (tX10_isParty_L hG hF hX hQ a1 S)
/-! X10_join -/
theorem hiX10_join_10 : ∀ w ∈ u_ws RX10 TX10 13, w ∈ wsX10_join := fun _ hw => List.mem_cons_of_mem _ (List.mem_append_left _ (List.mem_append_right _ (hw)))
set_option maxRecDepth 100000 in
set_option maxHeartbeats 4000000 in
theorem tX10_join_L {G : gGG} {F : State → Heap → Prop} (hG : gOK G) (hF : gSb G F) (hX : gPX G) (hQ : gOQ G) (a1 : Int32) (a2 : Int32) (S : gSt) : Gof G F RX10 cX10_join 3 wsX10_join (some .int) (gRm 3) 0 0 (gQ G (fun x => (some (.int x.1), x.2))) 0 [(0, .ref (gad G 0)), (1, .int a1), (2, .int a2)] [] S (fX10_join a1 a2 S) := by
  unfold fX10_join
  refine g_aload_n 0 dX10_join_0 rfl ?_
  refine g_iload_n 1 dX10_join_1 rfl ?_
  refine g_cVp (ci := 10) (C0 := RX10) (T := TX10) (N := 13) (n := 1) (As := [.int a1]) (rest := []) hF (tX10_isParty hG hF hX hQ a1 S) gX10_join_X10_isParty rfl (hX 0 (by decide)) rfl rfl ⟨rfl, by decide +kernel, by decide +kernel, by decide +kernel⟩ rfl (gRm_ok (by decide) (by decide)) rfl (Nat.le_of_ble_eq_true rfl) dX10_join_2 (fun v_1 => ?_)
  refine g_if_eq (tgt := 21) dX10_join_5 (by decide) (fun h_1 => ?_) (fun h_1 => ?_)
  · refine g_iconst (v := (-1)) dX10_join_21 (by decide) ?_
    exact g_iret dX10_join_22 rfl
  · refine g_aload_n 0 dX10_join_8 rfl ?_
    refine g_iload_n 2 dX10_join_9 rfl ?_
    refine g_cVp (ci := 10) (C0 := RX10) (T := TX10) (N := 13) (n := 1) (As := [.int a2]) (rest := []) hF (tX10_isParty hG hF hX hQ a2 S) gX10_join_X10_isParty rfl (hX 0 (by decide)) rfl rfl ⟨rfl, by decide +kernel, by decide +kernel, by decide +kernel⟩ rfl (gRm_ok (by decide) (by decide)) rfl (Nat.le_of_ble_eq_true rfl) dX10_join_10 (fun v_2 => ?_)
    refine g_if_eq (tgt := 21) dX10_join_13 (by decide) (fun h_2 => ?_) (fun h_2 => ?_)
    · refine g_iconst (v := (-1)) dX10_join_21 (by decide) ?_
      exact g_iret dX10_join_22 rfl
    · refine g_iload_n 1 dX10_join_16 rfl ?_
      refine g_iload_n 2 dX10_join_17 rfl ?_
      refine g_icmp_ne (tgt := 23) dX10_join_18 (by decide) (fun h_3 => ?_) (fun h_3 => ?_)
      · refine g_aload_n 0 dX10_join_23 rfl ?_
        refine g_getK (ci := 10) (k0 := 5) (C0 := RX10) (T := TX10) (N := 13) (hX 0 (by decide)) rfl rfl hiX10_join_10 (by decide) (List.mem_of_getElem? (i := 1) rfl) rfl dX10_join_24 ?_
        refine g_iload_n 1 dX10_join_27 rfl ?_
        refine g_iload_n 2 dX10_join_28 rfl ?_
        refine g_cVv (ci := 7) (C0 := RX7) (T := TX7) (N := 5) (n := 2) (As := [.int a1, .int a2]) (rest := []) hF (tX7_merge hG hF hX hQ (rfl : gIsSt 36 = true) a1 a2 S) gX10_join_X7_merge rfl (gSt_m hX (rfl : gIsSt 36 = true)) (gSt_l (rfl : gIsSt 36 = true)) rfl ⟨rfl, by decide +kernel, by decide +kernel, by decide +kernel⟩ rfl (gRm_ok (by decide) (by decide)) rfl (Nat.le_of_ble_eq_true rfl) dX10_join_29 (fun S_3 => ?_)
        refine g_aload_n 0 dX10_join_32 rfl ?_
        refine g_getK (ci := 10) (k0 := 5) (C0 := RX10) (T := TX10) (N := 13) (hX 0 (by decide)) rfl rfl hiX10_join_10 (by decide) (List.mem_of_getElem? (i := 1) rfl) rfl dX10_join_33 ?_
        refine g_cVp (ci := 7) (C0 := RX7) (T := TX7) (N := 5) (n := 0) (As := []) (rest := []) hF (tX7_parties hG hF hX hQ (rfl : gIsSt 36 = true) S_3) gX10_join_X7_parties rfl (gSt_m hX (rfl : gIsSt 36 = true)) (gSt_l (rfl : gIsSt 36 = true)) rfl ⟨rfl, by decide +kernel, by decide +kernel, by decide +kernel⟩ rfl (gRm_ok (by decide) (by decide)) rfl (Nat.le_of_ble_eq_true rfl) dX10_join_36 (fun v_4 => ?_)
        exact g_iret dX10_join_39 rfl
      · refine g_iconst (v := (-1)) dX10_join_21 (by decide) ?_
        exact g_iret dX10_join_22 rfl
set_option maxRecDepth 100000 in
set_option maxHeartbeats 4000000 in
theorem tX10_join {G : gGG} {F : State → Heap → Prop} (hG : gOK G) (hF : gSb G F) (hX : gPX G) (hQ : gOQ G) (a1 : Int32) (a2 : Int32) (S : gSt) : gCt G F yX10_join wsX10_join 3 [.ref (gad G 0), .int a1, .int a2] S ((fX10_join a1 a2 S).map (fun x => (some (.int x.1), x.2))) := g_met (by decide +kernel) rfl (Nat.le_of_ble_eq_true rfl) (tX10_join_L hG hF hX hQ a1 a2 S)
/-! X10_part -/
theorem hiX10_part_10 : ∀ w ∈ u_ws RX10 TX10 13, w ∈ wsX10_part := fun _ hw => List.mem_cons_of_mem _ (List.mem_append_left _ (List.mem_append_right _ (hw)))
set_option maxRecDepth 100000 in
set_option maxHeartbeats 4000000 in
theorem tX10_part_L {G : gGG} {F : State → Heap → Prop} (hG : gOK G) (hF : gSb G F) (hX : gPX G) (hQ : gOQ G) (a1 : Int32) (a2 : Int32) (S : gSt) : Gof G F RX10 cX10_part 4 wsX10_part (some .int) (gRm 3) 0 0 (gQ G (fun x => (some (.int x.1), x.2))) 0 [(0, .ref (gad G 0)), (1, .int a1), (2, .int a2)] [] S (fX10_part a1 a2 S) := by
  unfold fX10_part
  refine g_aload_n 0 dX10_part_0 rfl ?_
  refine g_iload_n 1 dX10_part_1 rfl ?_
  refine g_cVp (ci := 10) (C0 := RX10) (T := TX10) (N := 13) (n := 1) (As := [.int a1]) (rest := []) hF (tX10_isParty hG hF hX hQ a1 S) gX10_part_X10_isParty rfl (hX 0 (by decide)) rfl rfl ⟨rfl, by decide +kernel, by decide +kernel, by decide +kernel⟩ rfl (gRm_ok (by decide) (by decide)) rfl (Nat.le_of_ble_eq_true rfl) dX10_part_2 (fun v_1 => ?_)
  refine g_if_ne (tgt := 10) dX10_part_5 (by decide) (fun h_1 => ?_) (fun h_1 => ?_)
  · refine g_aload_n 0 dX10_part_10 rfl ?_
    refine g_getK (ci := 10) (k0 := 5) (C0 := RX10) (T := TX10) (N := 13) (hX 0 (by decide)) rfl rfl hiX10_part_10 (by decide) (List.mem_of_getElem? (i := 1) rfl) rfl dX10_part_11 ?_
    refine g_iload_n 1 dX10_part_14 rfl ?_
    refine g_cVp (ci := 7) (C0 := RX7) (T := TX7) (N := 5) (n := 1) (As := [.int a1]) (rest := []) hF (tX7_setOf hG hF hX hQ (rfl : gIsSt 36 = true) a1 S) gX10_part_X7_setOf rfl (gSt_m hX (rfl : gIsSt 36 = true)) (gSt_l (rfl : gIsSt 36 = true)) rfl ⟨rfl, by decide +kernel, by decide +kernel, by decide +kernel⟩ rfl (gRm_ok (by decide) (by decide)) rfl (Nat.le_of_ble_eq_true rfl) dX10_part_15 (fun v_2 => ?_)
    refine g_istore_n (i := 3) (env' := [(3, .int v_2), (0, .ref (gad G 0)), (1, .int a1), (2, .int a2)]) dX10_part_18 rfl (by decide) rfl ?_
    refine g_iload_n 3 dX10_part_19 rfl ?_
    refine g_if_eq (tgt := 36) dX10_part_20 (by decide) (fun h_2 => ?_) (fun h_2 => ?_)
    · refine g_bipush (v := (-2)) dX10_part_36 (by decide) ?_
      exact g_iret dX10_part_38 rfl
    · refine g_iload_n 3 dX10_part_23 rfl ?_
      refine g_iload_n 0 dX10_part_24 rfl ?_
      refine g_icmp_eq (tgt := 36) dX10_part_25 (by decide) (fun h_3 => ?_) (fun h_3 => ?_)
      · refine g_bipush (v := (-2)) dX10_part_36 (by decide) ?_
        exact g_iret dX10_part_38 rfl
      · refine g_iload_n 3 dX10_part_28 rfl ?_
        refine g_iload_n 0 dX10_part_29 rfl ?_
        refine g_iconst (v := (-1)) dX10_part_30 (by decide) ?_
        refine g_ixor dX10_part_31 ?_
        refine g_iand dX10_part_32 ?_
        refine g_if_eq (tgt := 39) dX10_part_33 (by decide) (fun h_4 => ?_) (fun h_4 => ?_)
        · refine g_aload_n 1 dX10_part_39 rfl ?_
          refine g_getK (ci := 10) (k0 := 5) (C0 := RX10) (T := TX10) (N := 13) (hX 0 (by decide)) rfl rfl hiX10_part_10 (by decide) (List.mem_of_getElem? (i := 1) rfl) rfl dX10_part_40 ?_
          refine g_iload_n 3 dX10_part_43 rfl ?_
          refine g_cVv (ci := 7) (C0 := RX7) (T := TX7) (N := 5) (n := 1) (As := [.int a2]) (rest := []) hF (tX7_splitOff hG hF hX hQ (rfl : gIsSt 36 = true) a2 S) gX10_part_X7_splitOff rfl (gSt_m hX (rfl : gIsSt 36 = true)) (gSt_l (rfl : gIsSt 36 = true)) rfl ⟨rfl, by decide +kernel, by decide +kernel, by decide +kernel⟩ rfl (gRm_ok (by decide) (by decide)) rfl (Nat.le_of_ble_eq_true rfl) dX10_part_44 (fun S_3 => ?_)
          refine g_aload_n 1 dX10_part_47 rfl ?_
          refine g_getK (ci := 10) (k0 := 5) (C0 := RX10) (T := TX10) (N := 13) (hX 0 (by decide)) rfl rfl hiX10_part_10 (by decide) (List.mem_of_getElem? (i := 1) rfl) rfl dX10_part_48 ?_
          refine g_cVp (ci := 7) (C0 := RX7) (T := TX7) (N := 5) (n := 0) (As := []) (rest := []) hF (tX7_parties hG hF hX hQ (rfl : gIsSt 36 = true) S_3) gX10_part_X7_parties rfl (gSt_m hX (rfl : gIsSt 36 = true)) (gSt_l (rfl : gIsSt 36 = true)) rfl ⟨rfl, by decide +kernel, by decide +kernel, by decide +kernel⟩ rfl (gRm_ok (by decide) (by decide)) rfl (Nat.le_of_ble_eq_true rfl) dX10_part_51 (fun v_4 => ?_)
          exact g_iret dX10_part_54 rfl
        · refine g_bipush (v := (-2)) dX10_part_36 (by decide) ?_
          exact g_iret dX10_part_38 rfl
  · refine g_iconst (v := (-1)) dX10_part_8 (by decide) ?_
    exact g_iret dX10_part_9 rfl
set_option maxRecDepth 100000 in
set_option maxHeartbeats 4000000 in
theorem tX10_part {G : gGG} {F : State → Heap → Prop} (hG : gOK G) (hF : gSb G F) (hX : gPX G) (hQ : gOQ G) (a1 : Int32) (a2 : Int32) (S : gSt) : gCt G F yX10_part wsX10_part 3 [.ref (gad G 0), .int a1, .int a2] S ((fX10_part a1 a2 S).map (fun x => (some (.int x.1), x.2))) := g_met (by decide +kernel) rfl (Nat.le_of_ble_eq_true rfl) (tX10_part_L hG hF hX hQ a1 a2 S)
/-! X10_now -/
theorem hiX10_now_10 : ∀ w ∈ u_ws RX10 TX10 13, w ∈ wsX10_now := fun _ hw => List.mem_cons_of_mem _ (List.mem_append_left _ (List.mem_append_left _ (List.mem_append_left _ (List.mem_append_right _ (hw)))))
set_option maxRecDepth 100000 in
set_option maxHeartbeats 4000000 in
theorem tX10_now_L {G : gGG} {F : State → Heap → Prop} (hG : gOK G) (hF : gSb G F) (hX : gPX G) (hQ : gOQ G) (a1 : Int32) (S : gSt) : Gof G F RX10 cX10_now 2 wsX10_now (some .int) (gRm 53) 0 0 (gQ G (fun x => (some (.int x.1), x.2))) 0 [(0, .ref (gad G 0)), (1, .int a1)] [] S (fX10_now a1 S) := by
  unfold fX10_now
  refine g_iload_n 1 dX10_now_0 rfl ?_
  refine g_ite (c0 := a1 = 0) (fun h_1 => ?_) (fun h_1 => ?_)
  · refine g_tin (tgt := 32) dX10_now_1 (by rw [h_1]; decide) (by rw [h_1]; decide) (by rw [h_1]; rfl) (by decide) ?_
    refine g_aload_n 0 dX10_now_32 rfl ?_
    refine g_getK (ci := 10) (k0 := 5) (C0 := RX10) (T := TX10) (N := 13) (hX 0 (by decide)) rfl rfl hiX10_now_10 (by decide) (List.mem_of_getElem? (i := 1) rfl) rfl dX10_now_33 ?_
    refine g_cVp (ci := 7) (C0 := RX7) (T := TX7) (N := 5) (n := 0) (As := []) (rest := []) hF (tX7_parties hG hF hX hQ (rfl : gIsSt 36 = true) S) gX10_now_X7_parties rfl (gSt_m hX (rfl : gIsSt 36 = true)) (gSt_l (rfl : gIsSt 36 = true)) rfl ⟨rfl, by decide +kernel, by decide +kernel, by decide +kernel⟩ rfl (gRm_ok (by decide) (by decide)) rfl (Nat.le_of_ble_eq_true rfl) dX10_now_36 (fun v_1 => ?_)
    exact g_iret dX10_now_39 rfl
  refine g_ite (c0 := a1 = 1) (fun h_2 => ?_) (fun h_2 => ?_)
  · refine g_tin (tgt := 40) dX10_now_1 (by rw [h_2]; decide) (by rw [h_2]; decide) (by rw [h_2]; rfl) (by decide) ?_
    refine g_aload_n 0 dX10_now_40 rfl ?_
    refine g_getK (ci := 10) (k0 := 4) (C0 := RX10) (T := TX10) (N := 13) (hX 0 (by decide)) rfl rfl hiX10_now_10 (by decide) (List.mem_of_getElem? (i := 2) rfl) rfl dX10_now_41 ?_
    refine g_aload_n 0 dX10_now_44 rfl ?_
    refine g_getK (ci := 10) (k0 := 5) (C0 := RX10) (T := TX10) (N := 13) (hX 0 (by decide)) rfl rfl hiX10_now_10 (by decide) (List.mem_of_getElem? (i := 1) rfl) rfl dX10_now_45 ?_
    refine g_cVp (ci := 7) (C0 := RX7) (T := TX7) (N := 5) (n := 0) (As := []) (rest := [.ref (gad G 32)]) hF (tX7_code hG hF hX hQ (rfl : gIsSt 36 = true) S) gX10_now_X7_code rfl (gSt_m hX (rfl : gIsSt 36 = true)) (gSt_l (rfl : gIsSt 36 = true)) rfl ⟨rfl, by decide +kernel, by decide +kernel, by decide +kernel⟩ rfl (gRm_ok (by decide) (by decide)) rfl (Nat.le_of_ble_eq_true rfl) dX10_now_48 (fun v_2 => ?_)
    refine g_cVi (ci := 9) (C0 := RX9) (T := TX9) (N := 8) (n := 1) (As := [.int v_2]) (rest := []) hF (tX9_placeOf hG hF hX hQ v_2 S) gX10_now_X9_placeOf rfl (hX 32 (by decide)) rfl rfl ⟨rfl, by decide +kernel, by decide +kernel, by decide +kernel⟩ rfl (gRm_ok (by decide) (by decide)) rfl (Nat.le_of_ble_eq_true rfl) dX10_now_51 (fun v_3 S_4 => ?_)
    refine g_bipush (v := (-9)) dX10_now_54 (by decide) ?_
    refine g_icmp_eq (tgt := 63) dX10_now_56 (by decide) (fun h_3 => ?_) (fun h_3 => ?_)
    · refine g_iconst (v := 0) dX10_now_63 (by decide) ?_
      exact g_iret dX10_now_64 rfl
    · refine g_iconst (v := 1) dX10_now_59 (by decide) ?_
      refine g_goto (tgt := 64) dX10_now_60 (by decide) ?_
      exact g_iret dX10_now_64 rfl
  refine g_ite (c0 := a1 = 2) (fun h_4 => ?_) (fun h_4 => ?_)
  · refine g_tin (tgt := 65) dX10_now_1 (by rw [h_4]; decide) (by rw [h_4]; decide) (by rw [h_4]; rfl) (by decide) ?_
    refine g_aload_n 0 dX10_now_65 rfl ?_
    refine g_gC (fun h_5 => ?_)
    refine g_getM (ci := 10) (k0 := 0) (C0 := RX10) (T := TX10) (N := 13) (hX 0 (by decide)) rfl rfl hiX10_now_10 (by decide) (List.mem_of_getElem? (i := 3) rfl) rfl dX10_now_66 ?_
    refine g_aload_n 0 dX10_now_69 rfl ?_
    refine g_getK (ci := 10) (k0 := 5) (C0 := RX10) (T := TX10) (N := 13) (hX 0 (by decide)) rfl rfl hiX10_now_10 (by decide) (List.mem_of_getElem? (i := 1) rfl) rfl dX10_now_70 ?_
    refine g_cVp (ci := 5) (C0 := RX5) (T := TX5) (N := 6) (n := 1) (As := [.ref (gad G 36)]) (rest := []) hF (tX5_worthOfAll hG hF hX hQ h_5 (rfl : gIsSt 36 = true) S) gX10_now_X5_worthOfAll rfl (gRu_m hX h_5) (gRu_l h_5) rfl ⟨rfl, by decide +kernel, by decide +kernel, by decide +kernel⟩ rfl (gRm_ok (by decide) (by decide)) rfl (Nat.le_of_ble_eq_true rfl) dX10_now_73 (fun v_5 => ?_)
    exact g_iret dX10_now_76 rfl
  refine g_ite (c0 := a1 = 3) (fun h_6 => ?_) (fun h_6 => ?_)
  · refine g_tin (tgt := 77) dX10_now_1 (by rw [h_6]; decide) (by rw [h_6]; decide) (by rw [h_6]; rfl) (by decide) ?_
    refine g_aload_n 0 dX10_now_77 rfl ?_
    refine g_getK (ci := 10) (k0 := 5) (C0 := RX10) (T := TX10) (N := 13) (hX 0 (by decide)) rfl rfl hiX10_now_10 (by decide) (List.mem_of_getElem? (i := 1) rfl) rfl dX10_now_78 ?_
    refine g_cVp (ci := 7) (C0 := RX7) (T := TX7) (N := 5) (n := 0) (As := []) (rest := []) hF (tX7_loners hG hF hX hQ (rfl : gIsSt 36 = true) S) gX10_now_X7_loners rfl (gSt_m hX (rfl : gIsSt 36 = true)) (gSt_l (rfl : gIsSt 36 = true)) rfl ⟨rfl, by decide +kernel, by decide +kernel, by decide +kernel⟩ rfl (gRm_ok (by decide) (by decide)) rfl (Nat.le_of_ble_eq_true rfl) dX10_now_81 (fun v_6 => ?_)
    exact g_iret dX10_now_84 rfl
  refine g_tout (tgt := 85) dX10_now_1 (by have nh_1 := lv_neT (a := 0) h_1 (by decide); have nh_2 := lv_neT (a := 1) h_2 (by decide); have nh_4 := lv_neT (a := 2) h_4 (by decide); have nh_6 := lv_neT (a := 3) h_6 (by decide); omega) (by decide) ?_
  refine g_ldc (List.mem_of_getElem? (i := 4) rfl) dX10_now_85 ?_
  exact g_iret dX10_now_87 rfl
set_option maxRecDepth 100000 in
set_option maxHeartbeats 4000000 in
theorem tX10_now {G : gGG} {F : State → Heap → Prop} (hG : gOK G) (hF : gSb G F) (hX : gPX G) (hQ : gOQ G) (a1 : Int32) (S : gSt) : gCt G F yX10_now wsX10_now 53 [.ref (gad G 0), .int a1] S ((fX10_now a1 S).map (fun x => (some (.int x.1), x.2))) := g_met (by decide +kernel) rfl (Nat.le_of_ble_eq_true rfl) (tX10_now_L hG hF hX hQ a1 S)
/-! X10_many -/
theorem hiX10_many_10 : ∀ w ∈ u_ws RX10 TX10 13, w ∈ wsX10_many := fun _ hw => List.mem_cons_of_mem _ (List.mem_append_left _ (List.mem_append_left _ (List.mem_append_right _ (hw))))
set_option maxRecDepth 100000 in
set_option maxHeartbeats 4000000 in
theorem tX10_many_L {G : gGG} {F : State → Heap → Prop} (hG : gOK G) (hF : gSb G F) (hX : gPX G) (hQ : gOQ G) (a1 : Int32) (S : gSt) : Gof G F RX10 cX10_many 2 wsX10_many (some .int) (gRm 53) 0 0 (gQ G (fun x => (some (.int x.1), x.2))) 0 [(0, .ref (gad G 0)), (1, .int a1)] [] S (fX10_many a1 S) := by
  unfold fX10_many
  refine g_iload_n 1 dX10_many_0 rfl ?_
  refine g_if_lt (tgt := 10) dX10_many_1 (by decide) (fun h_1 => ?_) (fun h_1 => ?_)
  · refine g_iconst (v := (-1)) dX10_many_10 (by decide) ?_
    exact g_iret dX10_many_11 rfl
  · refine g_iload_n 1 dX10_many_4 rfl ?_
    refine g_bipush (v := 8) dX10_many_5 (by decide) ?_
    refine g_icmp_le (tgt := 12) dX10_many_7 (by decide) (fun h_2 => ?_) (fun h_2 => ?_)
    · refine g_iload_n 1 dX10_many_12 rfl ?_
      refine g_if_ne (tgt := 26) dX10_many_13 (by decide) (fun h_3 => ?_) (fun h_3 => ?_)
      · refine g_aload_n 0 dX10_many_26 rfl ?_
        refine g_getK (ci := 10) (k0 := 4) (C0 := RX10) (T := TX10) (N := 13) (hX 0 (by decide)) rfl rfl hiX10_many_10 (by decide) (List.mem_of_getElem? (i := 1) rfl) rfl dX10_many_27 ?_
        refine g_iload_n 1 dX10_many_30 rfl ?_
        refine g_cVi (ci := 9) (C0 := RX9) (T := TX9) (N := 8) (n := 1) (As := [.int a1]) (rest := []) hF (tX9_totalWith hG hF hX hQ a1 S) gX10_many_X9_totalWith rfl (hX 32 (by decide)) rfl rfl ⟨rfl, by decide +kernel, by decide +kernel, by decide +kernel⟩ rfl (gRm_ok (by decide) (by decide)) rfl (Nat.le_of_ble_eq_true rfl) dX10_many_31 (fun v_1 S_2 => ?_)
        exact g_iret dX10_many_34 rfl
      · refine g_aload_n 0 dX10_many_16 rfl ?_
        refine g_getK (ci := 10) (k0 := 4) (C0 := RX10) (T := TX10) (N := 13) (hX 0 (by decide)) rfl rfl hiX10_many_10 (by decide) (List.mem_of_getElem? (i := 1) rfl) rfl dX10_many_17 ?_
        refine g_cVi (ci := 9) (C0 := RX9) (T := TX9) (N := 8) (n := 0) (As := []) (rest := []) hF (tX9_total hG hF hX hQ S) gX10_many_X9_total rfl (hX 32 (by decide)) rfl rfl ⟨rfl, by decide +kernel, by decide +kernel, by decide +kernel⟩ rfl (gRm_ok (by decide) (by decide)) rfl (Nat.le_of_ble_eq_true rfl) dX10_many_20 (fun v_3 S_4 => ?_)
        refine g_goto (tgt := 34) dX10_many_23 (by decide) ?_
        exact g_iret dX10_many_34 rfl
    · refine g_iconst (v := (-1)) dX10_many_10 (by decide) ?_
      exact g_iret dX10_many_11 rfl
set_option maxRecDepth 100000 in
set_option maxHeartbeats 4000000 in
theorem tX10_many {G : gGG} {F : State → Heap → Prop} (hG : gOK G) (hF : gSb G F) (hX : gPX G) (hQ : gOQ G) (a1 : Int32) (S : gSt) : gCt G F yX10_many wsX10_many 53 [.ref (gad G 0), .int a1] S ((fX10_many a1 S).map (fun x => (some (.int x.1), x.2))) := g_met (by decide +kernel) rfl (Nat.le_of_ble_eq_true rfl) (tX10_many_L hG hF hX hQ a1 S)
/-! X10_rank -/
theorem hiX10_rank_10 : ∀ w ∈ u_ws RX10 TX10 13, w ∈ wsX10_rank := fun _ hw => List.mem_cons_of_mem _ (List.mem_append_left _ (List.mem_append_left _ (List.mem_append_left _ (List.mem_append_right _ (hw)))))
set_option maxRecDepth 100000 in
set_option maxHeartbeats 4000000 in
theorem tX10_rank_L {G : gGG} {F : State → Heap → Prop} (hG : gOK G) (hF : gSb G F) (hX : gPX G) (hQ : gOQ G) (S : gSt) : Gof G F RX10 cX10_rank 1 wsX10_rank (some .int) (gRm 53) 0 0 (gQ G (fun x => (some (.int x.1), x.2))) 0 [(0, .ref (gad G 0))] [] S (fX10_rank S) := by
  unfold fX10_rank
  refine g_aload_n 0 dX10_rank_0 rfl ?_
  refine g_getK (ci := 10) (k0 := 4) (C0 := RX10) (T := TX10) (N := 13) (hX 0 (by decide)) rfl rfl hiX10_rank_10 (by decide) (List.mem_of_getElem? (i := 1) rfl) rfl dX10_rank_1 ?_
  refine g_aload_n 0 dX10_rank_4 rfl ?_
  refine g_getK (ci := 10) (k0 := 5) (C0 := RX10) (T := TX10) (N := 13) (hX 0 (by decide)) rfl rfl hiX10_rank_10 (by decide) (List.mem_of_getElem? (i := 2) rfl) rfl dX10_rank_5 ?_
  refine g_cVp (ci := 7) (C0 := RX7) (T := TX7) (N := 5) (n := 0) (As := []) (rest := [.ref (gad G 32)]) hF (tX7_code hG hF hX hQ (rfl : gIsSt 36 = true) S) gX10_rank_X7_code rfl (gSt_m hX (rfl : gIsSt 36 = true)) (gSt_l (rfl : gIsSt 36 = true)) rfl ⟨rfl, by decide +kernel, by decide +kernel, by decide +kernel⟩ rfl (gRm_ok (by decide) (by decide)) rfl (Nat.le_of_ble_eq_true rfl) dX10_rank_8 (fun v_1 => ?_)
  refine g_cVi (ci := 9) (C0 := RX9) (T := TX9) (N := 8) (n := 1) (As := [.int v_1]) (rest := []) hF (tX9_placeOf hG hF hX hQ v_1 S) gX10_rank_X9_placeOf rfl (hX 32 (by decide)) rfl rfl ⟨rfl, by decide +kernel, by decide +kernel, by decide +kernel⟩ rfl (gRm_ok (by decide) (by decide)) rfl (Nat.le_of_ble_eq_true rfl) dX10_rank_11 (fun v_2 S_3 => ?_)
  exact g_iret dX10_rank_14 rfl
set_option maxRecDepth 100000 in
set_option maxHeartbeats 4000000 in
theorem tX10_rank {G : gGG} {F : State → Heap → Prop} (hG : gOK G) (hF : gSb G F) (hX : gPX G) (hQ : gOQ G) (S : gSt) : gCt G F yX10_rank wsX10_rank 53 [.ref (gad G 0)] S ((fX10_rank S).map (fun x => (some (.int x.1), x.2))) := g_met (by decide +kernel) rfl (Nat.le_of_ble_eq_true rfl) (tX10_rank_L hG hF hX hQ S)
/-! X10_nth -/
theorem hiX10_nth_10 : ∀ w ∈ u_ws RX10 TX10 13, w ∈ wsX10_nth := fun _ hw => List.mem_cons_of_mem _ (List.mem_append_left _ (List.mem_append_left _ (List.mem_append_right _ (hw))))
set_option maxRecDepth 100000 in
set_option maxHeartbeats 4000000 in
theorem tX10_nth_L {G : gGG} {F : State → Heap → Prop} (hG : gOK G) (hF : gSb G F) (hX : gPX G) (hQ : gOQ G) (a1 : Int32) (a2 : Int32) (S : gSt) : Gof G F RX10 cX10_nth 3 wsX10_nth (some .int) (gRm 53) 0 0 (gQ G (fun x => (some (.int x.1), x.2))) 0 [(0, .ref (gad G 0)), (1, .int a1), (2, .int a2)] [] S (fX10_nth a1 a2 S) := by
  unfold fX10_nth
  refine g_iload_n 1 dX10_nth_0 rfl ?_
  refine g_if_lt (tgt := 12) dX10_nth_1 (by decide) (fun h_1 => ?_) (fun h_1 => ?_)
  · refine g_iconst (v := (-1)) dX10_nth_12 (by decide) ?_
    exact g_iret dX10_nth_13 rfl
  · refine g_aload_n 0 dX10_nth_4 rfl ?_
    refine g_iload_n 2 dX10_nth_5 rfl ?_
    refine g_cVp (ci := 10) (C0 := RX10) (T := TX10) (N := 13) (n := 1) (As := [.int a2]) (rest := []) hF (tX10_isGuest hG hF hX hQ a2 S) gX10_nth_X10_isGuest rfl (hX 0 (by decide)) rfl rfl ⟨rfl, by decide +kernel, by decide +kernel, by decide +kernel⟩ rfl (gRm_ok (by decide) (by decide)) rfl (Nat.le_of_ble_eq_true rfl) dX10_nth_6 (fun v_1 => ?_)
    refine g_if_ne (tgt := 14) dX10_nth_9 (by decide) (fun h_2 => ?_) (fun h_2 => ?_)
    · refine g_iload_n 1 dX10_nth_14 rfl ?_
      refine g_aload_n 0 dX10_nth_15 rfl ?_
      refine g_getK (ci := 10) (k0 := 4) (C0 := RX10) (T := TX10) (N := 13) (hX 0 (by decide)) rfl rfl hiX10_nth_10 (by decide) (List.mem_of_getElem? (i := 1) rfl) rfl dX10_nth_16 ?_
      refine g_cVi (ci := 9) (C0 := RX9) (T := TX9) (N := 8) (n := 0) (As := []) (rest := [.int a1]) hF (tX9_total hG hF hX hQ S) gX10_nth_X9_total rfl (hX 32 (by decide)) rfl rfl ⟨rfl, by decide +kernel, by decide +kernel, by decide +kernel⟩ rfl (gRm_ok (by decide) (by decide)) rfl (Nat.le_of_ble_eq_true rfl) dX10_nth_19 (fun v_2 S_3 => ?_)
      refine g_icmp_ge (tgt := 40) dX10_nth_22 (by decide) (fun h_3 => ?_) (fun h_3 => ?_)
      · refine g_bipush (v := (-5)) dX10_nth_40 (by decide) ?_
        exact g_iret dX10_nth_42 rfl
      · refine g_aload_n 0 dX10_nth_25 rfl ?_
        refine g_getK (ci := 10) (k0 := 4) (C0 := RX10) (T := TX10) (N := 13) (hX 0 (by decide)) rfl rfl hiX10_nth_10 (by decide) (List.mem_of_getElem? (i := 1) rfl) rfl dX10_nth_26 ?_
        refine g_iload_n 1 dX10_nth_29 rfl ?_
        refine g_cVi (ci := 9) (C0 := RX9) (T := TX9) (N := 8) (n := 1) (As := [.int a1]) (rest := []) hF (tX9_codeAt hG hF hX hQ a1 S_3) gX10_nth_X9_codeAt rfl (hX 32 (by decide)) rfl rfl ⟨rfl, by decide +kernel, by decide +kernel, by decide +kernel⟩ rfl (gRm_ok (by decide) (by decide)) rfl (Nat.le_of_ble_eq_true rfl) dX10_nth_30 (fun v_4 S_5 => ?_)
        refine g_iload_n 2 dX10_nth_33 rfl ?_
        refine g_cSp (n := 2) (As := [.int v_4, .int a2]) (rest := []) hF (tX7_partyIn hG hF hX hQ v_4 a2 S_5) gX10_nth_X7_partyIn rfl ⟨by decide +kernel, by decide +kernel, by decide +kernel⟩ rfl (gRm_ok (by decide) (by decide)) rfl (Nat.le_of_ble_eq_true rfl) dX10_nth_34 (fun v_6 => ?_)
        refine g_goto (tgt := 42) dX10_nth_37 (by decide) ?_
        exact g_iret dX10_nth_42 rfl
    · refine g_iconst (v := (-1)) dX10_nth_12 (by decide) ?_
      exact g_iret dX10_nth_13 rfl
set_option maxRecDepth 100000 in
set_option maxHeartbeats 4000000 in
theorem tX10_nth {G : gGG} {F : State → Heap → Prop} (hG : gOK G) (hF : gSb G F) (hX : gPX G) (hQ : gOQ G) (a1 : Int32) (a2 : Int32) (S : gSt) : gCt G F yX10_nth wsX10_nth 53 [.ref (gad G 0), .int a1, .int a2] S ((fX10_nth a1 a2 S).map (fun x => (some (.int x.1), x.2))) := g_met (by decide +kernel) rfl (Nat.le_of_ble_eq_true rfl) (tX10_nth_L hG hF hX hQ a1 a2 S)
/-! X10_draw -/
theorem hiX10_draw_10 : ∀ w ∈ u_ws RX10 TX10 13, w ∈ wsX10_draw := fun _ hw => List.mem_cons_of_mem _ (List.mem_append_left _ (List.mem_append_left _ (List.mem_append_left _ (List.mem_append_left _ (List.mem_append_right _ (hw))))))
set_option maxRecDepth 100000 in
set_option maxHeartbeats 4000000 in
theorem tX10_draw_L {G : gGG} {F : State → Heap → Prop} (hG : gOK G) (hF : gSb G F) (hX : gPX G) (hQ : gOQ G) (S : gSt) : Gof G F RX10 cX10_draw 2 wsX10_draw (some .int) (gRm 53) 0 0 (gQ G (fun x => (some (.int x.1), x.2))) 0 [(0, .ref (gad G 0))] [] S (fX10_draw S) := by
  unfold fX10_draw
  refine g_aload_n 0 dX10_draw_0 rfl ?_
  refine g_getK (ci := 10) (k0 := 4) (C0 := RX10) (T := TX10) (N := 13) (hX 0 (by decide)) rfl rfl hiX10_draw_10 (by decide) (List.mem_of_getElem? (i := 1) rfl) rfl dX10_draw_1 ?_
  refine g_cVi (ci := 9) (C0 := RX9) (T := TX9) (N := 8) (n := 0) (As := []) (rest := []) hF (tX9_total hG hF hX hQ S) gX10_draw_X9_total rfl (hX 32 (by decide)) rfl rfl ⟨rfl, by decide +kernel, by decide +kernel, by decide +kernel⟩ rfl (gRm_ok (by decide) (by decide)) rfl (Nat.le_of_ble_eq_true rfl) dX10_draw_4 (fun v_1 S_2 => ?_)
  refine g_if_ne (tgt := 13) dX10_draw_7 (by decide) (fun h_1 => ?_) (fun h_1 => ?_)
  · refine g_aload_n 0 dX10_draw_13 rfl ?_
    refine g_getK (ci := 10) (k0 := 7) (C0 := RX10) (T := TX10) (N := 13) (hX 0 (by decide)) rfl rfl hiX10_draw_10 (by decide) (List.mem_of_getElem? (i := 2) rfl) rfl dX10_draw_14 ?_
    refine g_aload_n 0 dX10_draw_17 rfl ?_
    refine g_getK (ci := 10) (k0 := 4) (C0 := RX10) (T := TX10) (N := 13) (hX 0 (by decide)) rfl rfl hiX10_draw_10 (by decide) (List.mem_of_getElem? (i := 1) rfl) rfl dX10_draw_18 ?_
    refine g_cVi (ci := 9) (C0 := RX9) (T := TX9) (N := 8) (n := 0) (As := []) (rest := [.ref (gad G 44)]) hF (tX9_total hG hF hX hQ S_2) gX10_draw_X9_total rfl (hX 32 (by decide)) rfl rfl ⟨rfl, by decide +kernel, by decide +kernel, by decide +kernel⟩ rfl (gRm_ok (by decide) (by decide)) rfl (Nat.le_of_ble_eq_true rfl) dX10_draw_21 (fun v_3 S_4 => ?_)
    refine g_cVi (ci := 2) (C0 := RX2) (T := TX2) (N := 1) (n := 1) (As := [.int v_3]) (rest := []) hF (tX2_nextBelow hG hF hX hQ v_3 S_4) gX10_draw_X2_nextBelow rfl (hX 44 (by decide)) rfl rfl ⟨rfl, by decide +kernel, by decide +kernel, by decide +kernel⟩ rfl (gRm_ok (by decide) (by decide)) rfl (Nat.le_of_ble_eq_true rfl) dX10_draw_24 (fun v_5 S_6 => ?_)
    refine g_istore_n (i := 1) (env' := [(1, .int v_5), (0, .ref (gad G 0))]) dX10_draw_27 rfl (by decide) rfl ?_
    refine g_aload_n 1 dX10_draw_28 rfl ?_
    refine g_getK (ci := 10) (k0 := 5) (C0 := RX10) (T := TX10) (N := 13) (hX 0 (by decide)) rfl rfl hiX10_draw_10 (by decide) (List.mem_of_getElem? (i := 3) rfl) rfl dX10_draw_29 ?_
    refine g_aload_n 1 dX10_draw_32 rfl ?_
    refine g_getK (ci := 10) (k0 := 4) (C0 := RX10) (T := TX10) (N := 13) (hX 0 (by decide)) rfl rfl hiX10_draw_10 (by decide) (List.mem_of_getElem? (i := 1) rfl) rfl dX10_draw_33 ?_
    refine g_iload_n 0 dX10_draw_36 rfl ?_
    refine g_cVi (ci := 9) (C0 := RX9) (T := TX9) (N := 8) (n := 1) (As := [.int v_5]) (rest := [.ref (gad G 36)]) hF (tX9_codeAt hG hF hX hQ v_5 S_6) gX10_draw_X9_codeAt rfl (hX 32 (by decide)) rfl rfl ⟨rfl, by decide +kernel, by decide +kernel, by decide +kernel⟩ rfl (gRm_ok (by decide) (by decide)) rfl (Nat.le_of_ble_eq_true rfl) dX10_draw_37 (fun v_7 S_8 => ?_)
    refine g_cVv (ci := 7) (C0 := RX7) (T := TX7) (N := 5) (n := 1) (As := [.int v_7]) (rest := []) hF (tX7_standAs hG hF hX hQ (rfl : gIsSt 36 = true) v_7 S_8) gX10_draw_X7_standAs rfl (gSt_m hX (rfl : gIsSt 36 = true)) (gSt_l (rfl : gIsSt 36 = true)) rfl ⟨rfl, by decide +kernel, by decide +kernel, by decide +kernel⟩ rfl (gRm_ok (by decide) (by decide)) rfl (Nat.le_of_ble_eq_true rfl) dX10_draw_40 (fun S_9 => ?_)
    refine g_iload_n 0 dX10_draw_43 rfl ?_
    exact g_iret dX10_draw_44 rfl
  · refine g_bipush (v := (-2)) dX10_draw_10 (by decide) ?_
    exact g_iret dX10_draw_12 rfl
set_option maxRecDepth 100000 in
set_option maxHeartbeats 4000000 in
theorem tX10_draw {G : gGG} {F : State → Heap → Prop} (hG : gOK G) (hF : gSb G F) (hX : gPX G) (hQ : gOQ G) (S : gSt) : gCt G F yX10_draw wsX10_draw 53 [.ref (gad G 0)] S ((fX10_draw S).map (fun x => (some (.int x.1), x.2))) := g_met (by decide +kernel) rfl (Nat.le_of_ble_eq_true rfl) (tX10_draw_L hG hF hX hQ S)
/-! X10_lot -/
theorem hiX10_lot_10 : ∀ w ∈ u_ws RX10 TX10 13, w ∈ wsX10_lot := fun _ hw => List.mem_cons_of_mem _ (List.mem_append_left _ (List.mem_append_right _ (hw)))
set_option maxRecDepth 100000 in
set_option maxHeartbeats 4000000 in
theorem tX10_lot_L {G : gGG} {F : State → Heap → Prop} (hG : gOK G) (hF : gSb G F) (hX : gPX G) (hQ : gOQ G) (a1 : Int32) (S : gSt) : Gof G F RX10 cX10_lot 3 wsX10_lot (some .int) (gRm 1) 0 0 (gQ G (fun x => (some (.int x.1), x.2))) 0 [(0, .ref (gad G 0)), (1, .int a1)] [] S (fX10_lot a1 S) := by
  unfold fX10_lot
  refine g_aload_n 0 dX10_lot_0 rfl ?_
  refine g_getK (ci := 10) (k0 := 7) (C0 := RX10) (T := TX10) (N := 13) (hX 0 (by decide)) rfl rfl hiX10_lot_10 (by decide) (List.mem_of_getElem? (i := 1) rfl) rfl dX10_lot_1 ?_
  refine g_cVp (ci := 2) (C0 := RX2) (T := TX2) (N := 1) (n := 0) (As := []) (rest := []) hF (tX2_value hG hF hX hQ S) gX10_lot_X2_value rfl (hX 44 (by decide)) rfl rfl ⟨rfl, by decide +kernel, by decide +kernel, by decide +kernel⟩ rfl (gRm_ok (by decide) (by decide)) rfl (Nat.le_of_ble_eq_true rfl) dX10_lot_4 (fun v_1 => ?_)
  refine g_istore_n (i := 2) (env' := [(2, .int v_1), (0, .ref (gad G 0)), (1, .int a1)]) dX10_lot_7 rfl (by decide) rfl ?_
  refine g_aload_n 1 dX10_lot_8 rfl ?_
  refine g_getK (ci := 10) (k0 := 7) (C0 := RX10) (T := TX10) (N := 13) (hX 0 (by decide)) rfl rfl hiX10_lot_10 (by decide) (List.mem_of_getElem? (i := 1) rfl) rfl dX10_lot_9 ?_
  refine g_iload_n 2 dX10_lot_12 rfl ?_
  refine g_cVv (ci := 2) (C0 := RX2) (T := TX2) (N := 1) (n := 1) (As := [.int a1]) (rest := []) hF (tX2_become hG hF hX hQ a1 S) gX10_lot_X2_become rfl (hX 44 (by decide)) rfl rfl ⟨rfl, by decide +kernel, by decide +kernel, by decide +kernel⟩ rfl (gRm_ok (by decide) (by decide)) rfl (Nat.le_of_ble_eq_true rfl) dX10_lot_13 (fun S_2 => ?_)
  refine g_iload_n 0 dX10_lot_16 rfl ?_
  exact g_iret dX10_lot_17 rfl
set_option maxRecDepth 100000 in
set_option maxHeartbeats 4000000 in
theorem tX10_lot {G : gGG} {F : State → Heap → Prop} (hG : gOK G) (hF : gSb G F) (hX : gPX G) (hQ : gOQ G) (a1 : Int32) (S : gSt) : gCt G F yX10_lot wsX10_lot 1 [.ref (gad G 0), .int a1] S ((fX10_lot a1 S).map (fun x => (some (.int x.1), x.2))) := g_met (by decide +kernel) rfl (Nat.le_of_ble_eq_true rfl) (tX10_lot_L hG hF hX hQ a1 S)
/-! X10_saw -/
theorem hiX10_saw_10 : ∀ w ∈ u_ws RX10 TX10 13, w ∈ wsX10_saw := fun _ hw => List.mem_cons_of_mem _ (List.mem_append_left _ (List.mem_append_left _ (List.mem_append_right _ (hw))))
set_option maxRecDepth 100000 in
set_option maxHeartbeats 4000000 in
theorem tX10_saw_L49 {G : gGG} {F : State → Heap → Prop} (hG : gOK G) (hF : gSb G F) (hX : gPX G) (hQ : gOQ G) (s1 : Int32) (s2 : Int32) (s3 : Int32) (S : gSt) : Gof G F RX10 cX10_saw 4 wsX10_saw (some .int) (gRm 3) 0 0 (gQ G (fun x => (some (.int x.1), x.2))) 49 [(0, .ref (gad G 0))] [.int s3, .int s2, .int s1, .ref (gad G 40)] S (fX10_saw_L49 s1 s2 s3 S) := by
  unfold fX10_saw_L49
  refine g_cVv (ci := 6) (C0 := RX6) (T := TX6) (N := 4) (n := 3) (As := [.int s1, .int s2, .int s3]) (rest := []) hF (tX6_add hG hF hX hQ (rfl : gIsSi 40 = true) s1 s2 s3 S) gX10_saw_X6_add rfl (gSi_m hX (rfl : gIsSi 40 = true)) (gSi_l (rfl : gIsSi 40 = true)) rfl ⟨rfl, by decide +kernel, by decide +kernel, by decide +kernel⟩ rfl (gRm_ok (by decide) (by decide)) rfl (Nat.le_of_ble_eq_true rfl) dX10_saw_49 (fun S_1 => ?_)
  refine g_aload_n 0 dX10_saw_52 rfl ?_
  refine g_getK (ci := 10) (k0 := 6) (C0 := RX10) (T := TX10) (N := 13) (hX 0 (by decide)) rfl rfl hiX10_saw_10 (by decide) (List.mem_of_getElem? (i := 1) rfl) rfl dX10_saw_53 ?_
  refine g_cVp (ci := 6) (C0 := RX6) (T := TX6) (N := 4) (n := 0) (As := []) (rest := []) hF (tX6_size hG hF hX hQ (rfl : gIsSi 40 = true) S_1) gX10_saw_X6_size rfl (gSi_m hX (rfl : gIsSi 40 = true)) (gSi_l (rfl : gIsSi 40 = true)) rfl ⟨rfl, by decide +kernel, by decide +kernel, by decide +kernel⟩ rfl (gRm_ok (by decide) (by decide)) rfl (Nat.le_of_ble_eq_true rfl) dX10_saw_56 (fun v_2 => ?_)
  exact g_iret dX10_saw_59 rfl
set_option maxRecDepth 100000 in
set_option maxHeartbeats 4000000 in
theorem tX10_saw_L {G : gGG} {F : State → Heap → Prop} (hG : gOK G) (hF : gSb G F) (hX : gPX G) (hQ : gOQ G) (a1 : Int32) (a2 : Int32) (a3 : Int32) (S : gSt) : Gof G F RX10 cX10_saw 4 wsX10_saw (some .int) (gRm 3) 0 0 (gQ G (fun x => (some (.int x.1), x.2))) 0 [(0, .ref (gad G 0)), (1, .int a1), (2, .int a2), (3, .int a3)] [] S (fX10_saw a1 a2 a3 S) := by
  unfold fX10_saw
  refine g_aload_n 0 dX10_saw_0 rfl ?_
  refine g_iload_n 1 dX10_saw_1 rfl ?_
  refine g_iload_n 2 dX10_saw_2 rfl ?_
  refine g_cVp (ci := 10) (C0 := RX10) (T := TX10) (N := 13) (n := 2) (As := [.int a1, .int a2]) (rest := []) hF (tX10_areTwoGuests hG hF hX hQ a1 a2 S) gX10_saw_X10_areTwoGuests rfl (hX 0 (by decide)) rfl rfl ⟨rfl, by decide +kernel, by decide +kernel, by decide +kernel⟩ rfl (gRm_ok (by decide) (by decide)) rfl (Nat.le_of_ble_eq_true rfl) dX10_saw_3 (fun v_1 => ?_)
  refine g_if_eq (tgt := 18) dX10_saw_6 (by decide) (fun h_1 => ?_) (fun h_1 => ?_)
  · refine g_iconst (v := (-1)) dX10_saw_18 (by decide) ?_
    exact g_iret dX10_saw_19 rfl
  · refine g_iload_n 3 dX10_saw_9 rfl ?_
    refine g_if_lt (tgt := 18) dX10_saw_10 (by decide) (fun h_2 => ?_) (fun h_2 => ?_)
    · refine g_iconst (v := (-1)) dX10_saw_18 (by decide) ?_
      exact g_iret dX10_saw_19 rfl
    · refine g_iload_n 3 dX10_saw_13 rfl ?_
      refine g_iconst (v := 1) dX10_saw_14 (by decide) ?_
      refine g_icmp_le (tgt := 20) dX10_saw_15 (by decide) (fun h_3 => ?_) (fun h_3 => ?_)
      · refine g_aload_n 0 dX10_saw_20 rfl ?_
        refine g_getK (ci := 10) (k0 := 6) (C0 := RX10) (T := TX10) (N := 13) (hX 0 (by decide)) rfl rfl hiX10_saw_10 (by decide) (List.mem_of_getElem? (i := 1) rfl) rfl dX10_saw_21 ?_
        refine g_cVp (ci := 6) (C0 := RX6) (T := TX6) (N := 4) (n := 0) (As := []) (rest := []) hF (tX6_areFull hG hF hX hQ (rfl : gIsSi 40 = true) S) gX10_saw_X6_areFull rfl (gSi_m hX (rfl : gIsSi 40 = true)) (gSi_l (rfl : gIsSi 40 = true)) rfl ⟨rfl, by decide +kernel, by decide +kernel, by decide +kernel⟩ rfl (gRm_ok (by decide) (by decide)) rfl (Nat.le_of_ble_eq_true rfl) dX10_saw_24 (fun v_2 => ?_)
        refine g_if_eq (tgt := 33) dX10_saw_27 (by decide) (fun h_4 => ?_) (fun h_4 => ?_)
        · refine g_aload_n 0 dX10_saw_33 rfl ?_
          refine g_getK (ci := 10) (k0 := 6) (C0 := RX10) (T := TX10) (N := 13) (hX 0 (by decide)) rfl rfl hiX10_saw_10 (by decide) (List.mem_of_getElem? (i := 1) rfl) rfl dX10_saw_34 ?_
          refine g_iload_n 1 dX10_saw_37 rfl ?_
          refine g_iload_n 2 dX10_saw_38 rfl ?_
          refine g_iload_n 3 dX10_saw_39 rfl ?_
          refine g_iconst (v := 1) dX10_saw_40 (by decide) ?_
          refine g_icmp_ne (tgt := 48) dX10_saw_41 (by decide) (fun h_5 => ?_) (fun h_5 => ?_)
          · refine g_iconst (v := 0) dX10_saw_48 (by decide) ?_
            refine g_env (env' := [(0, .ref (gad G 0))]) [0] rfl ?_
            exact tX10_saw_L49 hG hF hX hQ a1 a2 0 S
          · refine g_iconst (v := 1) dX10_saw_44 (by decide) ?_
            refine g_goto (tgt := 49) dX10_saw_45 (by decide) ?_
            refine g_env (env' := [(0, .ref (gad G 0))]) [0] rfl ?_
            exact tX10_saw_L49 hG hF hX hQ a1 a2 1 S
        · refine g_bipush (v := (-3)) dX10_saw_30 (by decide) ?_
          exact g_iret dX10_saw_32 rfl
      · refine g_iconst (v := (-1)) dX10_saw_18 (by decide) ?_
        exact g_iret dX10_saw_19 rfl
set_option maxRecDepth 100000 in
set_option maxHeartbeats 4000000 in
theorem tX10_saw {G : gGG} {F : State → Heap → Prop} (hG : gOK G) (hF : gSb G F) (hX : gPX G) (hQ : gOQ G) (a1 : Int32) (a2 : Int32) (a3 : Int32) (S : gSt) : gCt G F yX10_saw wsX10_saw 3 [.ref (gad G 0), .int a1, .int a2, .int a3] S ((fX10_saw a1 a2 a3 S).map (fun x => (some (.int x.1), x.2))) := g_met (by decide +kernel) rfl (Nat.le_of_ble_eq_true rfl) (tX10_saw_L hG hF hX hQ a1 a2 a3 S)
/-! X10_forget -/
theorem hiX10_forget_10 : ∀ w ∈ u_ws RX10 TX10 13, w ∈ wsX10_forget := fun _ hw => List.mem_cons_of_mem _ (List.mem_append_left _ (List.mem_append_right _ (hw)))
set_option maxRecDepth 100000 in
set_option maxHeartbeats 4000000 in
theorem tX10_forget_L {G : gGG} {F : State → Heap → Prop} (hG : gOK G) (hF : gSb G F) (hX : gPX G) (hQ : gOQ G) (S : gSt) : Gof G F RX10 cX10_forget 2 wsX10_forget (some .int) (gRm 1) 0 0 (gQ G (fun x => (some (.int x.1), x.2))) 0 [(0, .ref (gad G 0))] [] S (fX10_forget S) := by
  unfold fX10_forget
  refine g_aload_n 0 dX10_forget_0 rfl ?_
  refine g_getK (ci := 10) (k0 := 6) (C0 := RX10) (T := TX10) (N := 13) (hX 0 (by decide)) rfl rfl hiX10_forget_10 (by decide) (List.mem_of_getElem? (i := 1) rfl) rfl dX10_forget_1 ?_
  refine g_cVp (ci := 6) (C0 := RX6) (T := TX6) (N := 4) (n := 0) (As := []) (rest := []) hF (tX6_size hG hF hX hQ (rfl : gIsSi 40 = true) S) gX10_forget_X6_size rfl (gSi_m hX (rfl : gIsSi 40 = true)) (gSi_l (rfl : gIsSi 40 = true)) rfl ⟨rfl, by decide +kernel, by decide +kernel, by decide +kernel⟩ rfl (gRm_ok (by decide) (by decide)) rfl (Nat.le_of_ble_eq_true rfl) dX10_forget_4 (fun v_1 => ?_)
  refine g_istore_n (i := 1) (env' := [(1, .int v_1), (0, .ref (gad G 0))]) dX10_forget_7 rfl (by decide) rfl ?_
  refine g_aload_n 1 dX10_forget_8 rfl ?_
  refine g_getK (ci := 10) (k0 := 6) (C0 := RX10) (T := TX10) (N := 13) (hX 0 (by decide)) rfl rfl hiX10_forget_10 (by decide) (List.mem_of_getElem? (i := 1) rfl) rfl dX10_forget_9 ?_
  refine g_cVv (ci := 6) (C0 := RX6) (T := TX6) (N := 4) (n := 0) (As := []) (rest := []) hF (tX6_empty hG hF hX hQ (rfl : gIsSi 40 = true) S) gX10_forget_X6_empty rfl (gSi_m hX (rfl : gIsSi 40 = true)) (gSi_l (rfl : gIsSi 40 = true)) rfl ⟨rfl, by decide +kernel, by decide +kernel, by decide +kernel⟩ rfl (gRm_ok (by decide) (by decide)) rfl (Nat.le_of_ble_eq_true rfl) dX10_forget_12 (fun S_2 => ?_)
  refine g_iload_n 0 dX10_forget_15 rfl ?_
  exact g_iret dX10_forget_16 rfl
set_option maxRecDepth 100000 in
set_option maxHeartbeats 4000000 in
theorem tX10_forget {G : gGG} {F : State → Heap → Prop} (hG : gOK G) (hF : gSb G F) (hX : gPX G) (hQ : gOQ G) (S : gSt) : gCt G F yX10_forget wsX10_forget 1 [.ref (gad G 0)] S ((fX10_forget S).map (fun x => (some (.int x.1), x.2))) := g_met (by decide +kernel) rfl (Nat.le_of_ble_eq_true rfl) (tX10_forget_L hG hF hX hQ S)
/-! X10_left -/
theorem hiX10_left_10 : ∀ w ∈ u_ws RX10 TX10 13, w ∈ wsX10_left := fun _ hw => List.mem_cons_of_mem _ (List.mem_append_left _ (List.mem_append_left _ (List.mem_append_left _ (List.mem_append_right _ (hw)))))
set_option maxRecDepth 100000 in
set_option maxHeartbeats 4000000 in
theorem tX10_left_L {G : gGG} {F : State → Heap → Prop} (hG : gOK G) (hF : gSb G F) (hX : gPX G) (hQ : gOQ G) (S : gSt) : Gof G F RX10 cX10_left 1 wsX10_left (some .int) (gRm 53) 0 0 (gQ G (fun x => (some (.int x.1), x.2))) 0 [(0, .ref (gad G 0))] [] S (fX10_left S) := by
  unfold fX10_left
  refine g_aload_n 0 dX10_left_0 rfl ?_
  refine g_getK (ci := 10) (k0 := 4) (C0 := RX10) (T := TX10) (N := 13) (hX 0 (by decide)) rfl rfl hiX10_left_10 (by decide) (List.mem_of_getElem? (i := 1) rfl) rfl dX10_left_1 ?_
  refine g_aload_n 0 dX10_left_4 rfl ?_
  refine g_getK (ci := 10) (k0 := 6) (C0 := RX10) (T := TX10) (N := 13) (hX 0 (by decide)) rfl rfl hiX10_left_10 (by decide) (List.mem_of_getElem? (i := 2) rfl) rfl dX10_left_5 ?_
  refine g_cVi (ci := 9) (C0 := RX9) (T := TX9) (N := 8) (n := 1) (As := [.ref (gad G 40)]) (rest := []) hF (tX9_fitting hG hF hX hQ (rfl : gIsSi 40 = true) S) gX10_left_X9_fitting rfl (hX 32 (by decide)) rfl rfl ⟨rfl, by decide +kernel, by decide +kernel, by decide +kernel⟩ rfl (gRm_ok (by decide) (by decide)) rfl (Nat.le_of_ble_eq_true rfl) dX10_left_8 (fun v_1 S_2 => ?_)
  exact g_iret dX10_left_11 rfl
set_option maxRecDepth 100000 in
set_option maxHeartbeats 4000000 in
theorem tX10_left {G : gGG} {F : State → Heap → Prop} (hG : gOK G) (hF : gSb G F) (hX : gPX G) (hQ : gOQ G) (S : gSt) : gCt G F yX10_left wsX10_left 53 [.ref (gad G 0)] S ((fX10_left S).map (fun x => (some (.int x.1), x.2))) := g_met (by decide +kernel) rfl (Nat.le_of_ble_eq_true rfl) (tX10_left_L hG hF hX hQ S)
/-! X10_sure -/
theorem hiX10_sure_10 : ∀ w ∈ u_ws RX10 TX10 13, w ∈ wsX10_sure := fun _ hw => List.mem_cons_of_mem _ (List.mem_append_left _ (List.mem_append_left _ (List.mem_append_left _ (List.mem_append_right _ (hw)))))
set_option maxRecDepth 100000 in
set_option maxHeartbeats 4000000 in
theorem tX10_sure_L {G : gGG} {F : State → Heap → Prop} (hG : gOK G) (hF : gSb G F) (hX : gPX G) (hQ : gOQ G) (a1 : Int32) (a2 : Int32) (S : gSt) : Gof G F RX10 cX10_sure 3 wsX10_sure (some .int) (gRm 53) 0 0 (gQ G (fun x => (some (.int x.1), x.2))) 0 [(0, .ref (gad G 0)), (1, .int a1), (2, .int a2)] [] S (fX10_sure a1 a2 S) := by
  unfold fX10_sure
  refine g_aload_n 0 dX10_sure_0 rfl ?_
  refine g_iload_n 1 dX10_sure_1 rfl ?_
  refine g_iload_n 2 dX10_sure_2 rfl ?_
  refine g_cVp (ci := 10) (C0 := RX10) (T := TX10) (N := 13) (n := 2) (As := [.int a1, .int a2]) (rest := []) hF (tX10_areTwoGuests hG hF hX hQ a1 a2 S) gX10_sure_X10_areTwoGuests rfl (hX 0 (by decide)) rfl rfl ⟨rfl, by decide +kernel, by decide +kernel, by decide +kernel⟩ rfl (gRm_ok (by decide) (by decide)) rfl (Nat.le_of_ble_eq_true rfl) dX10_sure_3 (fun v_1 => ?_)
  refine g_if_eq (tgt := 25) dX10_sure_6 (by decide) (fun h_1 => ?_) (fun h_1 => ?_)
  · refine g_iconst (v := (-1)) dX10_sure_25 (by decide) ?_
    exact g_iret dX10_sure_26 rfl
  · refine g_aload_n 0 dX10_sure_9 rfl ?_
    refine g_getK (ci := 10) (k0 := 4) (C0 := RX10) (T := TX10) (N := 13) (hX 0 (by decide)) rfl rfl hiX10_sure_10 (by decide) (List.mem_of_getElem? (i := 1) rfl) rfl dX10_sure_10 ?_
    refine g_aload_n 0 dX10_sure_13 rfl ?_
    refine g_getK (ci := 10) (k0 := 6) (C0 := RX10) (T := TX10) (N := 13) (hX 0 (by decide)) rfl rfl hiX10_sure_10 (by decide) (List.mem_of_getElem? (i := 2) rfl) rfl dX10_sure_14 ?_
    refine g_iload_n 1 dX10_sure_17 rfl ?_
    refine g_iload_n 2 dX10_sure_18 rfl ?_
    refine g_cVi (ci := 9) (C0 := RX9) (T := TX9) (N := 8) (n := 3) (As := [.ref (gad G 40), .int a1, .int a2]) (rest := []) hF (tX9_certain hG hF hX hQ (rfl : gIsSi 40 = true) a1 a2 S) gX10_sure_X9_certain rfl (hX 32 (by decide)) rfl rfl ⟨rfl, by decide +kernel, by decide +kernel, by decide +kernel⟩ rfl (gRm_ok (by decide) (by decide)) rfl (Nat.le_of_ble_eq_true rfl) dX10_sure_19 (fun v_2 S_3 => ?_)
    refine g_goto (tgt := 26) dX10_sure_22 (by decide) ?_
    exact g_iret dX10_sure_26 rfl
set_option maxRecDepth 100000 in
set_option maxHeartbeats 4000000 in
theorem tX10_sure {G : gGG} {F : State → Heap → Prop} (hG : gOK G) (hF : gSb G F) (hX : gPX G) (hQ : gOQ G) (a1 : Int32) (a2 : Int32) (S : gSt) : gCt G F yX10_sure wsX10_sure 53 [.ref (gad G 0), .int a1, .int a2] S ((fX10_sure a1 a2 S).map (fun x => (some (.int x.1), x.2))) := g_met (by decide +kernel) rfl (Nat.le_of_ble_eq_true rfl) (tX10_sure_L hG hF hX hQ a1 a2 S)
/-! X10_isImage -/
set_option maxRecDepth 100000 in
set_option maxHeartbeats 4000000 in
theorem tX10_isImage_L {G : gGG} {F : State → Heap → Prop} (hG : gOK G) (hF : gSb G F) (hX : gPX G) (hQ : gOQ G) (a0 : Int32) (S : gSt) : Gof G F RX10 cX10_isImage 1 wsX10_isImage (some .boolean) (gRm 0) 0 0 (gQ G (fun x => (some (.int x), S))) 0 [(0, .int a0)] [] S (fX10_isImage a0 S) := by
  unfold fX10_isImage
  refine g_iload_n 0 dX10_isImage_0 rfl ?_
  refine g_if_eq (tgt := 9) dX10_isImage_1 (by decide) (fun h_1 => ?_) (fun h_1 => ?_)
  · refine g_iconst (v := 1) dX10_isImage_9 (by decide) ?_
    refine g_goto (tgt := 14) dX10_isImage_10 (by decide) ?_
    exact g_zret (by decide) dX10_isImage_14 rfl
  · refine g_iload_n 0 dX10_isImage_4 rfl ?_
    refine g_iconst (v := 1) dX10_isImage_5 (by decide) ?_
    refine g_icmp_ne (tgt := 13) dX10_isImage_6 (by decide) (fun h_2 => ?_) (fun h_2 => ?_)
    · refine g_iconst (v := 0) dX10_isImage_13 (by decide) ?_
      exact g_zret (by decide) dX10_isImage_14 rfl
    · refine g_iconst (v := 1) dX10_isImage_9 (by decide) ?_
      refine g_goto (tgt := 14) dX10_isImage_10 (by decide) ?_
      exact g_zret (by decide) dX10_isImage_14 rfl
set_option maxRecDepth 100000 in
set_option maxHeartbeats 4000000 in
theorem tX10_isImage {G : gGG} {F : State → Heap → Prop} (hG : gOK G) (hF : gSb G F) (hX : gPX G) (hQ : gOQ G) (a0 : Int32) (S : gSt) : gCt G F yX10_isImage wsX10_isImage 0 [.int a0] S ((fX10_isImage a0 S).map (fun x => (some (.int x), S))) := g_met (by decide +kernel) rfl (Nat.le_of_ble_eq_true rfl) (tX10_isImage_L hG hF hX hQ a0 S)
/-! X10_imageOf -/
theorem hiX10_imageOf_10 : ∀ w ∈ u_ws RX10 TX10 13, w ∈ wsX10_imageOf := fun _ hw => List.mem_cons_of_mem _ (List.mem_append_right _ (hw))
set_option maxRecDepth 100000 in
set_option maxHeartbeats 4000000 in
theorem tX10_imageOf_L {G : gGG} {F : State → Heap → Prop} (hG : gOK G) (hF : gSb G F) (hX : gPX G) (hQ : gOQ G) (a1 : Int32) (S : gSt) : Gof G F RX10 cX10_imageOf 2 wsX10_imageOf (some (.object "GuestParties$Image")) (gRm 0) 0 0 (gQ G (fun x => (some (.ref (gad G x)), S))) 0 [(0, .ref (gad G 0)), (1, .int a1)] [] S (fX10_imageOf a1 S) := by
  unfold fX10_imageOf
  refine g_iload_n 1 dX10_imageOf_0 rfl ?_
  refine g_if_ne (tgt := 11) dX10_imageOf_1 (by decide) (fun h_1 => ?_) (fun h_1 => ?_)
  · refine g_aload_n 0 dX10_imageOf_11 rfl ?_
    refine g_getK (ci := 10) (k0 := 9) (C0 := RX10) (T := TX10) (N := 13) (hX 0 (by decide)) rfl rfl hiX10_imageOf_10 (by decide) (List.mem_of_getElem? (i := 2) rfl) rfl dX10_imageOf_12 ?_
    exact g_aret dX10_imageOf_15 rfl
  · refine g_aload_n 0 dX10_imageOf_4 rfl ?_
    refine g_getK (ci := 10) (k0 := 8) (C0 := RX10) (T := TX10) (N := 13) (hX 0 (by decide)) rfl rfl hiX10_imageOf_10 (by decide) (List.mem_of_getElem? (i := 1) rfl) rfl dX10_imageOf_5 ?_
    refine g_goto (tgt := 15) dX10_imageOf_8 (by decide) ?_
    exact g_aret dX10_imageOf_15 rfl
set_option maxRecDepth 100000 in
set_option maxHeartbeats 4000000 in
theorem tX10_imageOf {G : gGG} {F : State → Heap → Prop} (hG : gOK G) (hF : gSb G F) (hX : gPX G) (hQ : gOQ G) (a1 : Int32) (S : gSt) : gCt G F yX10_imageOf wsX10_imageOf 0 [.ref (gad G 0), .int a1] S ((fX10_imageOf a1 S).map (fun x => (some (.ref (gad G x)), S))) := g_met (by decide +kernel) rfl (Nat.le_of_ble_eq_true rfl) (tX10_imageOf_L hG hF hX hQ a1 S)
/-! X10_two -/
theorem hiX10_two_10 : ∀ w ∈ u_ws RX10 TX10 13, w ∈ wsX10_two := fun _ hw => List.mem_cons_of_mem _ (List.mem_append_left _ (List.mem_append_left _ (List.mem_append_left _ (List.mem_append_left _ (List.mem_append_right _ (hw))))))
set_option maxRecDepth 100000 in
set_option maxHeartbeats 4000000 in
theorem tX10_two_L {G : gGG} {F : State → Heap → Prop} (hG : gOK G) (hF : gSb G F) (hX : gPX G) (hQ : gOQ G) (a1 : Int32) (a2 : Int32) (a3 : Int32) (S : gSt) : Gof G F RX10 cX10_two 5 wsX10_two (some .int) (gRm 5) 0 0 (gQ G (fun x => (some (.int x.1), x.2))) 0 [(0, .ref (gad G 0)), (1, .int a1), (2, .int a2), (3, .int a3)] [] S (fX10_two a1 a2 a3 S) := by
  unfold fX10_two
  refine g_iload_n 1 dX10_two_0 rfl ?_
  refine g_cSp (n := 1) (As := [.int a1]) (rest := []) hF (tX10_isImage hG hF hX hQ a1 S) gX10_two_X10_isImage rfl ⟨by decide +kernel, by decide +kernel, by decide +kernel⟩ rfl (gRm_ok (by decide) (by decide)) rfl (Nat.le_of_ble_eq_true rfl) dX10_two_1 (fun v_1 => ?_)
  refine g_if_eq (tgt := 24) dX10_two_4 (by decide) (fun h_1 => ?_) (fun h_1 => ?_)
  · refine g_iconst (v := (-1)) dX10_two_24 (by decide) ?_
    exact g_iret dX10_two_25 rfl
  · refine g_iload_n 2 dX10_two_7 rfl ?_
    refine g_if_lt (tgt := 24) dX10_two_8 (by decide) (fun h_2 => ?_) (fun h_2 => ?_)
    · refine g_iconst (v := (-1)) dX10_two_24 (by decide) ?_
      exact g_iret dX10_two_25 rfl
    · refine g_iload_n 2 dX10_two_11 rfl ?_
      refine g_iconst (v := 1) dX10_two_12 (by decide) ?_
      refine g_icmp_gt (tgt := 24) dX10_two_13 (by decide) (fun h_3 => ?_) (fun h_3 => ?_)
      · refine g_iconst (v := (-1)) dX10_two_24 (by decide) ?_
        exact g_iret dX10_two_25 rfl
      · refine g_aload_n 0 dX10_two_16 rfl ?_
        refine g_iload_n 3 dX10_two_17 rfl ?_
        refine g_cVp (ci := 10) (C0 := RX10) (T := TX10) (N := 13) (n := 1) (As := [.int a3]) (rest := []) hF (tX10_isGuest hG hF hX hQ a3 S) gX10_two_X10_isGuest rfl (hX 0 (by decide)) rfl rfl ⟨rfl, by decide +kernel, by decide +kernel, by decide +kernel⟩ rfl (gRm_ok (by decide) (by decide)) rfl (Nat.le_of_ble_eq_true rfl) dX10_two_18 (fun v_2 => ?_)
        refine g_if_ne (tgt := 26) dX10_two_21 (by decide) (fun h_4 => ?_) (fun h_4 => ?_)
        · refine g_aload_n 0 dX10_two_26 rfl ?_
          refine g_iload_n 1 dX10_two_27 rfl ?_
          refine g_cVr (ci := 10) (C0 := RX10) (T := TX10) (N := 13) (n := 1) (As := [.int a1]) (rest := []) hF (tX10_imageOf hG hF hX hQ a1 S) gX10_two_X10_imageOf rfl (hX 0 (by decide)) rfl rfl ⟨rfl, by decide +kernel, by decide +kernel, by decide +kernel⟩ rfl (gRm_ok (by decide) (by decide)) rfl (Nat.le_of_ble_eq_true rfl) dX10_two_28 (fun q_3 => ?_)
          refine g_gC (fun h_5 => ?_)
          refine g_astore (i := 4) (env' := [(4, .ref (gad G q_3)), (0, .ref (gad G 0)), (1, .int a1), (2, .int a2), (3, .int a3)]) dX10_two_31 (by decide) rfl ?_
          refine g_aload 0 dX10_two_33 rfl ?_
          refine g_cVp (ci := 1) (C0 := RX1) (T := TX1) (N := 4) (n := 0) (As := []) (rest := []) hF (tX1_isKept hG hF hX hQ h_5 S) gX10_two_X1_isKept rfl (gIm_m hX h_5) (gIm_l h_5) rfl ⟨rfl, by decide +kernel, by decide +kernel, by decide +kernel⟩ rfl (gRm_ok (by decide) (by decide)) rfl (Nat.le_of_ble_eq_true rfl) dX10_two_35 (fun v_4 => ?_)
          refine g_if_ne (tgt := 44) dX10_two_38 (by decide) (fun h_6 => ?_) (fun h_6 => ?_)
          · refine g_aload_n 1 dX10_two_44 rfl ?_
            refine g_getK (ci := 10) (k0 := 10) (C0 := RX10) (T := TX10) (N := 13) (hX 0 (by decide)) rfl rfl hiX10_two_10 (by decide) (List.mem_of_getElem? (i := 1) rfl) rfl dX10_two_45 ?_
            refine g_aload_n 1 dX10_two_48 rfl ?_
            refine g_getK (ci := 10) (k0 := 5) (C0 := RX10) (T := TX10) (N := 13) (hX 0 (by decide)) rfl rfl hiX10_two_10 (by decide) (List.mem_of_getElem? (i := 2) rfl) rfl dX10_two_49 ?_
            refine g_aload 0 dX10_two_52 rfl ?_
            refine g_cVr (ci := 1) (C0 := RX1) (T := TX1) (N := 4) (n := 0) (As := []) (rest := [.ref (gad G 36), .ref (gad G 63)]) hF (tX1_standing hG hF hX hQ h_5 S) gX10_two_X1_standing rfl (gIm_m hX h_5) (gIm_l h_5) rfl ⟨rfl, by decide +kernel, by decide +kernel, by decide +kernel⟩ rfl (gRm_ok (by decide) (by decide)) rfl (Nat.le_of_ble_eq_true rfl) dX10_two_54 (fun q_5 => ?_)
            refine g_gC (fun h_7 => ?_)
            refine g_cVv (ci := 3) (C0 := RX3) (T := TX3) (N := 2) (n := 2) (As := [.ref (gad G 36), .ref (gad G q_5)]) (rest := []) hF (tX3_compare hG hF hX hQ (rfl : gIsSt 36 = true) h_7 S) gX10_two_X3_compare rfl (hX 63 (by decide)) rfl rfl ⟨rfl, by decide +kernel, by decide +kernel, by decide +kernel⟩ rfl (gRm_ok (by decide) (by decide)) rfl (Nat.le_of_ble_eq_true rfl) dX10_two_57 (fun S_6 => ?_)
            refine g_iload_n 3 dX10_two_60 rfl ?_
            refine g_if_ne (tgt := 78) dX10_two_61 (by decide) (fun h_8 => ?_) (fun h_8 => ?_)
            · refine g_aload_n 1 dX10_two_78 rfl ?_
              refine g_getK (ci := 10) (k0 := 10) (C0 := RX10) (T := TX10) (N := 13) (hX 0 (by decide)) rfl rfl hiX10_two_10 (by decide) (List.mem_of_getElem? (i := 1) rfl) rfl dX10_two_79 ?_
              refine g_cVr (ci := 3) (C0 := RX3) (T := TX3) (N := 2) (n := 0) (As := []) (rest := []) hF (tX3_coarser hG hF hX hQ S_6) gX10_two_X3_coarser rfl (hX 63 (by decide)) rfl rfl ⟨rfl, by decide +kernel, by decide +kernel, by decide +kernel⟩ rfl (gRm_ok (by decide) (by decide)) rfl (Nat.le_of_ble_eq_true rfl) dX10_two_82 (fun q_7 => ?_)
              refine g_gC (fun h_9 => ?_)
              refine g_iload_n 4 dX10_two_85 rfl ?_
              refine g_cVp (ci := 7) (C0 := RX7) (T := TX7) (N := 5) (n := 1) (As := [.int a3]) (rest := []) hF (tX7_partyOf hG hF hX hQ h_9 a3 S_6) gX10_two_X7_partyOf rfl (gSt_m hX h_9) (gSt_l h_9) rfl ⟨rfl, by decide +kernel, by decide +kernel, by decide +kernel⟩ rfl (gRm_ok (by decide) (by decide)) rfl (Nat.le_of_ble_eq_true rfl) dX10_two_86 (fun v_8 => ?_)
              exact g_iret dX10_two_89 rfl
            · refine g_aload_n 1 dX10_two_64 rfl ?_
              refine g_getK (ci := 10) (k0 := 10) (C0 := RX10) (T := TX10) (N := 13) (hX 0 (by decide)) rfl rfl hiX10_two_10 (by decide) (List.mem_of_getElem? (i := 1) rfl) rfl dX10_two_65 ?_
              refine g_cVr (ci := 3) (C0 := RX3) (T := TX3) (N := 2) (n := 0) (As := []) (rest := []) hF (tX3_finer hG hF hX hQ S_6) gX10_two_X3_finer rfl (hX 63 (by decide)) rfl rfl ⟨rfl, by decide +kernel, by decide +kernel, by decide +kernel⟩ rfl (gRm_ok (by decide) (by decide)) rfl (Nat.le_of_ble_eq_true rfl) dX10_two_68 (fun q_9 => ?_)
              refine g_gC (fun h_10 => ?_)
              refine g_iload_n 4 dX10_two_71 rfl ?_
              refine g_cVp (ci := 7) (C0 := RX7) (T := TX7) (N := 5) (n := 1) (As := [.int a3]) (rest := []) hF (tX7_partyOf hG hF hX hQ h_10 a3 S_6) gX10_two_X7_partyOf rfl (gSt_m hX h_10) (gSt_l h_10) rfl ⟨rfl, by decide +kernel, by decide +kernel, by decide +kernel⟩ rfl (gRm_ok (by decide) (by decide)) rfl (Nat.le_of_ble_eq_true rfl) dX10_two_72 (fun v_10 => ?_)
              refine g_goto (tgt := 89) dX10_two_75 (by decide) ?_
              exact g_iret dX10_two_89 rfl
          · refine g_bipush (v := (-2)) dX10_two_41 (by decide) ?_
            exact g_iret dX10_two_43 rfl
        · refine g_iconst (v := (-1)) dX10_two_24 (by decide) ?_
          exact g_iret dX10_two_25 rfl
set_option maxRecDepth 100000 in
set_option maxHeartbeats 4000000 in
theorem tX10_two {G : gGG} {F : State → Heap → Prop} (hG : gOK G) (hF : gSb G F) (hX : gPX G) (hQ : gOQ G) (a1 : Int32) (a2 : Int32) (a3 : Int32) (S : gSt) : gCt G F yX10_two wsX10_two 5 [.ref (gad G 0), .int a1, .int a2, .int a3] S ((fX10_two a1 a2 a3 S).map (fun x => (some (.int x.1), x.2))) := g_met (by decide +kernel) rfl (Nat.le_of_ble_eq_true rfl) (tX10_two_L hG hF hX hQ a1 a2 a3 S)
/-! X10_between -/
theorem hiX10_between_10 : ∀ w ∈ u_ws RX10 TX10 13, w ∈ wsX10_between := fun _ hw => List.mem_cons_of_mem _ (List.mem_append_left _ (List.mem_append_left _ (List.mem_append_left _ (List.mem_append_right _ (hw)))))
set_option maxRecDepth 100000 in
set_option maxHeartbeats 4000000 in
theorem tX10_between_L {G : gGG} {F : State → Heap → Prop} (hG : gOK G) (hF : gSb G F) (hX : gPX G) (hQ : gOQ G) (hV : gVX G F) (a1 : Int32) (S : gSt) : Gof G F RX10 cX10_between 3 wsX10_between (some .int) (gRm 5) 0 0 (gQ G (fun x => (some (.int x.1), x.2))) 0 [(0, .ref (gad G 0)), (1, .int a1)] [] S (fX10_between a1 S) := by
  unfold fX10_between
  refine g_iload_n 1 dX10_between_0 rfl ?_
  refine g_cSp (n := 1) (As := [.int a1]) (rest := []) hF (tX10_isImage hG hF hX hQ a1 S) gX10_between_X10_isImage rfl ⟨by decide +kernel, by decide +kernel, by decide +kernel⟩ rfl (gRm_ok (by decide) (by decide)) rfl (Nat.le_of_ble_eq_true rfl) dX10_between_1 (fun v_1 => ?_)
  refine g_if_ne (tgt := 9) dX10_between_4 (by decide) (fun h_1 => ?_) (fun h_1 => ?_)
  · refine g_aload_n 0 dX10_between_9 rfl ?_
    refine g_iload_n 1 dX10_between_10 rfl ?_
    refine g_cVr (ci := 10) (C0 := RX10) (T := TX10) (N := 13) (n := 1) (As := [.int a1]) (rest := []) hF (tX10_imageOf hG hF hX hQ a1 S) gX10_between_X10_imageOf rfl (hX 0 (by decide)) rfl rfl ⟨rfl, by decide +kernel, by decide +kernel, by decide +kernel⟩ rfl (gRm_ok (by decide) (by decide)) rfl (Nat.le_of_ble_eq_true rfl) dX10_between_11 (fun q_2 => ?_)
    refine g_gC (fun h_2 => ?_)
    refine g_astore_n (i := 2) (env' := [(2, .ref (gad G q_2)), (0, .ref (gad G 0)), (1, .int a1)]) dX10_between_14 rfl (by decide) rfl ?_
    refine g_aload_n 0 dX10_between_15 rfl ?_
    refine g_cVp (ci := 1) (C0 := RX1) (T := TX1) (N := 4) (n := 0) (As := []) (rest := []) hF (tX1_isKept hG hF hX hQ h_2 S) gX10_between_X1_isKept rfl (gIm_m hX h_2) (gIm_l h_2) rfl ⟨rfl, by decide +kernel, by decide +kernel, by decide +kernel⟩ rfl (gRm_ok (by decide) (by decide)) rfl (Nat.le_of_ble_eq_true rfl) dX10_between_16 (fun v_3 => ?_)
    refine g_if_ne (tgt := 25) dX10_between_19 (by decide) (fun h_3 => ?_) (fun h_3 => ?_)
    · refine g_aload_n 1 dX10_between_25 rfl ?_
      refine g_getK (ci := 10) (k0 := 10) (C0 := RX10) (T := TX10) (N := 13) (hX 0 (by decide)) rfl rfl hiX10_between_10 (by decide) (List.mem_of_getElem? (i := 1) rfl) rfl dX10_between_26 ?_
      refine g_aload_n 1 dX10_between_29 rfl ?_
      refine g_getK (ci := 10) (k0 := 5) (C0 := RX10) (T := TX10) (N := 13) (hX 0 (by decide)) rfl rfl hiX10_between_10 (by decide) (List.mem_of_getElem? (i := 2) rfl) rfl dX10_between_30 ?_
      refine g_aload_n 0 dX10_between_33 rfl ?_
      refine g_cVr (ci := 1) (C0 := RX1) (T := TX1) (N := 4) (n := 0) (As := []) (rest := [.ref (gad G 36), .ref (gad G 63)]) hF (tX1_standing hG hF hX hQ h_2 S) gX10_between_X1_standing rfl (gIm_m hX h_2) (gIm_l h_2) rfl ⟨rfl, by decide +kernel, by decide +kernel, by decide +kernel⟩ rfl (gRm_ok (by decide) (by decide)) rfl (Nat.le_of_ble_eq_true rfl) dX10_between_34 (fun q_4 => ?_)
      refine g_gC (fun h_4 => ?_)
      refine g_cVv (ci := 3) (C0 := RX3) (T := TX3) (N := 2) (n := 2) (As := [.ref (gad G 36), .ref (gad G q_4)]) (rest := []) hF (tX3_compare hG hF hX hQ (rfl : gIsSt 36 = true) h_4 S) gX10_between_X3_compare rfl (hX 63 (by decide)) rfl rfl ⟨rfl, by decide +kernel, by decide +kernel, by decide +kernel⟩ rfl (gRm_ok (by decide) (by decide)) rfl (Nat.le_of_ble_eq_true rfl) dX10_between_37 (fun S_5 => ?_)
      refine g_aload_n 1 dX10_between_40 rfl ?_
      refine g_getK (ci := 10) (k0 := 10) (C0 := RX10) (T := TX10) (N := 13) (hX 0 (by decide)) rfl rfl hiX10_between_10 (by decide) (List.mem_of_getElem? (i := 1) rfl) rfl dX10_between_41 ?_
      refine g_cVp (ci := 3) (C0 := RX3) (T := TX3) (N := 2) (n := 0) (As := []) (rest := []) hF (tX3_standingsWithin hG hF hX hQ hV S_5) gX10_between_X3_standingsWithin rfl (hX 63 (by decide)) rfl rfl ⟨rfl, by decide +kernel, by decide +kernel, by decide +kernel⟩ rfl (gRm_ok (by decide) (by decide)) rfl (Nat.le_of_ble_eq_true rfl) dX10_between_44 (fun v_6 => ?_)
      exact g_iret dX10_between_47 rfl
    · refine g_bipush (v := (-2)) dX10_between_22 (by decide) ?_
      exact g_iret dX10_between_24 rfl
  · refine g_iconst (v := (-1)) dX10_between_7 (by decide) ?_
    exact g_iret dX10_between_8 rfl
set_option maxRecDepth 100000 in
set_option maxHeartbeats 4000000 in
theorem tX10_between {G : gGG} {F : State → Heap → Prop} (hG : gOK G) (hF : gSb G F) (hX : gPX G) (hQ : gOQ G) (hV : gVX G F) (a1 : Int32) (S : gSt) : gCt G F yX10_between wsX10_between 5 [.ref (gad G 0), .int a1] S ((fX10_between a1 S).map (fun x => (some (.int x.1), x.2))) := g_met (by decide +kernel) rfl (Nat.le_of_ble_eq_true rfl) (tX10_between_L hG hF hX hQ hV a1 S)
/-! X10_fewest -/
theorem hiX10_fewest_10 : ∀ w ∈ u_ws RX10 TX10 13, w ∈ wsX10_fewest := fun _ hw => List.mem_cons_of_mem _ (List.mem_append_left _ (List.mem_append_left _ (List.mem_append_right _ (hw))))
set_option maxRecDepth 100000 in
set_option maxHeartbeats 4000000 in
theorem tX10_fewest_L {G : gGG} {F : State → Heap → Prop} (hG : gOK G) (hF : gSb G F) (hX : gPX G) (hQ : gOQ G) (a1 : Int32) (S : gSt) : Gof G F RX10 cX10_fewest 3 wsX10_fewest (some .int) (gRm 52) 0 0 (gQ G (fun x => (some (.int x), S))) 0 [(0, .ref (gad G 0)), (1, .int a1)] [] S (fX10_fewest a1 S) := by
  unfold fX10_fewest
  refine g_iload_n 1 dX10_fewest_0 rfl ?_
  refine g_cSp (n := 1) (As := [.int a1]) (rest := []) hF (tX10_isImage hG hF hX hQ a1 S) gX10_fewest_X10_isImage rfl ⟨by decide +kernel, by decide +kernel, by decide +kernel⟩ rfl (gRm_ok (by decide) (by decide)) rfl (Nat.le_of_ble_eq_true rfl) dX10_fewest_1 (fun v_1 => ?_)
  refine g_if_ne (tgt := 9) dX10_fewest_4 (by decide) (fun h_1 => ?_) (fun h_1 => ?_)
  · refine g_aload_n 0 dX10_fewest_9 rfl ?_
    refine g_iload_n 1 dX10_fewest_10 rfl ?_
    refine g_cVr (ci := 10) (C0 := RX10) (T := TX10) (N := 13) (n := 1) (As := [.int a1]) (rest := []) hF (tX10_imageOf hG hF hX hQ a1 S) gX10_fewest_X10_imageOf rfl (hX 0 (by decide)) rfl rfl ⟨rfl, by decide +kernel, by decide +kernel, by decide +kernel⟩ rfl (gRm_ok (by decide) (by decide)) rfl (Nat.le_of_ble_eq_true rfl) dX10_fewest_11 (fun q_2 => ?_)
    refine g_gC (fun h_2 => ?_)
    refine g_astore_n (i := 2) (env' := [(2, .ref (gad G q_2)), (0, .ref (gad G 0)), (1, .int a1)]) dX10_fewest_14 rfl (by decide) rfl ?_
    refine g_aload_n 0 dX10_fewest_15 rfl ?_
    refine g_cVp (ci := 1) (C0 := RX1) (T := TX1) (N := 4) (n := 0) (As := []) (rest := []) hF (tX1_isKept hG hF hX hQ h_2 S) gX10_fewest_X1_isKept rfl (gIm_m hX h_2) (gIm_l h_2) rfl ⟨rfl, by decide +kernel, by decide +kernel, by decide +kernel⟩ rfl (gRm_ok (by decide) (by decide)) rfl (Nat.le_of_ble_eq_true rfl) dX10_fewest_16 (fun v_3 => ?_)
    refine g_if_ne (tgt := 25) dX10_fewest_19 (by decide) (fun h_3 => ?_) (fun h_3 => ?_)
    · refine g_aload_n 1 dX10_fewest_25 rfl ?_
      refine g_getK (ci := 10) (k0 := 5) (C0 := RX10) (T := TX10) (N := 13) (hX 0 (by decide)) rfl rfl hiX10_fewest_10 (by decide) (List.mem_of_getElem? (i := 1) rfl) rfl dX10_fewest_26 ?_
      refine g_aload_n 0 dX10_fewest_29 rfl ?_
      refine g_cVr (ci := 1) (C0 := RX1) (T := TX1) (N := 4) (n := 0) (As := []) (rest := [.ref (gad G 36)]) hF (tX1_standing hG hF hX hQ h_2 S) gX10_fewest_X1_standing rfl (gIm_m hX h_2) (gIm_l h_2) rfl ⟨rfl, by decide +kernel, by decide +kernel, by decide +kernel⟩ rfl (gRm_ok (by decide) (by decide)) rfl (Nat.le_of_ble_eq_true rfl) dX10_fewest_30 (fun q_4 => ?_)
      refine g_gC (fun h_4 => ?_)
      refine g_cSp (n := 2) (As := [.ref (gad G 36), .ref (gad G q_4)]) (rest := []) hF (tX3_fewestGoings hG hF hX hQ (rfl : gIsSt 36 = true) h_4 S) gX10_fewest_X3_fewestGoings rfl ⟨by decide +kernel, by decide +kernel, by decide +kernel⟩ rfl (gRm_ok (by decide) (by decide)) rfl (Nat.le_of_ble_eq_true rfl) dX10_fewest_33 (fun v_5 => ?_)
      exact g_iret dX10_fewest_36 rfl
    · refine g_bipush (v := (-2)) dX10_fewest_22 (by decide) ?_
      exact g_iret dX10_fewest_24 rfl
  · refine g_iconst (v := (-1)) dX10_fewest_7 (by decide) ?_
    exact g_iret dX10_fewest_8 rfl
set_option maxRecDepth 100000 in
set_option maxHeartbeats 4000000 in
theorem tX10_fewest {G : gGG} {F : State → Heap → Prop} (hG : gOK G) (hF : gSb G F) (hX : gPX G) (hQ : gOQ G) (a1 : Int32) (S : gSt) : gCt G F yX10_fewest wsX10_fewest 52 [.ref (gad G 0), .int a1] S ((fX10_fewest a1 S).map (fun x => (some (.int x), S))) := g_met (by decide +kernel) rfl (Nat.le_of_ble_eq_true rfl) (tX10_fewest_L hG hF hX hQ a1 S)
/-! X10_best -/
theorem hiX10_best_10 : ∀ w ∈ u_ws RX10 TX10 13, w ∈ wsX10_best := fun _ hw => List.mem_cons_of_mem _ (List.mem_append_left _ (List.mem_append_left _ (List.mem_append_right _ (hw))))
set_option maxRecDepth 100000 in
set_option maxHeartbeats 4000000 in
theorem tX10_best_L {G : gGG} {F : State → Heap → Prop} (hG : gOK G) (hF : gSb G F) (hX : gPX G) (hQ : gOQ G) (a1 : Int32) (S : gSt) : Gof G F RX10 cX10_best 2 wsX10_best (some .int) (gRm 53) 0 0 (gQ G (fun x => (some (.int x.1), x.2))) 0 [(0, .ref (gad G 0)), (1, .int a1)] [] S (fX10_best a1 S) := by
  unfold fX10_best
  refine g_iload_n 1 dX10_best_0 rfl ?_
  refine g_iconst (v := (-1)) dX10_best_1 (by decide) ?_
  refine g_icmp_lt (tgt := 26) dX10_best_2 (by decide) (fun h_1 => ?_) (fun h_1 => ?_)
  · refine g_ldc (List.mem_of_getElem? (i := 3) rfl) dX10_best_26 ?_
    exact g_iret dX10_best_28 rfl
  · refine g_iload_n 1 dX10_best_5 rfl ?_
    refine g_aload_n 0 dX10_best_6 rfl ?_
    refine g_gC (fun h_2 => ?_)
    refine g_getM (ci := 10) (k0 := 0) (C0 := RX10) (T := TX10) (N := 13) (hX 0 (by decide)) rfl rfl hiX10_best_10 (by decide) (List.mem_of_getElem? (i := 1) rfl) rfl dX10_best_7 ?_
    refine g_cVp (ci := 5) (C0 := RX5) (T := TX5) (N := 6) (n := 0) (As := []) (rest := [.int a1]) hF (tX5_guests hG hF hX hQ h_2 S) gX10_best_X5_guests rfl (gRu_m hX h_2) (gRu_l h_2) rfl ⟨rfl, by decide +kernel, by decide +kernel, by decide +kernel⟩ rfl (gRm_ok (by decide) (by decide)) rfl (Nat.le_of_ble_eq_true rfl) dX10_best_10 (fun v_1 => ?_)
    refine g_icmp_ge (tgt := 26) dX10_best_13 (by decide) (fun h_3 => ?_) (fun h_3 => ?_)
    · refine g_ldc (List.mem_of_getElem? (i := 3) rfl) dX10_best_26 ?_
      exact g_iret dX10_best_28 rfl
    · refine g_aload_n 0 dX10_best_16 rfl ?_
      refine g_getK (ci := 10) (k0 := 4) (C0 := RX10) (T := TX10) (N := 13) (hX 0 (by decide)) rfl rfl hiX10_best_10 (by decide) (List.mem_of_getElem? (i := 2) rfl) rfl dX10_best_17 ?_
      refine g_cVi (ci := 9) (C0 := RX9) (T := TX9) (N := 8) (n := 0) (As := []) (rest := []) hF (tX9_total hG hF hX hQ S) gX10_best_X9_total rfl (hX 32 (by decide)) rfl rfl ⟨rfl, by decide +kernel, by decide +kernel, by decide +kernel⟩ rfl (gRm_ok (by decide) (by decide)) rfl (Nat.le_of_ble_eq_true rfl) dX10_best_20 (fun v_2 S_3 => ?_)
      refine g_if_ne (tgt := 29) dX10_best_23 (by decide) (fun h_4 => ?_) (fun h_4 => ?_)
      · refine g_iload_n 1 dX10_best_29 rfl ?_
        refine g_iconst (v := (-1)) dX10_best_30 (by decide) ?_
        refine g_icmp_ne (tgt := 44) dX10_best_31 (by decide) (fun h_5 => ?_) (fun h_5 => ?_)
        · refine g_aload_n 0 dX10_best_44 rfl ?_
          refine g_getK (ci := 10) (k0 := 4) (C0 := RX10) (T := TX10) (N := 13) (hX 0 (by decide)) rfl rfl hiX10_best_10 (by decide) (List.mem_of_getElem? (i := 2) rfl) rfl dX10_best_45 ?_
          refine g_cVi (ci := 9) (C0 := RX9) (T := TX9) (N := 8) (n := 0) (As := []) (rest := []) hF (tX9_worthiestCode hG hF hX hQ S_3) gX10_best_X9_worthiestCode rfl (hX 32 (by decide)) rfl rfl ⟨rfl, by decide +kernel, by decide +kernel, by decide +kernel⟩ rfl (gRm_ok (by decide) (by decide)) rfl (Nat.le_of_ble_eq_true rfl) dX10_best_48 (fun v_4 S_5 => ?_)
          refine g_iload_n 1 dX10_best_51 rfl ?_
          refine g_cSp (n := 2) (As := [.int v_4, .int a1]) (rest := []) hF (tX7_partyIn hG hF hX hQ v_4 a1 S_5) gX10_best_X7_partyIn rfl ⟨by decide +kernel, by decide +kernel, by decide +kernel⟩ rfl (gRm_ok (by decide) (by decide)) rfl (Nat.le_of_ble_eq_true rfl) dX10_best_52 (fun v_6 => ?_)
          exact g_iret dX10_best_55 rfl
        · refine g_aload_n 0 dX10_best_34 rfl ?_
          refine g_getK (ci := 10) (k0 := 4) (C0 := RX10) (T := TX10) (N := 13) (hX 0 (by decide)) rfl rfl hiX10_best_10 (by decide) (List.mem_of_getElem? (i := 2) rfl) rfl dX10_best_35 ?_
          refine g_cVi (ci := 9) (C0 := RX9) (T := TX9) (N := 8) (n := 0) (As := []) (rest := []) hF (tX9_greatestWorth hG hF hX hQ S_3) gX10_best_X9_greatestWorth rfl (hX 32 (by decide)) rfl rfl ⟨rfl, by decide +kernel, by decide +kernel, by decide +kernel⟩ rfl (gRm_ok (by decide) (by decide)) rfl (Nat.le_of_ble_eq_true rfl) dX10_best_38 (fun v_7 S_8 => ?_)
          refine g_goto (tgt := 55) dX10_best_41 (by decide) ?_
          exact g_iret dX10_best_55 rfl
      · refine g_ldc (List.mem_of_getElem? (i := 3) rfl) dX10_best_26 ?_
        exact g_iret dX10_best_28 rfl
set_option maxRecDepth 100000 in
set_option maxHeartbeats 4000000 in
theorem tX10_best {G : gGG} {F : State → Heap → Prop} (hG : gOK G) (hF : gSb G F) (hX : gPX G) (hQ : gOQ G) (a1 : Int32) (S : gSt) : gCt G F yX10_best wsX10_best 53 [.ref (gad G 0), .int a1] S ((fX10_best a1 S).map (fun x => (some (.int x.1), x.2))) := g_met (by decide +kernel) rfl (Nat.le_of_ble_eq_true rfl) (tX10_best_L hG hF hX hQ a1 S)
/-! X10_leaving -/
theorem hiX10_leaving_10 : ∀ w ∈ u_ws RX10 TX10 13, w ∈ wsX10_leaving := fun _ hw => List.mem_cons_of_mem _ (List.mem_append_left _ (List.mem_append_left _ (List.mem_append_left _ (List.mem_append_right _ (hw)))))
set_option maxRecDepth 100000 in
set_option maxHeartbeats 4000000 in
theorem tX10_leaving_L {G : gGG} {F : State → Heap → Prop} (hG : gOK G) (hF : gSb G F) (hX : gPX G) (hQ : gOQ G) (a1 : Int32) (S : gSt) : Gof G F RX10 cX10_leaving 2 wsX10_leaving (some .int) (gRm 6) 0 0 (gQ G (fun x => (some (.int x.1), x.2))) 0 [(0, .ref (gad G 0)), (1, .int a1)] [] S (fX10_leaving a1 S) := by
  unfold fX10_leaving
  refine g_iload_n 1 dX10_leaving_0 rfl ?_
  refine g_iconst (v := (-1)) dX10_leaving_1 (by decide) ?_
  refine g_icmp_lt (tgt := 16) dX10_leaving_2 (by decide) (fun h_1 => ?_) (fun h_1 => ?_)
  · refine g_iconst (v := (-1)) dX10_leaving_16 (by decide) ?_
    exact g_iret dX10_leaving_17 rfl
  · refine g_iload_n 1 dX10_leaving_5 rfl ?_
    refine g_aload_n 0 dX10_leaving_6 rfl ?_
    refine g_gC (fun h_2 => ?_)
    refine g_getM (ci := 10) (k0 := 0) (C0 := RX10) (T := TX10) (N := 13) (hX 0 (by decide)) rfl rfl hiX10_leaving_10 (by decide) (List.mem_of_getElem? (i := 1) rfl) rfl dX10_leaving_7 ?_
    refine g_cVp (ci := 5) (C0 := RX5) (T := TX5) (N := 6) (n := 0) (As := []) (rest := [.int a1]) hF (tX5_guests hG hF hX hQ h_2 S) gX10_leaving_X5_guests rfl (gRu_m hX h_2) (gRu_l h_2) rfl ⟨rfl, by decide +kernel, by decide +kernel, by decide +kernel⟩ rfl (gRm_ok (by decide) (by decide)) rfl (Nat.le_of_ble_eq_true rfl) dX10_leaving_10 (fun v_1 => ?_)
    refine g_icmp_lt (tgt := 18) dX10_leaving_13 (by decide) (fun h_3 => ?_) (fun h_3 => ?_)
    · refine g_aload_n 0 dX10_leaving_18 rfl ?_
      refine g_getK (ci := 10) (k0 := 11) (C0 := RX10) (T := TX10) (N := 13) (hX 0 (by decide)) rfl rfl hiX10_leaving_10 (by decide) (List.mem_of_getElem? (i := 2) rfl) rfl dX10_leaving_19 ?_
      refine g_aload_n 0 dX10_leaving_22 rfl ?_
      refine g_gC (fun h_4 => ?_)
      refine g_getM (ci := 10) (k0 := 0) (C0 := RX10) (T := TX10) (N := 13) (hX 0 (by decide)) rfl rfl hiX10_leaving_10 (by decide) (List.mem_of_getElem? (i := 1) rfl) rfl dX10_leaving_23 ?_
      refine g_aload_n 0 dX10_leaving_26 rfl ?_
      refine g_getK (ci := 10) (k0 := 5) (C0 := RX10) (T := TX10) (N := 13) (hX 0 (by decide)) rfl rfl hiX10_leaving_10 (by decide) (List.mem_of_getElem? (i := 3) rfl) rfl dX10_leaving_27 ?_
      refine g_cVv (ci := 0) (C0 := RX0) (T := TX0) (N := 2) (n := 2) (As := [.ref (gad G (gN (gR S 0 0))), .ref (gad G 36)]) (rest := []) hF (tX0_run hG hF hX hQ h_4 (rfl : gIsSt 36 = true) S) gX10_leaving_X0_run rfl (hX 72 (by decide)) rfl rfl ⟨rfl, by decide +kernel, by decide +kernel, by decide +kernel⟩ rfl (gRm_ok (by decide) (by decide)) rfl (Nat.le_of_ble_eq_true rfl) dX10_leaving_30 (fun S_2 => ?_)
      refine g_iload_n 1 dX10_leaving_33 rfl ?_
      refine g_if_lt (tgt := 49) dX10_leaving_34 (by decide) (fun h_5 => ?_) (fun h_5 => ?_)
      · refine g_aload_n 0 dX10_leaving_49 rfl ?_
        refine g_getK (ci := 10) (k0 := 11) (C0 := RX10) (T := TX10) (N := 13) (hX 0 (by decide)) rfl rfl hiX10_leaving_10 (by decide) (List.mem_of_getElem? (i := 2) rfl) rfl dX10_leaving_50 ?_
        refine g_cVp (ci := 0) (C0 := RX0) (T := TX0) (N := 2) (n := 0) (As := []) (rest := []) hF (tX0_hasStopped hG hF hX hQ S_2) gX10_leaving_X0_hasStopped rfl (hX 72 (by decide)) rfl rfl ⟨rfl, by decide +kernel, by decide +kernel, by decide +kernel⟩ rfl (gRm_ok (by decide) (by decide)) rfl (Nat.le_of_ble_eq_true rfl) dX10_leaving_53 (fun v_3 => ?_)
        refine g_if_eq (tgt := 69) dX10_leaving_56 (by decide) (fun h_6 => ?_) (fun h_6 => ?_)
        · refine g_bipush (v := (-9)) dX10_leaving_69 (by decide) ?_
          exact g_iret dX10_leaving_71 rfl
        · refine g_aload_n 0 dX10_leaving_59 rfl ?_
          refine g_getK (ci := 10) (k0 := 11) (C0 := RX10) (T := TX10) (N := 13) (hX 0 (by decide)) rfl rfl hiX10_leaving_10 (by decide) (List.mem_of_getElem? (i := 2) rfl) rfl dX10_leaving_60 ?_
          refine g_cVp (ci := 0) (C0 := RX0) (T := TX0) (N := 2) (n := 0) (As := []) (rest := []) hF (tX0_goings hG hF hX hQ S_2) gX10_leaving_X0_goings rfl (hX 72 (by decide)) rfl rfl ⟨rfl, by decide +kernel, by decide +kernel, by decide +kernel⟩ rfl (gRm_ok (by decide) (by decide)) rfl (Nat.le_of_ble_eq_true rfl) dX10_leaving_63 (fun v_4 => ?_)
          refine g_goto (tgt := 71) dX10_leaving_66 (by decide) ?_
          exact g_iret dX10_leaving_71 rfl
      · refine g_aload_n 0 dX10_leaving_37 rfl ?_
        refine g_getK (ci := 10) (k0 := 11) (C0 := RX10) (T := TX10) (N := 13) (hX 0 (by decide)) rfl rfl hiX10_leaving_10 (by decide) (List.mem_of_getElem? (i := 2) rfl) rfl dX10_leaving_38 ?_
        refine g_cVr (ci := 0) (C0 := RX0) (T := TX0) (N := 2) (n := 0) (As := []) (rest := []) hF (tX0_standing hG hF hX hQ S_2) gX10_leaving_X0_standing rfl (hX 72 (by decide)) rfl rfl ⟨rfl, by decide +kernel, by decide +kernel, by decide +kernel⟩ rfl (gRm_ok (by decide) (by decide)) rfl (Nat.le_of_ble_eq_true rfl) dX10_leaving_41 (fun q_5 => ?_)
        refine g_gC (fun h_7 => ?_)
        refine g_iload_n 1 dX10_leaving_44 rfl ?_
        refine g_cVp (ci := 7) (C0 := RX7) (T := TX7) (N := 5) (n := 1) (As := [.int a1]) (rest := []) hF (tX7_partyOf hG hF hX hQ h_7 a1 S_2) gX10_leaving_X7_partyOf rfl (gSt_m hX h_7) (gSt_l h_7) rfl ⟨rfl, by decide +kernel, by decide +kernel, by decide +kernel⟩ rfl (gRm_ok (by decide) (by decide)) rfl (Nat.le_of_ble_eq_true rfl) dX10_leaving_45 (fun v_6 => ?_)
        exact g_iret dX10_leaving_48 rfl
    · refine g_iconst (v := (-1)) dX10_leaving_16 (by decide) ?_
      exact g_iret dX10_leaving_17 rfl
set_option maxRecDepth 100000 in
set_option maxHeartbeats 4000000 in
theorem tX10_leaving {G : gGG} {F : State → Heap → Prop} (hG : gOK G) (hF : gSb G F) (hX : gPX G) (hQ : gOQ G) (a1 : Int32) (S : gSt) : gCt G F yX10_leaving wsX10_leaving 6 [.ref (gad G 0), .int a1] S ((fX10_leaving a1 S).map (fun x => (some (.int x.1), x.2))) := g_met (by decide +kernel) rfl (Nat.le_of_ble_eq_true rfl) (tX10_leaving_L hG hF hX hQ a1 S)
/-! X10_evening -/
theorem hiX10_evening_10 : ∀ w ∈ u_ws RX10 TX10 13, w ∈ wsX10_evening := fun _ hw => List.mem_cons_of_mem _ (List.mem_append_left _ (List.mem_append_left _ (List.mem_append_left _ (List.mem_append_right _ (hw)))))
set_option maxRecDepth 100000 in
set_option maxHeartbeats 4000000 in
theorem tX10_evening_L26 {G : gGG} {F : State → Heap → Prop} (hG : gOK G) (hF : gSb G F) (hX : gPX G) (hQ : gOQ G) : ∀ (n : Nat) (x1 : Int32) (x2 : Int32) (x3 : Int32) (x4 : Int32) (S : gSt), Gof G F RX10 cX10_evening 7 wsX10_evening (some .int) (gRm 4) 0 0 (gQ G (fun x => (some (.int x.1), x.2))) 26 [(0, .ref (gad G 0)), (1, .int x1), (2, .int x2), (3, .int x3), (4, .int x4)] [] S (fX10_evening_L26 n x1 x2 x3 x4 S) := by
  intro n
  induction n with
  | zero => intro x1 x2 x3 x4 S; exact g_none
  | succ n ih =>
    intro x1 x2 x3 x4 S
    unfold fX10_evening_L26
    refine g_iload 4 dX10_evening_26 rfl ?_
    refine g_iload_n 1 dX10_evening_28 rfl ?_
    refine g_icmp_ge (tgt := 82) dX10_evening_29 (by decide) (fun h_1 => ?_) (fun h_1 => ?_)
    · refine g_iload_n 3 dX10_evening_82 rfl ?_
      exact g_iret dX10_evening_83 rfl
    · refine g_aload_n 0 dX10_evening_32 rfl ?_
      refine g_getK (ci := 10) (k0 := 7) (C0 := RX10) (T := TX10) (N := 13) (hX 0 (by decide)) rfl rfl hiX10_evening_10 (by decide) (List.mem_of_getElem? (i := 2) rfl) rfl dX10_evening_33 ?_
      refine g_iload_n 2 dX10_evening_36 rfl ?_
      refine g_cVi (ci := 2) (C0 := RX2) (T := TX2) (N := 1) (n := 1) (As := [.int x2]) (rest := []) hF (tX2_nextBelow hG hF hX hQ x2 S) gX10_evening_X2_nextBelow rfl (hX 44 (by decide)) rfl rfl ⟨rfl, by decide +kernel, by decide +kernel, by decide +kernel⟩ rfl (gRm_ok (by decide) (by decide)) rfl (Nat.le_of_ble_eq_true rfl) dX10_evening_37 (fun v_1 S_2 => ?_)
      refine g_istore (i := 5) (env' := [(5, .int v_1), (0, .ref (gad G 0)), (1, .int x1), (2, .int x2), (3, .int x3), (4, .int x4)]) dX10_evening_40 (by decide) rfl ?_
      refine g_aload_n 1 dX10_evening_42 rfl ?_
      refine g_getK (ci := 10) (k0 := 7) (C0 := RX10) (T := TX10) (N := 13) (hX 0 (by decide)) rfl rfl hiX10_evening_10 (by decide) (List.mem_of_getElem? (i := 2) rfl) rfl dX10_evening_43 ?_
      refine g_iload_n 3 dX10_evening_46 rfl ?_
      refine g_cVi (ci := 2) (C0 := RX2) (T := TX2) (N := 1) (n := 1) (As := [.int x2]) (rest := []) hF (tX2_nextBelow hG hF hX hQ x2 S_2) gX10_evening_X2_nextBelow rfl (hX 44 (by decide)) rfl rfl ⟨rfl, by decide +kernel, by decide +kernel, by decide +kernel⟩ rfl (gRm_ok (by decide) (by decide)) rfl (Nat.le_of_ble_eq_true rfl) dX10_evening_47 (fun v_3 S_4 => ?_)
      refine g_istore (i := 6) (env' := [(6, .int v_3), (5, .int v_1), (0, .ref (gad G 0)), (1, .int x1), (2, .int x2), (3, .int x3), (4, .int x4)]) dX10_evening_50 (by decide) rfl ?_
      refine g_aload_n 2 dX10_evening_52 rfl ?_
      refine g_getK (ci := 10) (k0 := 5) (C0 := RX10) (T := TX10) (N := 13) (hX 0 (by decide)) rfl rfl hiX10_evening_10 (by decide) (List.mem_of_getElem? (i := 3) rfl) rfl dX10_evening_53 ?_
      refine g_iload 1 dX10_evening_56 rfl ?_
      refine g_iload 0 dX10_evening_58 rfl ?_
      refine g_cVv (ci := 7) (C0 := RX7) (T := TX7) (N := 5) (n := 2) (As := [.int v_1, .int v_3]) (rest := []) hF (tX7_sendTo hG hF hX hQ (rfl : gIsSt 36 = true) v_1 v_3 S_4) gX10_evening_X7_sendTo rfl (gSt_m hX (rfl : gIsSt 36 = true)) (gSt_l (rfl : gIsSt 36 = true)) rfl ⟨rfl, by decide +kernel, by decide +kernel, by decide +kernel⟩ rfl (gRm_ok (by decide) (by decide)) rfl (Nat.le_of_ble_eq_true rfl) dX10_evening_60 (fun S_5 => ?_)
      refine g_aload_n 2 dX10_evening_63 rfl ?_
      refine g_getK (ci := 10) (k0 := 5) (C0 := RX10) (T := TX10) (N := 13) (hX 0 (by decide)) rfl rfl hiX10_evening_10 (by decide) (List.mem_of_getElem? (i := 3) rfl) rfl dX10_evening_64 ?_
      refine g_cVp (ci := 7) (C0 := RX7) (T := TX7) (N := 5) (n := 0) (As := []) (rest := []) hF (tX7_loners hG hF hX hQ (rfl : gIsSt 36 = true) S_5) gX10_evening_X7_loners rfl (gSt_m hX (rfl : gIsSt 36 = true)) (gSt_l (rfl : gIsSt 36 = true)) rfl ⟨rfl, by decide +kernel, by decide +kernel, by decide +kernel⟩ rfl (gRm_ok (by decide) (by decide)) rfl (Nat.le_of_ble_eq_true rfl) dX10_evening_67 (fun v_6 => ?_)
      refine g_if_le (tgt := 76) dX10_evening_70 (by decide) (fun h_2 => ?_) (fun h_2 => ?_)
      · refine g_iinc 6 (v := (x4 + 1)) (env' := [(4, .int (x4 + 1)), (6, .int v_3), (5, .int v_1), (0, .ref (gad G 0)), (1, .int x1), (2, .int x2), (3, .int x3)]) dX10_evening_76 rfl rfl (by decide) rfl ?_
        refine g_goto (tgt := 26) dX10_evening_79 (by decide) ?_
        refine g_env (env' := [(0, .ref (gad G 0)), (1, .int x1), (2, .int x2), (3, .int x3), (4, .int (x4 + 1))]) [3, 4, 5, 6, 0] rfl ?_
        exact ih x1 x2 x3 (x4 + 1) S_5
      · refine g_iinc 5 (v := (x3 + 1)) (env' := [(3, .int (x3 + 1)), (6, .int v_3), (5, .int v_1), (0, .ref (gad G 0)), (1, .int x1), (2, .int x2), (4, .int x4)]) dX10_evening_73 rfl rfl (by decide) rfl ?_
        refine g_iinc 6 (v := (x4 + 1)) (env' := [(4, .int (x4 + 1)), (3, .int (x3 + 1)), (6, .int v_3), (5, .int v_1), (0, .ref (gad G 0)), (1, .int x1), (2, .int x2)]) dX10_evening_76 rfl rfl (by decide) rfl ?_
        refine g_goto (tgt := 26) dX10_evening_79 (by decide) ?_
        refine g_env (env' := [(0, .ref (gad G 0)), (1, .int x1), (2, .int x2), (3, .int (x3 + 1)), (4, .int (x4 + 1))]) [4, 5, 6, 1, 0] rfl ?_
        exact ih x1 x2 (x3 + 1) (x4 + 1) S_5
set_option maxRecDepth 100000 in
set_option maxHeartbeats 4000000 in
theorem tX10_evening_L {G : gGG} {F : State → Heap → Prop} (hG : gOK G) (hF : gSb G F) (hX : gPX G) (hQ : gOQ G) (a1 : Int32) (S : gSt) : Gof G F RX10 cX10_evening 7 wsX10_evening (some .int) (gRm 4) 0 0 (gQ G (fun x => (some (.int x.1), x.2))) 0 [(0, .ref (gad G 0)), (1, .int a1)] [] S (fX10_evening a1 S) := by
  unfold fX10_evening
  refine g_iload_n 1 dX10_evening_0 rfl ?_
  refine g_iconst (v := 1) dX10_evening_1 (by decide) ?_
  refine g_icmp_lt (tgt := 11) dX10_evening_2 (by decide) (fun h_1 => ?_) (fun h_1 => ?_)
  · refine g_iconst (v := (-1)) dX10_evening_11 (by decide) ?_
    exact g_iret dX10_evening_12 rfl
  · refine g_iload_n 1 dX10_evening_5 rfl ?_
    refine g_bipush (v := 99) dX10_evening_6 (by decide) ?_
    refine g_icmp_le (tgt := 13) dX10_evening_8 (by decide) (fun h_2 => ?_) (fun h_2 => ?_)
    · refine g_aload_n 0 dX10_evening_13 rfl ?_
      refine g_gC (fun h_3 => ?_)
      refine g_getM (ci := 10) (k0 := 0) (C0 := RX10) (T := TX10) (N := 13) (hX 0 (by decide)) rfl rfl hiX10_evening_10 (by decide) (List.mem_of_getElem? (i := 1) rfl) rfl dX10_evening_14 ?_
      refine g_cVp (ci := 5) (C0 := RX5) (T := TX5) (N := 6) (n := 0) (As := []) (rest := []) hF (tX5_guests hG hF hX hQ h_3 S) gX10_evening_X5_guests rfl (gRu_m hX h_3) (gRu_l h_3) rfl ⟨rfl, by decide +kernel, by decide +kernel, by decide +kernel⟩ rfl (gRm_ok (by decide) (by decide)) rfl (Nat.le_of_ble_eq_true rfl) dX10_evening_17 (fun v_1 => ?_)
      refine g_istore_n (i := 2) (env' := [(2, .int v_1), (0, .ref (gad G 0)), (1, .int a1)]) dX10_evening_20 rfl (by decide) rfl ?_
      refine g_iconst (v := 0) dX10_evening_21 (by decide) ?_
      refine g_istore_n (i := 3) (env' := [(3, .int 0), (2, .int v_1), (0, .ref (gad G 0)), (1, .int a1)]) dX10_evening_22 rfl (by decide) rfl ?_
      refine g_iconst (v := 0) dX10_evening_23 (by decide) ?_
      refine g_istore (i := 4) (env' := [(4, .int 0), (3, .int 0), (2, .int v_1), (0, .ref (gad G 0)), (1, .int a1)]) dX10_evening_24 (by decide) rfl ?_
      refine g_env (env' := [(0, .ref (gad G 0)), (1, .int a1), (2, .int v_1), (3, .int 0), (4, .int 0)]) [3, 4, 2, 1, 0] rfl ?_
      exact tX10_evening_L26 hG hF hX hQ gFU a1 v_1 0 0 S
    · refine g_iconst (v := (-1)) dX10_evening_11 (by decide) ?_
      exact g_iret dX10_evening_12 rfl
set_option maxRecDepth 100000 in
set_option maxHeartbeats 4000000 in
theorem tX10_evening {G : gGG} {F : State → Heap → Prop} (hG : gOK G) (hF : gSb G F) (hX : gPX G) (hQ : gOQ G) (a1 : Int32) (S : gSt) : gCt G F yX10_evening wsX10_evening 4 [.ref (gad G 0), .int a1] S ((fX10_evening a1 S).map (fun x => (some (.int x.1), x.2))) := g_met (by decide +kernel) rfl (Nat.le_of_ble_eq_true rfl) (tX10_evening_L hG hF hX hQ a1 S)
/-! X10_rateAsGuest -/
theorem hiX10_rateAsGuest_10 : ∀ w ∈ u_ws RX10 TX10 13, w ∈ wsX10_rateAsGuest := fun _ hw => List.mem_cons_of_mem _ (List.mem_append_left _ (List.mem_append_right _ (hw)))
set_option maxRecDepth 100000 in
set_option maxHeartbeats 4000000 in
theorem tX10_rateAsGuest_L {G : gGG} {F : State → Heap → Prop} (hG : gOK G) (hF : gSb G F) (hX : gPX G) (hQ : gOQ G) (a1 : Int32) (S : gSt) : Gof G F RX10 cX10_rateAsGuest 2 wsX10_rateAsGuest (some .int) (gRm 1) 0 0 (gQ G (fun x => (some (.int x.1), x.2))) 0 [(0, .ref (gad G 0)), (1, .int a1)] [] S (fX10_rateAsGuest a1 S) := by
  unfold fX10_rateAsGuest
  refine g_aload_n 0 dX10_rateAsGuest_0 rfl ?_
  refine g_dup dX10_rateAsGuest_1 rfl ?_
  refine g_getJ (ci := 10) (k0 := 12) (C0 := RX10) (T := TX10) (N := 13) (hX 0 (by decide)) rfl rfl hiX10_rateAsGuest_10 (by decide) (List.mem_of_getElem? (i := 1) rfl) rfl dX10_rateAsGuest_2 ?_
  refine g_lconst (v := 1) dX10_rateAsGuest_5 rfl ?_
  refine g_ladd dX10_rateAsGuest_6 ?_
  refine g_putJ hG (ci := 10) (k0 := 12) (C0 := RX10) (T := TX10) (N := 13) (hX 0 (by decide)) rfl rfl hiX10_rateAsGuest_10 (by decide) (List.mem_of_getElem? (i := 1) rfl) tyX10 tyX10_ok nmX10 rfl gOne10 rfl rfl rfl dX10_rateAsGuest_7 ?_
  refine g_nS (fun S_1 => ?_)
  refine g_aload_n 0 dX10_rateAsGuest_10 rfl ?_
  refine g_getK (ci := 10) (k0 := 5) (C0 := RX10) (T := TX10) (N := 13) (hX 0 (by decide)) rfl rfl hiX10_rateAsGuest_10 (by decide) (List.mem_of_getElem? (i := 2) rfl) rfl dX10_rateAsGuest_11 ?_
  refine g_aload_n 0 dX10_rateAsGuest_14 rfl ?_
  refine g_getK (ci := 10) (k0 := 5) (C0 := RX10) (T := TX10) (N := 13) (hX 0 (by decide)) rfl rfl hiX10_rateAsGuest_10 (by decide) (List.mem_of_getElem? (i := 2) rfl) rfl dX10_rateAsGuest_15 ?_
  refine g_iload_n 1 dX10_rateAsGuest_18 rfl ?_
  refine g_cVp (ci := 7) (C0 := RX7) (T := TX7) (N := 5) (n := 1) (As := [.int a1]) (rest := [.ref (gad G 36)]) hF (tX7_partyOf hG hF hX hQ (rfl : gIsSt 36 = true) a1 S_1) gX10_rateAsGuest_X7_partyOf rfl (gSt_m hX (rfl : gIsSt 36 = true)) (gSt_l (rfl : gIsSt 36 = true)) rfl ⟨rfl, by decide +kernel, by decide +kernel, by decide +kernel⟩ rfl (gRm_ok (by decide) (by decide)) rfl (Nat.le_of_ble_eq_true rfl) dX10_rateAsGuest_19 (fun v_2 => ?_)
  refine g_cVp (ci := 7) (C0 := RX7) (T := TX7) (N := 5) (n := 1) (As := [.int v_2]) (rest := []) hF (tX7_setOf hG hF hX hQ (rfl : gIsSt 36 = true) v_2 S_1) gX10_rateAsGuest_X7_setOf rfl (gSt_m hX (rfl : gIsSt 36 = true)) (gSt_l (rfl : gIsSt 36 = true)) rfl ⟨rfl, by decide +kernel, by decide +kernel, by decide +kernel⟩ rfl (gRm_ok (by decide) (by decide)) rfl (Nat.le_of_ble_eq_true rfl) dX10_rateAsGuest_22 (fun v_3 => ?_)
  refine g_cSp (n := 1) (As := [.int v_3]) (rest := []) hF (tJ6_bitCount_0f7a4 v_3 S_1) gX10_rateAsGuest_J6_bitCount_0f7a4 rfl ⟨by decide +kernel, by decide +kernel, by decide +kernel⟩ rfl (gRm_ok (by decide) (by decide)) rfl (Nat.le_of_ble_eq_true rfl) dX10_rateAsGuest_25 (fun v_4 => ?_)
  exact g_iret dX10_rateAsGuest_28 rfl
set_option maxRecDepth 100000 in
set_option maxHeartbeats 4000000 in
theorem tX10_rateAsGuest {G : gGG} {F : State → Heap → Prop} (hG : gOK G) (hF : gSb G F) (hX : gPX G) (hQ : gOQ G) (a1 : Int32) (S : gSt) : gCt G F yX10_rateAsGuest wsX10_rateAsGuest 1 [.ref (gad G 0), .int a1] S ((fX10_rateAsGuest a1 S).map (fun x => (some (.int x.1), x.2))) := g_met (by decide +kernel) rfl (Nat.le_of_ble_eq_true rfl) (tX10_rateAsGuest_L hG hF hX hQ a1 S)
/-! X10_rateAsTalker -/
theorem hiX10_rateAsTalker_10 : ∀ w ∈ u_ws RX10 TX10 13, w ∈ wsX10_rateAsTalker := fun _ hw => List.mem_cons_of_mem _ (List.mem_append_left _ (List.mem_append_left _ (List.mem_append_right _ (hw))))
set_option maxRecDepth 100000 in
set_option maxHeartbeats 4000000 in
theorem tX10_rateAsTalker_L {G : gGG} {F : State → Heap → Prop} (hG : gOK G) (hF : gSb G F) (hX : gPX G) (hQ : gOQ G) (a1 : Int32) (S : gSt) : Gof G F RX10 cX10_rateAsTalker 2 wsX10_rateAsTalker (some .int) (gRm 2) 0 0 (gQ G (fun x => (some (.int x.1), x.2))) 0 [(0, .ref (gad G 0)), (1, .int a1)] [] S (fX10_rateAsTalker a1 S) := by
  unfold fX10_rateAsTalker
  refine g_aload_n 0 dX10_rateAsTalker_0 rfl ?_
  refine g_dup dX10_rateAsTalker_1 rfl ?_
  refine g_getJ (ci := 10) (k0 := 12) (C0 := RX10) (T := TX10) (N := 13) (hX 0 (by decide)) rfl rfl hiX10_rateAsTalker_10 (by decide) (List.mem_of_getElem? (i := 1) rfl) rfl dX10_rateAsTalker_2 ?_
  refine g_ldc2 (List.mem_of_getElem? (i := 2) rfl) dX10_rateAsTalker_5 ?_
  refine g_ladd dX10_rateAsTalker_8 ?_
  refine g_putJ hG (ci := 10) (k0 := 12) (C0 := RX10) (T := TX10) (N := 13) (hX 0 (by decide)) rfl rfl hiX10_rateAsTalker_10 (by decide) (List.mem_of_getElem? (i := 1) rfl) tyX10 tyX10_ok nmX10 rfl gOne10 rfl rfl rfl dX10_rateAsTalker_9 ?_
  refine g_nS (fun S_1 => ?_)
  refine g_aload_n 0 dX10_rateAsTalker_12 rfl ?_
  refine g_iload_n 1 dX10_rateAsTalker_13 rfl ?_
  refine g_cVi (ci := 10) (C0 := RX10) (T := TX10) (N := 13) (n := 1) (As := [.int a1]) (rest := []) hF (tX10_rateAsGuest hG hF hX hQ a1 S_1) gX10_rateAsTalker_X10_rateAsGuest rfl (hX 0 (by decide)) rfl rfl ⟨rfl, by decide +kernel, by decide +kernel, by decide +kernel⟩ rfl (gRm_ok (by decide) (by decide)) rfl (Nat.le_of_ble_eq_true rfl) dX10_rateAsTalker_14 (fun v_2 S_3 => ?_)
  refine g_aload_n 0 dX10_rateAsTalker_17 rfl ?_
  refine g_gC (fun h_1 => ?_)
  refine g_getM (ci := 10) (k0 := 0) (C0 := RX10) (T := TX10) (N := 13) (hX 0 (by decide)) rfl rfl hiX10_rateAsTalker_10 (by decide) (List.mem_of_getElem? (i := 3) rfl) rfl dX10_rateAsTalker_18 ?_
  refine g_iload_n 1 dX10_rateAsTalker_21 rfl ?_
  refine g_aload_n 0 dX10_rateAsTalker_22 rfl ?_
  refine g_getK (ci := 10) (k0 := 5) (C0 := RX10) (T := TX10) (N := 13) (hX 0 (by decide)) rfl rfl hiX10_rateAsTalker_10 (by decide) (List.mem_of_getElem? (i := 4) rfl) rfl dX10_rateAsTalker_23 ?_
  refine g_aload_n 0 dX10_rateAsTalker_26 rfl ?_
  refine g_getK (ci := 10) (k0 := 5) (C0 := RX10) (T := TX10) (N := 13) (hX 0 (by decide)) rfl rfl hiX10_rateAsTalker_10 (by decide) (List.mem_of_getElem? (i := 4) rfl) rfl dX10_rateAsTalker_27 ?_
  refine g_iload_n 1 dX10_rateAsTalker_30 rfl ?_
  refine g_cVp (ci := 7) (C0 := RX7) (T := TX7) (N := 5) (n := 1) (As := [.int a1]) (rest := [.ref (gad G 36), .int a1, .ref (gad G (gN (gR S_3 0 0))), .int v_2]) hF (tX7_partyOf hG hF hX hQ (rfl : gIsSt 36 = true) a1 S_3) gX10_rateAsTalker_X7_partyOf rfl (gSt_m hX (rfl : gIsSt 36 = true)) (gSt_l (rfl : gIsSt 36 = true)) rfl ⟨rfl, by decide +kernel, by decide +kernel, by decide +kernel⟩ rfl (gRm_ok (by decide) (by decide)) rfl (Nat.le_of_ble_eq_true rfl) dX10_rateAsTalker_31 (fun v_4 => ?_)
  refine g_cVp (ci := 7) (C0 := RX7) (T := TX7) (N := 5) (n := 1) (As := [.int v_4]) (rest := [.int a1, .ref (gad G (gN (gR S_3 0 0))), .int v_2]) hF (tX7_setOf hG hF hX hQ (rfl : gIsSt 36 = true) v_4 S_3) gX10_rateAsTalker_X7_setOf rfl (gSt_m hX (rfl : gIsSt 36 = true)) (gSt_l (rfl : gIsSt 36 = true)) rfl ⟨rfl, by decide +kernel, by decide +kernel, by decide +kernel⟩ rfl (gRm_ok (by decide) (by decide)) rfl (Nat.le_of_ble_eq_true rfl) dX10_rateAsTalker_34 (fun v_5 => ?_)
  refine g_cVp (ci := 5) (C0 := RX5) (T := TX5) (N := 6) (n := 2) (As := [.int a1, .int v_5]) (rest := [.int v_2]) hF (tX5_worthWith hG hF hX hQ h_1 a1 v_5 S_3) gX10_rateAsTalker_X5_worthWith rfl (gRu_m hX h_1) (gRu_l h_1) rfl ⟨rfl, by decide +kernel, by decide +kernel, by decide +kernel⟩ rfl (gRm_ok (by decide) (by decide)) rfl (Nat.le_of_ble_eq_true rfl) dX10_rateAsTalker_37 (fun v_6 => ?_)
  refine g_iadd dX10_rateAsTalker_40 ?_
  exact g_iret dX10_rateAsTalker_41 rfl
set_option maxRecDepth 100000 in
set_option maxHeartbeats 4000000 in
theorem tX10_rateAsTalker {G : gGG} {F : State → Heap → Prop} (hG : gOK G) (hF : gSb G F) (hX : gPX G) (hQ : gOQ G) (a1 : Int32) (S : gSt) : gCt G F yX10_rateAsTalker wsX10_rateAsTalker 2 [.ref (gad G 0), .int a1] S ((fX10_rateAsTalker a1 S).map (fun x => (some (.int x.1), x.2))) := g_met (by decide +kernel) rfl (Nat.le_of_ble_eq_true rfl) (tX10_rateAsTalker_L hG hF hX hQ a1 S)
/-! X10_rateAsListener -/
theorem hiX10_rateAsListener_10 : ∀ w ∈ u_ws RX10 TX10 13, w ∈ wsX10_rateAsListener := fun _ hw => List.mem_cons_of_mem _ (List.mem_append_left _ (List.mem_append_left _ (List.mem_append_right _ (hw))))
set_option maxRecDepth 100000 in
set_option maxHeartbeats 4000000 in
theorem tX10_rateAsListener_L {G : gGG} {F : State → Heap → Prop} (hG : gOK G) (hF : gSb G F) (hX : gPX G) (hQ : gOQ G) (a1 : Int32) (S : gSt) : Gof G F RX10 cX10_rateAsListener 2 wsX10_rateAsListener (some .int) (gRm 2) 0 0 (gQ G (fun x => (some (.int x.1), x.2))) 0 [(0, .ref (gad G 0)), (1, .int a1)] [] S (fX10_rateAsListener a1 S) := by
  unfold fX10_rateAsListener
  refine g_aload_n 0 dX10_rateAsListener_0 rfl ?_
  refine g_dup dX10_rateAsListener_1 rfl ?_
  refine g_getJ (ci := 10) (k0 := 12) (C0 := RX10) (T := TX10) (N := 13) (hX 0 (by decide)) rfl rfl hiX10_rateAsListener_10 (by decide) (List.mem_of_getElem? (i := 1) rfl) rfl dX10_rateAsListener_2 ?_
  refine g_ldc2 (List.mem_of_getElem? (i := 2) rfl) dX10_rateAsListener_5 ?_
  refine g_ladd dX10_rateAsListener_8 ?_
  refine g_putJ hG (ci := 10) (k0 := 12) (C0 := RX10) (T := TX10) (N := 13) (hX 0 (by decide)) rfl rfl hiX10_rateAsListener_10 (by decide) (List.mem_of_getElem? (i := 1) rfl) tyX10 tyX10_ok nmX10 rfl gOne10 rfl rfl rfl dX10_rateAsListener_9 ?_
  refine g_nS (fun S_1 => ?_)
  refine g_aload_n 0 dX10_rateAsListener_12 rfl ?_
  refine g_iload_n 1 dX10_rateAsListener_13 rfl ?_
  refine g_cVi (ci := 10) (C0 := RX10) (T := TX10) (N := 13) (n := 1) (As := [.int a1]) (rest := []) hF (tX10_rateAsGuest hG hF hX hQ a1 S_1) gX10_rateAsListener_X10_rateAsGuest rfl (hX 0 (by decide)) rfl rfl ⟨rfl, by decide +kernel, by decide +kernel, by decide +kernel⟩ rfl (gRm_ok (by decide) (by decide)) rfl (Nat.le_of_ble_eq_true rfl) dX10_rateAsListener_14 (fun v_2 S_3 => ?_)
  refine g_aload_n 0 dX10_rateAsListener_17 rfl ?_
  refine g_gC (fun h_1 => ?_)
  refine g_getM (ci := 10) (k0 := 0) (C0 := RX10) (T := TX10) (N := 13) (hX 0 (by decide)) rfl rfl hiX10_rateAsListener_10 (by decide) (List.mem_of_getElem? (i := 3) rfl) rfl dX10_rateAsListener_18 ?_
  refine g_iload_n 1 dX10_rateAsListener_21 rfl ?_
  refine g_cVp (ci := 5) (C0 := RX5) (T := TX5) (N := 6) (n := 1) (As := [.int a1]) (rest := [.int v_2]) hF (tX5_hatOf hG hF hX hQ h_1 a1 S_3) gX10_rateAsListener_X5_hatOf rfl (gRu_m hX h_1) (gRu_l h_1) rfl ⟨rfl, by decide +kernel, by decide +kernel, by decide +kernel⟩ rfl (gRm_ok (by decide) (by decide)) rfl (Nat.le_of_ble_eq_true rfl) dX10_rateAsListener_22 (fun v_4 => ?_)
  refine g_isub dX10_rateAsListener_25 ?_
  exact g_iret dX10_rateAsListener_26 rfl
set_option maxRecDepth 100000 in
set_option maxHeartbeats 4000000 in
theorem tX10_rateAsListener {G : gGG} {F : State → Heap → Prop} (hG : gOK G) (hF : gSb G F) (hX : gPX G) (hQ : gOQ G) (a1 : Int32) (S : gSt) : gCt G F yX10_rateAsListener wsX10_rateAsListener 2 [.ref (gad G 0), .int a1] S ((fX10_rateAsListener a1 S).map (fun x => (some (.int x.1), x.2))) := g_met (by decide +kernel) rfl (Nat.le_of_ble_eq_true rfl) (tX10_rateAsListener_L hG hF hX hQ a1 S)
/-! X10_rateAsSinger -/
theorem hiX10_rateAsSinger_10 : ∀ w ∈ u_ws RX10 TX10 13, w ∈ wsX10_rateAsSinger := fun _ hw => List.mem_cons_of_mem _ (List.mem_append_left _ (List.mem_append_left _ (List.mem_append_right _ (hw))))
set_option maxRecDepth 100000 in
set_option maxHeartbeats 4000000 in
theorem tX10_rateAsSinger_L {G : gGG} {F : State → Heap → Prop} (hG : gOK G) (hF : gSb G F) (hX : gPX G) (hQ : gOQ G) (a1 : Int32) (S : gSt) : Gof G F RX10 cX10_rateAsSinger 2 wsX10_rateAsSinger (some .int) (gRm 3) 0 0 (gQ G (fun x => (some (.int x.1), x.2))) 0 [(0, .ref (gad G 0)), (1, .int a1)] [] S (fX10_rateAsSinger a1 S) := by
  unfold fX10_rateAsSinger
  refine g_aload_n 0 dX10_rateAsSinger_0 rfl ?_
  refine g_dup dX10_rateAsSinger_1 rfl ?_
  refine g_getJ (ci := 10) (k0 := 12) (C0 := RX10) (T := TX10) (N := 13) (hX 0 (by decide)) rfl rfl hiX10_rateAsSinger_10 (by decide) (List.mem_of_getElem? (i := 1) rfl) rfl dX10_rateAsSinger_2 ?_
  refine g_ldc2 (List.mem_of_getElem? (i := 2) rfl) dX10_rateAsSinger_5 ?_
  refine g_ladd dX10_rateAsSinger_8 ?_
  refine g_putJ hG (ci := 10) (k0 := 12) (C0 := RX10) (T := TX10) (N := 13) (hX 0 (by decide)) rfl rfl hiX10_rateAsSinger_10 (by decide) (List.mem_of_getElem? (i := 1) rfl) tyX10 tyX10_ok nmX10 rfl gOne10 rfl rfl rfl dX10_rateAsSinger_9 ?_
  refine g_nS (fun S_1 => ?_)
  refine g_iconst (v := 2) dX10_rateAsSinger_12 (by decide) ?_
  refine g_aload_n 0 dX10_rateAsSinger_13 rfl ?_
  refine g_iload_n 1 dX10_rateAsSinger_14 rfl ?_
  refine g_cVi (ci := 10) (C0 := RX10) (T := TX10) (N := 13) (n := 1) (As := [.int a1]) (rest := [.int 2]) hF (tX10_rateAsTalker hG hF hX hQ a1 S_1) gX10_rateAsSinger_X10_rateAsTalker rfl (hX 0 (by decide)) rfl rfl ⟨rfl, by decide +kernel, by decide +kernel, by decide +kernel⟩ rfl (gRm_ok (by decide) (by decide)) rfl (Nat.le_of_ble_eq_true rfl) dX10_rateAsSinger_15 (fun v_2 S_3 => ?_)
  refine g_imul dX10_rateAsSinger_18 ?_
  exact g_iret dX10_rateAsSinger_19 rfl
set_option maxRecDepth 100000 in
set_option maxHeartbeats 4000000 in
theorem tX10_rateAsSinger {G : gGG} {F : State → Heap → Prop} (hG : gOK G) (hF : gSb G F) (hX : gPX G) (hQ : gOQ G) (a1 : Int32) (S : gSt) : gCt G F yX10_rateAsSinger wsX10_rateAsSinger 3 [.ref (gad G 0), .int a1] S ((fX10_rateAsSinger a1 S).map (fun x => (some (.int x.1), x.2))) := g_met (by decide +kernel) rfl (Nat.le_of_ble_eq_true rfl) (tX10_rateAsSinger_L hG hF hX hQ a1 S)
/-! X10_rateAsDog -/
theorem hiX10_rateAsDog_10 : ∀ w ∈ u_ws RX10 TX10 13, w ∈ wsX10_rateAsDog := fun _ hw => List.mem_cons_of_mem _ (List.mem_append_left _ (List.mem_append_left _ (List.mem_append_right _ (hw))))
set_option maxRecDepth 100000 in
set_option maxHeartbeats 4000000 in
theorem tX10_rateAsDog_L {G : gGG} {F : State → Heap → Prop} (hG : gOK G) (hF : gSb G F) (hX : gPX G) (hQ : gOQ G) (a1 : Int32) (S : gSt) : Gof G F RX10 cX10_rateAsDog 2 wsX10_rateAsDog (some .int) (gRm 3) 0 0 (gQ G (fun x => (some (.int x.1), x.2))) 0 [(0, .ref (gad G 0)), (1, .int a1)] [] S (fX10_rateAsDog a1 S) := by
  unfold fX10_rateAsDog
  refine g_aload_n 0 dX10_rateAsDog_0 rfl ?_
  refine g_dup dX10_rateAsDog_1 rfl ?_
  refine g_getJ (ci := 10) (k0 := 12) (C0 := RX10) (T := TX10) (N := 13) (hX 0 (by decide)) rfl rfl hiX10_rateAsDog_10 (by decide) (List.mem_of_getElem? (i := 1) rfl) rfl dX10_rateAsDog_2 ?_
  refine g_ldc2 (List.mem_of_getElem? (i := 2) rfl) dX10_rateAsDog_5 ?_
  refine g_ladd dX10_rateAsDog_8 ?_
  refine g_putJ hG (ci := 10) (k0 := 12) (C0 := RX10) (T := TX10) (N := 13) (hX 0 (by decide)) rfl rfl hiX10_rateAsDog_10 (by decide) (List.mem_of_getElem? (i := 1) rfl) tyX10 tyX10_ok nmX10 rfl gOne10 rfl rfl rfl dX10_rateAsDog_9 ?_
  refine g_nS (fun S_1 => ?_)
  refine g_aload_n 0 dX10_rateAsDog_12 rfl ?_
  refine g_iload_n 1 dX10_rateAsDog_13 rfl ?_
  refine g_cVi (ci := 10) (C0 := RX10) (T := TX10) (N := 13) (n := 1) (As := [.int a1]) (rest := []) hF (tX10_rateAsListener hG hF hX hQ a1 S_1) gX10_rateAsDog_X10_rateAsListener rfl (hX 0 (by decide)) rfl rfl ⟨rfl, by decide +kernel, by decide +kernel, by decide +kernel⟩ rfl (gRm_ok (by decide) (by decide)) rfl (Nat.le_of_ble_eq_true rfl) dX10_rateAsDog_14 (fun v_2 S_3 => ?_)
  refine g_aload_n 0 dX10_rateAsDog_17 rfl ?_
  refine g_getK (ci := 10) (k0 := 5) (C0 := RX10) (T := TX10) (N := 13) (hX 0 (by decide)) rfl rfl hiX10_rateAsDog_10 (by decide) (List.mem_of_getElem? (i := 3) rfl) rfl dX10_rateAsDog_18 ?_
  refine g_iload_n 1 dX10_rateAsDog_21 rfl ?_
  refine g_cVp (ci := 7) (C0 := RX7) (T := TX7) (N := 5) (n := 1) (As := [.int a1]) (rest := [.int v_2]) hF (tX7_partyOf hG hF hX hQ (rfl : gIsSt 36 = true) a1 S_3) gX10_rateAsDog_X7_partyOf rfl (gSt_m hX (rfl : gIsSt 36 = true)) (gSt_l (rfl : gIsSt 36 = true)) rfl ⟨rfl, by decide +kernel, by decide +kernel, by decide +kernel⟩ rfl (gRm_ok (by decide) (by decide)) rfl (Nat.le_of_ble_eq_true rfl) dX10_rateAsDog_22 (fun v_4 => ?_)
  refine g_iadd dX10_rateAsDog_25 ?_
  exact g_iret dX10_rateAsDog_26 rfl
set_option maxRecDepth 100000 in
set_option maxHeartbeats 4000000 in
theorem tX10_rateAsDog {G : gGG} {F : State → Heap → Prop} (hG : gOK G) (hF : gSb G F) (hX : gPX G) (hQ : gOQ G) (a1 : Int32) (S : gSt) : gCt G F yX10_rateAsDog wsX10_rateAsDog 3 [.ref (gad G 0), .int a1] S ((fX10_rateAsDog a1 S).map (fun x => (some (.int x.1), x.2))) := g_met (by decide +kernel) rfl (Nat.le_of_ble_eq_true rfl) (tX10_rateAsDog_L hG hF hX hQ a1 S)
/-! X10_rateAsHostess -/
theorem hiX10_rateAsHostess_10 : ∀ w ∈ u_ws RX10 TX10 13, w ∈ wsX10_rateAsHostess := fun _ hw => List.mem_cons_of_mem _ (List.mem_append_left _ (List.mem_append_right _ (hw)))
set_option maxRecDepth 100000 in
set_option maxHeartbeats 4000000 in
theorem tX10_rateAsHostess_L {G : gGG} {F : State → Heap → Prop} (hG : gOK G) (hF : gSb G F) (hX : gPX G) (hQ : gOQ G) (a1 : Int32) (S : gSt) : Gof G F RX10 cX10_rateAsHostess 2 wsX10_rateAsHostess (some .int) (gRm 2) 0 0 (gQ G (fun x => (some (.int x.1), x.2))) 0 [(0, .ref (gad G 0)), (1, .int a1)] [] S (fX10_rateAsHostess a1 S) := by
  unfold fX10_rateAsHostess
  refine g_aload_n 0 dX10_rateAsHostess_0 rfl ?_
  refine g_dup dX10_rateAsHostess_1 rfl ?_
  refine g_getJ (ci := 10) (k0 := 12) (C0 := RX10) (T := TX10) (N := 13) (hX 0 (by decide)) rfl rfl hiX10_rateAsHostess_10 (by decide) (List.mem_of_getElem? (i := 1) rfl) rfl dX10_rateAsHostess_2 ?_
  refine g_ldc2 (List.mem_of_getElem? (i := 2) rfl) dX10_rateAsHostess_5 ?_
  refine g_ladd dX10_rateAsHostess_8 ?_
  refine g_putJ hG (ci := 10) (k0 := 12) (C0 := RX10) (T := TX10) (N := 13) (hX 0 (by decide)) rfl rfl hiX10_rateAsHostess_10 (by decide) (List.mem_of_getElem? (i := 1) rfl) tyX10 tyX10_ok nmX10 rfl gOne10 rfl rfl rfl dX10_rateAsHostess_9 ?_
  refine g_nS (fun S_1 => ?_)
  refine g_aload_n 0 dX10_rateAsHostess_12 rfl ?_
  refine g_iload_n 1 dX10_rateAsHostess_13 rfl ?_
  refine g_cVi (ci := 10) (C0 := RX10) (T := TX10) (N := 13) (n := 1) (As := [.int a1]) (rest := []) hF (tX10_rateAsGuest hG hF hX hQ a1 S_1) gX10_rateAsHostess_X10_rateAsGuest rfl (hX 0 (by decide)) rfl rfl ⟨rfl, by decide +kernel, by decide +kernel, by decide +kernel⟩ rfl (gRm_ok (by decide) (by decide)) rfl (Nat.le_of_ble_eq_true rfl) dX10_rateAsHostess_14 (fun v_2 S_3 => ?_)
  refine g_aload_n 0 dX10_rateAsHostess_17 rfl ?_
  refine g_getK (ci := 10) (k0 := 5) (C0 := RX10) (T := TX10) (N := 13) (hX 0 (by decide)) rfl rfl hiX10_rateAsHostess_10 (by decide) (List.mem_of_getElem? (i := 3) rfl) rfl dX10_rateAsHostess_18 ?_
  refine g_cVp (ci := 7) (C0 := RX7) (T := TX7) (N := 5) (n := 0) (As := []) (rest := [.int v_2]) hF (tX7_parties hG hF hX hQ (rfl : gIsSt 36 = true) S_3) gX10_rateAsHostess_X7_parties rfl (gSt_m hX (rfl : gIsSt 36 = true)) (gSt_l (rfl : gIsSt 36 = true)) rfl ⟨rfl, by decide +kernel, by decide +kernel, by decide +kernel⟩ rfl (gRm_ok (by decide) (by decide)) rfl (Nat.le_of_ble_eq_true rfl) dX10_rateAsHostess_21 (fun v_4 => ?_)
  refine g_iadd dX10_rateAsHostess_24 ?_
  exact g_iret dX10_rateAsHostess_25 rfl
set_option maxRecDepth 100000 in
set_option maxHeartbeats 4000000 in
theorem tX10_rateAsHostess {G : gGG} {F : State → Heap → Prop} (hG : gOK G) (hF : gSb G F) (hX : gPX G) (hQ : gOQ G) (a1 : Int32) (S : gSt) : gCt G F yX10_rateAsHostess wsX10_rateAsHostess 2 [.ref (gad G 0), .int a1] S ((fX10_rateAsHostess a1 S).map (fun x => (some (.int x.1), x.2))) := g_met (by decide +kernel) rfl (Nat.le_of_ble_eq_true rfl) (tX10_rateAsHostess_L hG hF hX hQ a1 S)
/-! X10_rate -/
set_option maxRecDepth 100000 in
set_option maxHeartbeats 4000000 in
theorem tX10_rate_L {G : gGG} {F : State → Heap → Prop} (hG : gOK G) (hF : gSb G F) (hX : gPX G) (hQ : gOQ G) (a1 : Int32) (a2 : Int32) (S : gSt) : Gof G F RX10 cX10_rate 3 wsX10_rate (some .int) (gRm 4) 0 0 (gQ G (fun x => (some (.int x.1), x.2))) 0 [(0, .ref (gad G 0)), (1, .int a1), (2, .int a2)] [] S (fX10_rate a1 a2 S) := by
  unfold fX10_rate
  refine g_aload_n 0 dX10_rate_0 rfl ?_
  refine g_iload_n 2 dX10_rate_1 rfl ?_
  refine g_cVp (ci := 10) (C0 := RX10) (T := TX10) (N := 13) (n := 1) (As := [.int a2]) (rest := []) hF (tX10_isGuest hG hF hX hQ a2 S) gX10_rate_X10_isGuest rfl (hX 0 (by decide)) rfl rfl ⟨rfl, by decide +kernel, by decide +kernel, by decide +kernel⟩ rfl (gRm_ok (by decide) (by decide)) rfl (Nat.le_of_ble_eq_true rfl) dX10_rate_2 (fun v_1 => ?_)
  refine g_if_ne (tgt := 11) dX10_rate_5 (by decide) (fun h_1 => ?_) (fun h_1 => ?_)
  · refine g_iload_n 1 dX10_rate_11 rfl ?_
    refine g_ite (c0 := a1 = 0) (fun h_2 => ?_) (fun h_2 => ?_)
    · refine g_tin (tgt := 52) dX10_rate_12 (by rw [h_2]; decide) (by rw [h_2]; decide) (by rw [h_2]; rfl) (by decide) ?_
      refine g_aload_n 0 dX10_rate_52 rfl ?_
      refine g_iload_n 2 dX10_rate_53 rfl ?_
      refine g_cVi (ci := 10) (C0 := RX10) (T := TX10) (N := 13) (n := 1) (As := [.int a2]) (rest := []) hF (tX10_rateAsGuest hG hF hX hQ a2 S) gX10_rate_X10_rateAsGuest rfl (hX 0 (by decide)) rfl rfl ⟨rfl, by decide +kernel, by decide +kernel, by decide +kernel⟩ rfl (gRm_ok (by decide) (by decide)) rfl (Nat.le_of_ble_eq_true rfl) dX10_rate_54 (fun v_2 S_3 => ?_)
      exact g_iret dX10_rate_57 rfl
    refine g_ite (c0 := a1 = 1) (fun h_3 => ?_) (fun h_3 => ?_)
    · refine g_tin (tgt := 58) dX10_rate_12 (by rw [h_3]; decide) (by rw [h_3]; decide) (by rw [h_3]; rfl) (by decide) ?_
      refine g_aload_n 0 dX10_rate_58 rfl ?_
      refine g_iload_n 2 dX10_rate_59 rfl ?_
      refine g_cVi (ci := 10) (C0 := RX10) (T := TX10) (N := 13) (n := 1) (As := [.int a2]) (rest := []) hF (tX10_rateAsTalker hG hF hX hQ a2 S) gX10_rate_X10_rateAsTalker rfl (hX 0 (by decide)) rfl rfl ⟨rfl, by decide +kernel, by decide +kernel, by decide +kernel⟩ rfl (gRm_ok (by decide) (by decide)) rfl (Nat.le_of_ble_eq_true rfl) dX10_rate_60 (fun v_4 S_5 => ?_)
      exact g_iret dX10_rate_63 rfl
    refine g_ite (c0 := a1 = 2) (fun h_4 => ?_) (fun h_4 => ?_)
    · refine g_tin (tgt := 64) dX10_rate_12 (by rw [h_4]; decide) (by rw [h_4]; decide) (by rw [h_4]; rfl) (by decide) ?_
      refine g_aload_n 0 dX10_rate_64 rfl ?_
      refine g_iload_n 2 dX10_rate_65 rfl ?_
      refine g_cVi (ci := 10) (C0 := RX10) (T := TX10) (N := 13) (n := 1) (As := [.int a2]) (rest := []) hF (tX10_rateAsListener hG hF hX hQ a2 S) gX10_rate_X10_rateAsListener rfl (hX 0 (by decide)) rfl rfl ⟨rfl, by decide +kernel, by decide +kernel, by decide +kernel⟩ rfl (gRm_ok (by decide) (by decide)) rfl (Nat.le_of_ble_eq_true rfl) dX10_rate_66 (fun v_6 S_7 => ?_)
      exact g_iret dX10_rate_69 rfl
    refine g_ite (c0 := a1 = 3) (fun h_5 => ?_) (fun h_5 => ?_)
    · refine g_tin (tgt := 70) dX10_rate_12 (by rw [h_5]; decide) (by rw [h_5]; decide) (by rw [h_5]; rfl) (by decide) ?_
      refine g_aload_n 0 dX10_rate_70 rfl ?_
      refine g_iload_n 2 dX10_rate_71 rfl ?_
      refine g_cVi (ci := 10) (C0 := RX10) (T := TX10) (N := 13) (n := 1) (As := [.int a2]) (rest := []) hF (tX10_rateAsSinger hG hF hX hQ a2 S) gX10_rate_X10_rateAsSinger rfl (hX 0 (by decide)) rfl rfl ⟨rfl, by decide +kernel, by decide +kernel, by decide +kernel⟩ rfl (gRm_ok (by decide) (by decide)) rfl (Nat.le_of_ble_eq_true rfl) dX10_rate_72 (fun v_8 S_9 => ?_)
      exact g_iret dX10_rate_75 rfl
    refine g_ite (c0 := a1 = 4) (fun h_6 => ?_) (fun h_6 => ?_)
    · refine g_tin (tgt := 76) dX10_rate_12 (by rw [h_6]; decide) (by rw [h_6]; decide) (by rw [h_6]; rfl) (by decide) ?_
      refine g_aload_n 0 dX10_rate_76 rfl ?_
      refine g_iload_n 2 dX10_rate_77 rfl ?_
      refine g_cVi (ci := 10) (C0 := RX10) (T := TX10) (N := 13) (n := 1) (As := [.int a2]) (rest := []) hF (tX10_rateAsDog hG hF hX hQ a2 S) gX10_rate_X10_rateAsDog rfl (hX 0 (by decide)) rfl rfl ⟨rfl, by decide +kernel, by decide +kernel, by decide +kernel⟩ rfl (gRm_ok (by decide) (by decide)) rfl (Nat.le_of_ble_eq_true rfl) dX10_rate_78 (fun v_10 S_11 => ?_)
      exact g_iret dX10_rate_81 rfl
    refine g_ite (c0 := a1 = 5) (fun h_7 => ?_) (fun h_7 => ?_)
    · refine g_tin (tgt := 82) dX10_rate_12 (by rw [h_7]; decide) (by rw [h_7]; decide) (by rw [h_7]; rfl) (by decide) ?_
      refine g_aload_n 0 dX10_rate_82 rfl ?_
      refine g_iload_n 2 dX10_rate_83 rfl ?_
      refine g_cVi (ci := 10) (C0 := RX10) (T := TX10) (N := 13) (n := 1) (As := [.int a2]) (rest := []) hF (tX10_rateAsHostess hG hF hX hQ a2 S) gX10_rate_X10_rateAsHostess rfl (hX 0 (by decide)) rfl rfl ⟨rfl, by decide +kernel, by decide +kernel, by decide +kernel⟩ rfl (gRm_ok (by decide) (by decide)) rfl (Nat.le_of_ble_eq_true rfl) dX10_rate_84 (fun v_12 S_13 => ?_)
      exact g_iret dX10_rate_87 rfl
    refine g_tout (tgt := 88) dX10_rate_12 (by have nh_2 := lv_neT (a := 0) h_2 (by decide); have nh_3 := lv_neT (a := 1) h_3 (by decide); have nh_4 := lv_neT (a := 2) h_4 (by decide); have nh_5 := lv_neT (a := 3) h_5 (by decide); have nh_6 := lv_neT (a := 4) h_6 (by decide); have nh_7 := lv_neT (a := 5) h_7 (by decide); omega) (by decide) ?_
    refine g_ldc (List.mem_of_getElem? (i := 1) rfl) dX10_rate_88 ?_
    exact g_iret dX10_rate_90 rfl
  · refine g_ldc (List.mem_of_getElem? (i := 1) rfl) dX10_rate_8 ?_
    exact g_iret dX10_rate_10 rfl
set_option maxRecDepth 100000 in
set_option maxHeartbeats 4000000 in
theorem tX10_rate {G : gGG} {F : State → Heap → Prop} (hG : gOK G) (hF : gSb G F) (hX : gPX G) (hQ : gOQ G) (a1 : Int32) (a2 : Int32) (S : gSt) : gCt G F yX10_rate wsX10_rate 4 [.ref (gad G 0), .int a1, .int a2] S ((fX10_rate a1 a2 S).map (fun x => (some (.int x.1), x.2))) := g_met (by decide +kernel) rfl (Nat.le_of_ble_eq_true rfl) (tX10_rate_L hG hF hX hQ a1 a2 S)
/-! X10_keep -/
theorem hiX10_keep_10 : ∀ w ∈ u_ws RX10 TX10 13, w ∈ wsX10_keep := fun _ hw => List.mem_cons_of_mem _ (List.mem_append_left _ (List.mem_append_left _ (List.mem_append_left _ (List.mem_append_left _ (List.mem_append_right _ (hw))))))
set_option maxRecDepth 100000 in
set_option maxHeartbeats 4000000 in
theorem tX10_keep_L {G : gGG} {F : State → Heap → Prop} (hG : gOK G) (hF : gSb G F) (hX : gPX G) (hQ : gOQ G) (a1 : Int32) (S : gSt) : Gof G F RX10 cX10_keep 2 wsX10_keep (some .int) (gRm 5) 0 0 (gQ G (fun x => (some (.int x.1), x.2))) 0 [(0, .ref (gad G 0)), (1, .int a1)] [] S (fX10_keep a1 S) := by
  unfold fX10_keep
  refine g_iload_n 1 dX10_keep_0 rfl ?_
  refine g_cSp (n := 1) (As := [.int a1]) (rest := []) hF (tX10_isImage hG hF hX hQ a1 S) gX10_keep_X10_isImage rfl ⟨by decide +kernel, by decide +kernel, by decide +kernel⟩ rfl (gRm_ok (by decide) (by decide)) rfl (Nat.le_of_ble_eq_true rfl) dX10_keep_1 (fun v_1 => ?_)
  refine g_if_ne (tgt := 9) dX10_keep_4 (by decide) (fun h_1 => ?_) (fun h_1 => ?_)
  · refine g_aload_n 0 dX10_keep_9 rfl ?_
    refine g_iload_n 1 dX10_keep_10 rfl ?_
    refine g_cVr (ci := 10) (C0 := RX10) (T := TX10) (N := 13) (n := 1) (As := [.int a1]) (rest := []) hF (tX10_imageOf hG hF hX hQ a1 S) gX10_keep_X10_imageOf rfl (hX 0 (by decide)) rfl rfl ⟨rfl, by decide +kernel, by decide +kernel, by decide +kernel⟩ rfl (gRm_ok (by decide) (by decide)) rfl (Nat.le_of_ble_eq_true rfl) dX10_keep_11 (fun q_2 => ?_)
    refine g_gC (fun h_2 => ?_)
    refine g_aload_n 0 dX10_keep_14 rfl ?_
    refine g_getK (ci := 10) (k0 := 5) (C0 := RX10) (T := TX10) (N := 13) (hX 0 (by decide)) rfl rfl hiX10_keep_10 (by decide) (List.mem_of_getElem? (i := 1) rfl) rfl dX10_keep_15 ?_
    refine g_aload_n 0 dX10_keep_18 rfl ?_
    refine g_getK (ci := 10) (k0 := 6) (C0 := RX10) (T := TX10) (N := 13) (hX 0 (by decide)) rfl rfl hiX10_keep_10 (by decide) (List.mem_of_getElem? (i := 2) rfl) rfl dX10_keep_19 ?_
    refine g_aload_n 0 dX10_keep_22 rfl ?_
    refine g_getK (ci := 10) (k0 := 7) (C0 := RX10) (T := TX10) (N := 13) (hX 0 (by decide)) rfl rfl hiX10_keep_10 (by decide) (List.mem_of_getElem? (i := 3) rfl) rfl dX10_keep_23 ?_
    refine g_cVv (ci := 1) (C0 := RX1) (T := TX1) (N := 4) (n := 3) (As := [.ref (gad G 36), .ref (gad G 40), .ref (gad G 44)]) (rest := []) hF (tX1_take hG hF hX hQ h_2 (rfl : gIsSt 36 = true) (rfl : gIsSi 40 = true) S) gX10_keep_X1_take rfl (gIm_m hX h_2) (gIm_l h_2) rfl ⟨rfl, by decide +kernel, by decide +kernel, by decide +kernel⟩ rfl (gRm_ok (by decide) (by decide)) rfl (Nat.le_of_ble_eq_true rfl) dX10_keep_26 (fun S_3 => ?_)
    refine g_aload_n 0 dX10_keep_29 rfl ?_
    refine g_getK (ci := 10) (k0 := 5) (C0 := RX10) (T := TX10) (N := 13) (hX 0 (by decide)) rfl rfl hiX10_keep_10 (by decide) (List.mem_of_getElem? (i := 1) rfl) rfl dX10_keep_30 ?_
    refine g_cVp (ci := 7) (C0 := RX7) (T := TX7) (N := 5) (n := 0) (As := []) (rest := []) hF (tX7_parties hG hF hX hQ (rfl : gIsSt 36 = true) S_3) gX10_keep_X7_parties rfl (gSt_m hX (rfl : gIsSt 36 = true)) (gSt_l (rfl : gIsSt 36 = true)) rfl ⟨rfl, by decide +kernel, by decide +kernel, by decide +kernel⟩ rfl (gRm_ok (by decide) (by decide)) rfl (Nat.le_of_ble_eq_true rfl) dX10_keep_33 (fun v_4 => ?_)
    exact g_iret dX10_keep_36 rfl
  · refine g_iconst (v := (-1)) dX10_keep_7 (by decide) ?_
    exact g_iret dX10_keep_8 rfl
set_option maxRecDepth 100000 in
set_option maxHeartbeats 4000000 in
theorem tX10_keep {G : gGG} {F : State → Heap → Prop} (hG : gOK G) (hF : gSb G F) (hX : gPX G) (hQ : gOQ G) (a1 : Int32) (S : gSt) : gCt G F yX10_keep wsX10_keep 5 [.ref (gad G 0), .int a1] S ((fX10_keep a1 S).map (fun x => (some (.int x.1), x.2))) := g_met (by decide +kernel) rfl (Nat.le_of_ble_eq_true rfl) (tX10_keep_L hG hF hX hQ a1 S)
/-! X10_back -/
theorem hiX10_back_10 : ∀ w ∈ u_ws RX10 TX10 13, w ∈ wsX10_back := fun _ hw => List.mem_cons_of_mem _ (List.mem_append_left _ (List.mem_append_left _ (List.mem_append_left _ (List.mem_append_left _ (List.mem_append_right _ (hw))))))
set_option maxRecDepth 100000 in
set_option maxHeartbeats 4000000 in
theorem tX10_back_L {G : gGG} {F : State → Heap → Prop} (hG : gOK G) (hF : gSb G F) (hX : gPX G) (hQ : gOQ G) (a1 : Int32) (S : gSt) : Gof G F RX10 cX10_back 3 wsX10_back (some .int) (gRm 5) 0 0 (gQ G (fun x => (some (.int x.1), x.2))) 0 [(0, .ref (gad G 0)), (1, .int a1)] [] S (fX10_back a1 S) := by
  unfold fX10_back
  refine g_iload_n 1 dX10_back_0 rfl ?_
  refine g_cSp (n := 1) (As := [.int a1]) (rest := []) hF (tX10_isImage hG hF hX hQ a1 S) gX10_back_X10_isImage rfl ⟨by decide +kernel, by decide +kernel, by decide +kernel⟩ rfl (gRm_ok (by decide) (by decide)) rfl (Nat.le_of_ble_eq_true rfl) dX10_back_1 (fun v_1 => ?_)
  refine g_if_ne (tgt := 9) dX10_back_4 (by decide) (fun h_1 => ?_) (fun h_1 => ?_)
  · refine g_aload_n 0 dX10_back_9 rfl ?_
    refine g_iload_n 1 dX10_back_10 rfl ?_
    refine g_cVr (ci := 10) (C0 := RX10) (T := TX10) (N := 13) (n := 1) (As := [.int a1]) (rest := []) hF (tX10_imageOf hG hF hX hQ a1 S) gX10_back_X10_imageOf rfl (hX 0 (by decide)) rfl rfl ⟨rfl, by decide +kernel, by decide +kernel, by decide +kernel⟩ rfl (gRm_ok (by decide) (by decide)) rfl (Nat.le_of_ble_eq_true rfl) dX10_back_11 (fun q_2 => ?_)
    refine g_gC (fun h_2 => ?_)
    refine g_astore_n (i := 2) (env' := [(2, .ref (gad G q_2)), (0, .ref (gad G 0)), (1, .int a1)]) dX10_back_14 rfl (by decide) rfl ?_
    refine g_aload_n 0 dX10_back_15 rfl ?_
    refine g_cVp (ci := 1) (C0 := RX1) (T := TX1) (N := 4) (n := 0) (As := []) (rest := []) hF (tX1_isKept hG hF hX hQ h_2 S) gX10_back_X1_isKept rfl (gIm_m hX h_2) (gIm_l h_2) rfl ⟨rfl, by decide +kernel, by decide +kernel, by decide +kernel⟩ rfl (gRm_ok (by decide) (by decide)) rfl (Nat.le_of_ble_eq_true rfl) dX10_back_16 (fun v_3 => ?_)
    refine g_if_ne (tgt := 25) dX10_back_19 (by decide) (fun h_3 => ?_) (fun h_3 => ?_)
    · refine g_aload_n 0 dX10_back_25 rfl ?_
      refine g_aload_n 1 dX10_back_26 rfl ?_
      refine g_getK (ci := 10) (k0 := 5) (C0 := RX10) (T := TX10) (N := 13) (hX 0 (by decide)) rfl rfl hiX10_back_10 (by decide) (List.mem_of_getElem? (i := 1) rfl) rfl dX10_back_27 ?_
      refine g_aload_n 1 dX10_back_30 rfl ?_
      refine g_getK (ci := 10) (k0 := 6) (C0 := RX10) (T := TX10) (N := 13) (hX 0 (by decide)) rfl rfl hiX10_back_10 (by decide) (List.mem_of_getElem? (i := 2) rfl) rfl dX10_back_31 ?_
      refine g_aload_n 1 dX10_back_34 rfl ?_
      refine g_getK (ci := 10) (k0 := 7) (C0 := RX10) (T := TX10) (N := 13) (hX 0 (by decide)) rfl rfl hiX10_back_10 (by decide) (List.mem_of_getElem? (i := 3) rfl) rfl dX10_back_35 ?_
      refine g_cVv (ci := 1) (C0 := RX1) (T := TX1) (N := 4) (n := 3) (As := [.ref (gad G 36), .ref (gad G 40), .ref (gad G 44)]) (rest := []) hF (tX1_giveBack hG hF hX hQ h_2 (rfl : gIsSt 36 = true) (rfl : gIsSi 40 = true) S) gX10_back_X1_giveBack rfl (gIm_m hX h_2) (gIm_l h_2) rfl ⟨rfl, by decide +kernel, by decide +kernel, by decide +kernel⟩ rfl (gRm_ok (by decide) (by decide)) rfl (Nat.le_of_ble_eq_true rfl) dX10_back_38 (fun S_4 => ?_)
      refine g_aload_n 1 dX10_back_41 rfl ?_
      refine g_getK (ci := 10) (k0 := 5) (C0 := RX10) (T := TX10) (N := 13) (hX 0 (by decide)) rfl rfl hiX10_back_10 (by decide) (List.mem_of_getElem? (i := 1) rfl) rfl dX10_back_42 ?_
      refine g_cVp (ci := 7) (C0 := RX7) (T := TX7) (N := 5) (n := 0) (As := []) (rest := []) hF (tX7_parties hG hF hX hQ (rfl : gIsSt 36 = true) S_4) gX10_back_X7_parties rfl (gSt_m hX (rfl : gIsSt 36 = true)) (gSt_l (rfl : gIsSt 36 = true)) rfl ⟨rfl, by decide +kernel, by decide +kernel, by decide +kernel⟩ rfl (gRm_ok (by decide) (by decide)) rfl (Nat.le_of_ble_eq_true rfl) dX10_back_45 (fun v_5 => ?_)
      exact g_iret dX10_back_48 rfl
    · refine g_bipush (v := (-2)) dX10_back_22 (by decide) ?_
      exact g_iret dX10_back_24 rfl
  · refine g_iconst (v := (-1)) dX10_back_7 (by decide) ?_
    exact g_iret dX10_back_8 rfl
set_option maxRecDepth 100000 in
set_option maxHeartbeats 4000000 in
theorem tX10_back {G : gGG} {F : State → Heap → Prop} (hG : gOK G) (hF : gSb G F) (hX : gPX G) (hQ : gOQ G) (a1 : Int32) (S : gSt) : gCt G F yX10_back wsX10_back 5 [.ref (gad G 0), .int a1] S ((fX10_back a1 S).map (fun x => (some (.int x.1), x.2))) := g_met (by decide +kernel) rfl (Nat.le_of_ble_eq_true rfl) (tX10_back_L hG hF hX hQ a1 S)
/-! X10_count -/
theorem hiX10_count_10 : ∀ w ∈ u_ws RX10 TX10 13, w ∈ wsX10_count := fun _ hw => List.mem_cons_of_mem _ (List.mem_append_left _ (List.mem_append_left _ (List.mem_append_left _ (List.mem_append_right _ (hw)))))
set_option maxRecDepth 100000 in
set_option maxHeartbeats 4000000 in
theorem tX10_count_L {G : gGG} {F : State → Heap → Prop} (hG : gOK G) (hF : gSb G F) (hX : gPX G) (hQ : gOQ G) (a1 : Int32) (S : gSt) : Gof G F RX10 cX10_count 2 wsX10_count (some .int) (gRm 3) 0 0 (gQ G (fun x => (some (.int x), S))) 0 [(0, .ref (gad G 0)), (1, .int a1)] [] S (fX10_count a1 S) := by
  unfold fX10_count
  refine g_iload_n 1 dX10_count_0 rfl ?_
  refine g_ite (c0 := a1 = 0) (fun h_1 => ?_) (fun h_1 => ?_)
  · refine g_tin (tgt := 36) dX10_count_1 (by rw [h_1]; decide) (by rw [h_1]; decide) (by rw [h_1]; rfl) (by decide) ?_
    refine g_aload_n 0 dX10_count_36 rfl ?_
    refine g_gC (fun h_2 => ?_)
    refine g_getM (ci := 10) (k0 := 0) (C0 := RX10) (T := TX10) (N := 13) (hX 0 (by decide)) rfl rfl hiX10_count_10 (by decide) (List.mem_of_getElem? (i := 1) rfl) rfl dX10_count_37 ?_
    refine g_cVp (ci := 5) (C0 := RX5) (T := TX5) (N := 6) (n := 0) (As := []) (rest := []) hF (tX5_guests hG hF hX hQ h_2 S) gX10_count_X5_guests rfl (gRu_m hX h_2) (gRu_l h_2) rfl ⟨rfl, by decide +kernel, by decide +kernel, by decide +kernel⟩ rfl (gRm_ok (by decide) (by decide)) rfl (Nat.le_of_ble_eq_true rfl) dX10_count_40 (fun v_1 => ?_)
    exact g_iret dX10_count_43 rfl
  refine g_ite (c0 := a1 = 1) (fun h_3 => ?_) (fun h_3 => ?_)
  · refine g_tin (tgt := 44) dX10_count_1 (by rw [h_3]; decide) (by rw [h_3]; decide) (by rw [h_3]; rfl) (by decide) ?_
    refine g_aload_n 0 dX10_count_44 rfl ?_
    refine g_getK (ci := 10) (k0 := 6) (C0 := RX10) (T := TX10) (N := 13) (hX 0 (by decide)) rfl rfl hiX10_count_10 (by decide) (List.mem_of_getElem? (i := 2) rfl) rfl dX10_count_45 ?_
    refine g_cVp (ci := 6) (C0 := RX6) (T := TX6) (N := 4) (n := 0) (As := []) (rest := []) hF (tX6_size hG hF hX hQ (rfl : gIsSi 40 = true) S) gX10_count_X6_size rfl (gSi_m hX (rfl : gIsSi 40 = true)) (gSi_l (rfl : gIsSi 40 = true)) rfl ⟨rfl, by decide +kernel, by decide +kernel, by decide +kernel⟩ rfl (gRm_ok (by decide) (by decide)) rfl (Nat.le_of_ble_eq_true rfl) dX10_count_48 (fun v_2 => ?_)
    exact g_iret dX10_count_51 rfl
  refine g_ite (c0 := a1 = 2) (fun h_4 => ?_) (fun h_4 => ?_)
  · refine g_tin (tgt := 52) dX10_count_1 (by rw [h_4]; decide) (by rw [h_4]; decide) (by rw [h_4]; rfl) (by decide) ?_
    refine g_aload_n 0 dX10_count_52 rfl ?_
    refine g_gC (fun h_5 => ?_)
    refine g_getM (ci := 10) (k0 := 0) (C0 := RX10) (T := TX10) (N := 13) (hX 0 (by decide)) rfl rfl hiX10_count_10 (by decide) (List.mem_of_getElem? (i := 1) rfl) rfl dX10_count_53 ?_
    refine g_cVp (ci := 5) (C0 := RX5) (T := TX5) (N := 6) (n := 0) (As := []) (rest := []) hF (tX5_pairsTogether hG hF hX hQ h_5 S) gX10_count_X5_pairsTogether rfl (gRu_m hX h_5) (gRu_l h_5) rfl ⟨rfl, by decide +kernel, by decide +kernel, by decide +kernel⟩ rfl (gRm_ok (by decide) (by decide)) rfl (Nat.le_of_ble_eq_true rfl) dX10_count_56 (fun v_3 => ?_)
    exact g_iret dX10_count_59 rfl
  refine g_ite (c0 := a1 = 3) (fun h_6 => ?_) (fun h_6 => ?_)
  · refine g_tin (tgt := 60) dX10_count_1 (by rw [h_6]; decide) (by rw [h_6]; decide) (by rw [h_6]; rfl) (by decide) ?_
    refine g_aload_n 0 dX10_count_60 rfl ?_
    refine g_gC (fun h_7 => ?_)
    refine g_getM (ci := 10) (k0 := 0) (C0 := RX10) (T := TX10) (N := 13) (hX 0 (by decide)) rfl rfl hiX10_count_10 (by decide) (List.mem_of_getElem? (i := 1) rfl) rfl dX10_count_61 ?_
    refine g_cVp (ci := 5) (C0 := RX5) (T := TX5) (N := 6) (n := 0) (As := []) (rest := []) hF (tX5_pairsApart hG hF hX hQ h_7 S) gX10_count_X5_pairsApart rfl (gRu_m hX h_7) (gRu_l h_7) rfl ⟨rfl, by decide +kernel, by decide +kernel, by decide +kernel⟩ rfl (gRm_ok (by decide) (by decide)) rfl (Nat.le_of_ble_eq_true rfl) dX10_count_64 (fun v_4 => ?_)
    exact g_iret dX10_count_67 rfl
  refine g_ite (c0 := a1 = 4) (fun h_8 => ?_) (fun h_8 => ?_)
  · refine g_tin (tgt := 68) dX10_count_1 (by rw [h_8]; decide) (by rw [h_8]; decide) (by rw [h_8]; rfl) (by decide) ?_
    refine g_aload_n 0 dX10_count_68 rfl ?_
    refine g_getK (ci := 10) (k0 := 2) (C0 := RX10) (T := TX10) (N := 13) (hX 0 (by decide)) rfl rfl hiX10_count_10 (by decide) (List.mem_of_getElem? (i := 3) rfl) rfl dX10_count_69 ?_
    refine g_cVp (ci := 8) (C0 := RX8) (T := TX8) (N := 2) (n := 0) (As := []) (rest := []) hF (tX8_length hG hF hX hQ S) gX10_count_X8_length rfl (hX 29 (by decide)) rfl rfl ⟨rfl, by decide +kernel, by decide +kernel, by decide +kernel⟩ rfl (gRm_ok (by decide) (by decide)) rfl (Nat.le_of_ble_eq_true rfl) dX10_count_72 (fun v_5 => ?_)
    exact g_iret dX10_count_75 rfl
  refine g_tout (tgt := 76) dX10_count_1 (by have nh_1 := lv_neT (a := 0) h_1 (by decide); have nh_3 := lv_neT (a := 1) h_3 (by decide); have nh_4 := lv_neT (a := 2) h_4 (by decide); have nh_6 := lv_neT (a := 3) h_6 (by decide); have nh_8 := lv_neT (a := 4) h_8 (by decide); omega) (by decide) ?_
  refine g_iconst (v := (-1)) dX10_count_76 (by decide) ?_
  exact g_iret dX10_count_77 rfl
set_option maxRecDepth 100000 in
set_option maxHeartbeats 4000000 in
theorem tX10_count {G : gGG} {F : State → Heap → Prop} (hG : gOK G) (hF : gSb G F) (hX : gPX G) (hQ : gOQ G) (a1 : Int32) (S : gSt) : gCt G F yX10_count wsX10_count 3 [.ref (gad G 0), .int a1] S ((fX10_count a1 S).map (fun x => (some (.int x), S))) := g_met (by decide +kernel) rfl (Nat.le_of_ble_eq_true rfl) (tX10_count_L hG hF hX hQ a1 S)
/-! X10_trace -/
theorem hiX10_trace_10 : ∀ w ∈ u_ws RX10 TX10 13, w ∈ wsX10_trace := fun _ hw => List.mem_cons_of_mem _ (List.mem_append_right _ (hw))
set_option maxRecDepth 100000 in
set_option maxHeartbeats 4000000 in
theorem tX10_trace_L {G : gGG} {F : State → Heap → Prop} (hG : gOK G) (hF : gSb G F) (hX : gPX G) (hQ : gOQ G) (S : gSt) : Gof G F RX10 cX10_trace 1 wsX10_trace (some .long) (gRm 0) 0 0 (gQ G (fun x => (some (.long x), S))) 0 [(0, .ref (gad G 0))] [] S (fX10_trace S) := by
  unfold fX10_trace
  refine g_aload_n 0 dX10_trace_0 rfl ?_
  refine g_getJ (ci := 10) (k0 := 12) (C0 := RX10) (T := TX10) (N := 13) (hX 0 (by decide)) rfl rfl hiX10_trace_10 (by decide) (List.mem_of_getElem? (i := 1) rfl) rfl dX10_trace_1 ?_
  exact g_lret dX10_trace_4 rfl
set_option maxRecDepth 100000 in
set_option maxHeartbeats 4000000 in
theorem tX10_trace {G : gGG} {F : State → Heap → Prop} (hG : gOK G) (hF : gSb G F) (hX : gPX G) (hQ : gOQ G) (S : gSt) : gCt G F yX10_trace wsX10_trace 0 [.ref (gad G 0)] S ((fX10_trace S).map (fun x => (some (.long x), S))) := g_met (by decide +kernel) rfl (Nat.le_of_ble_eq_true rfl) (tX10_trace_L hG hF hX hQ S)
