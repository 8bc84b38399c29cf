/-! X3_finer -/
theorem hiX3_finer_3 : ∀ w ∈ u_ws RX3 TX3 2, w ∈ wsX3_finer := fun _ hw => List.mem_cons_of_mem _ (List.mem_append_right _ (hw))
set_option maxRecDepth 100000 in
set_option maxHeartbeats 4000000 in
theorem tX3_finer_L {G : gGG} {F : State → Heap → Prop} (hG : gOK G) (hF : gSb G F) (hX : gPX G) (hQ : gOQ G) (S : gSt) : Gof G F RX3 cX3_finer 1 wsX3_finer (some (.object "GuestParties$Standing")) (gRm 0) 0 0 (gQ G (fun x => (some (.ref (gad G x)), S))) 0 [(0, .ref (gad G 63))] [] S (fX3_finer S) := by
  unfold fX3_finer
  refine g_aload_n 0 dX3_finer_0 rfl ?_
  refine g_getQ (ci := 3) (k0 := 0) (C0 := RX3) (T := TX3) (N := 2) (hX 63 (by decide)) rfl rfl hiX3_finer_3 (by decide) (List.mem_of_getElem? (i := 1) rfl) rfl dX3_finer_1 ?_
  exact g_aret dX3_finer_4 rfl
set_option maxRecDepth 100000 in
set_option maxHeartbeats 4000000 in
theorem tX3_finer {G : gGG} {F : State → Heap → Prop} (hG : gOK G) (hF : gSb G F) (hX : gPX G) (hQ : gOQ G) (S : gSt) : gCt G F yX3_finer wsX3_finer 0 [.ref (gad G 63)] S ((fX3_finer S).map (fun x => (some (.ref (gad G x)), S))) := g_met (by decide +kernel) rfl (Nat.le_of_ble_eq_true rfl) (tX3_finer_L hG hF hX hQ S)
/-! X3_coarser -/
theorem hiX3_coarser_3 : ∀ w ∈ u_ws RX3 TX3 2, w ∈ wsX3_coarser := fun _ hw => List.mem_cons_of_mem _ (List.mem_append_right _ (hw))
set_option maxRecDepth 100000 in
set_option maxHeartbeats 4000000 in
theorem tX3_coarser_L {G : gGG} {F : State → Heap → Prop} (hG : gOK G) (hF : gSb G F) (hX : gPX G) (hQ : gOQ G) (S : gSt) : Gof G F RX3 cX3_coarser 1 wsX3_coarser (some (.object "GuestParties$Standing")) (gRm 0) 0 0 (gQ G (fun x => (some (.ref (gad G x)), S))) 0 [(0, .ref (gad G 63))] [] S (fX3_coarser S) := by
  unfold fX3_coarser
  refine g_aload_n 0 dX3_coarser_0 rfl ?_
  refine g_getQ (ci := 3) (k0 := 1) (C0 := RX3) (T := TX3) (N := 2) (hX 63 (by decide)) rfl rfl hiX3_coarser_3 (by decide) (List.mem_of_getElem? (i := 1) rfl) rfl dX3_coarser_1 ?_
  exact g_aret dX3_coarser_4 rfl
set_option maxRecDepth 100000 in
set_option maxHeartbeats 4000000 in
theorem tX3_coarser {G : gGG} {F : State → Heap → Prop} (hG : gOK G) (hF : gSb G F) (hX : gPX G) (hQ : gOQ G) (S : gSt) : gCt G F yX3_coarser wsX3_coarser 0 [.ref (gad G 63)] S ((fX3_coarser S).map (fun x => (some (.ref (gad G x)), S))) := g_met (by decide +kernel) rfl (Nat.le_of_ble_eq_true rfl) (tX3_coarser_L hG hF hX hQ S)
/-! X3_compare -/
theorem hiX3_compare_3 : ∀ w ∈ u_ws RX3 TX3 2, w ∈ wsX3_compare := fun _ hw => List.mem_cons_of_mem _ (List.mem_append_left _ (List.mem_append_right _ (hw)))
set_option maxRecDepth 100000 in
set_option maxHeartbeats 4000000 in
theorem tX3_compare_L {G : gGG} {F : State → Heap → Prop} (hG : gOK G) (hF : gSb G F) (hX : gPX G) (hQ : gOQ G) {a1 : Nat} (h1 : gIsSt a1 = true) {a2 : Nat} (h2 : gIsSt a2 = true) (S : gSt) : Gof G F RX3 cX3_compare 3 wsX3_compare none (gRm 4) 0 0 (gQ G (fun x => (none, x))) 0 [(0, .ref (gad G 63)), (1, .ref (gad G a1)), (2, .ref (gad G a2))] [] S (fX3_compare a1 a2 S) := by
  unfold fX3_compare
  refine g_aload_n 0 dX3_compare_0 rfl ?_
  refine g_getQ (ci := 3) (k0 := 0) (C0 := RX3) (T := TX3) (N := 2) (hX 63 (by decide)) rfl rfl hiX3_compare_3 (by decide) (List.mem_of_getElem? (i := 1) rfl) rfl dX3_compare_1 ?_
  refine g_aload_n 1 dX3_compare_4 rfl ?_
  refine g_aload_n 2 dX3_compare_5 rfl ?_
  refine g_cVv (ci := 7) (C0 := RX7) (T := TX7) (N := 5) (n := 2) (As := [.ref (gad G a1), .ref (gad G a2)]) (rest := []) hF (tX7_meet hG hF hX hQ (rfl : gIsSt 64 = true) h1 h2 S) gX3_compare_X7_meet rfl (gSt_m hX (rfl : gIsSt 64 = true)) (gSt_l (rfl : gIsSt 64 = true)) rfl ⟨rfl, by decide +kernel, by decide +kernel, by decide +kernel⟩ rfl (gRm_ok (by decide) (by decide)) rfl (Nat.le_of_ble_eq_true rfl) dX3_compare_6 (fun S_1 => ?_)
  refine g_aload_n 0 dX3_compare_9 rfl ?_
  refine g_getQ (ci := 3) (k0 := 1) (C0 := RX3) (T := TX3) (N := 2) (hX 63 (by decide)) rfl rfl hiX3_compare_3 (by decide) (List.mem_of_getElem? (i := 2) rfl) rfl dX3_compare_10 ?_
  refine g_aload_n 1 dX3_compare_13 rfl ?_
  refine g_cVv (ci := 7) (C0 := RX7) (T := TX7) (N := 5) (n := 1) (As := [.ref (gad G a1)]) (rest := []) hF (tX7_standLike hG hF hX hQ (rfl : gIsSt 68 = true) h1 S_1) gX3_compare_X7_standLike rfl (gSt_m hX (rfl : gIsSt 68 = true)) (gSt_l (rfl : gIsSt 68 = true)) rfl ⟨rfl, by decide +kernel, by decide +kernel, by decide +kernel⟩ rfl (gRm_ok (by decide) (by decide)) rfl (Nat.le_of_ble_eq_true rfl) dX3_compare_14 (fun S_2 => ?_)
  refine g_aload_n 0 dX3_compare_17 rfl ?_
  refine g_getQ (ci := 3) (k0 := 1) (C0 := RX3) (T := TX3) (N := 2) (hX 63 (by decide)) rfl rfl hiX3_compare_3 (by decide) (List.mem_of_getElem? (i := 2) rfl) rfl dX3_compare_18 ?_
  refine g_aload_n 2 dX3_compare_21 rfl ?_
  refine g_cVv (ci := 7) (C0 := RX7) (T := TX7) (N := 5) (n := 1) (As := [.ref (gad G a2)]) (rest := []) hF (tX7_mergeAlong hG hF hX hQ (rfl : gIsSt 68 = true) h2 S_2) gX3_compare_X7_mergeAlong rfl (gSt_m hX (rfl : gIsSt 68 = true)) (gSt_l (rfl : gIsSt 68 = true)) rfl ⟨rfl, by decide +kernel, by decide +kernel, by decide +kernel⟩ rfl (gRm_ok (by decide) (by decide)) rfl (Nat.le_of_ble_eq_true rfl) dX3_compare_22 (fun S_3 => ?_)
  exact g_vret dX3_compare_25 rfl
set_option maxRecDepth 100000 in
set_option maxHeartbeats 4000000 in
theorem tX3_compare {G : gGG} {F : State → Heap → Prop} (hG : gOK G) (hF : gSb G F) (hX : gPX G) (hQ : gOQ G) {a1 : Nat} (h1 : gIsSt a1 = true) {a2 : Nat} (h2 : gIsSt a2 = true) (S : gSt) : gCt G F yX3_compare wsX3_compare 4 [.ref (gad G 63), .ref (gad G a1), .ref (gad G a2)] S ((fX3_compare a1 a2 S).map (fun x => (none, x))) := g_met (by decide +kernel) rfl (Nat.le_of_ble_eq_true rfl) (tX3_compare_L hG hF hX hQ h1 h2 S)
/-! X3_piecesOf -/
theorem hiX3_piecesOf_3 : ∀ w ∈ u_ws RX3 TX3 2, w ∈ wsX3_piecesOf := fun _ hw => List.mem_cons_of_mem _ (List.mem_append_left _ (List.mem_append_right _ (hw)))
set_option maxRecDepth 100000 in
set_option maxHeartbeats 4000000 in
theorem tX3_piecesOf_L4 {G : gGG} {F : State → Heap → Prop} (hG : gOK G) (hF : gSb G F) (hX : gPX G) (hQ : gOQ G) (S : gSt) : ∀ (n : Nat) (x1 : Int32) (x2 : Int32) (x3 : Int32), Gof G F RX3 cX3_piecesOf 4 wsX3_piecesOf (some .int) (gRm 1) 0 0 (gQ G (fun x => (some (.int x), S))) 4 [(0, .ref (gad G 63)), (1, .int x1), (2, .int x2), (3, .int x3)] [] S (fX3_piecesOf_L4 S n x1 x2 x3) := by
  intro n
  induction n with
  | zero => intro x1 x2 x3; exact g_none
  | succ n ih =>
    intro x1 x2 x3
    unfold fX3_piecesOf_L4
    refine g_iload_n 3 dX3_piecesOf_4 rfl ?_
    refine g_aload_n 0 dX3_piecesOf_5 rfl ?_
    refine g_getQ (ci := 3) (k0 := 0) (C0 := RX3) (T := TX3) (N := 2) (hX 63 (by decide)) rfl rfl hiX3_piecesOf_3 (by decide) (List.mem_of_getElem? (i := 1) rfl) rfl dX3_piecesOf_6 ?_
    refine g_cVp (ci := 7) (C0 := RX7) (T := TX7) (N := 5) (n := 0) (As := []) (rest := [.int x3]) hF (tX7_parties hG hF hX hQ (rfl : gIsSt 64 = true) S) gX3_piecesOf_X7_parties rfl (gSt_m hX (rfl : gIsSt 64 = true)) (gSt_l (rfl : gIsSt 64 = true)) rfl ⟨rfl, by decide +kernel, by decide +kernel, by decide +kernel⟩ rfl (gRm_ok (by decide) (by decide)) rfl (Nat.le_of_ble_eq_true rfl) dX3_piecesOf_9 (fun v_1 => ?_)
    refine g_icmp_ge (tgt := 39) dX3_piecesOf_12 (by decide) (fun h_1 => ?_) (fun h_1 => ?_)
    · refine g_iload_n 2 dX3_piecesOf_39 rfl ?_
      exact g_iret dX3_piecesOf_40 rfl
    · refine g_aload_n 0 dX3_piecesOf_15 rfl ?_
      refine g_getQ (ci := 3) (k0 := 0) (C0 := RX3) (T := TX3) (N := 2) (hX 63 (by decide)) rfl rfl hiX3_piecesOf_3 (by decide) (List.mem_of_getElem? (i := 1) rfl) rfl dX3_piecesOf_16 ?_
      refine g_iload_n 3 dX3_piecesOf_19 rfl ?_
      refine g_cVp (ci := 7) (C0 := RX7) (T := TX7) (N := 5) (n := 1) (As := [.int x3]) (rest := []) hF (tX7_setOf hG hF hX hQ (rfl : gIsSt 64 = true) x3 S) gX3_piecesOf_X7_setOf rfl (gSt_m hX (rfl : gIsSt 64 = true)) (gSt_l (rfl : gIsSt 64 = true)) rfl ⟨rfl, by decide +kernel, by decide +kernel, by decide +kernel⟩ rfl (gRm_ok (by decide) (by decide)) rfl (Nat.le_of_ble_eq_true rfl) dX3_piecesOf_20 (fun v_2 => ?_)
      refine g_iload_n 1 dX3_piecesOf_23 rfl ?_
      refine g_iconst (v := (-1)) dX3_piecesOf_24 (by decide) ?_
      refine g_ixor dX3_piecesOf_25 ?_
      refine g_iand dX3_piecesOf_26 ?_
      refine g_if_ne (tgt := 33) dX3_piecesOf_27 (by decide) (fun h_2 => ?_) (fun h_2 => ?_)
      · refine g_iinc 3 (v := (x3 + 1)) (env' := [(3, .int (x3 + 1)), (0, .ref (gad G 63)), (1, .int x1), (2, .int x2)]) dX3_piecesOf_33 rfl rfl (by decide) rfl ?_
        refine g_goto (tgt := 4) dX3_piecesOf_36 (by decide) ?_
        refine g_env (env' := [(0, .ref (gad G 63)), (1, .int x1), (2, .int x2), (3, .int (x3 + 1))]) [1, 2, 3, 0] rfl ?_
        exact ih x1 x2 (x3 + 1)
      · refine g_iinc 2 (v := (x2 + 1)) (env' := [(2, .int (x2 + 1)), (0, .ref (gad G 63)), (1, .int x1), (3, .int x3)]) dX3_piecesOf_30 rfl rfl (by decide) rfl ?_
        refine g_iinc 3 (v := (x3 + 1)) (env' := [(3, .int (x3 + 1)), (2, .int (x2 + 1)), (0, .ref (gad G 63)), (1, .int x1)]) dX3_piecesOf_33 rfl rfl (by decide) rfl ?_
        refine g_goto (tgt := 4) dX3_piecesOf_36 (by decide) ?_
        refine g_env (env' := [(0, .ref (gad G 63)), (1, .int x1), (2, .int (x2 + 1)), (3, .int (x3 + 1))]) [2, 3, 1, 0] rfl ?_
        exact ih x1 (x2 + 1) (x3 + 1)
set_option maxRecDepth 100000 in
set_option maxHeartbeats 4000000 in
theorem tX3_piecesOf_L {G : gGG} {F : State → Heap → Prop} (hG : gOK G) (hF : gSb G F) (hX : gPX G) (hQ : gOQ G) (a1 : Int32) (S : gSt) : Gof G F RX3 cX3_piecesOf 4 wsX3_piecesOf (some .int) (gRm 1) 0 0 (gQ G (fun x => (some (.int x), S))) 0 [(0, .ref (gad G 63)), (1, .int a1)] [] S (fX3_piecesOf a1 S) := by
  unfold fX3_piecesOf
  refine g_iconst (v := 0) dX3_piecesOf_0 (by decide) ?_
  refine g_istore_n (i := 2) (env' := [(2, .int 0), (0, .ref (gad G 63)), (1, .int a1)]) dX3_piecesOf_1 rfl (by decide) rfl ?_
  refine g_iconst (v := 0) dX3_piecesOf_2 (by decide) ?_
  refine g_istore_n (i := 3) (env' := [(3, .int 0), (2, .int 0), (0, .ref (gad G 63)), (1, .int a1)]) dX3_piecesOf_3 rfl (by decide) rfl ?_
  refine g_env (env' := [(0, .ref (gad G 63)), (1, .int a1), (2, .int 0), (3, .int 0)]) [2, 3, 1, 0] rfl ?_
  exact tX3_piecesOf_L4 hG hF hX hQ S gFU a1 0 0
set_option maxRecDepth 100000 in
set_option maxHeartbeats 4000000 in
theorem tX3_piecesOf {G : gGG} {F : State → Heap → Prop} (hG : gOK G) (hF : gSb G F) (hX : gPX G) (hQ : gOQ G) (a1 : Int32) (S : gSt) : gCt G F yX3_piecesOf wsX3_piecesOf 1 [.ref (gad G 63), .int a1] S ((fX3_piecesOf a1 S).map (fun x => (some (.int x), S))) := g_met (by decide +kernel) rfl (Nat.le_of_ble_eq_true rfl) (tX3_piecesOf_L hG hF hX hQ a1 S)
/-! X3_standingsWithin -/
theorem hiX3_standingsWithin_3 : ∀ w ∈ u_ws RX3 TX3 2, w ∈ wsX3_standingsWithin := fun _ hw => List.mem_cons_of_mem _ (List.mem_append_left _ (List.mem_append_right _ (hw)))
set_option maxRecDepth 100000 in
set_option maxHeartbeats 4000000 in
theorem tX3_standingsWithin_L4 {G : gGG} {F : State → Heap → Prop} (hG : gOK G) (hF : gSb G F) (hX : gPX G) (hQ : gOQ G) (hV : gVX G F) (S : gSt) : ∀ (n : Nat) (x1 : Int32) (x2 : Int32), Gof G F RX3 cX3_standingsWithin 4 wsX3_standingsWithin (some .int) (gRm 2) 0 0 (gQ G (fun x => (some (.int x), S))) 4 [(0, .ref (gad G 63)), (1, .int x1), (2, .int x2)] [] S (fX3_standingsWithin_L4 S n x1 x2) := by
  intro n
  induction n with
  | zero => intro x1 x2; exact g_none
  | succ n ih =>
    intro x1 x2
    unfold fX3_standingsWithin_L4
    refine g_iload_n 2 dX3_standingsWithin_4 rfl ?_
    refine g_aload_n 0 dX3_standingsWithin_5 rfl ?_
    refine g_getQ (ci := 3) (k0 := 1) (C0 := RX3) (T := TX3) (N := 2) (hX 63 (by decide)) rfl rfl hiX3_standingsWithin_3 (by decide) (List.mem_of_getElem? (i := 1) rfl) rfl dX3_standingsWithin_6 ?_
    refine g_cVp (ci := 7) (C0 := RX7) (T := TX7) (N := 5) (n := 0) (As := []) (rest := [.int x2]) hF (tX7_parties hG hF hX hQ (rfl : gIsSt 68 = true) S) gX3_standingsWithin_X7_parties rfl (gSt_m hX (rfl : gIsSt 68 = true)) (gSt_l (rfl : gIsSt 68 = true)) rfl ⟨rfl, by decide +kernel, by decide +kernel, by decide +kernel⟩ rfl (gRm_ok (by decide) (by decide)) rfl (Nat.le_of_ble_eq_true rfl) dX3_standingsWithin_9 (fun v_1 => ?_)
    refine g_icmp_ge (tgt := 54) dX3_standingsWithin_12 (by decide) (fun h_1 => ?_) (fun h_1 => ?_)
    · refine g_iload_n 1 dX3_standingsWithin_54 rfl ?_
      exact g_iret dX3_standingsWithin_55 rfl
    · refine g_aload_n 0 dX3_standingsWithin_15 rfl ?_
      refine g_aload_n 0 dX3_standingsWithin_16 rfl ?_
      refine g_getQ (ci := 3) (k0 := 1) (C0 := RX3) (T := TX3) (N := 2) (hX 63 (by decide)) rfl rfl hiX3_standingsWithin_3 (by decide) (List.mem_of_getElem? (i := 1) rfl) rfl dX3_standingsWithin_17 ?_
      refine g_iload_n 2 dX3_standingsWithin_20 rfl ?_
      refine g_cVp (ci := 7) (C0 := RX7) (T := TX7) (N := 5) (n := 1) (As := [.int x2]) (rest := [.ref (gad G 63)]) hF (tX7_setOf hG hF hX hQ (rfl : gIsSt 68 = true) x2 S) gX3_standingsWithin_X7_setOf rfl (gSt_m hX (rfl : gIsSt 68 = true)) (gSt_l (rfl : gIsSt 68 = true)) rfl ⟨rfl, by decide +kernel, by decide +kernel, by decide +kernel⟩ rfl (gRm_ok (by decide) (by decide)) rfl (Nat.le_of_ble_eq_true rfl) dX3_standingsWithin_21 (fun v_2 => ?_)
      refine g_cVp (ci := 3) (C0 := RX3) (T := TX3) (N := 2) (n := 1) (As := [.int v_2]) (rest := []) hF (tX3_piecesOf hG hF hX hQ v_2 S) gX3_standingsWithin_X3_piecesOf rfl (hX 63 (by decide)) rfl rfl ⟨rfl, by decide +kernel, by decide +kernel, by decide +kernel⟩ rfl (gRm_ok (by decide) (by decide)) rfl (Nat.le_of_ble_eq_true rfl) dX3_standingsWithin_24 (fun v_3 => ?_)
      refine g_istore_n (i := 3) (env' := [(3, .int v_3), (0, .ref (gad G 63)), (1, .int x1), (2, .int x2)]) dX3_standingsWithin_27 rfl (by decide) rfl ?_
      refine g_iload_n 2 dX3_standingsWithin_28 rfl ?_
      refine g_iload_n 0 dX3_standingsWithin_29 rfl ?_
      refine g_falls hV (List.mem_of_getElem? (i := 2) rfl) dX3_standingsWithin_30 ?_
      refine g_flen hV dX3_standingsWithin_33 ?_
      refine g_icmp_ge (tgt := 45) dX3_standingsWithin_34 (by decide) (fun h_2 => ?_) (fun h_2 => ?_)
      · refine g_iconst (v := 1) dX3_standingsWithin_45 (by decide) ?_
        refine g_imul dX3_standingsWithin_46 ?_
        refine g_nI (fun v_4 => ?_)
        refine g_istore_n (i := 1) (env' := [(1, .int v_4), (3, .int v_3), (0, .ref (gad G 63)), (2, .int x2)]) dX3_standingsWithin_47 rfl (by decide) rfl ?_
        refine g_iinc 3 (v := (x2 + 1)) (env' := [(2, .int (x2 + 1)), (1, .int v_4), (3, .int v_3), (0, .ref (gad G 63))]) dX3_standingsWithin_48 rfl rfl (by decide) rfl ?_
        refine g_goto (tgt := 4) dX3_standingsWithin_51 (by decide) ?_
        refine g_env (env' := [(0, .ref (gad G 63)), (1, .int v_4), (2, .int (x2 + 1))]) [3, 1, 0] rfl ?_
        exact ih v_4 (x2 + 1)
      · refine g_falls hV (List.mem_of_getElem? (i := 2) rfl) dX3_standingsWithin_37 ?_
        refine g_iload_n 0 dX3_standingsWithin_40 rfl ?_
        refine g_fald hV dX3_standingsWithin_41 ?_
        refine g_goto (tgt := 46) dX3_standingsWithin_42 (by decide) ?_
        refine g_imul dX3_standingsWithin_46 ?_
        refine g_nI (fun v_5 => ?_)
        refine g_istore_n (i := 1) (env' := [(1, .int v_5), (3, .int v_3), (0, .ref (gad G 63)), (2, .int x2)]) dX3_standingsWithin_47 rfl (by decide) rfl ?_
        refine g_iinc 3 (v := (x2 + 1)) (env' := [(2, .int (x2 + 1)), (1, .int v_5), (3, .int v_3), (0, .ref (gad G 63))]) dX3_standingsWithin_48 rfl rfl (by decide) rfl ?_
        refine g_goto (tgt := 4) dX3_standingsWithin_51 (by decide) ?_
        refine g_env (env' := [(0, .ref (gad G 63)), (1, .int v_5), (2, .int (x2 + 1))]) [3, 1, 0] rfl ?_
        exact ih v_5 (x2 + 1)
set_option maxRecDepth 100000 in
set_option maxHeartbeats 4000000 in
theorem tX3_standingsWithin_L {G : gGG} {F : State → Heap → Prop} (hG : gOK G) (hF : gSb G F) (hX : gPX G) (hQ : gOQ G) (hV : gVX G F) (S : gSt) : Gof G F RX3 cX3_standingsWithin 4 wsX3_standingsWithin (some .int) (gRm 2) 0 0 (gQ G (fun x => (some (.int x), S))) 0 [(0, .ref (gad G 63))] [] S (fX3_standingsWithin S) := by
  unfold fX3_standingsWithin
  refine g_iconst (v := 1) dX3_standingsWithin_0 (by decide) ?_
  refine g_istore_n (i := 1) (env' := [(1, .int 1), (0, .ref (gad G 63))]) dX3_standingsWithin_1 rfl (by decide) rfl ?_
  refine g_iconst (v := 0) dX3_standingsWithin_2 (by decide) ?_
  refine g_istore_n (i := 2) (env' := [(2, .int 0), (1, .int 1), (0, .ref (gad G 63))]) dX3_standingsWithin_3 rfl (by decide) rfl ?_
  refine g_env (env' := [(0, .ref (gad G 63)), (1, .int 1), (2, .int 0)]) [2, 1, 0] rfl ?_
  exact tX3_standingsWithin_L4 hG hF hX hQ hV S gFU 1 0
set_option maxRecDepth 100000 in
set_option maxHeartbeats 4000000 in
theorem tX3_standingsWithin {G : gGG} {F : State → Heap → Prop} (hG : gOK G) (hF : gSb G F) (hX : gPX G) (hQ : gOQ G) (hV : gVX G F) (S : gSt) : gCt G F yX3_standingsWithin wsX3_standingsWithin 2 [.ref (gad G 63)] S ((fX3_standingsWithin S).map (fun x => (some (.int x), S))) := g_met (by decide +kernel) rfl (Nat.le_of_ble_eq_true rfl) (tX3_standingsWithin_L hG hF hX hQ hV S)
/-! X3_stayers -/
set_option maxRecDepth 100000 in
set_option maxHeartbeats 4000000 in
theorem tX3_stayers_L30 {G : gGG} {F : State → Heap → Prop} (hG : gOK G) (hF : gSb G F) (hX : gPX G) (hQ : gOQ G) {d dr : Nat} (hd : dr + 1 ≤ d) (hd0 : 30 ≤ d) (rc : Nat → Nat → Int32 → Int32 → gSt → Option Int32) (hrc : ∀ (b0 : Nat) (_ : gIsSt b0 = true) (b1 : Nat) (_ : gIsSt b1 = true) (b2 b3 : Int32) (S : gSt), gCt G F yX3_stayers wsX3_stayers dr [.ref (gad G b0), .ref (gad G b1), .int b2, .int b3] S ((rc b0 b1 b2 b3 S).map (fun x => (some (.int x), S)))) {a0 : Nat} (h0 : gIsSt a0 = true) {a1 : Nat} (h1 : gIsSt a1 = true) (S : gSt) : ∀ (n : Nat) (x2 : Int32) (x3 : Int32) (x4 : Int32) (x5 : Int32), Gof G F RX3 cX3_stayers 7 wsX3_stayers (some .int) (gRm d) 0 0 (gQ G (fun x => (some (.int x), S))) 30 [(0, .ref (gad G a0)), (1, .ref (gad G a1)), (2, .int x2), (3, .int x3), (4, .int x4), (5, .int x5)] [] S (fX3_stayers_L30 rc a0 a1 S n x2 x3 x4 x5) := by
  intro n
  induction n with
  | zero => intro x2 x3 x4 x5; exact g_none
  | succ n ih =>
    intro x2 x3 x4 x5
    unfold fX3_stayers_L30
    refine g_iload 5 dX3_stayers_30 rfl ?_
    refine g_aload_n 1 dX3_stayers_32 rfl ?_
    refine g_cVp (ci := 7) (C0 := RX7) (T := TX7) (N := 5) (n := 0) (As := []) (rest := [.int x5]) hF (tX7_parties hG hF hX hQ h1 S) gX3_stayers_X7_parties rfl (gSt_m hX h1) (gSt_l h1) rfl ⟨rfl, by decide +kernel, by decide +kernel, by decide +kernel⟩ rfl (gRm_ok (Nat.le_trans (by decide : 0 + 1 ≤ 30) hd0) (by decide)) rfl (Nat.le_of_ble_eq_true rfl) dX3_stayers_33 (fun v_1 => ?_)
    refine g_icmp_ge (tgt := 100) dX3_stayers_36 (by decide) (fun h_1 => ?_) (fun h_1 => ?_)
    · refine g_iload 4 dX3_stayers_100 rfl ?_
      exact g_iret dX3_stayers_102 rfl
    · refine g_aload_n 0 dX3_stayers_39 rfl ?_
      refine g_iload_n 2 dX3_stayers_40 rfl ?_
      refine g_cVp (ci := 7) (C0 := RX7) (T := TX7) (N := 5) (n := 1) (As := [.int x2]) (rest := []) hF (tX7_setOf hG hF hX hQ h0 x2 S) gX3_stayers_X7_setOf rfl (gSt_m hX h0) (gSt_l h0) rfl ⟨rfl, by decide +kernel, by decide +kernel, by decide +kernel⟩ rfl (gRm_ok (Nat.le_trans (by decide : 0 + 1 ≤ 30) hd0) (by decide)) rfl (Nat.le_of_ble_eq_true rfl) dX3_stayers_41 (fun v_2 => ?_)
      refine g_aload_n 1 dX3_stayers_44 rfl ?_
      refine g_iload 5 dX3_stayers_45 rfl ?_
      refine g_cVp (ci := 7) (C0 := RX7) (T := TX7) (N := 5) (n := 1) (As := [.int x5]) (rest := [.int v_2]) hF (tX7_setOf hG hF hX hQ h1 x5 S) gX3_stayers_X7_setOf rfl (gSt_m hX h1) (gSt_l h1) rfl ⟨rfl, by decide +kernel, by decide +kernel, by decide +kernel⟩ rfl (gRm_ok (Nat.le_trans (by decide : 0 + 1 ≤ 30) hd0) (by decide)) rfl (Nat.le_of_ble_eq_true rfl) dX3_stayers_47 (fun v_3 => ?_)
      refine g_iand dX3_stayers_50 ?_
      refine g_cSp (n := 1) (As := [.int (v_2 &&& v_3)]) (rest := []) hF (tJ6_bitCount_0f7a4 (v_2 &&& v_3) S) gX3_stayers_J6_bitCount_0f7a4 rfl ⟨by decide +kernel, by decide +kernel, by decide +kernel⟩ rfl (gRm_ok (Nat.le_trans (by decide : 0 + 1 ≤ 30) hd0) (by decide)) rfl (Nat.le_of_ble_eq_true rfl) dX3_stayers_51 (fun v_4 => ?_)
      refine g_istore (i := 6) (env' := [(6, .int v_4), (0, .ref (gad G a0)), (1, .ref (gad G a1)), (2, .int x2), (3, .int x3), (4, .int x4), (5, .int x5)]) dX3_stayers_54 (by decide) rfl ?_
      refine g_iload 0 dX3_stayers_56 rfl ?_
      refine g_if_le (tgt := 94) dX3_stayers_58 (by decide) (fun h_2 => ?_) (fun h_2 => ?_)
      · refine g_iinc 6 (v := (x5 + 1)) (env' := [(5, .int (x5 + 1)), (6, .int v_4), (0, .ref (gad G a0)), (1, .ref (gad G a1)), (2, .int x2), (3, .int x3), (4, .int x4)]) dX3_stayers_94 rfl rfl (by decide) rfl ?_
        refine g_goto (tgt := 30) dX3_stayers_97 (by decide) ?_
        refine g_env (env' := [(0, .ref (gad G a0)), (1, .ref (gad G a1)), (2, .int x2), (3, .int x3), (4, .int x4), (5, .int (x5 + 1))]) [2, 3, 4, 5, 6, 0] rfl ?_
        exact ih x2 x3 x4 (x5 + 1)
      · refine g_iload_n 4 dX3_stayers_61 rfl ?_
        refine g_iconst (v := 1) dX3_stayers_62 (by decide) ?_
        refine g_iload 6 dX3_stayers_63 rfl ?_
        refine g_ishl dX3_stayers_65 ?_
        refine g_iand dX3_stayers_66 ?_
        refine g_if_ne (tgt := 94) dX3_stayers_67 (by decide) (fun h_3 => ?_) (fun h_3 => ?_)
        · refine g_iinc 6 (v := (x5 + 1)) (env' := [(5, .int (x5 + 1)), (6, .int v_4), (0, .ref (gad G a0)), (1, .ref (gad G a1)), (2, .int x2), (3, .int x3), (4, .int x4)]) dX3_stayers_94 rfl rfl (by decide) rfl ?_
          refine g_goto (tgt := 30) dX3_stayers_97 (by decide) ?_
          refine g_env (env' := [(0, .ref (gad G a0)), (1, .ref (gad G a1)), (2, .int x2), (3, .int x3), (4, .int x4), (5, .int (x5 + 1))]) [2, 3, 4, 5, 6, 0] rfl ?_
          exact ih x2 x3 x4 (x5 + 1)
        · refine g_iload 5 dX3_stayers_70 rfl ?_
          refine g_iload 0 dX3_stayers_72 rfl ?_
          refine g_aload_n 1 dX3_stayers_74 rfl ?_
          refine g_aload_n 2 dX3_stayers_75 rfl ?_
          refine g_iload_n 3 dX3_stayers_76 rfl ?_
          refine g_iconst (v := 1) dX3_stayers_77 (by decide) ?_
          refine g_iadd dX3_stayers_78 ?_
          refine g_iload_n 4 dX3_stayers_79 rfl ?_
          refine g_iconst (v := 1) dX3_stayers_80 (by decide) ?_
          refine g_iload 6 dX3_stayers_81 rfl ?_
          refine g_ishl dX3_stayers_83 ?_
          refine g_ior dX3_stayers_84 ?_
          refine g_cSp (n := 4) (As := [.ref (gad G a0), .ref (gad G a1), .int (x2 + 1), .int (x3 ||| ((1 : Int32) <<< (x5 &&& 31)))]) (rest := [.int v_4, .int x4]) hF (hrc a0 h0 a1 h1 (x2 + 1) (x3 ||| ((1 : Int32) <<< (x5 &&& 31))) S) gX3_stayers_X3_stayers rfl ⟨by decide +kernel, by decide +kernel, by decide +kernel⟩ rfl (gRm_ok hd (by decide)) rfl (Nat.le_of_ble_eq_true rfl) dX3_stayers_85 (fun v_5 => ?_)
          refine g_iadd dX3_stayers_88 ?_
          refine g_mmax (List.mem_of_getElem? (i := 1) rfl) (List.mem_of_getElem? (i := 2) rfl) (List.mem_of_getElem? (i := 3) rfl) (List.mem_of_getElem? (i := 4) rfl) (gRm_mx (by first | decide | omega)) (Nat.le_of_ble_eq_true rfl) dX3_stayers_89 ?_
          refine g_nI (fun v_6 => ?_)
          refine g_istore (i := 4) (env' := [(4, .int v_6), (6, .int v_4), (0, .ref (gad G a0)), (1, .ref (gad G a1)), (2, .int x2), (3, .int x3), (5, .int x5)]) dX3_stayers_92 (by decide) rfl ?_
          refine g_iinc 6 (v := (x5 + 1)) (env' := [(5, .int (x5 + 1)), (4, .int v_6), (6, .int v_4), (0, .ref (gad G a0)), (1, .ref (gad G a1)), (2, .int x2), (3, .int x3)]) dX3_stayers_94 rfl rfl (by decide) rfl ?_
          refine g_goto (tgt := 30) dX3_stayers_97 (by decide) ?_
          refine g_env (env' := [(0, .ref (gad G a0)), (1, .ref (gad G a1)), (2, .int x2), (3, .int x3), (4, .int v_6), (5, .int (x5 + 1))]) [3, 4, 5, 6, 1, 0] rfl ?_
          exact ih x2 x3 v_6 (x5 + 1)
set_option maxRecDepth 100000 in
set_option maxHeartbeats 4000000 in
theorem tX3_stayers_L {G : gGG} {F : State → Heap → Prop} (hG : gOK G) (hF : gSb G F) (hX : gPX G) (hQ : gOQ G) {d dr : Nat} (hd : dr + 1 ≤ d) (hd0 : 30 ≤ d) (rc : Nat → Nat → Int32 → Int32 → gSt → Option Int32) (hrc : ∀ (b0 : Nat) (_ : gIsSt b0 = true) (b1 : Nat) (_ : gIsSt b1 = true) (b2 b3 : Int32) (S : gSt), gCt G F yX3_stayers wsX3_stayers dr [.ref (gad G b0), .ref (gad G b1), .int b2, .int b3] S ((rc b0 b1 b2 b3 S).map (fun x => (some (.int x), S)))) {a0 : Nat} (h0 : gIsSt a0 = true) {a1 : Nat} (h1 : gIsSt a1 = true) (a2 : Int32) (a3 : Int32) (S : gSt) : Gof G F RX3 cX3_stayers 7 wsX3_stayers (some .int) (gRm d) 0 0 (gQ G (fun x => (some (.int x), S))) 0 [(0, .ref (gad G a0)), (1, .ref (gad G a1)), (2, .int a2), (3, .int a3)] [] S (fX3_stayers rc a0 a1 a2 a3 S) := by
  unfold fX3_stayers
  refine g_iload_n 2 dX3_stayers_0 rfl ?_
  refine g_aload_n 0 dX3_stayers_1 rfl ?_
  refine g_cVp (ci := 7) (C0 := RX7) (T := TX7) (N := 5) (n := 0) (As := []) (rest := [.int a2]) hF (tX7_parties hG hF hX hQ h0 S) gX3_stayers_X7_parties rfl (gSt_m hX h0) (gSt_l h0) rfl ⟨rfl, by decide +kernel, by decide +kernel, by decide +kernel⟩ rfl (gRm_ok (Nat.le_trans (by decide : 0 + 1 ≤ 30) hd0) (by decide)) rfl (Nat.le_of_ble_eq_true rfl) dX3_stayers_2 (fun v_1 => ?_)
  refine g_icmp_ge (tgt := 14) dX3_stayers_5 (by decide) (fun h_1 => ?_) (fun h_1 => ?_)
  · refine g_iconst (v := 0) dX3_stayers_14 (by decide) ?_
    exact g_iret dX3_stayers_15 rfl
  · refine g_iload_n 2 dX3_stayers_8 rfl ?_
    refine g_bipush (v := 8) dX3_stayers_9 (by decide) ?_
    refine g_icmp_lt (tgt := 16) dX3_stayers_11 (by decide) (fun h_2 => ?_) (fun h_2 => ?_)
    · refine g_aload_n 0 dX3_stayers_16 rfl ?_
      refine g_aload_n 1 dX3_stayers_17 rfl ?_
      refine g_iload_n 2 dX3_stayers_18 rfl ?_
      refine g_iconst (v := 1) dX3_stayers_19 (by decide) ?_
      refine g_iadd dX3_stayers_20 ?_
      refine g_iload_n 3 dX3_stayers_21 rfl ?_
      refine g_cSp (n := 4) (As := [.ref (gad G a0), .ref (gad G a1), .int (a2 + 1), .int a3]) (rest := []) hF (hrc a0 h0 a1 h1 (a2 + 1) a3 S) gX3_stayers_X3_stayers rfl ⟨by decide +kernel, by decide +kernel, by decide +kernel⟩ rfl (gRm_ok hd (by decide)) rfl (Nat.le_of_ble_eq_true rfl) dX3_stayers_22 (fun v_2 => ?_)
      refine g_istore (i := 4) (env' := [(4, .int v_2), (0, .ref (gad G a0)), (1, .ref (gad G a1)), (2, .int a2), (3, .int a3)]) dX3_stayers_25 (by decide) rfl ?_
      refine g_iconst (v := 0) dX3_stayers_27 (by decide) ?_
      refine g_istore (i := 5) (env' := [(5, .int 0), (4, .int v_2), (0, .ref (gad G a0)), (1, .ref (gad G a1)), (2, .int a2), (3, .int a3)]) dX3_stayers_28 (by decide) rfl ?_
      refine g_env (env' := [(0, .ref (gad G a0)), (1, .ref (gad G a1)), (2, .int a2), (3, .int a3), (4, .int v_2), (5, .int 0)]) [2, 3, 4, 5, 1, 0] rfl ?_
      exact tX3_stayers_L30 hG hF hX hQ hd hd0 rc hrc h0 h1 S gFU a2 a3 v_2 0
    · refine g_iconst (v := 0) dX3_stayers_14 (by decide) ?_
      exact g_iret dX3_stayers_15 rfl
set_option maxRecDepth 100000 in
set_option maxHeartbeats 4000000 in
theorem tX3_stayers_rec {G : gGG} {F : State → Heap → Prop} (hG : gOK G) (hF : gSb G F) (hX : gPX G) (hQ : gOQ G) {d dr : Nat} (hd : dr + 1 ≤ d) (hd0 : 30 ≤ d) (rc : Nat → Nat → Int32 → Int32 → gSt → Option Int32) (hrc : ∀ (b0 : Nat) (_ : gIsSt b0 = true) (b1 : Nat) (_ : gIsSt b1 = true) (b2 b3 : Int32) (S : gSt), gCt G F yX3_stayers wsX3_stayers dr [.ref (gad G b0), .ref (gad G b1), .int b2, .int b3] S ((rc b0 b1 b2 b3 S).map (fun x => (some (.int x), S)))) {a0 : Nat} (h0 : gIsSt a0 = true) {a1 : Nat} (h1 : gIsSt a1 = true) (a2 : Int32) (a3 : Int32) (S : gSt) : gCt G F yX3_stayers wsX3_stayers d [.ref (gad G a0), .ref (gad G a1), .int a2, .int a3] S ((fX3_stayers rc a0 a1 a2 a3 S).map (fun x => (some (.int x), S))) := g_met (by decide +kernel) rfl (Nat.le_of_ble_eq_true rfl) (tX3_stayers_L hG hF hX hQ hd hd0 rc hrc h0 h1 a2 a3 S)
theorem tSY {G : gGG} {F : State → Heap → Prop} (hG : gOK G) (hF : gSb G F) (hX : gPX G) (hQ : gOQ G) : ∀ (k a0 : Nat) (_ : gIsSt a0 = true) (a1 : Nat) (_ : gIsSt a1 = true) (a2 a3 : Int32) (S : gSt), gCt G F yX3_stayers wsX3_stayers (30 + k) [.ref (gad G a0), .ref (gad G a1), .int a2, .int a3] S ((fSY k a0 a1 a2 a3 S).map (fun x => (some (.int x), S))) := by
  intro k
  induction k with
  | zero => intro a0 h0 a1 h1 a2 a3 S l x hx; cases hx
  | succ k ih =>
    intro a0 h0 a1 h1 a2 a3 S
    exact tX3_stayers_rec hG hF hX hQ (d := 30 + (k + 1)) (dr := 30 + k) (by omega) (by omega) _ ih h0 h1 a2 a3 S
theorem tX3_stayers_c {G : gGG} {F : State → Heap → Prop} (hG : gOK G) (hF : gSb G F) (hX : gPX G) (hQ : gOQ G) {a0 : Nat} (h0 : gIsSt a0 = true) {a1 : Nat} (h1 : gIsSt a1 = true) (a2 a3 : Int32) (S : gSt) : gCt G F yX3_stayers wsX3_stayers 50 [.ref (gad G a0), .ref (gad G a1), .int a2, .int a3] S ((fX3_stayers_c a0 a1 a2 a3 S).map (fun x => (some (.int x), S))) := tSY hG hF hX hQ 20 a0 h0 a1 h1 a2 a3 S
/-! X3_fewestGoings -/
set_option maxRecDepth 100000 in
set_option maxHeartbeats 4000000 in
theorem tX3_fewestGoings_L {G : gGG} {F : State → Heap → Prop} (hG : gOK G) (hF : gSb G F) (hX : gPX G) (hQ : gOQ G) {a0 : Nat} (h0 : gIsSt a0 = true) {a1 : Nat} (h1 : gIsSt a1 = true) (S : gSt) : Gof G F RX3 cX3_fewestGoings 2 wsX3_fewestGoings (some .int) (gRm 51) 0 0 (gQ G (fun x => (some (.int x), S))) 0 [(0, .ref (gad G a0)), (1, .ref (gad G a1))] [] S (fX3_fewestGoings a0 a1 S) := by
  unfold fX3_fewestGoings
  refine g_aload_n 0 dX3_fewestGoings_0 rfl ?_
  refine g_cVp (ci := 7) (C0 := RX7) (T := TX7) (N := 5) (n := 0) (As := []) (rest := []) hF (tX7_guests hG hF hX hQ h0 S) gX3_fewestGoings_X7_guests rfl (gSt_m hX h0) (gSt_l h0) rfl ⟨rfl, by decide +kernel, by decide +kernel, by decide +kernel⟩ rfl (gRm_ok (by decide) (by decide)) rfl (Nat.le_of_ble_eq_true rfl) dX3_fewestGoings_1 (fun v_1 => ?_)
  refine g_aload_n 0 dX3_fewestGoings_4 rfl ?_
  refine g_aload_n 1 dX3_fewestGoings_5 rfl ?_
  refine g_iconst (v := 0) dX3_fewestGoings_6 (by decide) ?_
  refine g_iconst (v := 0) dX3_fewestGoings_7 (by decide) ?_
  refine g_cSp (n := 4) (As := [.ref (gad G a0), .ref (gad G a1), .int 0, .int 0]) (rest := [.int v_1]) hF (tX3_stayers_c hG hF hX hQ h0 h1 0 0 S) gX3_fewestGoings_X3_stayers rfl ⟨by decide +kernel, by decide +kernel, by decide +kernel⟩ rfl (gRm_ok (by decide) (by decide)) rfl (Nat.le_of_ble_eq_true rfl) dX3_fewestGoings_8 (fun v_2 => ?_)
  refine g_isub dX3_fewestGoings_11 ?_
  exact g_iret dX3_fewestGoings_12 rfl
set_option maxRecDepth 100000 in
set_option maxHeartbeats 4000000 in
theorem tX3_fewestGoings {G : gGG} {F : State → Heap → Prop} (hG : gOK G) (hF : gSb G F) (hX : gPX G) (hQ : gOQ G) {a0 : Nat} (h0 : gIsSt a0 = true) {a1 : Nat} (h1 : gIsSt a1 = true) (S : gSt) : gCt G F yX3_fewestGoings wsX3_fewestGoings 51 [.ref (gad G a0), .ref (gad G a1)] S ((fX3_fewestGoings a0 a1 S).map (fun x => (some (.int x), S))) := g_met (by decide +kernel) rfl (Nat.le_of_ble_eq_true rfl) (tX3_fewestGoings_L hG hF hX hQ h0 h1 S)
/-! X0_standing -/
theorem hiX0_standing_0 : ∀ w ∈ u_ws RX0 TX0 2, w ∈ wsX0_standing := fun _ hw => List.mem_cons_of_mem _ (List.mem_append_right _ (hw))
set_option maxRecDepth 100000 in
set_option maxHeartbeats 4000000 in
theorem tX0_standing_L {G : gGG} {F : State → Heap → Prop} (hG : gOK G) (hF : gSb G F) (hX : gPX G) (hQ : gOQ G) (S : gSt) : Gof G F RX0 cX0_standing 1 wsX0_standing (some (.object "GuestParties$Standing")) (gRm 0) 0 0 (gQ G (fun x => (some (.ref (gad G x)), S))) 0 [(0, .ref (gad G 72))] [] S (fX0_standing S) := by
  unfold fX0_standing
  refine g_aload_n 0 dX0_standing_0 rfl ?_
  refine g_getQ (ci := 0) (k0 := 0) (C0 := RX0) (T := TX0) (N := 2) (hX 72 (by decide)) rfl rfl hiX0_standing_0 (by decide) (List.mem_of_getElem? (i := 1) rfl) rfl dX0_standing_1 ?_
  exact g_aret dX0_standing_4 rfl
set_option maxRecDepth 100000 in
set_option maxHeartbeats 4000000 in
theorem tX0_standing {G : gGG} {F : State → Heap → Prop} (hG : gOK G) (hF : gSb G F) (hX : gPX G) (hQ : gOQ G) (S : gSt) : gCt G F yX0_standing wsX0_standing 0 [.ref (gad G 72)] S ((fX0_standing S).map (fun x => (some (.ref (gad G x)), S))) := g_met (by decide +kernel) rfl (Nat.le_of_ble_eq_true rfl) (tX0_standing_L hG hF hX hQ S)
/-! X0_goings -/
theorem hiX0_goings_0 : ∀ w ∈ u_ws RX0 TX0 2, w ∈ wsX0_goings := fun _ hw => List.mem_cons_of_mem _ (List.mem_append_right _ (hw))
set_option maxRecDepth 100000 in
set_option maxHeartbeats 4000000 in
theorem tX0_goings_L {G : gGG} {F : State → Heap → Prop} (hG : gOK G) (hF : gSb G F) (hX : gPX G) (hQ : gOQ G) (S : gSt) : Gof G F RX0 cX0_goings 1 wsX0_goings (some .int) (gRm 0) 0 0 (gQ G (fun x => (some (.int x), S))) 0 [(0, .ref (gad G 72))] [] S (fX0_goings S) := by
  unfold fX0_goings
  refine g_aload_n 0 dX0_goings_0 rfl ?_
  refine g_getI (ci := 0) (k0 := 1) (C0 := RX0) (T := TX0) (N := 2) (hX 72 (by decide)) rfl rfl hiX0_goings_0 (by decide) (List.mem_of_getElem? (i := 1) rfl) rfl dX0_goings_1 ?_
  exact g_iret dX0_goings_4 rfl
set_option maxRecDepth 100000 in
set_option maxHeartbeats 4000000 in
theorem tX0_goings {G : gGG} {F : State → Heap → Prop} (hG : gOK G) (hF : gSb G F) (hX : gPX G) (hQ : gOQ G) (S : gSt) : gCt G F yX0_goings wsX0_goings 0 [.ref (gad G 72)] S ((fX0_goings S).map (fun x => (some (.int x), S))) := g_met (by decide +kernel) rfl (Nat.le_of_ble_eq_true rfl) (tX0_goings_L hG hF hX hQ S)
/-! X0_hasStopped -/
theorem hiX0_hasStopped_0 : ∀ w ∈ u_ws RX0 TX0 2, w ∈ wsX0_hasStopped := fun _ hw => List.mem_cons_of_mem _ (List.mem_append_right _ (hw))
set_option maxRecDepth 100000 in
set_option maxHeartbeats 4000000 in
theorem tX0_hasStopped_L {G : gGG} {F : State → Heap → Prop} (hG : gOK G) (hF : gSb G F) (hX : gPX G) (hQ : gOQ G) (S : gSt) : Gof G F RX0 cX0_hasStopped 1 wsX0_hasStopped (some .boolean) (gRm 0) 0 0 (gQ G (fun x => (some (.int x), S))) 0 [(0, .ref (gad G 72))] [] S (fX0_hasStopped S) := by
  unfold fX0_hasStopped
  refine g_aload_n 0 dX0_hasStopped_0 rfl ?_
  refine g_getI (ci := 0) (k0 := 1) (C0 := RX0) (T := TX0) (N := 2) (hX 72 (by decide)) rfl rfl hiX0_hasStopped_0 (by decide) (List.mem_of_getElem? (i := 1) rfl) rfl dX0_hasStopped_1 ?_
  refine g_bipush (v := 60) dX0_hasStopped_4 (by decide) ?_
  refine g_icmp_ge (tgt := 13) dX0_hasStopped_6 (by decide) (fun h_1 => ?_) (fun h_1 => ?_)
  · refine g_iconst (v := 0) dX0_hasStopped_13 (by decide) ?_
    exact g_zret (by decide) dX0_hasStopped_14 rfl
  · refine g_iconst (v := 1) dX0_hasStopped_9 (by decide) ?_
    refine g_goto (tgt := 14) dX0_hasStopped_10 (by decide) ?_
    exact g_zret (by decide) dX0_hasStopped_14 rfl
set_option maxRecDepth 100000 in
set_option maxHeartbeats 4000000 in
theorem tX0_hasStopped {G : gGG} {F : State → Heap → Prop} (hG : gOK G) (hF : gSb G F) (hX : gPX G) (hQ : gOQ G) (S : gSt) : gCt G F yX0_hasStopped wsX0_hasStopped 0 [.ref (gad G 72)] S ((fX0_hasStopped S).map (fun x => (some (.int x), S))) := g_met (by decide +kernel) rfl (Nat.le_of_ble_eq_true rfl) (tX0_hasStopped_L hG hF hX hQ S)
/-! X0_takesTurn -/
theorem hiX0_takesTurn_0 : ∀ w ∈ u_ws RX0 TX0 2, w ∈ wsX0_takesTurn := fun _ hw => List.mem_cons_of_mem _ (List.mem_append_left _ (List.mem_append_left _ (List.mem_append_right _ (hw))))
set_option maxRecDepth 100000 in
set_option maxHeartbeats 4000000 in
theorem tX0_takesTurn_L18 {G : gGG} {F : State → Heap → Prop} (hG : gOK G) (hF : gSb G F) (hX : gPX G) (hQ : gOQ G) {a1 : Nat} (h1 : gIsRu a1 = true) : ∀ (n : Nat) (x2 : Int32) (x3 : Int32) (x4 : Int32) (x5 : Int32) (x6 : Int32) (S : gSt), Gof G F RX0 cX0_takesTurn 8 wsX0_takesTurn (some .boolean) (gRm 4) 0 0 (gQ G (fun x => (some (.int x.1), x.2))) 18 [(0, .ref (gad G 72)), (1, .ref (gad G a1)), (2, .int x2), (3, .int x3), (4, .int x4), (5, .int x5), (6, .int x6)] [] S (fX0_takesTurn_L18 a1 n x2 x3 x4 x5 x6 S) := by
  intro n
  induction n with
  | zero => intro x2 x3 x4 x5 x6 S; exact g_none
  | succ n ih =>
    intro x2 x3 x4 x5 x6 S
    unfold fX0_takesTurn_L18
    refine g_iload 6 dX0_takesTurn_18 rfl ?_
    refine g_aload_n 0 dX0_takesTurn_20 rfl ?_
    refine g_getQ (ci := 0) (k0 := 0) (C0 := RX0) (T := TX0) (N := 2) (hX 72 (by decide)) rfl rfl hiX0_takesTurn_0 (by decide) (List.mem_of_getElem? (i := 1) rfl) rfl dX0_takesTurn_21 ?_
    refine g_cVp (ci := 7) (C0 := RX7) (T := TX7) (N := 5) (n := 0) (As := []) (rest := [.int x6]) hF (tX7_parties hG hF hX hQ (rfl : gIsSt 73 = true) S) gX0_takesTurn_X7_parties rfl (gSt_m hX (rfl : gIsSt 73 = true)) (gSt_l (rfl : gIsSt 73 = true)) rfl ⟨rfl, by decide +kernel, by decide +kernel, by decide +kernel⟩ rfl (gRm_ok (by decide) (by decide)) rfl (Nat.le_of_ble_eq_true rfl) dX0_takesTurn_24 (fun v_1 => ?_)
    refine g_icmp_ge (tgt := 73) dX0_takesTurn_27 (by decide) (fun h_1 => ?_) (fun h_1 => ?_)
    · refine g_iload 5 dX0_takesTurn_73 rfl ?_
      refine g_aload_n 1 dX0_takesTurn_75 rfl ?_
      refine g_iload_n 2 dX0_takesTurn_76 rfl ?_
      refine g_aload_n 0 dX0_takesTurn_77 rfl ?_
      refine g_getQ (ci := 0) (k0 := 0) (C0 := RX0) (T := TX0) (N := 2) (hX 72 (by decide)) rfl rfl hiX0_takesTurn_0 (by decide) (List.mem_of_getElem? (i := 1) rfl) rfl dX0_takesTurn_78 ?_
      refine g_iload_n 3 dX0_takesTurn_81 rfl ?_
      refine g_cVp (ci := 7) (C0 := RX7) (T := TX7) (N := 5) (n := 1) (As := [.int x3]) (rest := [.int x2, .ref (gad G a1), .int x5]) hF (tX7_setOf hG hF hX hQ (rfl : gIsSt 73 = true) x3 S) gX0_takesTurn_X7_setOf rfl (gSt_m hX (rfl : gIsSt 73 = true)) (gSt_l (rfl : gIsSt 73 = true)) rfl ⟨rfl, by decide +kernel, by decide +kernel, by decide +kernel⟩ rfl (gRm_ok (by decide) (by decide)) rfl (Nat.le_of_ble_eq_true rfl) dX0_takesTurn_82 (fun v_2 => ?_)
      refine g_cVp (ci := 5) (C0 := RX5) (T := TX5) (N := 6) (n := 2) (As := [.int x2, .int v_2]) (rest := [.int x5]) hF (tX5_worthWith hG hF hX hQ h1 x2 v_2 S) gX0_takesTurn_X5_worthWith rfl (gRu_m hX h1) (gRu_l h1) rfl ⟨rfl, by decide +kernel, by decide +kernel, by decide +kernel⟩ rfl (gRm_ok (by decide) (by decide)) rfl (Nat.le_of_ble_eq_true rfl) dX0_takesTurn_85 (fun v_3 => ?_)
      refine g_icmp_gt (tgt := 93) dX0_takesTurn_88 (by decide) (fun h_2 => ?_) (fun h_2 => ?_)
      · refine g_iload 4 dX0_takesTurn_93 rfl ?_
        refine g_iload_n 3 dX0_takesTurn_95 rfl ?_
        refine g_icmp_ne (tgt := 110) dX0_takesTurn_96 (by decide) (fun h_3 => ?_) (fun h_3 => ?_)
        · refine g_aload_n 0 dX0_takesTurn_110 rfl ?_
          refine g_getQ (ci := 0) (k0 := 0) (C0 := RX0) (T := TX0) (N := 2) (hX 72 (by decide)) rfl rfl hiX0_takesTurn_0 (by decide) (List.mem_of_getElem? (i := 1) rfl) rfl dX0_takesTurn_111 ?_
          refine g_iload_n 2 dX0_takesTurn_114 rfl ?_
          refine g_iload 4 dX0_takesTurn_115 rfl ?_
          refine g_cVv (ci := 7) (C0 := RX7) (T := TX7) (N := 5) (n := 2) (As := [.int x2, .int x4]) (rest := []) hF (tX7_sendToParty hG hF hX hQ (rfl : gIsSt 73 = true) x2 x4 S) gX0_takesTurn_X7_sendToParty rfl (gSt_m hX (rfl : gIsSt 73 = true)) (gSt_l (rfl : gIsSt 73 = true)) rfl ⟨rfl, by decide +kernel, by decide +kernel, by decide +kernel⟩ rfl (gRm_ok (by decide) (by decide)) rfl (Nat.le_of_ble_eq_true rfl) dX0_takesTurn_117 (fun S_4 => ?_)
          refine g_iconst (v := 1) dX0_takesTurn_120 (by decide) ?_
          exact g_zret (by decide) dX0_takesTurn_121 rfl
        · refine g_aload_n 0 dX0_takesTurn_99 rfl ?_
          refine g_getQ (ci := 0) (k0 := 0) (C0 := RX0) (T := TX0) (N := 2) (hX 72 (by decide)) rfl rfl hiX0_takesTurn_0 (by decide) (List.mem_of_getElem? (i := 1) rfl) rfl dX0_takesTurn_100 ?_
          refine g_iload_n 2 dX0_takesTurn_103 rfl ?_
          refine g_cVv (ci := 7) (C0 := RX7) (T := TX7) (N := 5) (n := 1) (As := [.int x2]) (rest := []) hF (tX7_sendAlone hG hF hX hQ (rfl : gIsSt 73 = true) x2 S) gX0_takesTurn_X7_sendAlone rfl (gSt_m hX (rfl : gIsSt 73 = true)) (gSt_l (rfl : gIsSt 73 = true)) rfl ⟨rfl, by decide +kernel, by decide +kernel, by decide +kernel⟩ rfl (gRm_ok (by decide) (by decide)) rfl (Nat.le_of_ble_eq_true rfl) dX0_takesTurn_104 (fun S_5 => ?_)
          refine g_goto (tgt := 120) dX0_takesTurn_107 (by decide) ?_
          refine g_iconst (v := 1) dX0_takesTurn_120 (by decide) ?_
          exact g_zret (by decide) dX0_takesTurn_121 rfl
      · refine g_iconst (v := 0) dX0_takesTurn_91 (by decide) ?_
        exact g_zret (by decide) dX0_takesTurn_92 rfl
    · refine g_aload_n 1 dX0_takesTurn_30 rfl ?_
      refine g_iload_n 2 dX0_takesTurn_31 rfl ?_
      refine g_aload_n 0 dX0_takesTurn_32 rfl ?_
      refine g_getQ (ci := 0) (k0 := 0) (C0 := RX0) (T := TX0) (N := 2) (hX 72 (by decide)) rfl rfl hiX0_takesTurn_0 (by decide) (List.mem_of_getElem? (i := 1) rfl) rfl dX0_takesTurn_33 ?_
      refine g_iload 6 dX0_takesTurn_36 rfl ?_
      refine g_cVp (ci := 7) (C0 := RX7) (T := TX7) (N := 5) (n := 1) (As := [.int x6]) (rest := [.int x2, .ref (gad G a1)]) hF (tX7_setOf hG hF hX hQ (rfl : gIsSt 73 = true) x6 S) gX0_takesTurn_X7_setOf rfl (gSt_m hX (rfl : gIsSt 73 = true)) (gSt_l (rfl : gIsSt 73 = true)) rfl ⟨rfl, by decide +kernel, by decide +kernel, by decide +kernel⟩ rfl (gRm_ok (by decide) (by decide)) rfl (Nat.le_of_ble_eq_true rfl) dX0_takesTurn_38 (fun v_6 => ?_)
      refine g_cVp (ci := 5) (C0 := RX5) (T := TX5) (N := 6) (n := 2) (As := [.int x2, .int v_6]) (rest := []) hF (tX5_worthWith hG hF hX hQ h1 x2 v_6 S) gX0_takesTurn_X5_worthWith rfl (gRu_m hX h1) (gRu_l h1) rfl ⟨rfl, by decide +kernel, by decide +kernel, by decide +kernel⟩ rfl (gRm_ok (by decide) (by decide)) rfl (Nat.le_of_ble_eq_true rfl) dX0_takesTurn_41 (fun v_7 => ?_)
      refine g_istore (i := 7) (env' := [(7, .int v_7), (0, .ref (gad G 72)), (1, .ref (gad G a1)), (2, .int x2), (3, .int x3), (4, .int x4), (5, .int x5), (6, .int x6)]) dX0_takesTurn_44 (by decide) rfl ?_
      refine g_iload 7 dX0_takesTurn_46 rfl ?_
      refine g_iload_n 4 dX0_takesTurn_48 rfl ?_
      refine g_icmp_eq (tgt := 67) dX0_takesTurn_49 (by decide) (fun h_4 => ?_) (fun h_4 => ?_)
      · refine g_iinc 7 (v := (x6 + 1)) (env' := [(6, .int (x6 + 1)), (7, .int v_7), (0, .ref (gad G 72)), (1, .ref (gad G a1)), (2, .int x2), (3, .int x3), (4, .int x4), (5, .int x5)]) dX0_takesTurn_67 rfl rfl (by decide) rfl ?_
        refine g_goto (tgt := 18) dX0_takesTurn_70 (by decide) ?_
        refine g_env (env' := [(0, .ref (gad G 72)), (1, .ref (gad G a1)), (2, .int x2), (3, .int x3), (4, .int x4), (5, .int x5), (6, .int (x6 + 1))]) [2, 3, 4, 5, 6, 7, 0] rfl ?_
        exact ih x2 x3 x4 x5 (x6 + 1) S
      · refine g_iload 0 dX0_takesTurn_52 rfl ?_
        refine g_iload 6 dX0_takesTurn_54 rfl ?_
        refine g_icmp_le (tgt := 67) dX0_takesTurn_56 (by decide) (fun h_5 => ?_) (fun h_5 => ?_)
        · refine g_iinc 7 (v := (x6 + 1)) (env' := [(6, .int (x6 + 1)), (7, .int v_7), (0, .ref (gad G 72)), (1, .ref (gad G a1)), (2, .int x2), (3, .int x3), (4, .int x4), (5, .int x5)]) dX0_takesTurn_67 rfl rfl (by decide) rfl ?_
          refine g_goto (tgt := 18) dX0_takesTurn_70 (by decide) ?_
          refine g_env (env' := [(0, .ref (gad G 72)), (1, .ref (gad G a1)), (2, .int x2), (3, .int x3), (4, .int x4), (5, .int x5), (6, .int (x6 + 1))]) [2, 3, 4, 5, 6, 7, 0] rfl ?_
          exact ih x2 x3 x4 x5 (x6 + 1) S
        · refine g_iload 0 dX0_takesTurn_59 rfl ?_
          refine g_istore (i := 5) (env' := [(5, .int v_7), (7, .int v_7), (0, .ref (gad G 72)), (1, .ref (gad G a1)), (2, .int x2), (3, .int x3), (4, .int x4), (6, .int x6)]) dX0_takesTurn_61 (by decide) rfl ?_
          refine g_iload 7 dX0_takesTurn_63 rfl ?_
          refine g_istore (i := 4) (env' := [(4, .int x6), (5, .int v_7), (7, .int v_7), (0, .ref (gad G 72)), (1, .ref (gad G a1)), (2, .int x2), (3, .int x3), (6, .int x6)]) dX0_takesTurn_65 (by decide) rfl ?_
          refine g_iinc 7 (v := (x6 + 1)) (env' := [(6, .int (x6 + 1)), (4, .int x6), (5, .int v_7), (7, .int v_7), (0, .ref (gad G 72)), (1, .ref (gad G a1)), (2, .int x2), (3, .int x3)]) dX0_takesTurn_67 rfl rfl (by decide) rfl ?_
          refine g_goto (tgt := 18) dX0_takesTurn_70 (by decide) ?_
          refine g_env (env' := [(0, .ref (gad G 72)), (1, .ref (gad G a1)), (2, .int x2), (3, .int x3), (4, .int x6), (5, .int v_7), (6, .int (x6 + 1))]) [4, 5, 6, 7, 1, 2, 0] rfl ?_
          exact ih x2 x3 x6 v_7 (x6 + 1) S
set_option maxRecDepth 100000 in
set_option maxHeartbeats 4000000 in
theorem tX0_takesTurn_L {G : gGG} {F : State → Heap → Prop} (hG : gOK G) (hF : gSb G F) (hX : gPX G) (hQ : gOQ G) {a1 : Nat} (h1 : gIsRu a1 = true) (a2 : Int32) (S : gSt) : Gof G F RX0 cX0_takesTurn 8 wsX0_takesTurn (some .boolean) (gRm 4) 0 0 (gQ G (fun x => (some (.int x.1), x.2))) 0 [(0, .ref (gad G 72)), (1, .ref (gad G a1)), (2, .int a2)] [] S (fX0_takesTurn a1 a2 S) := by
  unfold fX0_takesTurn
  refine g_aload_n 0 dX0_takesTurn_0 rfl ?_
  refine g_getQ (ci := 0) (k0 := 0) (C0 := RX0) (T := TX0) (N := 2) (hX 72 (by decide)) rfl rfl hiX0_takesTurn_0 (by decide) (List.mem_of_getElem? (i := 1) rfl) rfl dX0_takesTurn_1 ?_
  refine g_iload_n 2 dX0_takesTurn_4 rfl ?_
  refine g_cVp (ci := 7) (C0 := RX7) (T := TX7) (N := 5) (n := 1) (As := [.int a2]) (rest := []) hF (tX7_partyOf hG hF hX hQ (rfl : gIsSt 73 = true) a2 S) gX0_takesTurn_X7_partyOf rfl (gSt_m hX (rfl : gIsSt 73 = true)) (gSt_l (rfl : gIsSt 73 = true)) rfl ⟨rfl, by decide +kernel, by decide +kernel, by decide +kernel⟩ rfl (gRm_ok (by decide) (by decide)) rfl (Nat.le_of_ble_eq_true rfl) dX0_takesTurn_5 (fun v_1 => ?_)
  refine g_istore_n (i := 3) (env' := [(3, .int v_1), (0, .ref (gad G 72)), (1, .ref (gad G a1)), (2, .int a2)]) dX0_takesTurn_8 rfl (by decide) rfl ?_
  refine g_iload_n 0 dX0_takesTurn_9 rfl ?_
  refine g_istore (i := 4) (env' := [(4, .int v_1), (3, .int v_1), (0, .ref (gad G 72)), (1, .ref (gad G a1)), (2, .int a2)]) dX0_takesTurn_10 (by decide) rfl ?_
  refine g_iconst (v := 0) dX0_takesTurn_12 (by decide) ?_
  refine g_istore (i := 5) (env' := [(5, .int 0), (4, .int v_1), (3, .int v_1), (0, .ref (gad G 72)), (1, .ref (gad G a1)), (2, .int a2)]) dX0_takesTurn_13 (by decide) rfl ?_
  refine g_iconst (v := 0) dX0_takesTurn_15 (by decide) ?_
  refine g_istore (i := 6) (env' := [(6, .int 0), (5, .int 0), (4, .int v_1), (3, .int v_1), (0, .ref (gad G 72)), (1, .ref (gad G a1)), (2, .int a2)]) dX0_takesTurn_16 (by decide) rfl ?_
  refine g_env (env' := [(0, .ref (gad G 72)), (1, .ref (gad G a1)), (2, .int a2), (3, .int v_1), (4, .int v_1), (5, .int 0), (6, .int 0)]) [4, 5, 6, 3, 2, 1, 0] rfl ?_
  exact tX0_takesTurn_L18 hG hF hX hQ h1 gFU a2 v_1 v_1 0 0 S
set_option maxRecDepth 100000 in
set_option maxHeartbeats 4000000 in
theorem tX0_takesTurn {G : gGG} {F : State → Heap → Prop} (hG : gOK G) (hF : gSb G F) (hX : gPX G) (hQ : gOQ G) {a1 : Nat} (h1 : gIsRu a1 = true) (a2 : Int32) (S : gSt) : gCt G F yX0_takesTurn wsX0_takesTurn 4 [.ref (gad G 72), .ref (gad G a1), .int a2] S ((fX0_takesTurn a1 a2 S).map (fun x => (some (.int x.1), x.2))) := g_met (by decide +kernel) rfl (Nat.le_of_ble_eq_true rfl) (tX0_takesTurn_L hG hF hX hQ h1 a2 S)
/-! X0_run -/
theorem hiX0_run_0 : ∀ w ∈ u_ws RX0 TX0 2, w ∈ wsX0_run := fun _ hw => List.mem_cons_of_mem _ (List.mem_append_left _ (List.mem_append_left _ (List.mem_append_right _ (hw))))
set_option maxRecDepth 100000 in
set_option maxHeartbeats 4000000 in
theorem tX0_run_L75 {G : gGG} {F : State → Heap → Prop} (hG : gOK G) (hF : gSb G F) (hX : gPX G) (hQ : gOQ G) {a1 : Nat} (h1 : gIsRu a1 = true) {a2 : Nat} (h2 : gIsSt a2 = true) (k21 : Int32 → Int32 → Int32 → gSt → Option (gSt)) (hk21 : ∀ (x3 : Int32) (x4 : Int32) (x5 : Int32) (S : gSt), Gof G F RX0 cX0_run 6 wsX0_run none (gRm 5) 0 0 (gQ G (fun x => (none, x))) 21 [(0, .ref (gad G 72)), (1, .ref (gad G a1)), (3, .int x3), (4, .int x4), (5, .int x5)] [] S (k21 x3 x4 x5 S)) (x3 : Int32) (x4 : Int32) (x5 : Int32) (S : gSt) : Gof G F RX0 cX0_run 6 wsX0_run none (gRm 5) 0 0 (gQ G (fun x => (none, x))) 75 [(0, .ref (gad G 72)), (1, .ref (gad G a1)), (3, .int x3), (4, .int x4), (5, .int x5)] [] S (fX0_run_L75 k21 a1 a2 x3 x4 x5 S) := by
  unfold fX0_run_L75
  refine g_iload_n 2 dX0_run_75 rfl ?_
  refine g_iconst (v := 1) dX0_run_76 (by decide) ?_
  refine g_iadd dX0_run_77 ?_
  refine g_aload_n 1 dX0_run_78 rfl ?_
  refine g_cVp (ci := 5) (C0 := RX5) (T := TX5) (N := 6) (n := 0) (As := []) (rest := [.int (x3 + 1)]) hF (tX5_guests hG hF hX hQ h1 S) gX0_run_X5_guests rfl (gRu_m hX h1) (gRu_l h1) rfl ⟨rfl, by decide +kernel, by decide +kernel, by decide +kernel⟩ rfl (gRm_ok (by decide) (by decide)) rfl (Nat.le_of_ble_eq_true rfl) dX0_run_79 (fun v_1 => ?_)
  refine g_icmp_ge (tgt := 91) dX0_run_82 (by decide) (fun h_1 => ?_) (fun h_1 => ?_)
  · refine g_iconst (v := 0) dX0_run_91 (by decide) ?_
    refine g_istore_n (i := 3) (env' := [(3, .int 0), (0, .ref (gad G 72)), (1, .ref (gad G a1)), (4, .int x4), (5, .int x5)]) dX0_run_92 rfl (by decide) rfl ?_
    refine g_iinc 4 (v := (x5 + 1)) (env' := [(5, .int (x5 + 1)), (3, .int 0), (0, .ref (gad G 72)), (1, .ref (gad G a1)), (4, .int x4)]) dX0_run_93 rfl rfl (by decide) rfl ?_
    refine g_goto (tgt := 21) dX0_run_96 (by decide) ?_
    refine g_env (env' := [(0, .ref (gad G 72)), (1, .ref (gad G a1)), (3, .int 0), (4, .int x4), (5, .int (x5 + 1))]) [2, 3, 1, 4, 0] rfl ?_
    exact hk21 0 x4 (x5 + 1) S
  · refine g_iload_n 2 dX0_run_85 rfl ?_
    refine g_iconst (v := 1) dX0_run_86 (by decide) ?_
    refine g_iadd dX0_run_87 ?_
    refine g_goto (tgt := 92) dX0_run_88 (by decide) ?_
    refine g_nI (fun v_2 => ?_)
    refine g_istore_n (i := 3) (env' := [(3, .int v_2), (0, .ref (gad G 72)), (1, .ref (gad G a1)), (4, .int x4), (5, .int x5)]) dX0_run_92 rfl (by decide) rfl ?_
    refine g_iinc 4 (v := (x5 + 1)) (env' := [(5, .int (x5 + 1)), (3, .int v_2), (0, .ref (gad G 72)), (1, .ref (gad G a1)), (4, .int x4)]) dX0_run_93 rfl rfl (by decide) rfl ?_
    refine g_goto (tgt := 21) dX0_run_96 (by decide) ?_
    refine g_env (env' := [(0, .ref (gad G 72)), (1, .ref (gad G a1)), (3, .int v_2), (4, .int x4), (5, .int (x5 + 1))]) [2, 3, 1, 4, 0] rfl ?_
    exact hk21 v_2 x4 (x5 + 1) S
set_option maxRecDepth 100000 in
set_option maxHeartbeats 4000000 in
theorem tX0_run_L21 {G : gGG} {F : State → Heap → Prop} (hG : gOK G) (hF : gSb G F) (hX : gPX G) (hQ : gOQ G) {a1 : Nat} (h1 : gIsRu a1 = true) {a2 : Nat} (h2 : gIsSt a2 = true) : ∀ (n : Nat) (x3 : Int32) (x4 : Int32) (x5 : Int32) (S : gSt), Gof G F RX0 cX0_run 6 wsX0_run none (gRm 5) 0 0 (gQ G (fun x => (none, x))) 21 [(0, .ref (gad G 72)), (1, .ref (gad G a1)), (3, .int x3), (4, .int x4), (5, .int x5)] [] S (fX0_run_L21 a1 a2 n x3 x4 x5 S) := by
  intro n
  induction n with
  | zero => intro x3 x4 x5 S; exact g_none
  | succ n ih =>
    intro x3 x4 x5 S
    unfold fX0_run_L21
    refine g_iload 4 dX0_run_21 rfl ?_
    refine g_sipush (v := 488) dX0_run_23 (by decide) ?_
    refine g_icmp_ge (tgt := 99) dX0_run_26 (by decide) (fun h_1 => ?_) (fun h_1 => ?_)
    · exact g_vret dX0_run_99 rfl
    · refine g_aload_n 0 dX0_run_29 rfl ?_
      refine g_getI (ci := 0) (k0 := 1) (C0 := RX0) (T := TX0) (N := 2) (hX 72 (by decide)) rfl rfl hiX0_run_0 (by decide) (List.mem_of_getElem? (i := 2) rfl) rfl dX0_run_30 ?_
      refine g_bipush (v := 60) dX0_run_33 (by decide) ?_
      refine g_icmp_ge (tgt := 99) dX0_run_35 (by decide) (fun h_2 => ?_) (fun h_2 => ?_)
      · exact g_vret dX0_run_99 rfl
      · refine g_iload 3 dX0_run_38 rfl ?_
        refine g_aload_n 1 dX0_run_40 rfl ?_
        refine g_cVp (ci := 5) (C0 := RX5) (T := TX5) (N := 6) (n := 0) (As := []) (rest := [.int x4]) hF (tX5_guests hG hF hX hQ h1 S) gX0_run_X5_guests rfl (gRu_m hX h1) (gRu_l h1) rfl ⟨rfl, by decide +kernel, by decide +kernel, by decide +kernel⟩ rfl (gRm_ok (by decide) (by decide)) rfl (Nat.le_of_ble_eq_true rfl) dX0_run_41 (fun v_1 => ?_)
        refine g_icmp_ge (tgt := 99) dX0_run_44 (by decide) (fun h_3 => ?_) (fun h_3 => ?_)
        · exact g_vret dX0_run_99 rfl
        · refine g_aload_n 0 dX0_run_47 rfl ?_
          refine g_aload_n 1 dX0_run_48 rfl ?_
          refine g_iload_n 2 dX0_run_49 rfl ?_
          refine g_cVi (ci := 0) (C0 := RX0) (T := TX0) (N := 2) (n := 2) (As := [.ref (gad G a1), .int x3]) (rest := []) hF (tX0_takesTurn hG hF hX hQ h1 x3 S) gX0_run_X0_takesTurn rfl (hX 72 (by decide)) rfl rfl ⟨rfl, by decide +kernel, by decide +kernel, by decide +kernel⟩ rfl (gRm_ok (by decide) (by decide)) rfl (Nat.le_of_ble_eq_true rfl) dX0_run_50 (fun v_2 S_3 => ?_)
          refine g_if_eq (tgt := 72) dX0_run_53 (by decide) (fun h_4 => ?_) (fun h_4 => ?_)
          · refine g_iinc 3 (v := (x4 + 1)) (env' := [(4, .int (x4 + 1)), (0, .ref (gad G 72)), (1, .ref (gad G a1)), (3, .int x3), (5, .int x5)]) dX0_run_72 rfl rfl (by decide) rfl ?_
            refine g_env (env' := [(0, .ref (gad G 72)), (1, .ref (gad G a1)), (3, .int x3), (4, .int (x4 + 1)), (5, .int x5)]) [1, 2, 3, 0, 4] rfl ?_
            exact tX0_run_L75 hG hF hX hQ h1 h2 (fX0_run_L21 a1 a2 n) ih x3 (x4 + 1) x5 S_3
          · refine g_aload_n 0 dX0_run_56 rfl ?_
            refine g_dup dX0_run_57 rfl ?_
            refine g_getI (ci := 0) (k0 := 1) (C0 := RX0) (T := TX0) (N := 2) (hX 72 (by decide)) rfl rfl hiX0_run_0 (by decide) (List.mem_of_getElem? (i := 2) rfl) rfl dX0_run_58 ?_
            refine g_iconst (v := 1) dX0_run_61 (by decide) ?_
            refine g_iadd dX0_run_62 ?_
            refine g_putI hG (ci := 0) (k0 := 1) (C0 := RX0) (T := TX0) (N := 2) (hX 72 (by decide)) rfl rfl hiX0_run_0 (by decide) (List.mem_of_getElem? (i := 2) rfl) tyX0 tyX0_ok nmX0 rfl rfl rfl rfl dX0_run_63 ?_
            refine g_nS (fun S_4 => ?_)
            refine g_iconst (v := 0) dX0_run_66 (by decide) ?_
            refine g_istore (i := 4) (env' := [(4, .int 0), (0, .ref (gad G 72)), (1, .ref (gad G a1)), (3, .int x3), (5, .int x5)]) dX0_run_67 (by decide) rfl ?_
            refine g_goto (tgt := 75) dX0_run_69 (by decide) ?_
            refine g_env (env' := [(0, .ref (gad G 72)), (1, .ref (gad G a1)), (3, .int x3), (4, .int 0), (5, .int x5)]) [1, 2, 3, 0, 4] rfl ?_
            exact tX0_run_L75 hG hF hX hQ h1 h2 (fX0_run_L21 a1 a2 n) ih x3 0 x5 S_4
set_option maxRecDepth 100000 in
set_option maxHeartbeats 4000000 in
theorem tX0_run_L {G : gGG} {F : State → Heap → Prop} (hG : gOK G) (hF : gSb G F) (hX : gPX G) (hQ : gOQ G) {a1 : Nat} (h1 : gIsRu a1 = true) {a2 : Nat} (h2 : gIsSt a2 = true) (S : gSt) : Gof G F RX0 cX0_run 6 wsX0_run none (gRm 5) 0 0 (gQ G (fun x => (none, x))) 0 [(0, .ref (gad G 72)), (1, .ref (gad G a1)), (2, .ref (gad G a2))] [] S (fX0_run a1 a2 S) := by
  unfold fX0_run
  refine g_aload_n 0 dX0_run_0 rfl ?_
  refine g_getQ (ci := 0) (k0 := 0) (C0 := RX0) (T := TX0) (N := 2) (hX 72 (by decide)) rfl rfl hiX0_run_0 (by decide) (List.mem_of_getElem? (i := 1) rfl) rfl dX0_run_1 ?_
  refine g_aload_n 2 dX0_run_4 rfl ?_
  refine g_cVv (ci := 7) (C0 := RX7) (T := TX7) (N := 5) (n := 1) (As := [.ref (gad G a2)]) (rest := []) hF (tX7_standLike hG hF hX hQ (rfl : gIsSt 73 = true) h2 S) gX0_run_X7_standLike rfl (gSt_m hX (rfl : gIsSt 73 = true)) (gSt_l (rfl : gIsSt 73 = true)) rfl ⟨rfl, by decide +kernel, by decide +kernel, by decide +kernel⟩ rfl (gRm_ok (by decide) (by decide)) rfl (Nat.le_of_ble_eq_true rfl) dX0_run_5 (fun S_1 => ?_)
  refine g_aload_n 0 dX0_run_8 rfl ?_
  refine g_iconst (v := 0) dX0_run_9 (by decide) ?_
  refine g_putI hG (ci := 0) (k0 := 1) (C0 := RX0) (T := TX0) (N := 2) (hX 72 (by decide)) rfl rfl hiX0_run_0 (by decide) (List.mem_of_getElem? (i := 2) rfl) tyX0 tyX0_ok nmX0 rfl rfl rfl rfl dX0_run_10 ?_
  refine g_nS (fun S_2 => ?_)
  refine g_iconst (v := 0) dX0_run_13 (by decide) ?_
  refine g_istore_n (i := 3) (env' := [(3, .int 0), (0, .ref (gad G 72)), (1, .ref (gad G a1)), (2, .ref (gad G a2))]) dX0_run_14 rfl (by decide) rfl ?_
  refine g_iconst (v := 0) dX0_run_15 (by decide) ?_
  refine g_istore (i := 4) (env' := [(4, .int 0), (3, .int 0), (0, .ref (gad G 72)), (1, .ref (gad G a1)), (2, .ref (gad G a2))]) dX0_run_16 (by decide) rfl ?_
  refine g_iconst (v := 0) dX0_run_18 (by decide) ?_
  refine g_istore (i := 5) (env' := [(5, .int 0), (4, .int 0), (3, .int 0), (0, .ref (gad G 72)), (1, .ref (gad G a1)), (2, .ref (gad G a2))]) dX0_run_19 (by decide) rfl ?_
  refine g_env (env' := [(0, .ref (gad G 72)), (1, .ref (gad G a1)), (3, .int 0), (4, .int 0), (5, .int 0)]) [3, 4, 2, 1, 0] rfl ?_
  exact tX0_run_L21 hG hF hX hQ h1 h2 gFU 0 0 0 S_2
set_option maxRecDepth 100000 in
set_option maxHeartbeats 4000000 in
theorem tX0_run {G : gGG} {F : State → Heap → Prop} (hG : gOK G) (hF : gSb G F) (hX : gPX G) (hQ : gOQ G) {a1 : Nat} (h1 : gIsRu a1 = true) {a2 : Nat} (h2 : gIsSt a2 = true) (S : gSt) : gCt G F yX0_run wsX0_run 5 [.ref (gad G 72), .ref (gad G a1), .ref (gad G a2)] S ((fX0_run a1 a2 S).map (fun x => (none, x))) := g_met (by decide +kernel) rfl (Nat.le_of_ble_eq_true rfl) (tX0_run_L hG hF hX hQ h1 h2 S)
