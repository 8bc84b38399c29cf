/-! X7_shiftOf -/
set_option maxRecDepth 100000 in
set_option maxHeartbeats 4000000 in
theorem tX7_shiftOf_L {G : gGG} {F : State → Heap → Prop} (hG : gOK G) (hF : gSb G F) (hX : gPX G) (hQ : gOQ G) (a0 : Int32) (S : gSt) : Gof G F RX7 cX7_shiftOf 1 wsX7_shiftOf (some .int) (gRm 0) 0 0 (gQ G (fun x => (some (.int x), S))) 0 [(0, .int a0)] [] S (fX7_shiftOf a0 S) := by
  unfold fX7_shiftOf
  refine g_iconst (v := 3) dX7_shiftOf_0 (by decide) ?_
  refine g_bipush (v := 7) dX7_shiftOf_1 (by decide) ?_
  refine g_iload_n 0 dX7_shiftOf_3 rfl ?_
  refine g_isub dX7_shiftOf_4 ?_
  refine g_imul dX7_shiftOf_5 ?_
  exact g_iret dX7_shiftOf_6 rfl
set_option maxRecDepth 100000 in
set_option maxHeartbeats 4000000 in
theorem tX7_shiftOf {G : gGG} {F : State → Heap → Prop} (hG : gOK G) (hF : gSb G F) (hX : gPX G) (hQ : gOQ G) (a0 : Int32) (S : gSt) : gCt G F yX7_shiftOf wsX7_shiftOf 0 [.int a0] S ((fX7_shiftOf a0 S).map (fun x => (some (.int x), S))) := g_met (by decide +kernel) rfl (Nat.le_of_ble_eq_true rfl) (tX7_shiftOf_L hG hF hX hQ a0 S)
/-! X7_partyIn -/
set_option maxRecDepth 100000 in
set_option maxHeartbeats 4000000 in
theorem tX7_partyIn_L {G : gGG} {F : State → Heap → Prop} (hG : gOK G) (hF : gSb G F) (hX : gPX G) (hQ : gOQ G) (a0 : Int32) (a1 : Int32) (S : gSt) : Gof G F RX7 cX7_partyIn 2 wsX7_partyIn (some .int) (gRm 1) 0 0 (gQ G (fun x => (some (.int x), S))) 0 [(0, .int a0), (1, .int a1)] [] S (fX7_partyIn a0 a1 S) := by
  unfold fX7_partyIn
  refine g_iload_n 0 dX7_partyIn_0 rfl ?_
  refine g_iload_n 1 dX7_partyIn_1 rfl ?_
  refine g_cSp (n := 1) (As := [.int a1]) (rest := [.int a0]) hF (tX7_shiftOf hG hF hX hQ a1 S) gX7_partyIn_X7_shiftOf rfl ⟨by decide +kernel, by decide +kernel, by decide +kernel⟩ rfl (gRm_ok (by decide) (by decide)) rfl (Nat.le_of_ble_eq_true rfl) dX7_partyIn_2 (fun v_1 => ?_)
  refine g_ishr dX7_partyIn_5 ?_
  refine g_bipush (v := 7) dX7_partyIn_6 (by decide) ?_
  refine g_iand dX7_partyIn_8 ?_
  exact g_iret dX7_partyIn_9 rfl
set_option maxRecDepth 100000 in
set_option maxHeartbeats 4000000 in
theorem tX7_partyIn {G : gGG} {F : State → Heap → Prop} (hG : gOK G) (hF : gSb G F) (hX : gPX G) (hQ : gOQ G) (a0 : Int32) (a1 : Int32) (S : gSt) : gCt G F yX7_partyIn wsX7_partyIn 1 [.int a0, .int a1] S ((fX7_partyIn a0 a1 S).map (fun x => (some (.int x), S))) := g_met (by decide +kernel) rfl (Nat.le_of_ble_eq_true rfl) (tX7_partyIn_L hG hF hX hQ a0 a1 S)
/-! X7_guests -/
theorem hiX7_guests_7 : ∀ w ∈ u_ws RX7 TX7 5, w ∈ wsX7_guests := fun _ hw => List.mem_cons_of_mem _ (List.mem_append_right _ (hw))
set_option maxRecDepth 100000 in
set_option maxHeartbeats 4000000 in
theorem tX7_guests_L {G : gGG} {F : State → Heap → Prop} (hG : gOK G) (hF : gSb G F) (hX : gPX G) (hQ : gOQ G) {o : Nat} (ho : gIsSt o = true) (S : gSt) : Gof G F RX7 cX7_guests 1 wsX7_guests (some .int) (gRm 0) 0 0 (gQ G (fun x => (some (.int x), S))) 0 [(0, .ref (gad G o))] [] S (fX7_guests o S) := by
  unfold fX7_guests
  refine g_aload_n 0 dX7_guests_0 rfl ?_
  refine g_getI (ci := 7) (k0 := 3) (C0 := RX7) (T := TX7) (N := 5) (gSt_m hX ho) (gSt_l ho) rfl hiX7_guests_7 (by decide) (List.mem_of_getElem? (i := 1) rfl) rfl dX7_guests_1 ?_
  exact g_iret dX7_guests_4 rfl
set_option maxRecDepth 100000 in
set_option maxHeartbeats 4000000 in
theorem tX7_guests {G : gGG} {F : State → Heap → Prop} (hG : gOK G) (hF : gSb G F) (hX : gPX G) (hQ : gOQ G) {o : Nat} (ho : gIsSt o = true) (S : gSt) : gCt G F yX7_guests wsX7_guests 0 [.ref (gad G o)] S ((fX7_guests o S).map (fun x => (some (.int x), S))) := g_met (by decide +kernel) rfl (Nat.le_of_ble_eq_true rfl) (tX7_guests_L hG hF hX hQ ho S)
/-! X7_parties -/
theorem hiX7_parties_7 : ∀ w ∈ u_ws RX7 TX7 5, w ∈ wsX7_parties := fun _ hw => List.mem_cons_of_mem _ (List.mem_append_right _ (hw))
set_option maxRecDepth 100000 in
set_option maxHeartbeats 4000000 in
theorem tX7_parties_L {G : gGG} {F : State → Heap → Prop} (hG : gOK G) (hF : gSb G F) (hX : gPX G) (hQ : gOQ G) {o : Nat} (ho : gIsSt o = true) (S : gSt) : Gof G F RX7 cX7_parties 1 wsX7_parties (some .int) (gRm 0) 0 0 (gQ G (fun x => (some (.int x), S))) 0 [(0, .ref (gad G o))] [] S (fX7_parties o S) := by
  unfold fX7_parties
  refine g_aload_n 0 dX7_parties_0 rfl ?_
  refine g_getI (ci := 7) (k0 := 4) (C0 := RX7) (T := TX7) (N := 5) (gSt_m hX ho) (gSt_l ho) rfl hiX7_parties_7 (by decide) (List.mem_of_getElem? (i := 1) rfl) rfl dX7_parties_1 ?_
  exact g_iret dX7_parties_4 rfl
set_option maxRecDepth 100000 in
set_option maxHeartbeats 4000000 in
theorem tX7_parties {G : gGG} {F : State → Heap → Prop} (hG : gOK G) (hF : gSb G F) (hX : gPX G) (hQ : gOQ G) {o : Nat} (ho : gIsSt o = true) (S : gSt) : gCt G F yX7_parties wsX7_parties 0 [.ref (gad G o)] S ((fX7_parties o S).map (fun x => (some (.int x), S))) := g_met (by decide +kernel) rfl (Nat.le_of_ble_eq_true rfl) (tX7_parties_L hG hF hX hQ ho S)
/-! X7_partyOf -/
theorem hiX7_partyOf_7 : ∀ w ∈ u_ws RX7 TX7 5, w ∈ wsX7_partyOf := fun _ hw => List.mem_cons_of_mem _ (List.mem_append_right _ (hw))
set_option maxRecDepth 100000 in
set_option maxHeartbeats 4000000 in
theorem tX7_partyOf_L {G : gGG} {F : State → Heap → Prop} (hG : gOK G) (hF : gSb G F) (hX : gPX G) (hQ : gOQ G) {o : Nat} (ho : gIsSt o = true) (a1 : Int32) (S : gSt) : Gof G F RX7 cX7_partyOf 2 wsX7_partyOf (some .int) (gRm 0) 0 0 (gQ G (fun x => (some (.int x), S))) 0 [(0, .ref (gad G o)), (1, .int a1)] [] S (fX7_partyOf o a1 S) := by
  unfold fX7_partyOf
  refine g_iload_n 1 dX7_partyOf_0 rfl ?_
  refine g_if_lt (tgt := 21) dX7_partyOf_1 (by decide) (fun h_1 => ?_) (fun h_1 => ?_)
  · refine g_iconst (v := 0) dX7_partyOf_21 (by decide) ?_
    exact g_iret dX7_partyOf_22 rfl
  · refine g_iload_n 1 dX7_partyOf_4 rfl ?_
    refine g_aload_n 0 dX7_partyOf_5 rfl ?_
    refine g_getI (ci := 7) (k0 := 3) (C0 := RX7) (T := TX7) (N := 5) (gSt_m hX ho) (gSt_l ho) rfl hiX7_partyOf_7 (by decide) (List.mem_of_getElem? (i := 1) rfl) rfl dX7_partyOf_6 ?_
    refine g_icmp_ge (tgt := 21) dX7_partyOf_9 (by decide) (fun h_2 => ?_) (fun h_2 => ?_)
    · refine g_iconst (v := 0) dX7_partyOf_21 (by decide) ?_
      exact g_iret dX7_partyOf_22 rfl
    · refine g_aload_n 0 dX7_partyOf_12 rfl ?_
      refine g_getQ (ci := 7) (k0 := 0) (C0 := RX7) (T := TX7) (N := 5) (gSt_m hX ho) (gSt_l ho) rfl hiX7_partyOf_7 (by decide) (List.mem_of_getElem? (i := 2) rfl) rfl dX7_partyOf_13 ?_
      refine g_iload_n 1 dX7_partyOf_16 rfl ?_
      refine g_iald hG (gSt_m1 hX ho) (gSt_l1 ho) dX7_partyOf_17 ?_
      refine g_goto (tgt := 22) dX7_partyOf_18 (by decide) ?_
      exact g_iret dX7_partyOf_22 rfl
set_option maxRecDepth 100000 in
set_option maxHeartbeats 4000000 in
theorem tX7_partyOf {G : gGG} {F : State → Heap → Prop} (hG : gOK G) (hF : gSb G F) (hX : gPX G) (hQ : gOQ G) {o : Nat} (ho : gIsSt o = true) (a1 : Int32) (S : gSt) : gCt G F yX7_partyOf wsX7_partyOf 0 [.ref (gad G o), .int a1] S ((fX7_partyOf o a1 S).map (fun x => (some (.int x), S))) := g_met (by decide +kernel) rfl (Nat.le_of_ble_eq_true rfl) (tX7_partyOf_L hG hF hX hQ ho a1 S)
/-! X7_setOf -/
theorem hiX7_setOf_7 : ∀ w ∈ u_ws RX7 TX7 5, w ∈ wsX7_setOf := fun _ hw => List.mem_cons_of_mem _ (List.mem_append_right _ (hw))
set_option maxRecDepth 100000 in
set_option maxHeartbeats 4000000 in
theorem tX7_setOf_L {G : gGG} {F : State → Heap → Prop} (hG : gOK G) (hF : gSb G F) (hX : gPX G) (hQ : gOQ G) {o : Nat} (ho : gIsSt o = true) (a1 : Int32) (S : gSt) : Gof G F RX7 cX7_setOf 2 wsX7_setOf (some .int) (gRm 0) 0 0 (gQ G (fun x => (some (.int x), S))) 0 [(0, .ref (gad G o)), (1, .int a1)] [] S (fX7_setOf o a1 S) := by
  unfold fX7_setOf
  refine g_iload_n 1 dX7_setOf_0 rfl ?_
  refine g_if_lt (tgt := 21) dX7_setOf_1 (by decide) (fun h_1 => ?_) (fun h_1 => ?_)
  · refine g_iconst (v := 0) dX7_setOf_21 (by decide) ?_
    exact g_iret dX7_setOf_22 rfl
  · refine g_iload_n 1 dX7_setOf_4 rfl ?_
    refine g_aload_n 0 dX7_setOf_5 rfl ?_
    refine g_getI (ci := 7) (k0 := 4) (C0 := RX7) (T := TX7) (N := 5) (gSt_m hX ho) (gSt_l ho) rfl hiX7_setOf_7 (by decide) (List.mem_of_getElem? (i := 1) rfl) rfl dX7_setOf_6 ?_
    refine g_icmp_ge (tgt := 21) dX7_setOf_9 (by decide) (fun h_2 => ?_) (fun h_2 => ?_)
    · refine g_iconst (v := 0) dX7_setOf_21 (by decide) ?_
      exact g_iret dX7_setOf_22 rfl
    · refine g_aload_n 0 dX7_setOf_12 rfl ?_
      refine g_getQ (ci := 7) (k0 := 1) (C0 := RX7) (T := TX7) (N := 5) (gSt_m hX ho) (gSt_l ho) rfl hiX7_setOf_7 (by decide) (List.mem_of_getElem? (i := 2) rfl) rfl dX7_setOf_13 ?_
      refine g_iload_n 1 dX7_setOf_16 rfl ?_
      refine g_iald hG (gSt_m2 hX ho) (gSt_l2 ho) dX7_setOf_17 ?_
      refine g_goto (tgt := 22) dX7_setOf_18 (by decide) ?_
      exact g_iret dX7_setOf_22 rfl
set_option maxRecDepth 100000 in
set_option maxHeartbeats 4000000 in
theorem tX7_setOf {G : gGG} {F : State → Heap → Prop} (hG : gOK G) (hF : gSb G F) (hX : gPX G) (hQ : gOQ G) {o : Nat} (ho : gIsSt o = true) (a1 : Int32) (S : gSt) : gCt G F yX7_setOf wsX7_setOf 0 [.ref (gad G o), .int a1] S ((fX7_setOf o a1 S).map (fun x => (some (.int x), S))) := g_met (by decide +kernel) rfl (Nat.le_of_ble_eq_true rfl) (tX7_setOf_L hG hF hX hQ ho a1 S)
/-! X7_isAlone -/
set_option maxRecDepth 100000 in
set_option maxHeartbeats 4000000 in
theorem tX7_isAlone_L {G : gGG} {F : State → Heap → Prop} (hG : gOK G) (hF : gSb G F) (hX : gPX G) (hQ : gOQ G) {o : Nat} (ho : gIsSt o = true) (a1 : Int32) (S : gSt) : Gof G F RX7 cX7_isAlone 2 wsX7_isAlone (some .boolean) (gRm 1) 0 0 (gQ G (fun x => (some (.int x), S))) 0 [(0, .ref (gad G o)), (1, .int a1)] [] S (fX7_isAlone o a1 S) := by
  unfold fX7_isAlone
  refine g_aload_n 0 dX7_isAlone_0 rfl ?_
  refine g_aload_n 0 dX7_isAlone_1 rfl ?_
  refine g_iload_n 1 dX7_isAlone_2 rfl ?_
  refine g_cVp (ci := 7) (C0 := RX7) (T := TX7) (N := 5) (n := 1) (As := [.int a1]) (rest := [.ref (gad G o)]) hF (tX7_partyOf hG hF hX hQ ho a1 S) gX7_isAlone_X7_partyOf rfl (gSt_m hX ho) (gSt_l ho) rfl ⟨rfl, by decide +kernel, by decide +kernel, by decide +kernel⟩ rfl (gRm_ok (by decide) (by decide)) rfl (Nat.le_of_ble_eq_true rfl) dX7_isAlone_3 (fun v_1 => ?_)
  refine g_cVp (ci := 7) (C0 := RX7) (T := TX7) (N := 5) (n := 1) (As := [.int v_1]) (rest := []) hF (tX7_setOf hG hF hX hQ ho v_1 S) gX7_isAlone_X7_setOf rfl (gSt_m hX ho) (gSt_l ho) rfl ⟨rfl, by decide +kernel, by decide +kernel, by decide +kernel⟩ rfl (gRm_ok (by decide) (by decide)) rfl (Nat.le_of_ble_eq_true rfl) dX7_isAlone_6 (fun v_2 => ?_)
  refine g_cSp (n := 1) (As := [.int v_2]) (rest := []) hF (tJ6_bitCount_0f7a4 v_2 S) gX7_isAlone_J6_bitCount_0f7a4 rfl ⟨by decide +kernel, by decide +kernel, by decide +kernel⟩ rfl (gRm_ok (by decide) (by decide)) rfl (Nat.le_of_ble_eq_true rfl) dX7_isAlone_9 (fun v_3 => ?_)
  refine g_iconst (v := 1) dX7_isAlone_12 (by decide) ?_
  refine g_icmp_ne (tgt := 20) dX7_isAlone_13 (by decide) (fun h_1 => ?_) (fun h_1 => ?_)
  · refine g_iconst (v := 0) dX7_isAlone_20 (by decide) ?_
    exact g_zret (by decide) dX7_isAlone_21 rfl
  · refine g_iconst (v := 1) dX7_isAlone_16 (by decide) ?_
    refine g_goto (tgt := 21) dX7_isAlone_17 (by decide) ?_
    exact g_zret (by decide) dX7_isAlone_21 rfl
set_option maxRecDepth 100000 in
set_option maxHeartbeats 4000000 in
theorem tX7_isAlone {G : gGG} {F : State → Heap → Prop} (hG : gOK G) (hF : gSb G F) (hX : gPX G) (hQ : gOQ G) {o : Nat} (ho : gIsSt o = true) (a1 : Int32) (S : gSt) : gCt G F yX7_isAlone wsX7_isAlone 1 [.ref (gad G o), .int a1] S ((fX7_isAlone o a1 S).map (fun x => (some (.int x), S))) := g_met (by decide +kernel) rfl (Nat.le_of_ble_eq_true rfl) (tX7_isAlone_L hG hF hX hQ ho a1 S)
/-! X7_loners -/
theorem hiX7_loners_7 : ∀ w ∈ u_ws RX7 TX7 5, w ∈ wsX7_loners := fun _ hw => List.mem_cons_of_mem _ (List.mem_append_right _ (hw))
set_option maxRecDepth 100000 in
set_option maxHeartbeats 4000000 in
theorem tX7_loners_L4 {G : gGG} {F : State → Heap → Prop} (hG : gOK G) (hF : gSb G F) (hX : gPX G) (hQ : gOQ G) {o : Nat} (ho : gIsSt o = true) (S : gSt) : ∀ (n : Nat) (x1 : Int32) (x2 : Int32), Gof G F RX7 cX7_loners 3 wsX7_loners (some .int) (gRm 1) 0 0 (gQ G (fun x => (some (.int x), S))) 4 [(0, .ref (gad G o)), (1, .int x1), (2, .int x2)] [] S (fX7_loners_L4 o S n x1 x2) := by
  intro n
  induction n with
  | zero => intro x1 x2; exact g_none
  | succ n ih =>
    intro x1 x2
    unfold fX7_loners_L4
    refine g_iload_n 2 dX7_loners_4 rfl ?_
    refine g_aload_n 0 dX7_loners_5 rfl ?_
    refine g_getI (ci := 7) (k0 := 4) (C0 := RX7) (T := TX7) (N := 5) (gSt_m hX ho) (gSt_l ho) rfl hiX7_loners_7 (by decide) (List.mem_of_getElem? (i := 1) rfl) rfl dX7_loners_6 ?_
    refine g_icmp_ge (tgt := 33) dX7_loners_9 (by decide) (fun h_1 => ?_) (fun h_1 => ?_)
    · refine g_iload_n 1 dX7_loners_33 rfl ?_
      exact g_iret dX7_loners_34 rfl
    · refine g_aload_n 0 dX7_loners_12 rfl ?_
      refine g_iload_n 2 dX7_loners_13 rfl ?_
      refine g_cVp (ci := 7) (C0 := RX7) (T := TX7) (N := 5) (n := 1) (As := [.int x2]) (rest := []) hF (tX7_setOf hG hF hX hQ ho x2 S) gX7_loners_X7_setOf rfl (gSt_m hX ho) (gSt_l ho) rfl ⟨rfl, by decide +kernel, by decide +kernel, by decide +kernel⟩ rfl (gRm_ok (by decide) (by decide)) rfl (Nat.le_of_ble_eq_true rfl) dX7_loners_14 (fun v_1 => ?_)
      refine g_cSp (n := 1) (As := [.int v_1]) (rest := []) hF (tJ6_bitCount_0f7a4 v_1 S) gX7_loners_J6_bitCount_0f7a4 rfl ⟨by decide +kernel, by decide +kernel, by decide +kernel⟩ rfl (gRm_ok (by decide) (by decide)) rfl (Nat.le_of_ble_eq_true rfl) dX7_loners_17 (fun v_2 => ?_)
      refine g_iconst (v := 1) dX7_loners_20 (by decide) ?_
      refine g_icmp_ne (tgt := 27) dX7_loners_21 (by decide) (fun h_2 => ?_) (fun h_2 => ?_)
      · refine g_iinc 2 (v := (x2 + 1)) (env' := [(2, .int (x2 + 1)), (0, .ref (gad G o)), (1, .int x1)]) dX7_loners_27 rfl rfl (by decide) rfl ?_
        refine g_goto (tgt := 4) dX7_loners_30 (by decide) ?_
        refine g_env (env' := [(0, .ref (gad G o)), (1, .int x1), (2, .int (x2 + 1))]) [1, 2, 0] rfl ?_
        exact ih x1 (x2 + 1)
      · refine g_iinc 1 (v := (x1 + 1)) (env' := [(1, .int (x1 + 1)), (0, .ref (gad G o)), (2, .int x2)]) dX7_loners_24 rfl rfl (by decide) rfl ?_
        refine g_iinc 2 (v := (x2 + 1)) (env' := [(2, .int (x2 + 1)), (1, .int (x1 + 1)), (0, .ref (gad G o))]) dX7_loners_27 rfl rfl (by decide) rfl ?_
        refine g_goto (tgt := 4) dX7_loners_30 (by decide) ?_
        refine g_env (env' := [(0, .ref (gad G o)), (1, .int (x1 + 1)), (2, .int (x2 + 1))]) [2, 1, 0] rfl ?_
        exact ih (x1 + 1) (x2 + 1)
set_option maxRecDepth 100000 in
set_option maxHeartbeats 4000000 in
theorem tX7_loners_L {G : gGG} {F : State → Heap → Prop} (hG : gOK G) (hF : gSb G F) (hX : gPX G) (hQ : gOQ G) {o : Nat} (ho : gIsSt o = true) (S : gSt) : Gof G F RX7 cX7_loners 3 wsX7_loners (some .int) (gRm 1) 0 0 (gQ G (fun x => (some (.int x), S))) 0 [(0, .ref (gad G o))] [] S (fX7_loners o S) := by
  unfold fX7_loners
  refine g_iconst (v := 0) dX7_loners_0 (by decide) ?_
  refine g_istore_n (i := 1) (env' := [(1, .int 0), (0, .ref (gad G o))]) dX7_loners_1 rfl (by decide) rfl ?_
  refine g_iconst (v := 0) dX7_loners_2 (by decide) ?_
  refine g_istore_n (i := 2) (env' := [(2, .int 0), (1, .int 0), (0, .ref (gad G o))]) dX7_loners_3 rfl (by decide) rfl ?_
  refine g_env (env' := [(0, .ref (gad G o)), (1, .int 0), (2, .int 0)]) [2, 1, 0] rfl ?_
  exact tX7_loners_L4 hG hF hX hQ ho S gFU 0 0
set_option maxRecDepth 100000 in
set_option maxHeartbeats 4000000 in
theorem tX7_loners {G : gGG} {F : State → Heap → Prop} (hG : gOK G) (hF : gSb G F) (hX : gPX G) (hQ : gOQ G) {o : Nat} (ho : gIsSt o = true) (S : gSt) : gCt G F yX7_loners wsX7_loners 1 [.ref (gad G o)] S ((fX7_loners o S).map (fun x => (some (.int x), S))) := g_met (by decide +kernel) rfl (Nat.le_of_ble_eq_true rfl) (tX7_loners_L hG hF hX hQ ho S)
/-! X7_code -/
theorem hiX7_code_7 : ∀ w ∈ u_ws RX7 TX7 5, w ∈ wsX7_code := fun _ hw => List.mem_cons_of_mem _ (List.mem_append_right _ (hw))
set_option maxRecDepth 100000 in
set_option maxHeartbeats 4000000 in
theorem tX7_code_L4 {G : gGG} {F : State → Heap → Prop} (hG : gOK G) (hF : gSb G F) (hX : gPX G) (hQ : gOQ G) {o : Nat} (ho : gIsSt o = true) (S : gSt) : ∀ (n : Nat) (x1 : Int32) (x2 : Int32), Gof G F RX7 cX7_code 3 wsX7_code (some .int) (gRm 1) 0 0 (gQ G (fun x => (some (.int x), S))) 4 [(0, .ref (gad G o)), (1, .int x1), (2, .int x2)] [] S (fX7_code_L4 o S n x1 x2) := by
  intro n
  induction n with
  | zero => intro x1 x2; exact g_none
  | succ n ih =>
    intro x1 x2
    unfold fX7_code_L4
    refine g_iload_n 2 dX7_code_4 rfl ?_
    refine g_aload_n 0 dX7_code_5 rfl ?_
    refine g_getI (ci := 7) (k0 := 3) (C0 := RX7) (T := TX7) (N := 5) (gSt_m hX ho) (gSt_l ho) rfl hiX7_code_7 (by decide) (List.mem_of_getElem? (i := 1) rfl) rfl dX7_code_6 ?_
    refine g_icmp_ge (tgt := 31) dX7_code_9 (by decide) (fun h_1 => ?_) (fun h_1 => ?_)
    · refine g_iload_n 1 dX7_code_31 rfl ?_
      exact g_iret dX7_code_32 rfl
    · refine g_iload_n 1 dX7_code_12 rfl ?_
      refine g_aload_n 0 dX7_code_13 rfl ?_
      refine g_iload_n 2 dX7_code_14 rfl ?_
      refine g_cVp (ci := 7) (C0 := RX7) (T := TX7) (N := 5) (n := 1) (As := [.int x2]) (rest := [.int x1]) hF (tX7_partyOf hG hF hX hQ ho x2 S) gX7_code_X7_partyOf rfl (gSt_m hX ho) (gSt_l ho) rfl ⟨rfl, by decide +kernel, by decide +kernel, by decide +kernel⟩ rfl (gRm_ok (by decide) (by decide)) rfl (Nat.le_of_ble_eq_true rfl) dX7_code_15 (fun v_1 => ?_)
      refine g_iload_n 2 dX7_code_18 rfl ?_
      refine g_cSp (n := 1) (As := [.int x2]) (rest := [.int v_1, .int x1]) hF (tX7_shiftOf hG hF hX hQ x2 S) gX7_code_X7_shiftOf rfl ⟨by decide +kernel, by decide +kernel, by decide +kernel⟩ rfl (gRm_ok (by decide) (by decide)) rfl (Nat.le_of_ble_eq_true rfl) dX7_code_19 (fun v_2 => ?_)
      refine g_ishl dX7_code_22 ?_
      refine g_ior dX7_code_23 ?_
      refine g_nI (fun v_3 => ?_)
      refine g_istore_n (i := 1) (env' := [(1, .int v_3), (0, .ref (gad G o)), (2, .int x2)]) dX7_code_24 rfl (by decide) rfl ?_
      refine g_iinc 2 (v := (x2 + 1)) (env' := [(2, .int (x2 + 1)), (1, .int v_3), (0, .ref (gad G o))]) dX7_code_25 rfl rfl (by decide) rfl ?_
      refine g_goto (tgt := 4) dX7_code_28 (by decide) ?_
      refine g_env (env' := [(0, .ref (gad G o)), (1, .int v_3), (2, .int (x2 + 1))]) [2, 1, 0] rfl ?_
      exact ih v_3 (x2 + 1)
set_option maxRecDepth 100000 in
set_option maxHeartbeats 4000000 in
theorem tX7_code_L {G : gGG} {F : State → Heap → Prop} (hG : gOK G) (hF : gSb G F) (hX : gPX G) (hQ : gOQ G) {o : Nat} (ho : gIsSt o = true) (S : gSt) : Gof G F RX7 cX7_code 3 wsX7_code (some .int) (gRm 1) 0 0 (gQ G (fun x => (some (.int x), S))) 0 [(0, .ref (gad G o))] [] S (fX7_code o S) := by
  unfold fX7_code
  refine g_iconst (v := 0) dX7_code_0 (by decide) ?_
  refine g_istore_n (i := 1) (env' := [(1, .int 0), (0, .ref (gad G o))]) dX7_code_1 rfl (by decide) rfl ?_
  refine g_iconst (v := 0) dX7_code_2 (by decide) ?_
  refine g_istore_n (i := 2) (env' := [(2, .int 0), (1, .int 0), (0, .ref (gad G o))]) dX7_code_3 rfl (by decide) rfl ?_
  refine g_env (env' := [(0, .ref (gad G o)), (1, .int 0), (2, .int 0)]) [2, 1, 0] rfl ?_
  exact tX7_code_L4 hG hF hX hQ ho S gFU 0 0
set_option maxRecDepth 100000 in
set_option maxHeartbeats 4000000 in
theorem tX7_code {G : gGG} {F : State → Heap → Prop} (hG : gOK G) (hF : gSb G F) (hX : gPX G) (hQ : gOQ G) {o : Nat} (ho : gIsSt o = true) (S : gSt) : gCt G F yX7_code wsX7_code 1 [.ref (gad G o)] S ((fX7_code o S).map (fun x => (some (.int x), S))) := g_met (by decide +kernel) rfl (Nat.le_of_ble_eq_true rfl) (tX7_code_L hG hF hX hQ ho S)
/-! X7_firstLabelledLike -/
theorem hiX7_firstLabelledLike_7 : ∀ w ∈ u_ws RX7 TX7 5, w ∈ wsX7_firstLabelledLike := fun _ hw => List.mem_cons_of_mem _ (List.mem_append_right _ (hw))
set_option maxRecDepth 100000 in
set_option maxHeartbeats 4000000 in
theorem tX7_firstLabelledLike_L2 {G : gGG} {F : State → Heap → Prop} (hG : gOK G) (hF : gSb G F) (hX : gPX G) (hQ : gOQ G) {o : Nat} (ho : gIsSt o = true) (S : gSt) : ∀ (n : Nat) (x1 : Int32) (x2 : Int32), Gof G F RX7 cX7_firstLabelledLike 3 wsX7_firstLabelledLike (some .int) (gRm 0) 0 0 (gQ G (fun x => (some (.int x), S))) 2 [(0, .ref (gad G o)), (1, .int x1), (2, .int x2)] [] S (fX7_firstLabelledLike_L2 o S n x1 x2) := by
  intro n
  induction n with
  | zero => intro x1 x2; exact g_none
  | succ n ih =>
    intro x1 x2
    unfold fX7_firstLabelledLike_L2
    refine g_iload_n 2 dX7_firstLabelledLike_2 rfl ?_
    refine g_iload_n 1 dX7_firstLabelledLike_3 rfl ?_
    refine g_icmp_ge (tgt := 30) dX7_firstLabelledLike_4 (by decide) (fun h_1 => ?_) (fun h_1 => ?_)
    · refine g_iload_n 1 dX7_firstLabelledLike_30 rfl ?_
      exact g_iret dX7_firstLabelledLike_31 rfl
    · refine g_aload_n 0 dX7_firstLabelledLike_7 rfl ?_
      refine g_getQ (ci := 7) (k0 := 2) (C0 := RX7) (T := TX7) (N := 5) (gSt_m hX ho) (gSt_l ho) rfl hiX7_firstLabelledLike_7 (by decide) (List.mem_of_getElem? (i := 1) rfl) rfl dX7_firstLabelledLike_8 ?_
      refine g_iload_n 2 dX7_firstLabelledLike_11 rfl ?_
      refine g_iald hG (gSt_m3 hX ho) (gSt_l3 ho) dX7_firstLabelledLike_12 ?_
      refine g_aload_n 0 dX7_firstLabelledLike_13 rfl ?_
      refine g_getQ (ci := 7) (k0 := 2) (C0 := RX7) (T := TX7) (N := 5) (gSt_m hX ho) (gSt_l ho) rfl hiX7_firstLabelledLike_7 (by decide) (List.mem_of_getElem? (i := 1) rfl) rfl dX7_firstLabelledLike_14 ?_
      refine g_iload_n 1 dX7_firstLabelledLike_17 rfl ?_
      refine g_iald hG (gSt_m3 hX ho) (gSt_l3 ho) dX7_firstLabelledLike_18 ?_
      refine g_icmp_ne (tgt := 24) dX7_firstLabelledLike_19 (by decide) (fun h_2 => ?_) (fun h_2 => ?_)
      · refine g_iinc 2 (v := (x2 + 1)) (env' := [(2, .int (x2 + 1)), (0, .ref (gad G o)), (1, .int x1)]) dX7_firstLabelledLike_24 rfl rfl (by decide) rfl ?_
        refine g_goto (tgt := 2) dX7_firstLabelledLike_27 (by decide) ?_
        refine g_env (env' := [(0, .ref (gad G o)), (1, .int x1), (2, .int (x2 + 1))]) [1, 2, 0] rfl ?_
        exact ih x1 (x2 + 1)
      · refine g_iload_n 2 dX7_firstLabelledLike_22 rfl ?_
        exact g_iret dX7_firstLabelledLike_23 rfl
set_option maxRecDepth 100000 in
set_option maxHeartbeats 4000000 in
theorem tX7_firstLabelledLike_L {G : gGG} {F : State → Heap → Prop} (hG : gOK G) (hF : gSb G F) (hX : gPX G) (hQ : gOQ G) {o : Nat} (ho : gIsSt o = true) (a1 : Int32) (S : gSt) : Gof G F RX7 cX7_firstLabelledLike 3 wsX7_firstLabelledLike (some .int) (gRm 0) 0 0 (gQ G (fun x => (some (.int x), S))) 0 [(0, .ref (gad G o)), (1, .int a1)] [] S (fX7_firstLabelledLike o a1 S) := by
  unfold fX7_firstLabelledLike
  refine g_iconst (v := 0) dX7_firstLabelledLike_0 (by decide) ?_
  refine g_istore_n (i := 2) (env' := [(2, .int 0), (0, .ref (gad G o)), (1, .int a1)]) dX7_firstLabelledLike_1 rfl (by decide) rfl ?_
  refine g_env (env' := [(0, .ref (gad G o)), (1, .int a1), (2, .int 0)]) [1, 2, 0] rfl ?_
  exact tX7_firstLabelledLike_L2 hG hF hX hQ ho S gFU a1 0
set_option maxRecDepth 100000 in
set_option maxHeartbeats 4000000 in
theorem tX7_firstLabelledLike {G : gGG} {F : State → Heap → Prop} (hG : gOK G) (hF : gSb G F) (hX : gPX G) (hQ : gOQ G) {o : Nat} (ho : gIsSt o = true) (a1 : Int32) (S : gSt) : gCt G F yX7_firstLabelledLike wsX7_firstLabelledLike 0 [.ref (gad G o), .int a1] S ((fX7_firstLabelledLike o a1 S).map (fun x => (some (.int x), S))) := g_met (by decide +kernel) rfl (Nat.le_of_ble_eq_true rfl) (tX7_firstLabelledLike_L hG hF hX hQ ho a1 S)
/-! X7_settle -/
theorem hiX7_settle_7 : ∀ w ∈ u_ws RX7 TX7 5, w ∈ wsX7_settle := fun _ hw => List.mem_cons_of_mem _ (List.mem_append_right _ (hw))
set_option maxRecDepth 100000 in
set_option maxHeartbeats 4000000 in
theorem tX7_settle_L71 {G : gGG} {F : State → Heap → Prop} (hG : gOK G) (hF : gSb G F) (hX : gPX G) (hQ : gOQ G) {o : Nat} (ho : gIsSt o = true) (k7 : Int32 → gSt → Option (gSt)) (hk7 : ∀ (x1 : Int32) (S : gSt), Gof G F RX7 cX7_settle 3 wsX7_settle none (gRm 1) 0 0 (gQ G (fun x => (none, x))) 7 [(0, .ref (gad G o)), (1, .int x1)] [] S (k7 x1 S)) (x1 : Int32) (S : gSt) : Gof G F RX7 cX7_settle 3 wsX7_settle none (gRm 1) 0 0 (gQ G (fun x => (none, x))) 71 [(0, .ref (gad G o)), (1, .int x1)] [] S (fX7_settle_L71 k7 o x1 S) := by
  unfold fX7_settle_L71
  refine g_aload_n 0 dX7_settle_71 rfl ?_
  refine g_getQ (ci := 7) (k0 := 1) (C0 := RX7) (T := TX7) (N := 5) (gSt_m hX ho) (gSt_l ho) rfl hiX7_settle_7 (by decide) (List.mem_of_getElem? (i := 3) rfl) rfl dX7_settle_72 ?_
  refine g_aload_n 0 dX7_settle_75 rfl ?_
  refine g_getQ (ci := 7) (k0 := 0) (C0 := RX7) (T := TX7) (N := 5) (gSt_m hX ho) (gSt_l ho) rfl hiX7_settle_7 (by decide) (List.mem_of_getElem? (i := 4) rfl) rfl dX7_settle_76 ?_
  refine g_iload_n 1 dX7_settle_79 rfl ?_
  refine g_iald hG (gSt_m1 hX ho) (gSt_l1 ho) dX7_settle_80 ?_
  refine g_dup2 dX7_settle_81 rfl rfl ?_
  refine g_iald hG (gSt_m2 hX ho) (gSt_l2 ho) dX7_settle_82 ?_
  refine g_iconst (v := 1) dX7_settle_83 (by decide) ?_
  refine g_iload_n 1 dX7_settle_84 rfl ?_
  refine g_ishl dX7_settle_85 ?_
  refine g_ior dX7_settle_86 ?_
  refine g_iast hG (gSt_m2 hX ho) (gSt_l2 ho) dX7_settle_87 ?_
  refine g_nS (fun S_1 => ?_)
  refine g_iinc 1 (v := (x1 + 1)) (env' := [(1, .int (x1 + 1)), (0, .ref (gad G o))]) dX7_settle_88 rfl rfl (by decide) rfl ?_
  refine g_goto (tgt := 7) dX7_settle_91 (by decide) ?_
  refine g_env (env' := [(0, .ref (gad G o)), (1, .int (x1 + 1))]) [1, 0] rfl ?_
  exact hk7 (x1 + 1) S_1
set_option maxRecDepth 100000 in
set_option maxHeartbeats 4000000 in
theorem tX7_settle_L7 {G : gGG} {F : State → Heap → Prop} (hG : gOK G) (hF : gSb G F) (hX : gPX G) (hQ : gOQ G) {o : Nat} (ho : gIsSt o = true) : ∀ (n : Nat) (x1 : Int32) (S : gSt), Gof G F RX7 cX7_settle 3 wsX7_settle none (gRm 1) 0 0 (gQ G (fun x => (none, x))) 7 [(0, .ref (gad G o)), (1, .int x1)] [] S (fX7_settle_L7 o n x1 S) := by
  intro n
  induction n with
  | zero => intro x1 S; exact g_none
  | succ n ih =>
    intro x1 S
    unfold fX7_settle_L7
    refine g_iload_n 1 dX7_settle_7 rfl ?_
    refine g_aload_n 0 dX7_settle_8 rfl ?_
    refine g_getI (ci := 7) (k0 := 3) (C0 := RX7) (T := TX7) (N := 5) (gSt_m hX ho) (gSt_l ho) rfl hiX7_settle_7 (by decide) (List.mem_of_getElem? (i := 2) rfl) rfl dX7_settle_9 ?_
    refine g_icmp_ge (tgt := 94) dX7_settle_12 (by decide) (fun h_1 => ?_) (fun h_1 => ?_)
    · exact g_vret dX7_settle_94 rfl
    · refine g_aload_n 0 dX7_settle_15 rfl ?_
      refine g_iload_n 1 dX7_settle_16 rfl ?_
      refine g_cVp (ci := 7) (C0 := RX7) (T := TX7) (N := 5) (n := 1) (As := [.int x1]) (rest := []) hF (tX7_firstLabelledLike hG hF hX hQ ho x1 S) gX7_settle_X7_firstLabelledLike rfl (gSt_m hX ho) (gSt_l ho) rfl ⟨rfl, by decide +kernel, by decide +kernel, by decide +kernel⟩ rfl (gRm_ok (by decide) (by decide)) rfl (Nat.le_of_ble_eq_true rfl) dX7_settle_17 (fun v_1 => ?_)
      refine g_istore_n (i := 2) (env' := [(2, .int v_1), (0, .ref (gad G o)), (1, .int x1)]) dX7_settle_20 rfl (by decide) rfl ?_
      refine g_iload_n 0 dX7_settle_21 rfl ?_
      refine g_iload_n 2 dX7_settle_22 rfl ?_
      refine g_icmp_ne (tgt := 59) dX7_settle_23 (by decide) (fun h_2 => ?_) (fun h_2 => ?_)
      · refine g_aload_n 1 dX7_settle_59 rfl ?_
        refine g_getQ (ci := 7) (k0 := 0) (C0 := RX7) (T := TX7) (N := 5) (gSt_m hX ho) (gSt_l ho) rfl hiX7_settle_7 (by decide) (List.mem_of_getElem? (i := 4) rfl) rfl dX7_settle_60 ?_
        refine g_iload_n 2 dX7_settle_63 rfl ?_
        refine g_aload_n 1 dX7_settle_64 rfl ?_
        refine g_getQ (ci := 7) (k0 := 0) (C0 := RX7) (T := TX7) (N := 5) (gSt_m hX ho) (gSt_l ho) rfl hiX7_settle_7 (by decide) (List.mem_of_getElem? (i := 4) rfl) rfl dX7_settle_65 ?_
        refine g_iload_n 0 dX7_settle_68 rfl ?_
        refine g_iald hG (gSt_m1 hX ho) (gSt_l1 ho) dX7_settle_69 ?_
        refine g_iast hG (gSt_m1 hX ho) (gSt_l1 ho) dX7_settle_70 ?_
        refine g_nS (fun S_2 => ?_)
        refine g_env (env' := [(0, .ref (gad G o)), (1, .int x1)]) [1, 2] rfl ?_
        exact tX7_settle_L71 hG hF hX hQ ho (fX7_settle_L7 o n) ih x1 S_2
      · refine g_aload_n 1 dX7_settle_26 rfl ?_
        refine g_getQ (ci := 7) (k0 := 1) (C0 := RX7) (T := TX7) (N := 5) (gSt_m hX ho) (gSt_l ho) rfl hiX7_settle_7 (by decide) (List.mem_of_getElem? (i := 3) rfl) rfl dX7_settle_27 ?_
        refine g_aload_n 1 dX7_settle_30 rfl ?_
        refine g_getI (ci := 7) (k0 := 4) (C0 := RX7) (T := TX7) (N := 5) (gSt_m hX ho) (gSt_l ho) rfl hiX7_settle_7 (by decide) (List.mem_of_getElem? (i := 1) rfl) rfl dX7_settle_31 ?_
        refine g_iconst (v := 0) dX7_settle_34 (by decide) ?_
        refine g_iast hG (gSt_m2 hX ho) (gSt_l2 ho) dX7_settle_35 ?_
        refine g_nS (fun S_3 => ?_)
        refine g_aload_n 1 dX7_settle_36 rfl ?_
        refine g_getQ (ci := 7) (k0 := 0) (C0 := RX7) (T := TX7) (N := 5) (gSt_m hX ho) (gSt_l ho) rfl hiX7_settle_7 (by decide) (List.mem_of_getElem? (i := 4) rfl) rfl dX7_settle_37 ?_
        refine g_iload_n 2 dX7_settle_40 rfl ?_
        refine g_aload_n 1 dX7_settle_41 rfl ?_
        refine g_getI (ci := 7) (k0 := 4) (C0 := RX7) (T := TX7) (N := 5) (gSt_m hX ho) (gSt_l ho) rfl hiX7_settle_7 (by decide) (List.mem_of_getElem? (i := 1) rfl) rfl dX7_settle_42 ?_
        refine g_iast hG (gSt_m1 hX ho) (gSt_l1 ho) dX7_settle_45 ?_
        refine g_nS (fun S_4 => ?_)
        refine g_aload_n 1 dX7_settle_46 rfl ?_
        refine g_dup dX7_settle_47 rfl ?_
        refine g_getI (ci := 7) (k0 := 4) (C0 := RX7) (T := TX7) (N := 5) (gSt_m hX ho) (gSt_l ho) rfl hiX7_settle_7 (by decide) (List.mem_of_getElem? (i := 1) rfl) rfl dX7_settle_48 ?_
        refine g_iconst (v := 1) dX7_settle_51 (by decide) ?_
        refine g_iadd dX7_settle_52 ?_
        refine g_putI hG (ci := 7) (k0 := 4) (C0 := RX7) (T := TX7) (N := 5) (gSt_m hX ho) (gSt_l ho) rfl hiX7_settle_7 (by decide) (List.mem_of_getElem? (i := 1) rfl) tyX7 tyX7_ok nmX7 rfl rfl rfl rfl dX7_settle_53 ?_
        refine g_nS (fun S_5 => ?_)
        refine g_goto (tgt := 71) dX7_settle_56 (by decide) ?_
        refine g_env (env' := [(0, .ref (gad G o)), (1, .int x1)]) [1, 2] rfl ?_
        exact tX7_settle_L71 hG hF hX hQ ho (fX7_settle_L7 o n) ih x1 S_5
set_option maxRecDepth 100000 in
set_option maxHeartbeats 4000000 in
theorem tX7_settle_L {G : gGG} {F : State → Heap → Prop} (hG : gOK G) (hF : gSb G F) (hX : gPX G) (hQ : gOQ G) {o : Nat} (ho : gIsSt o = true) (S : gSt) : Gof G F RX7 cX7_settle 3 wsX7_settle none (gRm 1) 0 0 (gQ G (fun x => (none, x))) 0 [(0, .ref (gad G o))] [] S (fX7_settle o S) := by
  unfold fX7_settle
  refine g_aload_n 0 dX7_settle_0 rfl ?_
  refine g_iconst (v := 0) dX7_settle_1 (by decide) ?_
  refine g_putI hG (ci := 7) (k0 := 4) (C0 := RX7) (T := TX7) (N := 5) (gSt_m hX ho) (gSt_l ho) rfl hiX7_settle_7 (by decide) (List.mem_of_getElem? (i := 1) rfl) tyX7 tyX7_ok nmX7 rfl rfl rfl rfl dX7_settle_2 ?_
  refine g_nS (fun S_1 => ?_)
  refine g_iconst (v := 0) dX7_settle_5 (by decide) ?_
  refine g_istore_n (i := 1) (env' := [(1, .int 0), (0, .ref (gad G o))]) dX7_settle_6 rfl (by decide) rfl ?_
  refine g_env (env' := [(0, .ref (gad G o)), (1, .int 0)]) [1, 0] rfl ?_
  exact tX7_settle_L7 hG hF hX hQ ho gFU 0 S_1
set_option maxRecDepth 100000 in
set_option maxHeartbeats 4000000 in
theorem tX7_settle {G : gGG} {F : State → Heap → Prop} (hG : gOK G) (hF : gSb G F) (hX : gPX G) (hQ : gOQ G) {o : Nat} (ho : gIsSt o = true) (S : gSt) : gCt G F yX7_settle wsX7_settle 1 [.ref (gad G o)] S ((fX7_settle o S).map (fun x => (none, x))) := g_met (by decide +kernel) rfl (Nat.le_of_ble_eq_true rfl) (tX7_settle_L hG hF hX hQ ho S)
/-! X7_scatter -/
theorem hiX7_scatter_7 : ∀ w ∈ u_ws RX7 TX7 5, w ∈ wsX7_scatter := fun _ hw => List.mem_cons_of_mem _ (List.mem_append_right _ (hw))
set_option maxRecDepth 100000 in
set_option maxHeartbeats 4000000 in
theorem tX7_scatter_L16 {G : gGG} {F : State → Heap → Prop} (hG : gOK G) (hF : gSb G F) (hX : gPX G) (hQ : gOQ G) {o : Nat} (ho : gIsSt o = true) : ∀ (n : Nat) (x2 : Int32) (S : gSt), Gof G F RX7 cX7_scatter 3 wsX7_scatter none (gRm 2) 0 0 (gQ G (fun x => (none, x))) 16 [(0, .ref (gad G o)), (2, .int x2)] [] S (fX7_scatter_L16 o n x2 S) := by
  intro n
  induction n with
  | zero => intro x2 S; exact g_none
  | succ n ih =>
    intro x2 S
    unfold fX7_scatter_L16
    refine g_iload_n 1 dX7_scatter_16 rfl ?_
    refine g_aload_n 0 dX7_scatter_17 rfl ?_
    refine g_getI (ci := 7) (k0 := 3) (C0 := RX7) (T := TX7) (N := 5) (gSt_m hX ho) (gSt_l ho) rfl hiX7_scatter_7 (by decide) (List.mem_of_getElem? (i := 8) rfl) rfl dX7_scatter_18 ?_
    refine g_icmp_ge (tgt := 37) dX7_scatter_21 (by decide) (fun h_1 => ?_) (fun h_1 => ?_)
    · refine g_aload_n 0 dX7_scatter_37 rfl ?_
      refine g_cVv (ci := 7) (C0 := RX7) (T := TX7) (N := 5) (n := 0) (As := []) (rest := []) hF (tX7_settle hG hF hX hQ ho S) gX7_scatter_X7_settle rfl (gSt_m hX ho) (gSt_l ho) rfl ⟨rfl, by decide +kernel, by decide +kernel, by decide +kernel⟩ rfl (gRm_ok (by decide) (by decide)) rfl (Nat.le_of_ble_eq_true rfl) dX7_scatter_38 (fun S_1 => ?_)
      exact g_vret dX7_scatter_41 rfl
    · refine g_aload_n 0 dX7_scatter_24 rfl ?_
      refine g_getQ (ci := 7) (k0 := 2) (C0 := RX7) (T := TX7) (N := 5) (gSt_m hX ho) (gSt_l ho) rfl hiX7_scatter_7 (by decide) (List.mem_of_getElem? (i := 9) rfl) rfl dX7_scatter_25 ?_
      refine g_iload_n 1 dX7_scatter_28 rfl ?_
      refine g_iload_n 1 dX7_scatter_29 rfl ?_
      refine g_iast hG (gSt_m3 hX ho) (gSt_l3 ho) dX7_scatter_30 ?_
      refine g_nS (fun S_2 => ?_)
      refine g_iinc 1 (v := (x2 + 1)) (env' := [(2, .int (x2 + 1)), (0, .ref (gad G o))]) dX7_scatter_31 rfl rfl (by decide) rfl ?_
      refine g_goto (tgt := 16) dX7_scatter_34 (by decide) ?_
      refine g_env (env' := [(0, .ref (gad G o)), (2, .int (x2 + 1))]) [1, 0] rfl ?_
      exact ih (x2 + 1) S_2
set_option maxRecDepth 100000 in
set_option maxHeartbeats 4000000 in
theorem tX7_scatter_L {G : gGG} {F : State → Heap → Prop} (hG : gOK G) (hF : gSb G F) (hX : gPX G) (hQ : gOQ G) {o : Nat} (ho : gIsSt o = true) (a1 : Int32) (S : gSt) : Gof G F RX7 cX7_scatter 3 wsX7_scatter none (gRm 2) 0 0 (gQ G (fun x => (none, x))) 0 [(0, .ref (gad G o)), (1, .int a1)] [] S (fX7_scatter o a1 S) := by
  unfold fX7_scatter
  refine g_aload_n 0 dX7_scatter_0 rfl ?_
  refine g_iconst (v := 1) dX7_scatter_1 (by decide) ?_
  refine g_bipush (v := 8) dX7_scatter_2 (by decide) ?_
  refine g_iload_n 1 dX7_scatter_4 rfl ?_
  refine g_mmin (List.mem_of_getElem? (i := 1) rfl) (List.mem_of_getElem? (i := 2) rfl) (List.mem_of_getElem? (i := 3) rfl) (List.mem_of_getElem? (i := 4) rfl) (gRm_mx (by first | decide | omega)) (Nat.le_of_ble_eq_true rfl) dX7_scatter_5 ?_
  refine g_mmax (List.mem_of_getElem? (i := 5) rfl) (List.mem_of_getElem? (i := 6) rfl) (List.mem_of_getElem? (i := 3) rfl) (List.mem_of_getElem? (i := 7) rfl) (gRm_mx (by first | decide | omega)) (Nat.le_of_ble_eq_true rfl) dX7_scatter_8 ?_
  refine g_putI hG (ci := 7) (k0 := 3) (C0 := RX7) (T := TX7) (N := 5) (gSt_m hX ho) (gSt_l ho) rfl hiX7_scatter_7 (by decide) (List.mem_of_getElem? (i := 8) rfl) tyX7 tyX7_ok nmX7 rfl rfl rfl rfl dX7_scatter_11 ?_
  refine g_nS (fun S_1 => ?_)
  refine g_iconst (v := 0) dX7_scatter_14 (by decide) ?_
  refine g_istore_n (i := 2) (env' := [(2, .int 0), (0, .ref (gad G o)), (1, .int a1)]) dX7_scatter_15 rfl (by decide) rfl ?_
  refine g_env (env' := [(0, .ref (gad G o)), (2, .int 0)]) [1, 0] rfl ?_
  exact tX7_scatter_L16 hG hF hX hQ ho gFU 0 S_1
set_option maxRecDepth 100000 in
set_option maxHeartbeats 4000000 in
theorem tX7_scatter {G : gGG} {F : State → Heap → Prop} (hG : gOK G) (hF : gSb G F) (hX : gPX G) (hQ : gOQ G) {o : Nat} (ho : gIsSt o = true) (a1 : Int32) (S : gSt) : gCt G F yX7_scatter wsX7_scatter 2 [.ref (gad G o), .int a1] S ((fX7_scatter o a1 S).map (fun x => (none, x))) := g_met (by decide +kernel) rfl (Nat.le_of_ble_eq_true rfl) (tX7_scatter_L hG hF hX hQ ho a1 S)
/-! X7_standAs -/
theorem hiX7_standAs_7 : ∀ w ∈ u_ws RX7 TX7 5, w ∈ wsX7_standAs := fun _ hw => List.mem_cons_of_mem _ (List.mem_append_right _ (hw))
set_option maxRecDepth 100000 in
set_option maxHeartbeats 4000000 in
theorem tX7_standAs_L2 {G : gGG} {F : State → Heap → Prop} (hG : gOK G) (hF : gSb G F) (hX : gPX G) (hQ : gOQ G) {o : Nat} (ho : gIsSt o = true) : ∀ (n : Nat) (x1 : Int32) (x2 : Int32) (S : gSt), Gof G F RX7 cX7_standAs 3 wsX7_standAs none (gRm 2) 0 0 (gQ G (fun x => (none, x))) 2 [(0, .ref (gad G o)), (1, .int x1), (2, .int x2)] [] S (fX7_standAs_L2 o n x1 x2 S) := by
  intro n
  induction n with
  | zero => intro x1 x2 S; exact g_none
  | succ n ih =>
    intro x1 x2 S
    unfold fX7_standAs_L2
    refine g_iload_n 2 dX7_standAs_2 rfl ?_
    refine g_aload_n 0 dX7_standAs_3 rfl ?_
    refine g_getI (ci := 7) (k0 := 3) (C0 := RX7) (T := TX7) (N := 5) (gSt_m hX ho) (gSt_l ho) rfl hiX7_standAs_7 (by decide) (List.mem_of_getElem? (i := 1) rfl) rfl dX7_standAs_4 ?_
    refine g_icmp_ge (tgt := 27) dX7_standAs_7 (by decide) (fun h_1 => ?_) (fun h_1 => ?_)
    · refine g_aload_n 0 dX7_standAs_27 rfl ?_
      refine g_cVv (ci := 7) (C0 := RX7) (T := TX7) (N := 5) (n := 0) (As := []) (rest := []) hF (tX7_settle hG hF hX hQ ho S) gX7_standAs_X7_settle rfl (gSt_m hX ho) (gSt_l ho) rfl ⟨rfl, by decide +kernel, by decide +kernel, by decide +kernel⟩ rfl (gRm_ok (by decide) (by decide)) rfl (Nat.le_of_ble_eq_true rfl) dX7_standAs_28 (fun S_1 => ?_)
      exact g_vret dX7_standAs_31 rfl
    · refine g_aload_n 0 dX7_standAs_10 rfl ?_
      refine g_getQ (ci := 7) (k0 := 2) (C0 := RX7) (T := TX7) (N := 5) (gSt_m hX ho) (gSt_l ho) rfl hiX7_standAs_7 (by decide) (List.mem_of_getElem? (i := 2) rfl) rfl dX7_standAs_11 ?_
      refine g_iload_n 2 dX7_standAs_14 rfl ?_
      refine g_iload_n 1 dX7_standAs_15 rfl ?_
      refine g_iload_n 2 dX7_standAs_16 rfl ?_
      refine g_cSp (n := 2) (As := [.int x1, .int x2]) (rest := [.int x2, .ref (gad G (o + 3))]) hF (tX7_partyIn hG hF hX hQ x1 x2 S) gX7_standAs_X7_partyIn rfl ⟨by decide +kernel, by decide +kernel, by decide +kernel⟩ rfl (gRm_ok (by decide) (by decide)) rfl (Nat.le_of_ble_eq_true rfl) dX7_standAs_17 (fun v_2 => ?_)
      refine g_iast hG (gSt_m3 hX ho) (gSt_l3 ho) dX7_standAs_20 ?_
      refine g_nS (fun S_3 => ?_)
      refine g_iinc 2 (v := (x2 + 1)) (env' := [(2, .int (x2 + 1)), (0, .ref (gad G o)), (1, .int x1)]) dX7_standAs_21 rfl rfl (by decide) rfl ?_
      refine g_goto (tgt := 2) dX7_standAs_24 (by decide) ?_
      refine g_env (env' := [(0, .ref (gad G o)), (1, .int x1), (2, .int (x2 + 1))]) [1, 2, 0] rfl ?_
      exact ih x1 (x2 + 1) S_3
set_option maxRecDepth 100000 in
set_option maxHeartbeats 4000000 in
theorem tX7_standAs_L {G : gGG} {F : State → Heap → Prop} (hG : gOK G) (hF : gSb G F) (hX : gPX G) (hQ : gOQ G) {o : Nat} (ho : gIsSt o = true) (a1 : Int32) (S : gSt) : Gof G F RX7 cX7_standAs 3 wsX7_standAs none (gRm 2) 0 0 (gQ G (fun x => (none, x))) 0 [(0, .ref (gad G o)), (1, .int a1)] [] S (fX7_standAs o a1 S) := by
  unfold fX7_standAs
  refine g_iconst (v := 0) dX7_standAs_0 (by decide) ?_
  refine g_istore_n (i := 2) (env' := [(2, .int 0), (0, .ref (gad G o)), (1, .int a1)]) dX7_standAs_1 rfl (by decide) rfl ?_
  refine g_env (env' := [(0, .ref (gad G o)), (1, .int a1), (2, .int 0)]) [1, 2, 0] rfl ?_
  exact tX7_standAs_L2 hG hF hX hQ ho gFU a1 0 S
set_option maxRecDepth 100000 in
set_option maxHeartbeats 4000000 in
theorem tX7_standAs {G : gGG} {F : State → Heap → Prop} (hG : gOK G) (hF : gSb G F) (hX : gPX G) (hQ : gOQ G) {o : Nat} (ho : gIsSt o = true) (a1 : Int32) (S : gSt) : gCt G F yX7_standAs wsX7_standAs 2 [.ref (gad G o), .int a1] S ((fX7_standAs o a1 S).map (fun x => (none, x))) := g_met (by decide +kernel) rfl (Nat.le_of_ble_eq_true rfl) (tX7_standAs_L hG hF hX hQ ho a1 S)
/-! X7_standLike -/
theorem hiX7_standLike_7 : ∀ w ∈ u_ws RX7 TX7 5, w ∈ wsX7_standLike := fun _ hw => List.mem_cons_of_mem _ (List.mem_append_right _ (hw))
set_option maxRecDepth 100000 in
set_option maxHeartbeats 4000000 in
theorem tX7_standLike_L {G : gGG} {F : State → Heap → Prop} (hG : gOK G) (hF : gSb G F) (hX : gPX G) (hQ : gOQ G) {o : Nat} (ho : gIsSt o = true) {a1 : Nat} (h1 : gIsSt a1 = true) (S : gSt) : Gof G F RX7 cX7_standLike 2 wsX7_standLike none (gRm 3) 0 0 (gQ G (fun x => (none, x))) 0 [(0, .ref (gad G o)), (1, .ref (gad G a1))] [] S (fX7_standLike o a1 S) := by
  unfold fX7_standLike
  refine g_aload_n 0 dX7_standLike_0 rfl ?_
  refine g_aload_n 1 dX7_standLike_1 rfl ?_
  refine g_cVp (ci := 7) (C0 := RX7) (T := TX7) (N := 5) (n := 0) (As := []) (rest := [.ref (gad G o)]) hF (tX7_guests hG hF hX hQ h1 S) gX7_standLike_X7_guests rfl (gSt_m hX h1) (gSt_l h1) rfl ⟨rfl, by decide +kernel, by decide +kernel, by decide +kernel⟩ rfl (gRm_ok (by decide) (by decide)) rfl (Nat.le_of_ble_eq_true rfl) dX7_standLike_2 (fun v_1 => ?_)
  refine g_putI hG (ci := 7) (k0 := 3) (C0 := RX7) (T := TX7) (N := 5) (gSt_m hX ho) (gSt_l ho) rfl hiX7_standLike_7 (by decide) (List.mem_of_getElem? (i := 1) rfl) tyX7 tyX7_ok nmX7 rfl rfl rfl rfl dX7_standLike_5 ?_
  refine g_nS (fun S_2 => ?_)
  refine g_aload_n 0 dX7_standLike_8 rfl ?_
  refine g_aload_n 1 dX7_standLike_9 rfl ?_
  refine g_cVp (ci := 7) (C0 := RX7) (T := TX7) (N := 5) (n := 0) (As := []) (rest := [.ref (gad G o)]) hF (tX7_code hG hF hX hQ h1 S_2) gX7_standLike_X7_code rfl (gSt_m hX h1) (gSt_l h1) rfl ⟨rfl, by decide +kernel, by decide +kernel, by decide +kernel⟩ rfl (gRm_ok (by decide) (by decide)) rfl (Nat.le_of_ble_eq_true rfl) dX7_standLike_10 (fun v_3 => ?_)
  refine g_cVv (ci := 7) (C0 := RX7) (T := TX7) (N := 5) (n := 1) (As := [.int v_3]) (rest := []) hF (tX7_standAs hG hF hX hQ ho v_3 S_2) gX7_standLike_X7_standAs rfl (gSt_m hX ho) (gSt_l ho) rfl ⟨rfl, by decide +kernel, by decide +kernel, by decide +kernel⟩ rfl (gRm_ok (by decide) (by decide)) rfl (Nat.le_of_ble_eq_true rfl) dX7_standLike_13 (fun S_4 => ?_)
  exact g_vret dX7_standLike_16 rfl
set_option maxRecDepth 100000 in
set_option maxHeartbeats 4000000 in
theorem tX7_standLike {G : gGG} {F : State → Heap → Prop} (hG : gOK G) (hF : gSb G F) (hX : gPX G) (hQ : gOQ G) {o : Nat} (ho : gIsSt o = true) {a1 : Nat} (h1 : gIsSt a1 = true) (S : gSt) : gCt G F yX7_standLike wsX7_standLike 3 [.ref (gad G o), .ref (gad G a1)] S ((fX7_standLike o a1 S).map (fun x => (none, x))) := g_met (by decide +kernel) rfl (Nat.le_of_ble_eq_true rfl) (tX7_standLike_L hG hF hX hQ ho h1 S)
/-! X7_relabel -/
theorem hiX7_relabel_7 : ∀ w ∈ u_ws RX7 TX7 5, w ∈ wsX7_relabel := fun _ hw => List.mem_cons_of_mem _ (List.mem_append_right _ (hw))
set_option maxRecDepth 100000 in
set_option maxHeartbeats 4000000 in
theorem tX7_relabel_L2 {G : gGG} {F : State → Heap → Prop} (hG : gOK G) (hF : gSb G F) (hX : gPX G) (hQ : gOQ G) {o : Nat} (ho : gIsSt o = true) : ∀ (n : Nat) (x1 : Int32) (S : gSt), Gof G F RX7 cX7_relabel 2 wsX7_relabel none (gRm 0) 0 0 (gQ G (fun x => (none, x))) 2 [(0, .ref (gad G o)), (1, .int x1)] [] S (fX7_relabel_L2 o n x1 S) := by
  intro n
  induction n with
  | zero => intro x1 S; exact g_none
  | succ n ih =>
    intro x1 S
    unfold fX7_relabel_L2
    refine g_iload_n 1 dX7_relabel_2 rfl ?_
    refine g_aload_n 0 dX7_relabel_3 rfl ?_
    refine g_getI (ci := 7) (k0 := 3) (C0 := RX7) (T := TX7) (N := 5) (gSt_m hX ho) (gSt_l ho) rfl hiX7_relabel_7 (by decide) (List.mem_of_getElem? (i := 1) rfl) rfl dX7_relabel_4 ?_
    refine g_icmp_ge (tgt := 28) dX7_relabel_7 (by decide) (fun h_1 => ?_) (fun h_1 => ?_)
    · exact g_vret dX7_relabel_28 rfl
    · refine g_aload_n 0 dX7_relabel_10 rfl ?_
      refine g_getQ (ci := 7) (k0 := 2) (C0 := RX7) (T := TX7) (N := 5) (gSt_m hX ho) (gSt_l ho) rfl hiX7_relabel_7 (by decide) (List.mem_of_getElem? (i := 2) rfl) rfl dX7_relabel_11 ?_
      refine g_iload_n 1 dX7_relabel_14 rfl ?_
      refine g_aload_n 0 dX7_relabel_15 rfl ?_
      refine g_getQ (ci := 7) (k0 := 0) (C0 := RX7) (T := TX7) (N := 5) (gSt_m hX ho) (gSt_l ho) rfl hiX7_relabel_7 (by decide) (List.mem_of_getElem? (i := 3) rfl) rfl dX7_relabel_16 ?_
      refine g_iload_n 1 dX7_relabel_19 rfl ?_
      refine g_iald hG (gSt_m1 hX ho) (gSt_l1 ho) dX7_relabel_20 ?_
      refine g_iast hG (gSt_m3 hX ho) (gSt_l3 ho) dX7_relabel_21 ?_
      refine g_nS (fun S_1 => ?_)
      refine g_iinc 1 (v := (x1 + 1)) (env' := [(1, .int (x1 + 1)), (0, .ref (gad G o))]) dX7_relabel_22 rfl rfl (by decide) rfl ?_
      refine g_goto (tgt := 2) dX7_relabel_25 (by decide) ?_
      refine g_env (env' := [(0, .ref (gad G o)), (1, .int (x1 + 1))]) [1, 0] rfl ?_
      exact ih (x1 + 1) S_1
set_option maxRecDepth 100000 in
set_option maxHeartbeats 4000000 in
theorem tX7_relabel_L {G : gGG} {F : State → Heap → Prop} (hG : gOK G) (hF : gSb G F) (hX : gPX G) (hQ : gOQ G) {o : Nat} (ho : gIsSt o = true) (S : gSt) : Gof G F RX7 cX7_relabel 2 wsX7_relabel none (gRm 0) 0 0 (gQ G (fun x => (none, x))) 0 [(0, .ref (gad G o))] [] S (fX7_relabel o S) := by
  unfold fX7_relabel
  refine g_iconst (v := 0) dX7_relabel_0 (by decide) ?_
  refine g_istore_n (i := 1) (env' := [(1, .int 0), (0, .ref (gad G o))]) dX7_relabel_1 rfl (by decide) rfl ?_
  refine g_env (env' := [(0, .ref (gad G o)), (1, .int 0)]) [1, 0] rfl ?_
  exact tX7_relabel_L2 hG hF hX hQ ho gFU 0 S
set_option maxRecDepth 100000 in
set_option maxHeartbeats 4000000 in
theorem tX7_relabel {G : gGG} {F : State → Heap → Prop} (hG : gOK G) (hF : gSb G F) (hX : gPX G) (hQ : gOQ G) {o : Nat} (ho : gIsSt o = true) (S : gSt) : gCt G F yX7_relabel wsX7_relabel 0 [.ref (gad G o)] S ((fX7_relabel o S).map (fun x => (none, x))) := g_met (by decide +kernel) rfl (Nat.le_of_ble_eq_true rfl) (tX7_relabel_L hG hF hX hQ ho S)
/-! X7_sendToParty -/
theorem hiX7_sendToParty_7 : ∀ w ∈ u_ws RX7 TX7 5, w ∈ wsX7_sendToParty := fun _ hw => List.mem_cons_of_mem _ (List.mem_append_right _ (hw))
set_option maxRecDepth 100000 in
set_option maxHeartbeats 4000000 in
theorem tX7_sendToParty_L23 {G : gGG} {F : State → Heap → Prop} (hG : gOK G) (hF : gSb G F) (hX : gPX G) (hQ : gOQ G) {o : Nat} (ho : gIsSt o = true)  (S : gSt) : Gof G F RX7 cX7_sendToParty 3 wsX7_sendToParty none (gRm 2) 0 0 (gQ G (fun x => (none, x))) 23 [(0, .ref (gad G o))] [] S (fX7_sendToParty_L23 o S) := by
  unfold fX7_sendToParty_L23
  refine g_aload_n 0 dX7_sendToParty_23 rfl ?_
  refine g_cVv (ci := 7) (C0 := RX7) (T := TX7) (N := 5) (n := 0) (As := []) (rest := []) hF (tX7_settle hG hF hX hQ ho S) gX7_sendToParty_X7_settle rfl (gSt_m hX ho) (gSt_l ho) rfl ⟨rfl, by decide +kernel, by decide +kernel, by decide +kernel⟩ rfl (gRm_ok (by decide) (by decide)) rfl (Nat.le_of_ble_eq_true rfl) dX7_sendToParty_24 (fun S_1 => ?_)
  exact g_vret dX7_sendToParty_27 rfl
set_option maxRecDepth 100000 in
set_option maxHeartbeats 4000000 in
theorem tX7_sendToParty_L {G : gGG} {F : State → Heap → Prop} (hG : gOK G) (hF : gSb G F) (hX : gPX G) (hQ : gOQ G) {o : Nat} (ho : gIsSt o = true) (a1 : Int32) (a2 : Int32) (S : gSt) : Gof G F RX7 cX7_sendToParty 3 wsX7_sendToParty none (gRm 2) 0 0 (gQ G (fun x => (none, x))) 0 [(0, .ref (gad G o)), (1, .int a1), (2, .int a2)] [] S (fX7_sendToParty o a1 a2 S) := by
  unfold fX7_sendToParty
  refine g_aload_n 0 dX7_sendToParty_0 rfl ?_
  refine g_cVv (ci := 7) (C0 := RX7) (T := TX7) (N := 5) (n := 0) (As := []) (rest := []) hF (tX7_relabel hG hF hX hQ ho S) gX7_sendToParty_X7_relabel rfl (gSt_m hX ho) (gSt_l ho) rfl ⟨rfl, by decide +kernel, by decide +kernel, by decide +kernel⟩ rfl (gRm_ok (by decide) (by decide)) rfl (Nat.le_of_ble_eq_true rfl) dX7_sendToParty_1 (fun S_1 => ?_)
  refine g_iload_n 1 dX7_sendToParty_4 rfl ?_
  refine g_if_lt (tgt := 23) dX7_sendToParty_5 (by decide) (fun h_1 => ?_) (fun h_1 => ?_)
  · refine g_env (env' := [(0, .ref (gad G o))]) [0] rfl ?_
    exact tX7_sendToParty_L23 hG hF hX hQ ho S_1
  · refine g_iload_n 1 dX7_sendToParty_8 rfl ?_
    refine g_aload_n 0 dX7_sendToParty_9 rfl ?_
    refine g_getI (ci := 7) (k0 := 3) (C0 := RX7) (T := TX7) (N := 5) (gSt_m hX ho) (gSt_l ho) rfl hiX7_sendToParty_7 (by decide) (List.mem_of_getElem? (i := 1) rfl) rfl dX7_sendToParty_10 ?_
    refine g_icmp_ge (tgt := 23) dX7_sendToParty_13 (by decide) (fun h_2 => ?_) (fun h_2 => ?_)
    · refine g_env (env' := [(0, .ref (gad G o))]) [0] rfl ?_
      exact tX7_sendToParty_L23 hG hF hX hQ ho S_1
    · refine g_aload_n 0 dX7_sendToParty_16 rfl ?_
      refine g_getQ (ci := 7) (k0 := 2) (C0 := RX7) (T := TX7) (N := 5) (gSt_m hX ho) (gSt_l ho) rfl hiX7_sendToParty_7 (by decide) (List.mem_of_getElem? (i := 2) rfl) rfl dX7_sendToParty_17 ?_
      refine g_iload_n 1 dX7_sendToParty_20 rfl ?_
      refine g_iload_n 2 dX7_sendToParty_21 rfl ?_
      refine g_iast hG (gSt_m3 hX ho) (gSt_l3 ho) dX7_sendToParty_22 ?_
      refine g_nS (fun S_2 => ?_)
      refine g_env (env' := [(0, .ref (gad G o))]) [0] rfl ?_
      exact tX7_sendToParty_L23 hG hF hX hQ ho S_2
set_option maxRecDepth 100000 in
set_option maxHeartbeats 4000000 in
theorem tX7_sendToParty {G : gGG} {F : State → Heap → Prop} (hG : gOK G) (hF : gSb G F) (hX : gPX G) (hQ : gOQ G) {o : Nat} (ho : gIsSt o = true) (a1 : Int32) (a2 : Int32) (S : gSt) : gCt G F yX7_sendToParty wsX7_sendToParty 2 [.ref (gad G o), .int a1, .int a2] S ((fX7_sendToParty o a1 a2 S).map (fun x => (none, x))) := g_met (by decide +kernel) rfl (Nat.le_of_ble_eq_true rfl) (tX7_sendToParty_L hG hF hX hQ ho a1 a2 S)
/-! X7_sendTo -/
set_option maxRecDepth 100000 in
set_option maxHeartbeats 4000000 in
theorem tX7_sendTo_L17 {G : gGG} {F : State → Heap → Prop} (hG : gOK G) (hF : gSb G F) (hX : gPX G) (hQ : gOQ G) {o : Nat} (ho : gIsSt o = true) (s1 : Int32) (s2 : Int32) (S : gSt) : Gof G F RX7 cX7_sendTo 3 wsX7_sendTo none (gRm 3) 0 0 (gQ G (fun x => (none, x))) 17 [] [.int s2, .int s1, .ref (gad G o)] S (fX7_sendTo_L17 o s1 s2 S) := by
  unfold fX7_sendTo_L17
  refine g_cVv (ci := 7) (C0 := RX7) (T := TX7) (N := 5) (n := 2) (As := [.int s1, .int s2]) (rest := []) hF (tX7_sendToParty hG hF hX hQ ho s1 s2 S) gX7_sendTo_X7_sendToParty rfl (gSt_m hX ho) (gSt_l ho) rfl ⟨rfl, by decide +kernel, by decide +kernel, by decide +kernel⟩ rfl (gRm_ok (by decide) (by decide)) rfl (Nat.le_of_ble_eq_true rfl) dX7_sendTo_17 (fun S_1 => ?_)
  exact g_vret dX7_sendTo_20 rfl
set_option maxRecDepth 100000 in
set_option maxHeartbeats 4000000 in
theorem tX7_sendTo_L {G : gGG} {F : State → Heap → Prop} (hG : gOK G) (hF : gSb G F) (hX : gPX G) (hQ : gOQ G) {o : Nat} (ho : gIsSt o = true) (a1 : Int32) (a2 : Int32) (S : gSt) : Gof G F RX7 cX7_sendTo 3 wsX7_sendTo none (gRm 3) 0 0 (gQ G (fun x => (none, x))) 0 [(0, .ref (gad G o)), (1, .int a1), (2, .int a2)] [] S (fX7_sendTo o a1 a2 S) := by
  unfold fX7_sendTo
  refine g_aload_n 0 dX7_sendTo_0 rfl ?_
  refine g_iload_n 1 dX7_sendTo_1 rfl ?_
  refine g_iload_n 1 dX7_sendTo_2 rfl ?_
  refine g_iload_n 2 dX7_sendTo_3 rfl ?_
  refine g_icmp_ne (tgt := 12) dX7_sendTo_4 (by decide) (fun h_1 => ?_) (fun h_1 => ?_)
  · refine g_aload_n 0 dX7_sendTo_12 rfl ?_
    refine g_iload_n 2 dX7_sendTo_13 rfl ?_
    refine g_cVp (ci := 7) (C0 := RX7) (T := TX7) (N := 5) (n := 1) (As := [.int a2]) (rest := [.int a1, .ref (gad G o)]) hF (tX7_partyOf hG hF hX hQ ho a2 S) gX7_sendTo_X7_partyOf rfl (gSt_m hX ho) (gSt_l ho) rfl ⟨rfl, by decide +kernel, by decide +kernel, by decide +kernel⟩ rfl (gRm_ok (by decide) (by decide)) rfl (Nat.le_of_ble_eq_true rfl) dX7_sendTo_14 (fun v_1 => ?_)
    refine g_env (env' := []) [] rfl ?_
    exact tX7_sendTo_L17 hG hF hX hQ ho a1 v_1 S
  · refine g_bipush (v := 8) dX7_sendTo_7 (by decide) ?_
    refine g_goto (tgt := 17) dX7_sendTo_9 (by decide) ?_
    refine g_env (env' := []) [] rfl ?_
    exact tX7_sendTo_L17 hG hF hX hQ ho a1 8 S
set_option maxRecDepth 100000 in
set_option maxHeartbeats 4000000 in
theorem tX7_sendTo {G : gGG} {F : State → Heap → Prop} (hG : gOK G) (hF : gSb G F) (hX : gPX G) (hQ : gOQ G) {o : Nat} (ho : gIsSt o = true) (a1 : Int32) (a2 : Int32) (S : gSt) : gCt G F yX7_sendTo wsX7_sendTo 3 [.ref (gad G o), .int a1, .int a2] S ((fX7_sendTo o a1 a2 S).map (fun x => (none, x))) := g_met (by decide +kernel) rfl (Nat.le_of_ble_eq_true rfl) (tX7_sendTo_L hG hF hX hQ ho a1 a2 S)
/-! X7_sendAlone -/
set_option maxRecDepth 100000 in
set_option maxHeartbeats 4000000 in
theorem tX7_sendAlone_L {G : gGG} {F : State → Heap → Prop} (hG : gOK G) (hF : gSb G F) (hX : gPX G) (hQ : gOQ G) {o : Nat} (ho : gIsSt o = true) (a1 : Int32) (S : gSt) : Gof G F RX7 cX7_sendAlone 2 wsX7_sendAlone none (gRm 3) 0 0 (gQ G (fun x => (none, x))) 0 [(0, .ref (gad G o)), (1, .int a1)] [] S (fX7_sendAlone o a1 S) := by
  unfold fX7_sendAlone
  refine g_aload_n 0 dX7_sendAlone_0 rfl ?_
  refine g_iload_n 1 dX7_sendAlone_1 rfl ?_
  refine g_bipush (v := 8) dX7_sendAlone_2 (by decide) ?_
  refine g_cVv (ci := 7) (C0 := RX7) (T := TX7) (N := 5) (n := 2) (As := [.int a1, .int 8]) (rest := []) hF (tX7_sendToParty hG hF hX hQ ho a1 8 S) gX7_sendAlone_X7_sendToParty rfl (gSt_m hX ho) (gSt_l ho) rfl ⟨rfl, by decide +kernel, by decide +kernel, by decide +kernel⟩ rfl (gRm_ok (by decide) (by decide)) rfl (Nat.le_of_ble_eq_true rfl) dX7_sendAlone_4 (fun S_1 => ?_)
  exact g_vret dX7_sendAlone_7 rfl
set_option maxRecDepth 100000 in
set_option maxHeartbeats 4000000 in
theorem tX7_sendAlone {G : gGG} {F : State → Heap → Prop} (hG : gOK G) (hF : gSb G F) (hX : gPX G) (hQ : gOQ G) {o : Nat} (ho : gIsSt o = true) (a1 : Int32) (S : gSt) : gCt G F yX7_sendAlone wsX7_sendAlone 3 [.ref (gad G o), .int a1] S ((fX7_sendAlone o a1 S).map (fun x => (none, x))) := g_met (by decide +kernel) rfl (Nat.le_of_ble_eq_true rfl) (tX7_sendAlone_L hG hF hX hQ ho a1 S)
/-! X7_merge -/
theorem hiX7_merge_7 : ∀ w ∈ u_ws RX7 TX7 5, w ∈ wsX7_merge := fun _ hw => List.mem_cons_of_mem _ (List.mem_append_right _ (hw))
set_option maxRecDepth 100000 in
set_option maxHeartbeats 4000000 in
theorem tX7_merge_L2 {G : gGG} {F : State → Heap → Prop} (hG : gOK G) (hF : gSb G F) (hX : gPX G) (hQ : gOQ G) {o : Nat} (ho : gIsSt o = true) : ∀ (n : Nat) (x1 : Int32) (x2 : Int32) (x3 : Int32) (S : gSt), Gof G F RX7 cX7_merge 4 wsX7_merge none (gRm 2) 0 0 (gQ G (fun x => (none, x))) 2 [(0, .ref (gad G o)), (1, .int x1), (2, .int x2), (3, .int x3)] [] S (fX7_merge_L2 o n x1 x2 x3 S) := by
  intro n
  induction n with
  | zero => intro x1 x2 x3 S; exact g_none
  | succ n ih =>
    intro x1 x2 x3 S
    unfold fX7_merge_L2
    refine g_iload_n 3 dX7_merge_2 rfl ?_
    refine g_aload_n 0 dX7_merge_3 rfl ?_
    refine g_getI (ci := 7) (k0 := 3) (C0 := RX7) (T := TX7) (N := 5) (gSt_m hX ho) (gSt_l ho) rfl hiX7_merge_7 (by decide) (List.mem_of_getElem? (i := 1) rfl) rfl dX7_merge_4 ?_
    refine g_icmp_ge (tgt := 42) dX7_merge_7 (by decide) (fun h_1 => ?_) (fun h_1 => ?_)
    · refine g_aload_n 0 dX7_merge_42 rfl ?_
      refine g_cVv (ci := 7) (C0 := RX7) (T := TX7) (N := 5) (n := 0) (As := []) (rest := []) hF (tX7_settle hG hF hX hQ ho S) gX7_merge_X7_settle rfl (gSt_m hX ho) (gSt_l ho) rfl ⟨rfl, by decide +kernel, by decide +kernel, by decide +kernel⟩ rfl (gRm_ok (by decide) (by decide)) rfl (Nat.le_of_ble_eq_true rfl) dX7_merge_43 (fun S_1 => ?_)
      exact g_vret dX7_merge_46 rfl
    · refine g_aload_n 0 dX7_merge_10 rfl ?_
      refine g_getQ (ci := 7) (k0 := 2) (C0 := RX7) (T := TX7) (N := 5) (gSt_m hX ho) (gSt_l ho) rfl hiX7_merge_7 (by decide) (List.mem_of_getElem? (i := 2) rfl) rfl dX7_merge_11 ?_
      refine g_iload_n 3 dX7_merge_14 rfl ?_
      refine g_aload_n 0 dX7_merge_15 rfl ?_
      refine g_getQ (ci := 7) (k0 := 0) (C0 := RX7) (T := TX7) (N := 5) (gSt_m hX ho) (gSt_l ho) rfl hiX7_merge_7 (by decide) (List.mem_of_getElem? (i := 3) rfl) rfl dX7_merge_16 ?_
      refine g_iload_n 3 dX7_merge_19 rfl ?_
      refine g_iald hG (gSt_m1 hX ho) (gSt_l1 ho) dX7_merge_20 ?_
      refine g_iload_n 2 dX7_merge_21 rfl ?_
      refine g_icmp_ne (tgt := 29) dX7_merge_22 (by decide) (fun h_2 => ?_) (fun h_2 => ?_)
      · refine g_aload_n 0 dX7_merge_29 rfl ?_
        refine g_getQ (ci := 7) (k0 := 0) (C0 := RX7) (T := TX7) (N := 5) (gSt_m hX ho) (gSt_l ho) rfl hiX7_merge_7 (by decide) (List.mem_of_getElem? (i := 3) rfl) rfl dX7_merge_30 ?_
        refine g_iload_n 3 dX7_merge_33 rfl ?_
        refine g_iald hG (gSt_m1 hX ho) (gSt_l1 ho) dX7_merge_34 ?_
        refine g_iast hG (gSt_m3 hX ho) (gSt_l3 ho) dX7_merge_35 ?_
        refine g_nS (fun S_2 => ?_)
        refine g_iinc 3 (v := (x3 + 1)) (env' := [(3, .int (x3 + 1)), (0, .ref (gad G o)), (1, .int x1), (2, .int x2)]) dX7_merge_36 rfl rfl (by decide) rfl ?_
        refine g_goto (tgt := 2) dX7_merge_39 (by decide) ?_
        refine g_env (env' := [(0, .ref (gad G o)), (1, .int x1), (2, .int x2), (3, .int (x3 + 1))]) [1, 2, 3, 0] rfl ?_
        exact ih x1 x2 (x3 + 1) S_2
      · refine g_iload_n 1 dX7_merge_25 rfl ?_
        refine g_goto (tgt := 35) dX7_merge_26 (by decide) ?_
        refine g_iast hG (gSt_m3 hX ho) (gSt_l3 ho) dX7_merge_35 ?_
        refine g_nS (fun S_3 => ?_)
        refine g_iinc 3 (v := (x3 + 1)) (env' := [(3, .int (x3 + 1)), (0, .ref (gad G o)), (1, .int x1), (2, .int x2)]) dX7_merge_36 rfl rfl (by decide) rfl ?_
        refine g_goto (tgt := 2) dX7_merge_39 (by decide) ?_
        refine g_env (env' := [(0, .ref (gad G o)), (1, .int x1), (2, .int x2), (3, .int (x3 + 1))]) [1, 2, 3, 0] rfl ?_
        exact ih x1 x2 (x3 + 1) S_3
set_option maxRecDepth 100000 in
set_option maxHeartbeats 4000000 in
theorem tX7_merge_L {G : gGG} {F : State → Heap → Prop} (hG : gOK G) (hF : gSb G F) (hX : gPX G) (hQ : gOQ G) {o : Nat} (ho : gIsSt o = true) (a1 : Int32) (a2 : Int32) (S : gSt) : Gof G F RX7 cX7_merge 4 wsX7_merge none (gRm 2) 0 0 (gQ G (fun x => (none, x))) 0 [(0, .ref (gad G o)), (1, .int a1), (2, .int a2)] [] S (fX7_merge o a1 a2 S) := by
  unfold fX7_merge
  refine g_iconst (v := 0) dX7_merge_0 (by decide) ?_
  refine g_istore_n (i := 3) (env' := [(3, .int 0), (0, .ref (gad G o)), (1, .int a1), (2, .int a2)]) dX7_merge_1 rfl (by decide) rfl ?_
  refine g_env (env' := [(0, .ref (gad G o)), (1, .int a1), (2, .int a2), (3, .int 0)]) [1, 2, 3, 0] rfl ?_
  exact tX7_merge_L2 hG hF hX hQ ho gFU a1 a2 0 S
set_option maxRecDepth 100000 in
set_option maxHeartbeats 4000000 in
theorem tX7_merge {G : gGG} {F : State → Heap → Prop} (hG : gOK G) (hF : gSb G F) (hX : gPX G) (hQ : gOQ G) {o : Nat} (ho : gIsSt o = true) (a1 : Int32) (a2 : Int32) (S : gSt) : gCt G F yX7_merge wsX7_merge 2 [.ref (gad G o), .int a1, .int a2] S ((fX7_merge o a1 a2 S).map (fun x => (none, x))) := g_met (by decide +kernel) rfl (Nat.le_of_ble_eq_true rfl) (tX7_merge_L hG hF hX hQ ho a1 a2 S)
/-! X7_splitOff -/
theorem hiX7_splitOff_7 : ∀ w ∈ u_ws RX7 TX7 5, w ∈ wsX7_splitOff := fun _ hw => List.mem_cons_of_mem _ (List.mem_append_right _ (hw))
set_option maxRecDepth 100000 in
set_option maxHeartbeats 4000000 in
theorem tX7_splitOff_L2 {G : gGG} {F : State → Heap → Prop} (hG : gOK G) (hF : gSb G F) (hX : gPX G) (hQ : gOQ G) {o : Nat} (ho : gIsSt o = true) : ∀ (n : Nat) (x1 : Int32) (x2 : Int32) (S : gSt), Gof G F RX7 cX7_splitOff 3 wsX7_splitOff none (gRm 2) 0 0 (gQ G (fun x => (none, x))) 2 [(0, .ref (gad G o)), (1, .int x1), (2, .int x2)] [] S (fX7_splitOff_L2 o n x1 x2 S) := by
  intro n
  induction n with
  | zero => intro x1 x2 S; exact g_none
  | succ n ih =>
    intro x1 x2 S
    unfold fX7_splitOff_L2
    refine g_iload_n 2 dX7_splitOff_2 rfl ?_
    refine g_aload_n 0 dX7_splitOff_3 rfl ?_
    refine g_getI (ci := 7) (k0 := 3) (C0 := RX7) (T := TX7) (N := 5) (gSt_m hX ho) (gSt_l ho) rfl hiX7_splitOff_7 (by decide) (List.mem_of_getElem? (i := 1) rfl) rfl dX7_splitOff_4 ?_
    refine g_icmp_ge (tgt := 41) dX7_splitOff_7 (by decide) (fun h_1 => ?_) (fun h_1 => ?_)
    · refine g_aload_n 0 dX7_splitOff_41 rfl ?_
      refine g_cVv (ci := 7) (C0 := RX7) (T := TX7) (N := 5) (n := 0) (As := []) (rest := []) hF (tX7_settle hG hF hX hQ ho S) gX7_splitOff_X7_settle rfl (gSt_m hX ho) (gSt_l ho) rfl ⟨rfl, by decide +kernel, by decide +kernel, by decide +kernel⟩ rfl (gRm_ok (by decide) (by decide)) rfl (Nat.le_of_ble_eq_true rfl) dX7_splitOff_42 (fun S_1 => ?_)
      exact g_vret dX7_splitOff_45 rfl
    · refine g_aload_n 0 dX7_splitOff_10 rfl ?_
      refine g_getQ (ci := 7) (k0 := 2) (C0 := RX7) (T := TX7) (N := 5) (gSt_m hX ho) (gSt_l ho) rfl hiX7_splitOff_7 (by decide) (List.mem_of_getElem? (i := 2) rfl) rfl dX7_splitOff_11 ?_
      refine g_iload_n 2 dX7_splitOff_14 rfl ?_
      refine g_iload_n 1 dX7_splitOff_15 rfl ?_
      refine g_iconst (v := 1) dX7_splitOff_16 (by decide) ?_
      refine g_iload_n 2 dX7_splitOff_17 rfl ?_
      refine g_ishl dX7_splitOff_18 ?_
      refine g_iand dX7_splitOff_19 ?_
      refine g_if_eq (tgt := 28) dX7_splitOff_20 (by decide) (fun h_2 => ?_) (fun h_2 => ?_)
      · refine g_aload_n 0 dX7_splitOff_28 rfl ?_
        refine g_getQ (ci := 7) (k0 := 0) (C0 := RX7) (T := TX7) (N := 5) (gSt_m hX ho) (gSt_l ho) rfl hiX7_splitOff_7 (by decide) (List.mem_of_getElem? (i := 3) rfl) rfl dX7_splitOff_29 ?_
        refine g_iload_n 2 dX7_splitOff_32 rfl ?_
        refine g_iald hG (gSt_m1 hX ho) (gSt_l1 ho) dX7_splitOff_33 ?_
        refine g_iast hG (gSt_m3 hX ho) (gSt_l3 ho) dX7_splitOff_34 ?_
        refine g_nS (fun S_2 => ?_)
        refine g_iinc 2 (v := (x2 + 1)) (env' := [(2, .int (x2 + 1)), (0, .ref (gad G o)), (1, .int x1)]) dX7_splitOff_35 rfl rfl (by decide) rfl ?_
        refine g_goto (tgt := 2) dX7_splitOff_38 (by decide) ?_
        refine g_env (env' := [(0, .ref (gad G o)), (1, .int x1), (2, .int (x2 + 1))]) [1, 2, 0] rfl ?_
        exact ih x1 (x2 + 1) S_2
      · refine g_bipush (v := 8) dX7_splitOff_23 (by decide) ?_
        refine g_goto (tgt := 34) dX7_splitOff_25 (by decide) ?_
        refine g_iast hG (gSt_m3 hX ho) (gSt_l3 ho) dX7_splitOff_34 ?_
        refine g_nS (fun S_3 => ?_)
        refine g_iinc 2 (v := (x2 + 1)) (env' := [(2, .int (x2 + 1)), (0, .ref (gad G o)), (1, .int x1)]) dX7_splitOff_35 rfl rfl (by decide) rfl ?_
        refine g_goto (tgt := 2) dX7_splitOff_38 (by decide) ?_
        refine g_env (env' := [(0, .ref (gad G o)), (1, .int x1), (2, .int (x2 + 1))]) [1, 2, 0] rfl ?_
        exact ih x1 (x2 + 1) S_3
set_option maxRecDepth 100000 in
set_option maxHeartbeats 4000000 in
theorem tX7_splitOff_L {G : gGG} {F : State → Heap → Prop} (hG : gOK G) (hF : gSb G F) (hX : gPX G) (hQ : gOQ G) {o : Nat} (ho : gIsSt o = true) (a1 : Int32) (S : gSt) : Gof G F RX7 cX7_splitOff 3 wsX7_splitOff none (gRm 2) 0 0 (gQ G (fun x => (none, x))) 0 [(0, .ref (gad G o)), (1, .int a1)] [] S (fX7_splitOff o a1 S) := by
  unfold fX7_splitOff
  refine g_iconst (v := 0) dX7_splitOff_0 (by decide) ?_
  refine g_istore_n (i := 2) (env' := [(2, .int 0), (0, .ref (gad G o)), (1, .int a1)]) dX7_splitOff_1 rfl (by decide) rfl ?_
  refine g_env (env' := [(0, .ref (gad G o)), (1, .int a1), (2, .int 0)]) [1, 2, 0] rfl ?_
  exact tX7_splitOff_L2 hG hF hX hQ ho gFU a1 0 S
set_option maxRecDepth 100000 in
set_option maxHeartbeats 4000000 in
theorem tX7_splitOff {G : gGG} {F : State → Heap → Prop} (hG : gOK G) (hF : gSb G F) (hX : gPX G) (hQ : gOQ G) {o : Nat} (ho : gIsSt o = true) (a1 : Int32) (S : gSt) : gCt G F yX7_splitOff wsX7_splitOff 2 [.ref (gad G o), .int a1] S ((fX7_splitOff o a1 S).map (fun x => (none, x))) := g_met (by decide +kernel) rfl (Nat.le_of_ble_eq_true rfl) (tX7_splitOff_L hG hF hX hQ ho a1 S)
/-! X7_meet -/
theorem hiX7_meet_7 : ∀ w ∈ u_ws RX7 TX7 5, w ∈ wsX7_meet := fun _ hw => List.mem_cons_of_mem _ (List.mem_append_right _ (hw))
set_option maxRecDepth 100000 in
set_option maxHeartbeats 4000000 in
theorem tX7_meet_L10 {G : gGG} {F : State → Heap → Prop} (hG : gOK G) (hF : gSb G F) (hX : gPX G) (hQ : gOQ G) {o : Nat} (ho : gIsSt o = true) {a1 : Nat} (h1 : gIsSt a1 = true) {a2 : Nat} (h2 : gIsSt a2 = true) : ∀ (n : Nat) (x3 : Int32) (S : gSt), Gof G F RX7 cX7_meet 4 wsX7_meet none (gRm 2) 0 0 (gQ G (fun x => (none, x))) 10 [(0, .ref (gad G o)), (1, .ref (gad G a1)), (2, .ref (gad G a2)), (3, .int x3)] [] S (fX7_meet_L10 o a1 a2 n x3 S) := by
  intro n
  induction n with
  | zero => intro x3 S; exact g_none
  | succ n ih =>
    intro x3 S
    unfold fX7_meet_L10
    refine g_iload_n 3 dX7_meet_10 rfl ?_
    refine g_aload_n 0 dX7_meet_11 rfl ?_
    refine g_getI (ci := 7) (k0 := 3) (C0 := RX7) (T := TX7) (N := 5) (gSt_m hX ho) (gSt_l ho) rfl hiX7_meet_7 (by decide) (List.mem_of_getElem? (i := 1) rfl) rfl dX7_meet_12 ?_
    refine g_icmp_ge (tgt := 44) dX7_meet_15 (by decide) (fun h_1 => ?_) (fun h_1 => ?_)
    · refine g_aload_n 0 dX7_meet_44 rfl ?_
      refine g_cVv (ci := 7) (C0 := RX7) (T := TX7) (N := 5) (n := 0) (As := []) (rest := []) hF (tX7_settle hG hF hX hQ ho S) gX7_meet_X7_settle rfl (gSt_m hX ho) (gSt_l ho) rfl ⟨rfl, by decide +kernel, by decide +kernel, by decide +kernel⟩ rfl (gRm_ok (by decide) (by decide)) rfl (Nat.le_of_ble_eq_true rfl) dX7_meet_45 (fun S_1 => ?_)
      exact g_vret dX7_meet_48 rfl
    · refine g_aload_n 0 dX7_meet_18 rfl ?_
      refine g_getQ (ci := 7) (k0 := 2) (C0 := RX7) (T := TX7) (N := 5) (gSt_m hX ho) (gSt_l ho) rfl hiX7_meet_7 (by decide) (List.mem_of_getElem? (i := 2) rfl) rfl dX7_meet_19 ?_
      refine g_iload_n 3 dX7_meet_22 rfl ?_
      refine g_aload_n 1 dX7_meet_23 rfl ?_
      refine g_iload_n 3 dX7_meet_24 rfl ?_
      refine g_cVp (ci := 7) (C0 := RX7) (T := TX7) (N := 5) (n := 1) (As := [.int x3]) (rest := [.int x3, .ref (gad G (o + 3))]) hF (tX7_partyOf hG hF hX hQ h1 x3 S) gX7_meet_X7_partyOf rfl (gSt_m hX h1) (gSt_l h1) rfl ⟨rfl, by decide +kernel, by decide +kernel, by decide +kernel⟩ rfl (gRm_ok (by decide) (by decide)) rfl (Nat.le_of_ble_eq_true rfl) dX7_meet_25 (fun v_2 => ?_)
      refine g_bipush (v := 8) dX7_meet_28 (by decide) ?_
      refine g_imul dX7_meet_30 ?_
      refine g_aload_n 2 dX7_meet_31 rfl ?_
      refine g_iload_n 3 dX7_meet_32 rfl ?_
      refine g_cVp (ci := 7) (C0 := RX7) (T := TX7) (N := 5) (n := 1) (As := [.int x3]) (rest := [.int (v_2 * 8), .int x3, .ref (gad G (o + 3))]) hF (tX7_partyOf hG hF hX hQ h2 x3 S) gX7_meet_X7_partyOf rfl (gSt_m hX h2) (gSt_l h2) rfl ⟨rfl, by decide +kernel, by decide +kernel, by decide +kernel⟩ rfl (gRm_ok (by decide) (by decide)) rfl (Nat.le_of_ble_eq_true rfl) dX7_meet_33 (fun v_3 => ?_)
      refine g_iadd dX7_meet_36 ?_
      refine g_iast hG (gSt_m3 hX ho) (gSt_l3 ho) dX7_meet_37 ?_
      refine g_nS (fun S_4 => ?_)
      refine g_iinc 3 (v := (x3 + 1)) (env' := [(3, .int (x3 + 1)), (0, .ref (gad G o)), (1, .ref (gad G a1)), (2, .ref (gad G a2))]) dX7_meet_38 rfl rfl (by decide) rfl ?_
      refine g_goto (tgt := 10) dX7_meet_41 (by decide) ?_
      refine g_env (env' := [(0, .ref (gad G o)), (1, .ref (gad G a1)), (2, .ref (gad G a2)), (3, .int (x3 + 1))]) [1, 2, 3, 0] rfl ?_
      exact ih (x3 + 1) S_4
set_option maxRecDepth 100000 in
set_option maxHeartbeats 4000000 in
theorem tX7_meet_L {G : gGG} {F : State → Heap → Prop} (hG : gOK G) (hF : gSb G F) (hX : gPX G) (hQ : gOQ G) {o : Nat} (ho : gIsSt o = true) {a1 : Nat} (h1 : gIsSt a1 = true) {a2 : Nat} (h2 : gIsSt a2 = true) (S : gSt) : Gof G F RX7 cX7_meet 4 wsX7_meet none (gRm 2) 0 0 (gQ G (fun x => (none, x))) 0 [(0, .ref (gad G o)), (1, .ref (gad G a1)), (2, .ref (gad G a2))] [] S (fX7_meet o a1 a2 S) := by
  unfold fX7_meet
  refine g_aload_n 0 dX7_meet_0 rfl ?_
  refine g_aload_n 1 dX7_meet_1 rfl ?_
  refine g_cVp (ci := 7) (C0 := RX7) (T := TX7) (N := 5) (n := 0) (As := []) (rest := [.ref (gad G o)]) hF (tX7_guests hG hF hX hQ h1 S) gX7_meet_X7_guests rfl (gSt_m hX h1) (gSt_l h1) rfl ⟨rfl, by decide +kernel, by decide +kernel, by decide +kernel⟩ rfl (gRm_ok (by decide) (by decide)) rfl (Nat.le_of_ble_eq_true rfl) dX7_meet_2 (fun v_1 => ?_)
  refine g_putI hG (ci := 7) (k0 := 3) (C0 := RX7) (T := TX7) (N := 5) (gSt_m hX ho) (gSt_l ho) rfl hiX7_meet_7 (by decide) (List.mem_of_getElem? (i := 1) rfl) tyX7 tyX7_ok nmX7 rfl rfl rfl rfl dX7_meet_5 ?_
  refine g_nS (fun S_2 => ?_)
  refine g_iconst (v := 0) dX7_meet_8 (by decide) ?_
  refine g_istore_n (i := 3) (env' := [(3, .int 0), (0, .ref (gad G o)), (1, .ref (gad G a1)), (2, .ref (gad G a2))]) dX7_meet_9 rfl (by decide) rfl ?_
  refine g_env (env' := [(0, .ref (gad G o)), (1, .ref (gad G a1)), (2, .ref (gad G a2)), (3, .int 0)]) [1, 2, 3, 0] rfl ?_
  exact tX7_meet_L10 hG hF hX hQ ho h1 h2 gFU 0 S_2
set_option maxRecDepth 100000 in
set_option maxHeartbeats 4000000 in
theorem tX7_meet {G : gGG} {F : State → Heap → Prop} (hG : gOK G) (hF : gSb G F) (hX : gPX G) (hQ : gOQ G) {o : Nat} (ho : gIsSt o = true) {a1 : Nat} (h1 : gIsSt a1 = true) {a2 : Nat} (h2 : gIsSt a2 = true) (S : gSt) : gCt G F yX7_meet wsX7_meet 2 [.ref (gad G o), .ref (gad G a1), .ref (gad G a2)] S ((fX7_meet o a1 a2 S).map (fun x => (none, x))) := g_met (by decide +kernel) rfl (Nat.le_of_ble_eq_true rfl) (tX7_meet_L hG hF hX hQ ho h1 h2 S)
/-! X7_mergeAlong -/
theorem hiX7_mergeAlong_7 : ∀ w ∈ u_ws RX7 TX7 5, w ∈ wsX7_mergeAlong := fun _ hw => List.mem_cons_of_mem _ (List.mem_append_right _ (hw))
set_option maxRecDepth 100000 in
set_option maxHeartbeats 4000000 in
theorem tX7_mergeAlong_L2 {G : gGG} {F : State → Heap → Prop} (hG : gOK G) (hF : gSb G F) (hX : gPX G) (hQ : gOQ G) {o : Nat} (ho : gIsSt o = true) {a1 : Nat} (h1 : gIsSt a1 = true) : ∀ (n : Nat) (x2 : Int32) (S : gSt), Gof G F RX7 cX7_mergeAlong 4 wsX7_mergeAlong none (gRm 3) 0 0 (gQ G (fun x => (none, x))) 2 [(0, .ref (gad G o)), (1, .ref (gad G a1)), (2, .int x2)] [] S (fX7_mergeAlong_L2 o a1 n x2 S) := by
  intro n
  induction n with
  | zero => intro x2 S; exact g_none
  | succ n ih =>
    intro x2 S
    unfold fX7_mergeAlong_L2
    refine g_iload_n 2 dX7_mergeAlong_2 rfl ?_
    refine g_aload_n 0 dX7_mergeAlong_3 rfl ?_
    refine g_getI (ci := 7) (k0 := 3) (C0 := RX7) (T := TX7) (N := 5) (gSt_m hX ho) (gSt_l ho) rfl hiX7_mergeAlong_7 (by decide) (List.mem_of_getElem? (i := 1) rfl) rfl dX7_mergeAlong_4 ?_
    refine g_icmp_ge (tgt := 56) dX7_mergeAlong_7 (by decide) (fun h_1 => ?_) (fun h_1 => ?_)
    · exact g_vret dX7_mergeAlong_56 rfl
    · refine g_aload_n 1 dX7_mergeAlong_10 rfl ?_
      refine g_aload_n 1 dX7_mergeAlong_11 rfl ?_
      refine g_iload_n 2 dX7_mergeAlong_12 rfl ?_
      refine g_cVp (ci := 7) (C0 := RX7) (T := TX7) (N := 5) (n := 1) (As := [.int x2]) (rest := [.ref (gad G a1)]) hF (tX7_partyOf hG hF hX hQ h1 x2 S) gX7_mergeAlong_X7_partyOf rfl (gSt_m hX h1) (gSt_l h1) rfl ⟨rfl, by decide +kernel, by decide +kernel, by decide +kernel⟩ rfl (gRm_ok (by decide) (by decide)) rfl (Nat.le_of_ble_eq_true rfl) dX7_mergeAlong_13 (fun v_1 => ?_)
      refine g_cVp (ci := 7) (C0 := RX7) (T := TX7) (N := 5) (n := 1) (As := [.int v_1]) (rest := []) hF (tX7_setOf hG hF hX hQ h1 v_1 S) gX7_mergeAlong_X7_setOf rfl (gSt_m hX h1) (gSt_l h1) rfl ⟨rfl, by decide +kernel, by decide +kernel, by decide +kernel⟩ rfl (gRm_ok (by decide) (by decide)) rfl (Nat.le_of_ble_eq_true rfl) dX7_mergeAlong_16 (fun v_2 => ?_)
      refine g_cSp (n := 1) (As := [.int v_2]) (rest := []) hF (tJ6_numberOfTrailingZeros_0f7a4 v_2 S) gX7_mergeAlong_J6_numberOfTrailingZeros_0f7a4 rfl ⟨by decide +kernel, by decide +kernel, by decide +kernel⟩ rfl (gRm_ok (by decide) (by decide)) rfl (Nat.le_of_ble_eq_true rfl) dX7_mergeAlong_19 (fun v_3 => ?_)
      refine g_istore_n (i := 3) (env' := [(3, .int v_3), (0, .ref (gad G o)), (1, .ref (gad G a1)), (2, .int x2)]) dX7_mergeAlong_22 rfl (by decide) rfl ?_
      refine g_aload_n 1 dX7_mergeAlong_23 rfl ?_
      refine g_iload_n 0 dX7_mergeAlong_24 rfl ?_
      refine g_cVp (ci := 7) (C0 := RX7) (T := TX7) (N := 5) (n := 1) (As := [.int v_3]) (rest := []) hF (tX7_partyOf hG hF hX hQ ho v_3 S) gX7_mergeAlong_X7_partyOf rfl (gSt_m hX ho) (gSt_l ho) rfl ⟨rfl, by decide +kernel, by decide +kernel, by decide +kernel⟩ rfl (gRm_ok (by decide) (by decide)) rfl (Nat.le_of_ble_eq_true rfl) dX7_mergeAlong_25 (fun v_4 => ?_)
      refine g_aload_n 1 dX7_mergeAlong_28 rfl ?_
      refine g_iload_n 3 dX7_mergeAlong_29 rfl ?_
      refine g_cVp (ci := 7) (C0 := RX7) (T := TX7) (N := 5) (n := 1) (As := [.int x2]) (rest := [.int v_4]) hF (tX7_partyOf hG hF hX hQ ho x2 S) gX7_mergeAlong_X7_partyOf rfl (gSt_m hX ho) (gSt_l ho) rfl ⟨rfl, by decide +kernel, by decide +kernel, by decide +kernel⟩ rfl (gRm_ok (by decide) (by decide)) rfl (Nat.le_of_ble_eq_true rfl) dX7_mergeAlong_30 (fun v_5 => ?_)
      refine g_icmp_eq (tgt := 50) dX7_mergeAlong_33 (by decide) (fun h_2 => ?_) (fun h_2 => ?_)
      · refine g_iinc 3 (v := (x2 + 1)) (env' := [(2, .int (x2 + 1)), (3, .int v_3), (0, .ref (gad G o)), (1, .ref (gad G a1))]) dX7_mergeAlong_50 rfl rfl (by decide) rfl ?_
        refine g_goto (tgt := 2) dX7_mergeAlong_53 (by decide) ?_
        refine g_env (env' := [(0, .ref (gad G o)), (1, .ref (gad G a1)), (2, .int (x2 + 1))]) [2, 3, 0] rfl ?_
        exact ih (x2 + 1) S
      · refine g_aload_n 1 dX7_mergeAlong_36 rfl ?_
        refine g_aload_n 1 dX7_mergeAlong_37 rfl ?_
        refine g_iload_n 0 dX7_mergeAlong_38 rfl ?_
        refine g_cVp (ci := 7) (C0 := RX7) (T := TX7) (N := 5) (n := 1) (As := [.int v_3]) (rest := [.ref (gad G o)]) hF (tX7_partyOf hG hF hX hQ ho v_3 S) gX7_mergeAlong_X7_partyOf rfl (gSt_m hX ho) (gSt_l ho) rfl ⟨rfl, by decide +kernel, by decide +kernel, by decide +kernel⟩ rfl (gRm_ok (by decide) (by decide)) rfl (Nat.le_of_ble_eq_true rfl) dX7_mergeAlong_39 (fun v_6 => ?_)
        refine g_aload_n 1 dX7_mergeAlong_42 rfl ?_
        refine g_iload_n 3 dX7_mergeAlong_43 rfl ?_
        refine g_cVp (ci := 7) (C0 := RX7) (T := TX7) (N := 5) (n := 1) (As := [.int x2]) (rest := [.int v_6, .ref (gad G o)]) hF (tX7_partyOf hG hF hX hQ ho x2 S) gX7_mergeAlong_X7_partyOf rfl (gSt_m hX ho) (gSt_l ho) rfl ⟨rfl, by decide +kernel, by decide +kernel, by decide +kernel⟩ rfl (gRm_ok (by decide) (by decide)) rfl (Nat.le_of_ble_eq_true rfl) dX7_mergeAlong_44 (fun v_7 => ?_)
        refine g_cVv (ci := 7) (C0 := RX7) (T := TX7) (N := 5) (n := 2) (As := [.int v_6, .int v_7]) (rest := []) hF (tX7_merge hG hF hX hQ ho v_6 v_7 S) gX7_mergeAlong_X7_merge rfl (gSt_m hX ho) (gSt_l ho) rfl ⟨rfl, by decide +kernel, by decide +kernel, by decide +kernel⟩ rfl (gRm_ok (by decide) (by decide)) rfl (Nat.le_of_ble_eq_true rfl) dX7_mergeAlong_47 (fun S_8 => ?_)
        refine g_iinc 3 (v := (x2 + 1)) (env' := [(2, .int (x2 + 1)), (3, .int v_3), (0, .ref (gad G o)), (1, .ref (gad G a1))]) dX7_mergeAlong_50 rfl rfl (by decide) rfl ?_
        refine g_goto (tgt := 2) dX7_mergeAlong_53 (by decide) ?_
        refine g_env (env' := [(0, .ref (gad G o)), (1, .ref (gad G a1)), (2, .int (x2 + 1))]) [2, 3, 0] rfl ?_
        exact ih (x2 + 1) S_8
set_option maxRecDepth 100000 in
set_option maxHeartbeats 4000000 in
theorem tX7_mergeAlong_L {G : gGG} {F : State → Heap → Prop} (hG : gOK G) (hF : gSb G F) (hX : gPX G) (hQ : gOQ G) {o : Nat} (ho : gIsSt o = true) {a1 : Nat} (h1 : gIsSt a1 = true) (S : gSt) : Gof G F RX7 cX7_mergeAlong 4 wsX7_mergeAlong none (gRm 3) 0 0 (gQ G (fun x => (none, x))) 0 [(0, .ref (gad G o)), (1, .ref (gad G a1))] [] S (fX7_mergeAlong o a1 S) := by
  unfold fX7_mergeAlong
  refine g_iconst (v := 1) dX7_mergeAlong_0 (by decide) ?_
  refine g_istore_n (i := 2) (env' := [(2, .int 1), (0, .ref (gad G o)), (1, .ref (gad G a1))]) dX7_mergeAlong_1 rfl (by decide) rfl ?_
  refine g_env (env' := [(0, .ref (gad G o)), (1, .ref (gad G a1)), (2, .int 1)]) [1, 2, 0] rfl ?_
  exact tX7_mergeAlong_L2 hG hF hX hQ ho h1 gFU 1 S
set_option maxRecDepth 100000 in
set_option maxHeartbeats 4000000 in
theorem tX7_mergeAlong {G : gGG} {F : State → Heap → Prop} (hG : gOK G) (hF : gSb G F) (hX : gPX G) (hQ : gOQ G) {o : Nat} (ho : gIsSt o = true) {a1 : Nat} (h1 : gIsSt a1 = true) (S : gSt) : gCt G F yX7_mergeAlong wsX7_mergeAlong 3 [.ref (gad G o), .ref (gad G a1)] S ((fX7_mergeAlong o a1 S).map (fun x => (none, x))) := g_met (by decide +kernel) rfl (Nat.le_of_ble_eq_true rfl) (tX7_mergeAlong_L hG hF hX hQ ho h1 S)
