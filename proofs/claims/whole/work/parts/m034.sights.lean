/-! X6_size -/
theorem hiX6_size_6 : ∀ w ∈ u_ws RX6 TX6 4, w ∈ wsX6_size := fun _ hw => List.mem_cons_of_mem _ (List.mem_append_right _ (hw))
set_option maxRecDepth 100000 in
set_option maxHeartbeats 4000000 in
theorem tX6_size_L {G : gGG} {F : State → Heap → Prop} (hG : gOK G) (hF : gSb G F) (hX : gPX G) (hQ : gOQ G) {o : Nat} (ho : gIsSi o = true) (S : gSt) : Gof G F RX6 cX6_size 1 wsX6_size (some .int) (gRm 0) 0 0 (gQ G (fun x => (some (.int x), S))) 0 [(0, .ref (gad G o))] [] S (fX6_size o S) := by
  unfold fX6_size
  refine g_aload_n 0 dX6_size_0 rfl ?_
  refine g_getI (ci := 6) (k0 := 3) (C0 := RX6) (T := TX6) (N := 4) (gSi_m hX ho) (gSi_l ho) rfl hiX6_size_6 (by decide) (List.mem_of_getElem? (i := 1) rfl) rfl dX6_size_1 ?_
  exact g_iret dX6_size_4 rfl
set_option maxRecDepth 100000 in
set_option maxHeartbeats 4000000 in
theorem tX6_size {G : gGG} {F : State → Heap → Prop} (hG : gOK G) (hF : gSb G F) (hX : gPX G) (hQ : gOQ G) {o : Nat} (ho : gIsSi o = true) (S : gSt) : gCt G F yX6_size wsX6_size 0 [.ref (gad G o)] S ((fX6_size o S).map (fun x => (some (.int x), S))) := g_met (by decide +kernel) rfl (Nat.le_of_ble_eq_true rfl) (tX6_size_L hG hF hX hQ ho S)
/-! X6_areFull -/
theorem hiX6_areFull_6 : ∀ w ∈ u_ws RX6 TX6 4, w ∈ wsX6_areFull := fun _ hw => List.mem_cons_of_mem _ (List.mem_append_right _ (hw))
set_option maxRecDepth 100000 in
set_option maxHeartbeats 4000000 in
theorem tX6_areFull_L {G : gGG} {F : State → Heap → Prop} (hG : gOK G) (hF : gSb G F) (hX : gPX G) (hQ : gOQ G) {o : Nat} (ho : gIsSi o = true) (S : gSt) : Gof G F RX6 cX6_areFull 1 wsX6_areFull (some .boolean) (gRm 0) 0 0 (gQ G (fun x => (some (.int x), S))) 0 [(0, .ref (gad G o))] [] S (fX6_areFull o S) := by
  unfold fX6_areFull
  refine g_aload_n 0 dX6_areFull_0 rfl ?_
  refine g_getI (ci := 6) (k0 := 3) (C0 := RX6) (T := TX6) (N := 4) (gSi_m hX ho) (gSi_l ho) rfl hiX6_areFull_6 (by decide) (List.mem_of_getElem? (i := 1) rfl) rfl dX6_areFull_1 ?_
  refine g_bipush (v := 10) dX6_areFull_4 (by decide) ?_
  refine g_icmp_lt (tgt := 13) dX6_areFull_6 (by decide) (fun h_1 => ?_) (fun h_1 => ?_)
  · refine g_iconst (v := 0) dX6_areFull_13 (by decide) ?_
    exact g_zret (by decide) dX6_areFull_14 rfl
  · refine g_iconst (v := 1) dX6_areFull_9 (by decide) ?_
    refine g_goto (tgt := 14) dX6_areFull_10 (by decide) ?_
    exact g_zret (by decide) dX6_areFull_14 rfl
set_option maxRecDepth 100000 in
set_option maxHeartbeats 4000000 in
theorem tX6_areFull {G : gGG} {F : State → Heap → Prop} (hG : gOK G) (hF : gSb G F) (hX : gPX G) (hQ : gOQ G) {o : Nat} (ho : gIsSi o = true) (S : gSt) : gCt G F yX6_areFull wsX6_areFull 0 [.ref (gad G o)] S ((fX6_areFull o S).map (fun x => (some (.int x), S))) := g_met (by decide +kernel) rfl (Nat.le_of_ble_eq_true rfl) (tX6_areFull_L hG hF hX hQ ho S)
/-! X6_empty -/
theorem hiX6_empty_6 : ∀ w ∈ u_ws RX6 TX6 4, w ∈ wsX6_empty := fun _ hw => List.mem_cons_of_mem _ (List.mem_append_right _ (hw))
set_option maxRecDepth 100000 in
set_option maxHeartbeats 4000000 in
theorem tX6_empty_L {G : gGG} {F : State → Heap → Prop} (hG : gOK G) (hF : gSb G F) (hX : gPX G) (hQ : gOQ G) {o : Nat} (ho : gIsSi o = true) (S : gSt) : Gof G F RX6 cX6_empty 1 wsX6_empty none (gRm 0) 0 0 (gQ G (fun x => (none, x))) 0 [(0, .ref (gad G o))] [] S (fX6_empty o S) := by
  unfold fX6_empty
  refine g_aload_n 0 dX6_empty_0 rfl ?_
  refine g_iconst (v := 0) dX6_empty_1 (by decide) ?_
  refine g_putI hG (ci := 6) (k0 := 3) (C0 := RX6) (T := TX6) (N := 4) (gSi_m hX ho) (gSi_l ho) rfl hiX6_empty_6 (by decide) (List.mem_of_getElem? (i := 1) rfl) tyX6 tyX6_ok nmX6 rfl rfl rfl rfl dX6_empty_2 ?_
  refine g_nS (fun S_1 => ?_)
  exact g_vret dX6_empty_5 rfl
set_option maxRecDepth 100000 in
set_option maxHeartbeats 4000000 in
theorem tX6_empty {G : gGG} {F : State → Heap → Prop} (hG : gOK G) (hF : gSb G F) (hX : gPX G) (hQ : gOQ G) {o : Nat} (ho : gIsSi o = true) (S : gSt) : gCt G F yX6_empty wsX6_empty 0 [.ref (gad G o)] S ((fX6_empty o S).map (fun x => (none, x))) := g_met (by decide +kernel) rfl (Nat.le_of_ble_eq_true rfl) (tX6_empty_L hG hF hX hQ ho S)
/-! X6_add -/
theorem hiX6_add_6 : ∀ w ∈ u_ws RX6 TX6 4, w ∈ wsX6_add := fun _ hw => List.mem_cons_of_mem _ (List.mem_append_right _ (hw))
set_option maxRecDepth 100000 in
set_option maxHeartbeats 4000000 in
theorem tX6_add_L {G : gGG} {F : State → Heap → Prop} (hG : gOK G) (hF : gSb G F) (hX : gPX G) (hQ : gOQ G) {o : Nat} (ho : gIsSi o = true) (a1 : Int32) (a2 : Int32) (a3 : Int32) (S : gSt) : Gof G F RX6 cX6_add 4 wsX6_add none (gRm 0) 0 0 (gQ G (fun x => (none, x))) 0 [(0, .ref (gad G o)), (1, .int a1), (2, .int a2), (3, .int a3)] [] S (fX6_add o a1 a2 a3 S) := by
  unfold fX6_add
  refine g_aload_n 0 dX6_add_0 rfl ?_
  refine g_getI (ci := 6) (k0 := 3) (C0 := RX6) (T := TX6) (N := 4) (gSi_m hX ho) (gSi_l ho) rfl hiX6_add_6 (by decide) (List.mem_of_getElem? (i := 1) rfl) rfl dX6_add_1 ?_
  refine g_bipush (v := 10) dX6_add_4 (by decide) ?_
  refine g_icmp_ge (tgt := 49) dX6_add_6 (by decide) (fun h_1 => ?_) (fun h_1 => ?_)
  · exact g_vret dX6_add_49 rfl
  · refine g_aload_n 0 dX6_add_9 rfl ?_
    refine g_getQ (ci := 6) (k0 := 0) (C0 := RX6) (T := TX6) (N := 4) (gSi_m hX ho) (gSi_l ho) rfl hiX6_add_6 (by decide) (List.mem_of_getElem? (i := 2) rfl) rfl dX6_add_10 ?_
    refine g_aload_n 0 dX6_add_13 rfl ?_
    refine g_getI (ci := 6) (k0 := 3) (C0 := RX6) (T := TX6) (N := 4) (gSi_m hX ho) (gSi_l ho) rfl hiX6_add_6 (by decide) (List.mem_of_getElem? (i := 1) rfl) rfl dX6_add_14 ?_
    refine g_iload_n 1 dX6_add_17 rfl ?_
    refine g_iast hG (gSi_m1 hX ho) (gSi_l1 ho) dX6_add_18 ?_
    refine g_nS (fun S_1 => ?_)
    refine g_aload_n 0 dX6_add_19 rfl ?_
    refine g_getQ (ci := 6) (k0 := 1) (C0 := RX6) (T := TX6) (N := 4) (gSi_m hX ho) (gSi_l ho) rfl hiX6_add_6 (by decide) (List.mem_of_getElem? (i := 3) rfl) rfl dX6_add_20 ?_
    refine g_aload_n 0 dX6_add_23 rfl ?_
    refine g_getI (ci := 6) (k0 := 3) (C0 := RX6) (T := TX6) (N := 4) (gSi_m hX ho) (gSi_l ho) rfl hiX6_add_6 (by decide) (List.mem_of_getElem? (i := 1) rfl) rfl dX6_add_24 ?_
    refine g_iload_n 2 dX6_add_27 rfl ?_
    refine g_iast hG (gSi_m2 hX ho) (gSi_l2 ho) dX6_add_28 ?_
    refine g_nS (fun S_2 => ?_)
    refine g_aload_n 0 dX6_add_29 rfl ?_
    refine g_getQ (ci := 6) (k0 := 2) (C0 := RX6) (T := TX6) (N := 4) (gSi_m hX ho) (gSi_l ho) rfl hiX6_add_6 (by decide) (List.mem_of_getElem? (i := 4) rfl) rfl dX6_add_30 ?_
    refine g_aload_n 0 dX6_add_33 rfl ?_
    refine g_getI (ci := 6) (k0 := 3) (C0 := RX6) (T := TX6) (N := 4) (gSi_m hX ho) (gSi_l ho) rfl hiX6_add_6 (by decide) (List.mem_of_getElem? (i := 1) rfl) rfl dX6_add_34 ?_
    refine g_iload_n 3 dX6_add_37 rfl ?_
    refine g_zast hG (gSi_m3 hX ho) (gSi_l3 ho) dX6_add_38 ?_
    refine g_nS (fun S_3 => ?_)
    refine g_aload_n 0 dX6_add_39 rfl ?_
    refine g_dup dX6_add_40 rfl ?_
    refine g_getI (ci := 6) (k0 := 3) (C0 := RX6) (T := TX6) (N := 4) (gSi_m hX ho) (gSi_l ho) rfl hiX6_add_6 (by decide) (List.mem_of_getElem? (i := 1) rfl) rfl dX6_add_41 ?_
    refine g_iconst (v := 1) dX6_add_44 (by decide) ?_
    refine g_iadd dX6_add_45 ?_
    refine g_putI hG (ci := 6) (k0 := 3) (C0 := RX6) (T := TX6) (N := 4) (gSi_m hX ho) (gSi_l ho) rfl hiX6_add_6 (by decide) (List.mem_of_getElem? (i := 1) rfl) tyX6 tyX6_ok nmX6 rfl rfl rfl rfl dX6_add_46 ?_
    refine g_nS (fun S_4 => ?_)
    exact g_vret dX6_add_49 rfl
set_option maxRecDepth 100000 in
set_option maxHeartbeats 4000000 in
theorem tX6_add {G : gGG} {F : State → Heap → Prop} (hG : gOK G) (hF : gSb G F) (hX : gPX G) (hQ : gOQ G) {o : Nat} (ho : gIsSi o = true) (a1 : Int32) (a2 : Int32) (a3 : Int32) (S : gSt) : gCt G F yX6_add wsX6_add 0 [.ref (gad G o), .int a1, .int a2, .int a3] S ((fX6_add o a1 a2 a3 S).map (fun x => (none, x))) := g_met (by decide +kernel) rfl (Nat.le_of_ble_eq_true rfl) (tX6_add_L hG hF hX hQ ho a1 a2 a3 S)
/-! X6_copy -/
theorem hiX6_copy_6 : ∀ w ∈ u_ws RX6 TX6 4, w ∈ wsX6_copy := fun _ hw => List.mem_cons_of_mem _ (List.mem_append_right _ (hw))
set_option maxRecDepth 100000 in
set_option maxHeartbeats 4000000 in
theorem tX6_copy_L6 {G : gGG} {F : State → Heap → Prop} (hG : gOK G) (hF : gSb G F) (hX : gPX G) (hQ : gOQ G) {o : Nat} (ho : gIsSi o = true) {a1 : Nat} (h1 : gIsSi a1 = true) : ∀ (n : Nat) (x2 : Int32) (S : gSt), Gof G F RX6 cX6_copy 3 wsX6_copy none (gRm 1) 0 0 (gQ G (fun x => (none, x))) 6 [(0, .ref (gad G o)), (1, .ref (gad G a1)), (2, .int x2)] [] S (fX6_copy_L6 o a1 n x2 S) := by
  intro n
  induction n with
  | zero => intro x2 S; exact g_none
  | succ n ih =>
    intro x2 S
    unfold fX6_copy_L6
    refine g_iload_n 2 dX6_copy_6 rfl ?_
    refine g_aload_n 1 dX6_copy_7 rfl ?_
    refine g_getI (ci := 6) (k0 := 3) (C0 := RX6) (T := TX6) (N := 4) (gSi_m hX h1) (gSi_l h1) rfl hiX6_copy_6 (by decide) (List.mem_of_getElem? (i := 1) rfl) rfl dX6_copy_8 ?_
    refine g_icmp_ge (tgt := 42) dX6_copy_11 (by decide) (fun h_1 => ?_) (fun h_1 => ?_)
    · exact g_vret dX6_copy_42 rfl
    · refine g_aload_n 0 dX6_copy_14 rfl ?_
      refine g_aload_n 1 dX6_copy_15 rfl ?_
      refine g_getQ (ci := 6) (k0 := 0) (C0 := RX6) (T := TX6) (N := 4) (gSi_m hX h1) (gSi_l h1) rfl hiX6_copy_6 (by decide) (List.mem_of_getElem? (i := 2) rfl) rfl dX6_copy_16 ?_
      refine g_iload_n 2 dX6_copy_19 rfl ?_
      refine g_iald hG (gSi_m1 hX h1) (gSi_l1 h1) dX6_copy_20 ?_
      refine g_aload_n 1 dX6_copy_21 rfl ?_
      refine g_getQ (ci := 6) (k0 := 1) (C0 := RX6) (T := TX6) (N := 4) (gSi_m hX h1) (gSi_l h1) rfl hiX6_copy_6 (by decide) (List.mem_of_getElem? (i := 3) rfl) rfl dX6_copy_22 ?_
      refine g_iload_n 2 dX6_copy_25 rfl ?_
      refine g_iald hG (gSi_m2 hX h1) (gSi_l2 h1) dX6_copy_26 ?_
      refine g_aload_n 1 dX6_copy_27 rfl ?_
      refine g_getQ (ci := 6) (k0 := 2) (C0 := RX6) (T := TX6) (N := 4) (gSi_m hX h1) (gSi_l h1) rfl hiX6_copy_6 (by decide) (List.mem_of_getElem? (i := 4) rfl) rfl dX6_copy_28 ?_
      refine g_iload_n 2 dX6_copy_31 rfl ?_
      refine g_zald hG (gSi_m3 hX h1) (gSi_l3 h1) dX6_copy_32 ?_
      refine g_cVv (ci := 6) (C0 := RX6) (T := TX6) (N := 4) (n := 3) (As := [.int (gR S (a1 + 1) (gN x2)), .int (gR S (a1 + 2) (gN x2)), .int (gR S (a1 + 3) (gN x2))]) (rest := []) hF (tX6_add hG hF hX hQ ho (gR S (a1 + 1) (gN x2)) (gR S (a1 + 2) (gN x2)) (gR S (a1 + 3) (gN x2)) S) gX6_copy_X6_add rfl (gSi_m hX ho) (gSi_l ho) rfl ⟨rfl, by decide +kernel, by decide +kernel, by decide +kernel⟩ rfl (gRm_ok (by decide) (by decide)) rfl (Nat.le_of_ble_eq_true rfl) dX6_copy_33 (fun S_1 => ?_)
      refine g_iinc 2 (v := (x2 + 1)) (env' := [(2, .int (x2 + 1)), (0, .ref (gad G o)), (1, .ref (gad G a1))]) dX6_copy_36 rfl rfl (by decide) rfl ?_
      refine g_goto (tgt := 6) dX6_copy_39 (by decide) ?_
      refine g_env (env' := [(0, .ref (gad G o)), (1, .ref (gad G a1)), (2, .int (x2 + 1))]) [1, 2, 0] rfl ?_
      exact ih (x2 + 1) S_1
set_option maxRecDepth 100000 in
set_option maxHeartbeats 4000000 in
theorem tX6_copy_L {G : gGG} {F : State → Heap → Prop} (hG : gOK G) (hF : gSb G F) (hX : gPX G) (hQ : gOQ G) {o : Nat} (ho : gIsSi o = true) {a1 : Nat} (h1 : gIsSi a1 = true) (S : gSt) : Gof G F RX6 cX6_copy 3 wsX6_copy none (gRm 1) 0 0 (gQ G (fun x => (none, x))) 0 [(0, .ref (gad G o)), (1, .ref (gad G a1))] [] S (fX6_copy o a1 S) := by
  unfold fX6_copy
  refine g_aload_n 0 dX6_copy_0 rfl ?_
  refine g_cVv (ci := 6) (C0 := RX6) (T := TX6) (N := 4) (n := 0) (As := []) (rest := []) hF (tX6_empty hG hF hX hQ ho S) gX6_copy_X6_empty rfl (gSi_m hX ho) (gSi_l ho) rfl ⟨rfl, by decide +kernel, by decide +kernel, by decide +kernel⟩ rfl (gRm_ok (by decide) (by decide)) rfl (Nat.le_of_ble_eq_true rfl) dX6_copy_1 (fun S_1 => ?_)
  refine g_iconst (v := 0) dX6_copy_4 (by decide) ?_
  refine g_istore_n (i := 2) (env' := [(2, .int 0), (0, .ref (gad G o)), (1, .ref (gad G a1))]) dX6_copy_5 rfl (by decide) rfl ?_
  refine g_env (env' := [(0, .ref (gad G o)), (1, .ref (gad G a1)), (2, .int 0)]) [1, 2, 0] rfl ?_
  exact tX6_copy_L6 hG hF hX hQ ho h1 gFU 0 S_1
set_option maxRecDepth 100000 in
set_option maxHeartbeats 4000000 in
theorem tX6_copy {G : gGG} {F : State → Heap → Prop} (hG : gOK G) (hF : gSb G F) (hX : gPX G) (hQ : gOQ G) {o : Nat} (ho : gIsSi o = true) {a1 : Nat} (h1 : gIsSi a1 = true) (S : gSt) : gCt G F yX6_copy wsX6_copy 1 [.ref (gad G o), .ref (gad G a1)] S ((fX6_copy o a1 S).map (fun x => (none, x))) := g_met (by decide +kernel) rfl (Nat.le_of_ble_eq_true rfl) (tX6_copy_L hG hF hX hQ ho h1 S)
/-! X6_fit -/
theorem hiX6_fit_6 : ∀ w ∈ u_ws RX6 TX6 4, w ∈ wsX6_fit := fun _ hw => List.mem_cons_of_mem _ (List.mem_append_right _ (hw))
set_option maxRecDepth 100000 in
set_option maxHeartbeats 4000000 in
theorem tX6_fit_L38 {G : gGG} {F : State → Heap → Prop} (hG : gOK G) (hF : gSb G F) (hX : gPX G) (hQ : gOQ G) {o : Nat} (ho : gIsSi o = true) (S : gSt) (k2 : Int32 → Int32 → Option (Int32)) (hk2 : ∀ (x1 : Int32) (x2 : Int32), Gof G F RX6 cX6_fit 4 wsX6_fit (some .boolean) (gRm 2) 0 0 (gQ G (fun x => (some (.int x), S))) 2 [(0, .ref (gad G o)), (1, .int x1), (2, .int x2)] [] S (k2 x1 x2)) (x1 : Int32) (x2 : Int32) (s0 : Int32) : Gof G F RX6 cX6_fit 4 wsX6_fit (some .boolean) (gRm 2) 0 0 (gQ G (fun x => (some (.int x), S))) 38 [(0, .ref (gad G o)), (1, .int x1), (2, .int x2)] [.int s0] S (fX6_fit_L38 k2 o S x1 x2 s0) := by
  unfold fX6_fit_L38
  refine g_istore_n (i := 3) (env' := [(3, .int s0), (0, .ref (gad G o)), (1, .int x1), (2, .int x2)]) dX6_fit_38 rfl (by decide) rfl ?_
  refine g_iload_n 0 dX6_fit_39 rfl ?_
  refine g_aload_n 1 dX6_fit_40 rfl ?_
  refine g_getQ (ci := 6) (k0 := 2) (C0 := RX6) (T := TX6) (N := 4) (gSi_m hX ho) (gSi_l ho) rfl hiX6_fit_6 (by decide) (List.mem_of_getElem? (i := 4) rfl) rfl dX6_fit_41 ?_
  refine g_iload_n 3 dX6_fit_44 rfl ?_
  refine g_zald hG (gSi_m3 hX ho) (gSi_l3 ho) dX6_fit_45 ?_
  refine g_icmp_eq (tgt := 51) dX6_fit_46 (by decide) (fun h_1 => ?_) (fun h_1 => ?_)
  · refine g_iinc 3 (v := (x2 + 1)) (env' := [(2, .int (x2 + 1)), (3, .int s0), (0, .ref (gad G o)), (1, .int x1)]) dX6_fit_51 rfl rfl (by decide) rfl ?_
    refine g_goto (tgt := 2) dX6_fit_54 (by decide) ?_
    refine g_env (env' := [(0, .ref (gad G o)), (1, .int x1), (2, .int (x2 + 1))]) [2, 3, 0] rfl ?_
    exact hk2 x1 (x2 + 1)
  · refine g_iconst (v := 0) dX6_fit_49 (by decide) ?_
    exact g_zret (by decide) dX6_fit_50 rfl
set_option maxRecDepth 100000 in
set_option maxHeartbeats 4000000 in
theorem tX6_fit_L2 {G : gGG} {F : State → Heap → Prop} (hG : gOK G) (hF : gSb G F) (hX : gPX G) (hQ : gOQ G) {o : Nat} (ho : gIsSi o = true) (S : gSt) : ∀ (n : Nat) (x1 : Int32) (x2 : Int32), Gof G F RX6 cX6_fit 4 wsX6_fit (some .boolean) (gRm 2) 0 0 (gQ G (fun x => (some (.int x), S))) 2 [(0, .ref (gad G o)), (1, .int x1), (2, .int x2)] [] S (fX6_fit_L2 o S n x1 x2) := by
  intro n
  induction n with
  | zero => intro x1 x2; exact g_none
  | succ n ih =>
    intro x1 x2
    unfold fX6_fit_L2
    refine g_iload_n 2 dX6_fit_2 rfl ?_
    refine g_aload_n 0 dX6_fit_3 rfl ?_
    refine g_getI (ci := 6) (k0 := 3) (C0 := RX6) (T := TX6) (N := 4) (gSi_m hX ho) (gSi_l ho) rfl hiX6_fit_6 (by decide) (List.mem_of_getElem? (i := 1) rfl) rfl dX6_fit_4 ?_
    refine g_icmp_ge (tgt := 57) dX6_fit_7 (by decide) (fun h_1 => ?_) (fun h_1 => ?_)
    · refine g_iconst (v := 1) dX6_fit_57 (by decide) ?_
      exact g_zret (by decide) dX6_fit_58 rfl
    · refine g_iload_n 1 dX6_fit_10 rfl ?_
      refine g_aload_n 0 dX6_fit_11 rfl ?_
      refine g_getQ (ci := 6) (k0 := 0) (C0 := RX6) (T := TX6) (N := 4) (gSi_m hX ho) (gSi_l ho) rfl hiX6_fit_6 (by decide) (List.mem_of_getElem? (i := 2) rfl) rfl dX6_fit_12 ?_
      refine g_iload_n 2 dX6_fit_15 rfl ?_
      refine g_iald hG (gSi_m1 hX ho) (gSi_l1 ho) dX6_fit_16 ?_
      refine g_cSp (n := 2) (As := [.int x1, .int (gR S (o + 1) (gN x2))]) (rest := []) hF (tX7_partyIn hG hF hX hQ x1 (gR S (o + 1) (gN x2)) S) gX6_fit_X7_partyIn rfl ⟨by decide +kernel, by decide +kernel, by decide +kernel⟩ rfl (gRm_ok (by decide) (by decide)) rfl (Nat.le_of_ble_eq_true rfl) dX6_fit_17 (fun v_1 => ?_)
      refine g_iload_n 1 dX6_fit_20 rfl ?_
      refine g_aload_n 0 dX6_fit_21 rfl ?_
      refine g_getQ (ci := 6) (k0 := 1) (C0 := RX6) (T := TX6) (N := 4) (gSi_m hX ho) (gSi_l ho) rfl hiX6_fit_6 (by decide) (List.mem_of_getElem? (i := 3) rfl) rfl dX6_fit_22 ?_
      refine g_iload_n 2 dX6_fit_25 rfl ?_
      refine g_iald hG (gSi_m2 hX ho) (gSi_l2 ho) dX6_fit_26 ?_
      refine g_cSp (n := 2) (As := [.int x1, .int (gR S (o + 2) (gN x2))]) (rest := [.int v_1]) hF (tX7_partyIn hG hF hX hQ x1 (gR S (o + 2) (gN x2)) S) gX6_fit_X7_partyIn rfl ⟨by decide +kernel, by decide +kernel, by decide +kernel⟩ rfl (gRm_ok (by decide) (by decide)) rfl (Nat.le_of_ble_eq_true rfl) dX6_fit_27 (fun v_2 => ?_)
      refine g_icmp_ne (tgt := 37) dX6_fit_30 (by decide) (fun h_2 => ?_) (fun h_2 => ?_)
      · refine g_iconst (v := 0) dX6_fit_37 (by decide) ?_
        exact tX6_fit_L38 hG hF hX hQ ho S (fX6_fit_L2 o S n) ih x1 x2 0
      · refine g_iconst (v := 1) dX6_fit_33 (by decide) ?_
        refine g_goto (tgt := 38) dX6_fit_34 (by decide) ?_
        exact tX6_fit_L38 hG hF hX hQ ho S (fX6_fit_L2 o S n) ih x1 x2 1
set_option maxRecDepth 100000 in
set_option maxHeartbeats 4000000 in
theorem tX6_fit_L {G : gGG} {F : State → Heap → Prop} (hG : gOK G) (hF : gSb G F) (hX : gPX G) (hQ : gOQ G) {o : Nat} (ho : gIsSi o = true) (a1 : Int32) (S : gSt) : Gof G F RX6 cX6_fit 4 wsX6_fit (some .boolean) (gRm 2) 0 0 (gQ G (fun x => (some (.int x), S))) 0 [(0, .ref (gad G o)), (1, .int a1)] [] S (fX6_fit o a1 S) := by
  unfold fX6_fit
  refine g_iconst (v := 0) dX6_fit_0 (by decide) ?_
  refine g_istore_n (i := 2) (env' := [(2, .int 0), (0, .ref (gad G o)), (1, .int a1)]) dX6_fit_1 rfl (by decide) rfl ?_
  refine g_env (env' := [(0, .ref (gad G o)), (1, .int a1), (2, .int 0)]) [1, 2, 0] rfl ?_
  exact tX6_fit_L2 hG hF hX hQ ho S gFU a1 0
set_option maxRecDepth 100000 in
set_option maxHeartbeats 4000000 in
theorem tX6_fit {G : gGG} {F : State → Heap → Prop} (hG : gOK G) (hF : gSb G F) (hX : gPX G) (hQ : gOQ G) {o : Nat} (ho : gIsSi o = true) (a1 : Int32) (S : gSt) : gCt G F yX6_fit wsX6_fit 2 [.ref (gad G o), .int a1] S ((fX6_fit o a1 S).map (fun x => (some (.int x), S))) := g_met (by decide +kernel) rfl (Nat.le_of_ble_eq_true rfl) (tX6_fit_L hG hF hX hQ ho a1 S)
/-! X1_isKept -/
theorem hiX1_isKept_1 : ∀ w ∈ u_ws RX1 TX1 4, w ∈ wsX1_isKept := fun _ hw => List.mem_cons_of_mem _ (List.mem_append_right _ (hw))
set_option maxRecDepth 100000 in
set_option maxHeartbeats 4000000 in
theorem tX1_isKept_L {G : gGG} {F : State → Heap → Prop} (hG : gOK G) (hF : gSb G F) (hX : gPX G) (hQ : gOQ G) {o : Nat} (ho : gIsIm o = true) (S : gSt) : Gof G F RX1 cX1_isKept 1 wsX1_isKept (some .boolean) (gRm 0) 0 0 (gQ G (fun x => (some (.int x), S))) 0 [(0, .ref (gad G o))] [] S (fX1_isKept o S) := by
  unfold fX1_isKept
  refine g_aload_n 0 dX1_isKept_0 rfl ?_
  refine g_getI (ci := 1) (k0 := 3) (C0 := RX1) (T := TX1) (N := 4) (gIm_m hX ho) (gIm_l ho) rfl hiX1_isKept_1 (by decide) (List.mem_of_getElem? (i := 1) rfl) rfl dX1_isKept_1 ?_
  refine g_gC (fun h_1 => ?_)
  exact g_zret (gBo_nar h_1) dX1_isKept_4 rfl
set_option maxRecDepth 100000 in
set_option maxHeartbeats 4000000 in
theorem tX1_isKept {G : gGG} {F : State → Heap → Prop} (hG : gOK G) (hF : gSb G F) (hX : gPX G) (hQ : gOQ G) {o : Nat} (ho : gIsIm o = true) (S : gSt) : gCt G F yX1_isKept wsX1_isKept 0 [.ref (gad G o)] S ((fX1_isKept o S).map (fun x => (some (.int x), S))) := g_met (by decide +kernel) rfl (Nat.le_of_ble_eq_true rfl) (tX1_isKept_L hG hF hX hQ ho S)
/-! X1_standing -/
theorem hiX1_standing_1 : ∀ w ∈ u_ws RX1 TX1 4, w ∈ wsX1_standing := fun _ hw => List.mem_cons_of_mem _ (List.mem_append_right _ (hw))
set_option maxRecDepth 100000 in
set_option maxHeartbeats 4000000 in
theorem tX1_standing_L {G : gGG} {F : State → Heap → Prop} (hG : gOK G) (hF : gSb G F) (hX : gPX G) (hQ : gOQ G) {o : Nat} (ho : gIsIm o = true) (S : gSt) : Gof G F RX1 cX1_standing 1 wsX1_standing (some (.object "GuestParties$Standing")) (gRm 0) 0 0 (gQ G (fun x => (some (.ref (gad G x)), S))) 0 [(0, .ref (gad G o))] [] S (fX1_standing o S) := by
  unfold fX1_standing
  refine g_aload_n 0 dX1_standing_0 rfl ?_
  refine g_getQ (ci := 1) (k0 := 0) (C0 := RX1) (T := TX1) (N := 4) (gIm_m hX ho) (gIm_l ho) rfl hiX1_standing_1 (by decide) (List.mem_of_getElem? (i := 1) rfl) rfl dX1_standing_1 ?_
  exact g_aret dX1_standing_4 rfl
set_option maxRecDepth 100000 in
set_option maxHeartbeats 4000000 in
theorem tX1_standing {G : gGG} {F : State → Heap → Prop} (hG : gOK G) (hF : gSb G F) (hX : gPX G) (hQ : gOQ G) {o : Nat} (ho : gIsIm o = true) (S : gSt) : gCt G F yX1_standing wsX1_standing 0 [.ref (gad G o)] S ((fX1_standing o S).map (fun x => (some (.ref (gad G x)), S))) := g_met (by decide +kernel) rfl (Nat.le_of_ble_eq_true rfl) (tX1_standing_L hG hF hX hQ ho S)
/-! X1_drop -/
theorem hiX1_drop_1 : ∀ w ∈ u_ws RX1 TX1 4, w ∈ wsX1_drop := fun _ hw => List.mem_cons_of_mem _ (List.mem_append_right _ (hw))
set_option maxRecDepth 100000 in
set_option maxHeartbeats 4000000 in
theorem tX1_drop_L {G : gGG} {F : State → Heap → Prop} (hG : gOK G) (hF : gSb G F) (hX : gPX G) (hQ : gOQ G) {o : Nat} (ho : gIsIm o = true) (S : gSt) : Gof G F RX1 cX1_drop 1 wsX1_drop none (gRm 0) 0 0 (gQ G (fun x => (none, x))) 0 [(0, .ref (gad G o))] [] S (fX1_drop o S) := by
  unfold fX1_drop
  refine g_aload_n 0 dX1_drop_0 rfl ?_
  refine g_iconst (v := 0) dX1_drop_1 (by decide) ?_
  refine g_putI hG (ci := 1) (k0 := 3) (C0 := RX1) (T := TX1) (N := 4) (gIm_m hX ho) (gIm_l ho) rfl hiX1_drop_1 (by decide) (List.mem_of_getElem? (i := 1) rfl) tyX1 tyX1_ok nmX1 rfl rfl rfl rfl dX1_drop_2 ?_
  refine g_nS (fun S_1 => ?_)
  exact g_vret dX1_drop_5 rfl
set_option maxRecDepth 100000 in
set_option maxHeartbeats 4000000 in
theorem tX1_drop {G : gGG} {F : State → Heap → Prop} (hG : gOK G) (hF : gSb G F) (hX : gPX G) (hQ : gOQ G) {o : Nat} (ho : gIsIm o = true) (S : gSt) : gCt G F yX1_drop wsX1_drop 0 [.ref (gad G o)] S ((fX1_drop o S).map (fun x => (none, x))) := g_met (by decide +kernel) rfl (Nat.le_of_ble_eq_true rfl) (tX1_drop_L hG hF hX hQ ho S)
/-! X1_take -/
theorem hiX1_take_1 : ∀ w ∈ u_ws RX1 TX1 4, w ∈ wsX1_take := fun _ hw => List.mem_cons_of_mem _ (List.mem_append_left _ (List.mem_append_left _ (List.mem_append_left _ (List.mem_append_right _ (hw)))))
set_option maxRecDepth 100000 in
set_option maxHeartbeats 4000000 in
theorem tX1_take_L {G : gGG} {F : State → Heap → Prop} (hG : gOK G) (hF : gSb G F) (hX : gPX G) (hQ : gOQ G) {o : Nat} (ho : gIsIm o = true) {a1 : Nat} (h1 : gIsSt a1 = true) {a2 : Nat} (h2 : gIsSi a2 = true) (S : gSt) : Gof G F RX1 cX1_take 4 wsX1_take none (gRm 4) 0 0 (gQ G (fun x => (none, x))) 0 [(0, .ref (gad G o)), (1, .ref (gad G a1)), (2, .ref (gad G a2)), (3, .ref (gad G 44))] [] S (fX1_take o a1 a2 S) := by
  unfold fX1_take
  refine g_aload_n 0 dX1_take_0 rfl ?_
  refine g_getQ (ci := 1) (k0 := 0) (C0 := RX1) (T := TX1) (N := 4) (gIm_m hX ho) (gIm_l ho) rfl hiX1_take_1 (by decide) (List.mem_of_getElem? (i := 1) rfl) rfl dX1_take_1 ?_
  refine g_aload_n 1 dX1_take_4 rfl ?_
  refine g_cVv (ci := 7) (C0 := RX7) (T := TX7) (N := 5) (n := 1) (As := [.ref (gad G a1)]) (rest := []) hF (tX7_standLike hG hF hX hQ (gIm_s ho) h1 S) gX1_take_X7_standLike rfl (gSt_m hX (gIm_s ho)) (gSt_l (gIm_s ho)) rfl ⟨rfl, by decide +kernel, by decide +kernel, by decide +kernel⟩ rfl (gRm_ok (by decide) (by decide)) rfl (Nat.le_of_ble_eq_true rfl) dX1_take_5 (fun S_1 => ?_)
  refine g_aload_n 0 dX1_take_8 rfl ?_
  refine g_getQ (ci := 1) (k0 := 1) (C0 := RX1) (T := TX1) (N := 4) (gIm_m hX ho) (gIm_l ho) rfl hiX1_take_1 (by decide) (List.mem_of_getElem? (i := 2) rfl) rfl dX1_take_9 ?_
  refine g_aload_n 2 dX1_take_12 rfl ?_
  refine g_cVv (ci := 6) (C0 := RX6) (T := TX6) (N := 4) (n := 1) (As := [.ref (gad G a2)]) (rest := []) hF (tX6_copy hG hF hX hQ (gIm_q ho) h2 S_1) gX1_take_X6_copy rfl (gSi_m hX (gIm_q ho)) (gSi_l (gIm_q ho)) rfl ⟨rfl, by decide +kernel, by decide +kernel, by decide +kernel⟩ rfl (gRm_ok (by decide) (by decide)) rfl (Nat.le_of_ble_eq_true rfl) dX1_take_13 (fun S_2 => ?_)
  refine g_aload_n 0 dX1_take_16 rfl ?_
  refine g_aload_n 3 dX1_take_17 rfl ?_
  refine g_cVp (ci := 2) (C0 := RX2) (T := TX2) (N := 1) (n := 0) (As := []) (rest := [.ref (gad G o)]) hF (tX2_value hG hF hX hQ S_2) gX1_take_X2_value rfl (hX 44 (by decide)) rfl rfl ⟨rfl, by decide +kernel, by decide +kernel, by decide +kernel⟩ rfl (gRm_ok (by decide) (by decide)) rfl (Nat.le_of_ble_eq_true rfl) dX1_take_18 (fun v_3 => ?_)
  refine g_putI hG (ci := 1) (k0 := 2) (C0 := RX1) (T := TX1) (N := 4) (gIm_m hX ho) (gIm_l ho) rfl hiX1_take_1 (by decide) (List.mem_of_getElem? (i := 3) rfl) tyX1 tyX1_ok nmX1 rfl rfl rfl rfl dX1_take_21 ?_
  refine g_nS (fun S_4 => ?_)
  refine g_aload_n 0 dX1_take_24 rfl ?_
  refine g_iconst (v := 1) dX1_take_25 (by decide) ?_
  refine g_putI hG (ci := 1) (k0 := 3) (C0 := RX1) (T := TX1) (N := 4) (gIm_m hX ho) (gIm_l ho) rfl hiX1_take_1 (by decide) (List.mem_of_getElem? (i := 4) rfl) tyX1 tyX1_ok nmX1 rfl rfl rfl rfl dX1_take_26 ?_
  refine g_nS (fun S_5 => ?_)
  exact g_vret dX1_take_29 rfl
set_option maxRecDepth 100000 in
set_option maxHeartbeats 4000000 in
theorem tX1_take {G : gGG} {F : State → Heap → Prop} (hG : gOK G) (hF : gSb G F) (hX : gPX G) (hQ : gOQ G) {o : Nat} (ho : gIsIm o = true) {a1 : Nat} (h1 : gIsSt a1 = true) {a2 : Nat} (h2 : gIsSi a2 = true) (S : gSt) : gCt G F yX1_take wsX1_take 4 [.ref (gad G o), .ref (gad G a1), .ref (gad G a2), .ref (gad G 44)] S ((fX1_take o a1 a2 S).map (fun x => (none, x))) := g_met (by decide +kernel) rfl (Nat.le_of_ble_eq_true rfl) (tX1_take_L hG hF hX hQ ho h1 h2 S)
/-! X1_giveBack -/
theorem hiX1_giveBack_1 : ∀ w ∈ u_ws RX1 TX1 4, w ∈ wsX1_giveBack := fun _ hw => List.mem_cons_of_mem _ (List.mem_append_left _ (List.mem_append_left _ (List.mem_append_left _ (List.mem_append_right _ (hw)))))
set_option maxRecDepth 100000 in
set_option maxHeartbeats 4000000 in
theorem tX1_giveBack_L {G : gGG} {F : State → Heap → Prop} (hG : gOK G) (hF : gSb G F) (hX : gPX G) (hQ : gOQ G) {o : Nat} (ho : gIsIm o = true) {a1 : Nat} (h1 : gIsSt a1 = true) {a2 : Nat} (h2 : gIsSi a2 = true) (S : gSt) : Gof G F RX1 cX1_giveBack 4 wsX1_giveBack none (gRm 4) 0 0 (gQ G (fun x => (none, x))) 0 [(0, .ref (gad G o)), (1, .ref (gad G a1)), (2, .ref (gad G a2)), (3, .ref (gad G 44))] [] S (fX1_giveBack o a1 a2 S) := by
  unfold fX1_giveBack
  refine g_aload_n 1 dX1_giveBack_0 rfl ?_
  refine g_aload_n 0 dX1_giveBack_1 rfl ?_
  refine g_getQ (ci := 1) (k0 := 0) (C0 := RX1) (T := TX1) (N := 4) (gIm_m hX ho) (gIm_l ho) rfl hiX1_giveBack_1 (by decide) (List.mem_of_getElem? (i := 1) rfl) rfl dX1_giveBack_2 ?_
  refine g_cVv (ci := 7) (C0 := RX7) (T := TX7) (N := 5) (n := 1) (As := [.ref (gad G (o + 1))]) (rest := []) hF (tX7_standLike hG hF hX hQ h1 (gIm_s ho) S) gX1_giveBack_X7_standLike rfl (gSt_m hX h1) (gSt_l h1) rfl ⟨rfl, by decide +kernel, by decide +kernel, by decide +kernel⟩ rfl (gRm_ok (by decide) (by decide)) rfl (Nat.le_of_ble_eq_true rfl) dX1_giveBack_5 (fun S_1 => ?_)
  refine g_aload_n 2 dX1_giveBack_8 rfl ?_
  refine g_aload_n 0 dX1_giveBack_9 rfl ?_
  refine g_getQ (ci := 1) (k0 := 1) (C0 := RX1) (T := TX1) (N := 4) (gIm_m hX ho) (gIm_l ho) rfl hiX1_giveBack_1 (by decide) (List.mem_of_getElem? (i := 2) rfl) rfl dX1_giveBack_10 ?_
  refine g_cVv (ci := 6) (C0 := RX6) (T := TX6) (N := 4) (n := 1) (As := [.ref (gad G (o + 5))]) (rest := []) hF (tX6_copy hG hF hX hQ h2 (gIm_q ho) S_1) gX1_giveBack_X6_copy rfl (gSi_m hX h2) (gSi_l h2) rfl ⟨rfl, by decide +kernel, by decide +kernel, by decide +kernel⟩ rfl (gRm_ok (by decide) (by decide)) rfl (Nat.le_of_ble_eq_true rfl) dX1_giveBack_13 (fun S_2 => ?_)
  refine g_aload_n 3 dX1_giveBack_16 rfl ?_
  refine g_aload_n 0 dX1_giveBack_17 rfl ?_
  refine g_getI (ci := 1) (k0 := 2) (C0 := RX1) (T := TX1) (N := 4) (gIm_m hX ho) (gIm_l ho) rfl hiX1_giveBack_1 (by decide) (List.mem_of_getElem? (i := 3) rfl) rfl dX1_giveBack_18 ?_
  refine g_cVv (ci := 2) (C0 := RX2) (T := TX2) (N := 1) (n := 1) (As := [.int (gR S_2 o 2)]) (rest := []) hF (tX2_become hG hF hX hQ (gR S_2 o 2) S_2) gX1_giveBack_X2_become rfl (hX 44 (by decide)) rfl rfl ⟨rfl, by decide +kernel, by decide +kernel, by decide +kernel⟩ rfl (gRm_ok (by decide) (by decide)) rfl (Nat.le_of_ble_eq_true rfl) dX1_giveBack_21 (fun S_3 => ?_)
  exact g_vret dX1_giveBack_24 rfl
set_option maxRecDepth 100000 in
set_option maxHeartbeats 4000000 in
theorem tX1_giveBack {G : gGG} {F : State → Heap → Prop} (hG : gOK G) (hF : gSb G F) (hX : gPX G) (hQ : gOQ G) {o : Nat} (ho : gIsIm o = true) {a1 : Nat} (h1 : gIsSt a1 = true) {a2 : Nat} (h2 : gIsSi a2 = true) (S : gSt) : gCt G F yX1_giveBack wsX1_giveBack 4 [.ref (gad G o), .ref (gad G a1), .ref (gad G a2), .ref (gad G 44)] S ((fX1_giveBack o a1 a2 S).map (fun x => (none, x))) := g_met (by decide +kernel) rfl (Nat.le_of_ble_eq_true rfl) (tX1_giveBack_L hG hF hX hQ ho h1 h2 S)
