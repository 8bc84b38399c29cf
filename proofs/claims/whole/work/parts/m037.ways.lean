/-! X9_obey -/
theorem hiX9_obey_9 : ∀ w ∈ u_ws RX9 TX9 8, w ∈ wsX9_obey := fun _ hw => List.mem_cons_of_mem _ (List.mem_append_right _ (hw))
set_option maxRecDepth 100000 in
set_option maxHeartbeats 4000000 in
theorem tX9_obey_L {G : gGG} {F : State → Heap → Prop} (hG : gOK G) (hF : gSb G F) (hX : gPX G) (hQ : gOQ G) {a1 : Nat} (h1 : gIsRu a1 = true) (S : gSt) : Gof G F RX9 cX9_obey 2 wsX9_obey none (gRm 0) 0 0 (gQ G (fun x => (none, x))) 0 [(0, .ref (gad G 32)), (1, .ref (gad G a1))] [] S (fX9_obey a1 S) := by
  unfold fX9_obey
  refine g_aload_n 0 dX9_obey_0 rfl ?_
  refine g_aload_n 1 dX9_obey_1 rfl ?_
  refine g_putM hG (ci := 9) (k0 := 3) (C0 := RX9) (T := TX9) (N := 8) (hX 32 (by decide)) rfl rfl hiX9_obey_9 (by decide) (List.mem_of_getElem? (i := 1) rfl) tyX9 tyX9_ok nmX9 rfl (gRu_lt h1) rfl rfl rfl dX9_obey_2 ?_
  refine g_nS (fun S_1 => ?_)
  refine g_aload_n 0 dX9_obey_5 rfl ?_
  refine g_iconst (v := 0) dX9_obey_6 (by decide) ?_
  refine g_putI hG (ci := 9) (k0 := 4) (C0 := RX9) (T := TX9) (N := 8) (hX 32 (by decide)) rfl rfl hiX9_obey_9 (by decide) (List.mem_of_getElem? (i := 2) rfl) tyX9 tyX9_ok nmX9 rfl rfl rfl rfl dX9_obey_7 ?_
  refine g_nS (fun S_2 => ?_)
  exact g_vret dX9_obey_10 rfl
set_option maxRecDepth 100000 in
set_option maxHeartbeats 4000000 in
theorem tX9_obey {G : gGG} {F : State → Heap → Prop} (hG : gOK G) (hF : gSb G F) (hX : gPX G) (hQ : gOQ G) {a1 : Nat} (h1 : gIsRu a1 = true) (S : gSt) : gCt G F yX9_obey wsX9_obey 0 [.ref (gad G 32), .ref (gad G a1)] S ((fX9_obey a1 S).map (fun x => (none, x))) := g_met (by decide +kernel) rfl (Nat.le_of_ble_eq_true rfl) (tX9_obey_L hG hF hX hQ h1 S)
/-! X9_areLawful -/
theorem hiX9_areLawful_9 : ∀ w ∈ u_ws RX9 TX9 8, w ∈ wsX9_areLawful := fun _ hw => List.mem_cons_of_mem _ (List.mem_append_left _ (List.mem_append_right _ (hw)))
set_option maxRecDepth 100000 in
set_option maxHeartbeats 4000000 in
theorem tX9_areLawful_L22 {G : gGG} {F : State → Heap → Prop} (hG : gOK G) (hF : gSb G F) (hX : gPX G) (hQ : gOQ G) (S : gSt) : ∀ (n : Nat) (x1 : Int32) (x3 : Int32), Gof G F RX9 cX9_areLawful 4 wsX9_areLawful (some .boolean) (gRm 1) 0 0 (gQ G (fun x => (some (.int x), S))) 22 [(0, .ref (gad G 32)), (1, .int x1), (3, .int x3)] [] S (fX9_areLawful_L22 S n x1 x3) := by
  intro n
  induction n with
  | zero => intro x1 x3; exact g_none
  | succ n ih =>
    intro x1 x3
    unfold fX9_areLawful_L22
    refine g_iload_n 2 dX9_areLawful_22 rfl ?_
    refine g_iload_n 1 dX9_areLawful_23 rfl ?_
    refine g_icmp_ge (tgt := 61) dX9_areLawful_24 (by decide) (fun h_1 => ?_) (fun h_1 => ?_)
    · refine g_iconst (v := 1) dX9_areLawful_61 (by decide) ?_
      exact g_zret (by decide) dX9_areLawful_62 rfl
    · refine g_iload_n 2 dX9_areLawful_27 rfl ?_
      refine g_bipush (v := 8) dX9_areLawful_28 (by decide) ?_
      refine g_icmp_ge (tgt := 61) dX9_areLawful_30 (by decide) (fun h_2 => ?_) (fun h_2 => ?_)
      · refine g_iconst (v := 1) dX9_areLawful_61 (by decide) ?_
        exact g_zret (by decide) dX9_areLawful_62 rfl
      · refine g_aload_n 0 dX9_areLawful_33 rfl ?_
        refine g_getQ (ci := 9) (k0 := 2) (C0 := RX9) (T := TX9) (N := 8) (hX 32 (by decide)) rfl rfl hiX9_areLawful_9 (by decide) (List.mem_of_getElem? (i := 2) rfl) rfl dX9_areLawful_34 ?_
        refine g_iload_n 2 dX9_areLawful_37 rfl ?_
        refine g_iald hG (hX 35 (by decide)) rfl dX9_areLawful_38 ?_
        refine g_cSp (n := 1) (As := [.int (gR S 35 (gN x3))]) (rest := []) hF (tJ6_bitCount_0f7a4 (gR S 35 (gN x3)) S) gX9_areLawful_J6_bitCount_0f7a4 rfl ⟨by decide +kernel, by decide +kernel, by decide +kernel⟩ rfl (gRm_ok (by decide) (by decide)) rfl (Nat.le_of_ble_eq_true rfl) dX9_areLawful_39 (fun v_1 => ?_)
        refine g_aload_n 0 dX9_areLawful_42 rfl ?_
        refine g_gC (fun h_3 => ?_)
        refine g_getM (ci := 9) (k0 := 3) (C0 := RX9) (T := TX9) (N := 8) (hX 32 (by decide)) rfl rfl hiX9_areLawful_9 (by decide) (List.mem_of_getElem? (i := 1) rfl) rfl dX9_areLawful_43 ?_
        refine g_iconst (v := 1) dX9_areLawful_46 (by decide) ?_
        refine g_cVp (ci := 5) (C0 := RX5) (T := TX5) (N := 6) (n := 1) (As := [.int 1]) (rest := [.int v_1]) hF (tX5_lawOf hG hF hX hQ h_3 1 S) gX9_areLawful_X5_lawOf rfl (gRu_m hX h_3) (gRu_l h_3) rfl ⟨rfl, by decide +kernel, by decide +kernel, by decide +kernel⟩ rfl (gRm_ok (by decide) (by decide)) rfl (Nat.le_of_ble_eq_true rfl) dX9_areLawful_47 (fun v_2 => ?_)
        refine g_icmp_ge (tgt := 55) dX9_areLawful_50 (by decide) (fun h_4 => ?_) (fun h_4 => ?_)
        · refine g_iinc 2 (v := (x3 + 1)) (env' := [(3, .int (x3 + 1)), (0, .ref (gad G 32)), (1, .int x1)]) dX9_areLawful_55 rfl rfl (by decide) rfl ?_
          refine g_goto (tgt := 22) dX9_areLawful_58 (by decide) ?_
          refine g_env (env' := [(0, .ref (gad G 32)), (1, .int x1), (3, .int (x3 + 1))]) [1, 2, 0] rfl ?_
          exact ih x1 (x3 + 1)
        · refine g_iconst (v := 0) dX9_areLawful_53 (by decide) ?_
          exact g_zret (by decide) dX9_areLawful_54 rfl
set_option maxRecDepth 100000 in
set_option maxHeartbeats 4000000 in
theorem tX9_areLawful_L {G : gGG} {F : State → Heap → Prop} (hG : gOK G) (hF : gSb G F) (hX : gPX G) (hQ : gOQ G) (a1 : Int32) (S : gSt) : Gof G F RX9 cX9_areLawful 4 wsX9_areLawful (some .boolean) (gRm 1) 0 0 (gQ G (fun x => (some (.int x), S))) 0 [(0, .ref (gad G 32)), (1, .int a1)] [] S (fX9_areLawful a1 S) := by
  unfold fX9_areLawful
  refine g_aload_n 0 dX9_areLawful_0 rfl ?_
  refine g_gC (fun h_1 => ?_)
  refine g_getM (ci := 9) (k0 := 3) (C0 := RX9) (T := TX9) (N := 8) (hX 32 (by decide)) rfl rfl hiX9_areLawful_9 (by decide) (List.mem_of_getElem? (i := 1) rfl) rfl dX9_areLawful_1 ?_
  refine g_iconst (v := 0) dX9_areLawful_4 (by decide) ?_
  refine g_cVp (ci := 5) (C0 := RX5) (T := TX5) (N := 6) (n := 1) (As := [.int 0]) (rest := []) hF (tX5_lawOf hG hF hX hQ h_1 0 S) gX9_areLawful_X5_lawOf rfl (gRu_m hX h_1) (gRu_l h_1) rfl ⟨rfl, by decide +kernel, by decide +kernel, by decide +kernel⟩ rfl (gRm_ok (by decide) (by decide)) rfl (Nat.le_of_ble_eq_true rfl) dX9_areLawful_5 (fun v_1 => ?_)
  refine g_istore_n (i := 2) (env' := [(2, .int v_1), (0, .ref (gad G 32)), (1, .int a1)]) dX9_areLawful_8 rfl (by decide) rfl ?_
  refine g_iload_n 0 dX9_areLawful_9 rfl ?_
  refine g_if_eq (tgt := 20) dX9_areLawful_10 (by decide) (fun h_2 => ?_) (fun h_2 => ?_)
  · refine g_iconst (v := 0) dX9_areLawful_20 (by decide) ?_
    refine g_istore_n (i := 3) (env' := [(3, .int 0), (2, .int v_1), (0, .ref (gad G 32)), (1, .int a1)]) dX9_areLawful_21 rfl (by decide) rfl ?_
    refine g_env (env' := [(0, .ref (gad G 32)), (1, .int a1), (3, .int 0)]) [2, 3, 0] rfl ?_
    exact tX9_areLawful_L22 hG hF hX hQ S gFU a1 0
  · refine g_iload_n 0 dX9_areLawful_13 rfl ?_
    refine g_iload_n 2 dX9_areLawful_14 rfl ?_
    refine g_icmp_eq (tgt := 20) dX9_areLawful_15 (by decide) (fun h_3 => ?_) (fun h_3 => ?_)
    · refine g_iconst (v := 0) dX9_areLawful_20 (by decide) ?_
      refine g_istore_n (i := 3) (env' := [(3, .int 0), (2, .int v_1), (0, .ref (gad G 32)), (1, .int a1)]) dX9_areLawful_21 rfl (by decide) rfl ?_
      refine g_env (env' := [(0, .ref (gad G 32)), (1, .int a1), (3, .int 0)]) [2, 3, 0] rfl ?_
      exact tX9_areLawful_L22 hG hF hX hQ S gFU a1 0
    · refine g_iconst (v := 0) dX9_areLawful_18 (by decide) ?_
      exact g_zret (by decide) dX9_areLawful_19 rfl
set_option maxRecDepth 100000 in
set_option maxHeartbeats 4000000 in
theorem tX9_areLawful {G : gGG} {F : State → Heap → Prop} (hG : gOK G) (hF : gSb G F) (hX : gPX G) (hQ : gOQ G) (a1 : Int32) (S : gSt) : gCt G F yX9_areLawful wsX9_areLawful 1 [.ref (gad G 32), .int a1] S ((fX9_areLawful a1 S).map (fun x => (some (.int x), S))) := g_met (by decide +kernel) rfl (Nat.le_of_ble_eq_true rfl) (tX9_areLawful_L hG hF hX hQ a1 S)
/-! X9_accept -/
theorem hiX9_accept_9 : ∀ w ∈ u_ws RX9 TX9 8, w ∈ wsX9_accept := fun _ hw => List.mem_cons_of_mem _ (List.mem_append_left _ (List.mem_append_right _ (hw)))
set_option maxRecDepth 100000 in
set_option maxHeartbeats 4000000 in
theorem tX9_accept_L44 {G : gGG} {F : State → Heap → Prop} (hG : gOK G) (hF : gSb G F) (hX : gPX G) (hQ : gOQ G) (x1 : Int32) (x2 : Int32) (S : gSt) : Gof G F RX9 cX9_accept 4 wsX9_accept none (gRm 2) 0 0 (gQ G (fun x => (none, x))) 44 [(0, .ref (gad G 32)), (1, .int x1), (2, .int x2)] [] S (fX9_accept_L44 x1 x2 S) := by
  unfold fX9_accept_L44
  refine g_aload_n 0 dX9_accept_44 rfl ?_
  refine g_getQ (ci := 9) (k0 := 0) (C0 := RX9) (T := TX9) (N := 8) (hX 32 (by decide)) rfl rfl hiX9_accept_9 (by decide) (List.mem_of_getElem? (i := 4) rfl) rfl dX9_accept_45 ?_
  refine g_aload_n 0 dX9_accept_48 rfl ?_
  refine g_getI (ci := 9) (k0 := 5) (C0 := RX9) (T := TX9) (N := 8) (hX 32 (by decide)) rfl rfl hiX9_accept_9 (by decide) (List.mem_of_getElem? (i := 1) rfl) rfl dX9_accept_49 ?_
  refine g_iload_n 2 dX9_accept_52 rfl ?_
  refine g_iast hG (hX 33 (by decide)) rfl dX9_accept_53 ?_
  refine g_nS (fun S_1 => ?_)
  refine g_aload_n 0 dX9_accept_54 rfl ?_
  refine g_dup dX9_accept_55 rfl ?_
  refine g_getI (ci := 9) (k0 := 5) (C0 := RX9) (T := TX9) (N := 8) (hX 32 (by decide)) rfl rfl hiX9_accept_9 (by decide) (List.mem_of_getElem? (i := 1) rfl) rfl dX9_accept_56 ?_
  refine g_iconst (v := 1) dX9_accept_59 (by decide) ?_
  refine g_iadd dX9_accept_60 ?_
  refine g_putI hG (ci := 9) (k0 := 5) (C0 := RX9) (T := TX9) (N := 8) (hX 32 (by decide)) rfl rfl hiX9_accept_9 (by decide) (List.mem_of_getElem? (i := 1) rfl) tyX9 tyX9_ok nmX9 rfl rfl rfl rfl dX9_accept_61 ?_
  refine g_nS (fun S_2 => ?_)
  refine g_iload_n 1 dX9_accept_64 rfl ?_
  refine g_aload_n 0 dX9_accept_65 rfl ?_
  refine g_getQ (ci := 9) (k0 := 1) (C0 := RX9) (T := TX9) (N := 8) (hX 32 (by decide)) rfl rfl hiX9_accept_9 (by decide) (List.mem_of_getElem? (i := 5) rfl) rfl dX9_accept_66 ?_
  refine g_alen (t0 := 0) (v := 9) hG.2.2.1 (hX 34 (by decide)) (gEnt_I rfl) (by first | rfl | decide) dX9_accept_69 ?_
  refine g_icmp_ge (tgt := 83) dX9_accept_70 (by decide) (fun h_1 => ?_) (fun h_1 => ?_)
  · exact g_vret dX9_accept_83 rfl
  · refine g_aload_n 0 dX9_accept_73 rfl ?_
    refine g_getQ (ci := 9) (k0 := 1) (C0 := RX9) (T := TX9) (N := 8) (hX 32 (by decide)) rfl rfl hiX9_accept_9 (by decide) (List.mem_of_getElem? (i := 5) rfl) rfl dX9_accept_74 ?_
    refine g_iload_n 1 dX9_accept_77 rfl ?_
    refine g_dup2 dX9_accept_78 rfl rfl ?_
    refine g_iald hG (hX 34 (by decide)) rfl dX9_accept_79 ?_
    refine g_iconst (v := 1) dX9_accept_80 (by decide) ?_
    refine g_iadd dX9_accept_81 ?_
    refine g_iast hG (hX 34 (by decide)) rfl dX9_accept_82 ?_
    refine g_nS (fun S_3 => ?_)
    exact g_vret dX9_accept_83 rfl
set_option maxRecDepth 100000 in
set_option maxHeartbeats 4000000 in
theorem tX9_accept_L {G : gGG} {F : State → Heap → Prop} (hG : gOK G) (hF : gSb G F) (hX : gPX G) (hQ : gOQ G) (a1 : Int32) (a2 : Int32) (a3 : Int32) (S : gSt) : Gof G F RX9 cX9_accept 4 wsX9_accept none (gRm 2) 0 0 (gQ G (fun x => (none, x))) 0 [(0, .ref (gad G 32)), (1, .int a1), (2, .int a2), (3, .int a3)] [] S (fX9_accept a1 a2 a3 S) := by
  unfold fX9_accept
  refine g_aload_n 0 dX9_accept_0 rfl ?_
  refine g_iload_n 1 dX9_accept_1 rfl ?_
  refine g_cVp (ci := 9) (C0 := RX9) (T := TX9) (N := 8) (n := 1) (As := [.int a1]) (rest := []) hF (tX9_areLawful hG hF hX hQ a1 S) gX9_accept_X9_areLawful rfl (hX 32 (by decide)) rfl rfl ⟨rfl, by decide +kernel, by decide +kernel, by decide +kernel⟩ rfl (gRm_ok (by decide) (by decide)) rfl (Nat.le_of_ble_eq_true rfl) dX9_accept_2 (fun v_1 => ?_)
  refine g_if_eq (tgt := 18) dX9_accept_5 (by decide) (fun h_1 => ?_) (fun h_1 => ?_)
  · exact g_vret dX9_accept_18 rfl
  · refine g_aload_n 0 dX9_accept_8 rfl ?_
    refine g_getI (ci := 9) (k0 := 5) (C0 := RX9) (T := TX9) (N := 8) (hX 32 (by decide)) rfl rfl hiX9_accept_9 (by decide) (List.mem_of_getElem? (i := 1) rfl) rfl dX9_accept_9 ?_
    refine g_sipush (v := 4140) dX9_accept_12 (by decide) ?_
    refine g_icmp_lt (tgt := 19) dX9_accept_15 (by decide) (fun h_2 => ?_) (fun h_2 => ?_)
    · refine g_aload_n 0 dX9_accept_19 rfl ?_
      refine g_getI (ci := 9) (k0 := 5) (C0 := RX9) (T := TX9) (N := 8) (hX 32 (by decide)) rfl rfl hiX9_accept_9 (by decide) (List.mem_of_getElem? (i := 1) rfl) rfl dX9_accept_20 ?_
      refine g_if_eq (tgt := 34) dX9_accept_23 (by decide) (fun h_3 => ?_) (fun h_3 => ?_)
      · refine g_aload_n 0 dX9_accept_34 rfl ?_
        refine g_iload_n 3 dX9_accept_35 rfl ?_
        refine g_putI hG (ci := 9) (k0 := 6) (C0 := RX9) (T := TX9) (N := 8) (hX 32 (by decide)) rfl rfl hiX9_accept_9 (by decide) (List.mem_of_getElem? (i := 2) rfl) tyX9 tyX9_ok nmX9 rfl rfl rfl rfl dX9_accept_36 ?_
        refine g_nS (fun S_2 => ?_)
        refine g_aload_n 0 dX9_accept_39 rfl ?_
        refine g_iload_n 2 dX9_accept_40 rfl ?_
        refine g_putI hG (ci := 9) (k0 := 7) (C0 := RX9) (T := TX9) (N := 8) (hX 32 (by decide)) rfl rfl hiX9_accept_9 (by decide) (List.mem_of_getElem? (i := 3) rfl) tyX9 tyX9_ok nmX9 rfl rfl rfl rfl dX9_accept_41 ?_
        refine g_nS (fun S_3 => ?_)
        refine g_env (env' := [(0, .ref (gad G 32)), (1, .int a1), (2, .int a2)]) [0, 1, 2] rfl ?_
        exact tX9_accept_L44 hG hF hX hQ a1 a2 S_3
      · refine g_iload_n 3 dX9_accept_26 rfl ?_
        refine g_aload_n 0 dX9_accept_27 rfl ?_
        refine g_getI (ci := 9) (k0 := 6) (C0 := RX9) (T := TX9) (N := 8) (hX 32 (by decide)) rfl rfl hiX9_accept_9 (by decide) (List.mem_of_getElem? (i := 2) rfl) rfl dX9_accept_28 ?_
        refine g_icmp_le (tgt := 44) dX9_accept_31 (by decide) (fun h_4 => ?_) (fun h_4 => ?_)
        · refine g_env (env' := [(0, .ref (gad G 32)), (1, .int a1), (2, .int a2)]) [0, 1, 2] rfl ?_
          exact tX9_accept_L44 hG hF hX hQ a1 a2 S
        · refine g_aload_n 0 dX9_accept_34 rfl ?_
          refine g_iload_n 3 dX9_accept_35 rfl ?_
          refine g_putI hG (ci := 9) (k0 := 6) (C0 := RX9) (T := TX9) (N := 8) (hX 32 (by decide)) rfl rfl hiX9_accept_9 (by decide) (List.mem_of_getElem? (i := 2) rfl) tyX9 tyX9_ok nmX9 rfl rfl rfl rfl dX9_accept_36 ?_
          refine g_nS (fun S_4 => ?_)
          refine g_aload_n 0 dX9_accept_39 rfl ?_
          refine g_iload_n 2 dX9_accept_40 rfl ?_
          refine g_putI hG (ci := 9) (k0 := 7) (C0 := RX9) (T := TX9) (N := 8) (hX 32 (by decide)) rfl rfl hiX9_accept_9 (by decide) (List.mem_of_getElem? (i := 3) rfl) tyX9 tyX9_ok nmX9 rfl rfl rfl rfl dX9_accept_41 ?_
          refine g_nS (fun S_5 => ?_)
          refine g_env (env' := [(0, .ref (gad G 32)), (1, .int a1), (2, .int a2)]) [0, 1, 2] rfl ?_
          exact tX9_accept_L44 hG hF hX hQ a1 a2 S_5
    · exact g_vret dX9_accept_18 rfl
set_option maxRecDepth 100000 in
set_option maxHeartbeats 4000000 in
theorem tX9_accept {G : gGG} {F : State → Heap → Prop} (hG : gOK G) (hF : gSb G F) (hX : gPX G) (hQ : gOQ G) (a1 : Int32) (a2 : Int32) (a3 : Int32) (S : gSt) : gCt G F yX9_accept wsX9_accept 2 [.ref (gad G 32), .int a1, .int a2, .int a3] S ((fX9_accept a1 a2 a3 S).map (fun x => (none, x))) := g_met (by decide +kernel) rfl (Nat.le_of_ble_eq_true rfl) (tX9_accept_L hG hF hX hQ a1 a2 a3 S)
/-! X9_isSurrounded -/
theorem hiX9_isSurrounded_9 : ∀ w ∈ u_ws RX9 TX9 8, w ∈ wsX9_isSurrounded := fun _ hw => List.mem_cons_of_mem _ (List.mem_append_right _ (hw))
set_option maxRecDepth 100000 in
set_option maxHeartbeats 4000000 in
theorem tX9_isSurrounded_L10 {G : gGG} {F : State → Heap → Prop} (hG : gOK G) (hF : gSb G F) (hX : gPX G) (hQ : gOQ G) (S : gSt) : ∀ (n : Nat) (x2 : Int32) (x3 : Int32) (x4 : Int32) (x5 : Int32), Gof G F RX9 cX9_isSurrounded 6 wsX9_isSurrounded (some .boolean) (gRm 0) 0 0 (gQ G (fun x => (some (.int x), S))) 10 [(0, .ref (gad G 32)), (2, .int x2), (3, .int x3), (4, .int x4), (5, .int x5)] [] S (fX9_isSurrounded_L10 S n x2 x3 x4 x5) := by
  intro n
  induction n with
  | zero => intro x2 x3 x4 x5; exact g_none
  | succ n ih =>
    intro x2 x3 x4 x5
    unfold fX9_isSurrounded_L10
    refine g_iload 4 dX9_isSurrounded_10 rfl ?_
    refine g_iload_n 2 dX9_isSurrounded_12 rfl ?_
    refine g_icmp_ge (tgt := 65) dX9_isSurrounded_13 (by decide) (fun h_1 => ?_) (fun h_1 => ?_)
    · refine g_iconst (v := 0) dX9_isSurrounded_65 (by decide) ?_
      exact g_zret (by decide) dX9_isSurrounded_66 rfl
    · refine g_iload 4 dX9_isSurrounded_16 rfl ?_
      refine g_bipush (v := 8) dX9_isSurrounded_18 (by decide) ?_
      refine g_icmp_ge (tgt := 65) dX9_isSurrounded_20 (by decide) (fun h_2 => ?_) (fun h_2 => ?_)
      · refine g_iconst (v := 0) dX9_isSurrounded_65 (by decide) ?_
        exact g_zret (by decide) dX9_isSurrounded_66 rfl
      · refine g_iload 4 dX9_isSurrounded_23 rfl ?_
        refine g_iload_n 1 dX9_isSurrounded_25 rfl ?_
        refine g_icmp_eq (tgt := 59) dX9_isSurrounded_26 (by decide) (fun h_3 => ?_) (fun h_3 => ?_)
        · refine g_iinc 4 (v := (x5 + 1)) (env' := [(5, .int (x5 + 1)), (0, .ref (gad G 32)), (2, .int x2), (3, .int x3), (4, .int x4)]) dX9_isSurrounded_59 rfl rfl (by decide) rfl ?_
          refine g_goto (tgt := 10) dX9_isSurrounded_62 (by decide) ?_
          refine g_env (env' := [(0, .ref (gad G 32)), (2, .int x2), (3, .int x3), (4, .int x4), (5, .int (x5 + 1))]) [1, 2, 3, 4, 0] rfl ?_
          exact ih x2 x3 x4 (x5 + 1)
        · refine g_aload_n 0 dX9_isSurrounded_29 rfl ?_
          refine g_getQ (ci := 9) (k0 := 2) (C0 := RX9) (T := TX9) (N := 8) (hX 32 (by decide)) rfl rfl hiX9_isSurrounded_9 (by decide) (List.mem_of_getElem? (i := 1) rfl) rfl dX9_isSurrounded_30 ?_
          refine g_iload 4 dX9_isSurrounded_33 rfl ?_
          refine g_iald hG (hX 35 (by decide)) rfl dX9_isSurrounded_35 ?_
          refine g_iload 3 dX9_isSurrounded_36 rfl ?_
          refine g_iand dX9_isSurrounded_38 ?_
          refine g_if_eq (tgt := 59) dX9_isSurrounded_39 (by decide) (fun h_4 => ?_) (fun h_4 => ?_)
          · refine g_iinc 4 (v := (x5 + 1)) (env' := [(5, .int (x5 + 1)), (0, .ref (gad G 32)), (2, .int x2), (3, .int x3), (4, .int x4)]) dX9_isSurrounded_59 rfl rfl (by decide) rfl ?_
            refine g_goto (tgt := 10) dX9_isSurrounded_62 (by decide) ?_
            refine g_env (env' := [(0, .ref (gad G 32)), (2, .int x2), (3, .int x3), (4, .int x4), (5, .int (x5 + 1))]) [1, 2, 3, 4, 0] rfl ?_
            exact ih x2 x3 x4 (x5 + 1)
          · refine g_aload_n 0 dX9_isSurrounded_42 rfl ?_
            refine g_getQ (ci := 9) (k0 := 2) (C0 := RX9) (T := TX9) (N := 8) (hX 32 (by decide)) rfl rfl hiX9_isSurrounded_9 (by decide) (List.mem_of_getElem? (i := 1) rfl) rfl dX9_isSurrounded_43 ?_
            refine g_iload 4 dX9_isSurrounded_46 rfl ?_
            refine g_iald hG (hX 35 (by decide)) rfl dX9_isSurrounded_48 ?_
            refine g_iload 3 dX9_isSurrounded_49 rfl ?_
            refine g_iconst (v := (-1)) dX9_isSurrounded_51 (by decide) ?_
            refine g_ixor dX9_isSurrounded_52 ?_
            refine g_iand dX9_isSurrounded_53 ?_
            refine g_if_eq (tgt := 59) dX9_isSurrounded_54 (by decide) (fun h_5 => ?_) (fun h_5 => ?_)
            · refine g_iinc 4 (v := (x5 + 1)) (env' := [(5, .int (x5 + 1)), (0, .ref (gad G 32)), (2, .int x2), (3, .int x3), (4, .int x4)]) dX9_isSurrounded_59 rfl rfl (by decide) rfl ?_
              refine g_goto (tgt := 10) dX9_isSurrounded_62 (by decide) ?_
              refine g_env (env' := [(0, .ref (gad G 32)), (2, .int x2), (3, .int x3), (4, .int x4), (5, .int (x5 + 1))]) [1, 2, 3, 4, 0] rfl ?_
              exact ih x2 x3 x4 (x5 + 1)
            · refine g_iconst (v := 1) dX9_isSurrounded_57 (by decide) ?_
              exact g_zret (by decide) dX9_isSurrounded_58 rfl
set_option maxRecDepth 100000 in
set_option maxHeartbeats 4000000 in
theorem tX9_isSurrounded_L {G : gGG} {F : State → Heap → Prop} (hG : gOK G) (hF : gSb G F) (hX : gPX G) (hQ : gOQ G) (a1 : Int32) (a2 : Int32) (a3 : Int32) (S : gSt) : Gof G F RX9 cX9_isSurrounded 6 wsX9_isSurrounded (some .boolean) (gRm 0) 0 0 (gQ G (fun x => (some (.int x), S))) 0 [(0, .ref (gad G 32)), (1, .int a1), (2, .int a2), (3, .int a3)] [] S (fX9_isSurrounded a1 a2 a3 S) := by
  unfold fX9_isSurrounded
  refine g_iconst (v := 1) dX9_isSurrounded_0 (by decide) ?_
  refine g_iload_n 1 dX9_isSurrounded_1 rfl ?_
  refine g_ishl dX9_isSurrounded_2 ?_
  refine g_iconst (v := 1) dX9_isSurrounded_3 (by decide) ?_
  refine g_isub dX9_isSurrounded_4 ?_
  refine g_nI (fun v_1 => ?_)
  refine g_istore (i := 4) (env' := [(4, .int v_1), (0, .ref (gad G 32)), (1, .int a1), (2, .int a2), (3, .int a3)]) dX9_isSurrounded_5 (by decide) rfl ?_
  refine g_iconst (v := 0) dX9_isSurrounded_7 (by decide) ?_
  refine g_istore (i := 5) (env' := [(5, .int 0), (4, .int v_1), (0, .ref (gad G 32)), (1, .int a1), (2, .int a2), (3, .int a3)]) dX9_isSurrounded_8 (by decide) rfl ?_
  refine g_env (env' := [(0, .ref (gad G 32)), (2, .int a2), (3, .int a3), (4, .int v_1), (5, .int 0)]) [2, 4, 5, 1, 0] rfl ?_
  exact tX9_isSurrounded_L10 hG hF hX hQ S gFU a2 a3 v_1 0
set_option maxRecDepth 100000 in
set_option maxHeartbeats 4000000 in
theorem tX9_isSurrounded {G : gGG} {F : State → Heap → Prop} (hG : gOK G) (hF : gSb G F) (hX : gPX G) (hQ : gOQ G) (a1 : Int32) (a2 : Int32) (a3 : Int32) (S : gSt) : gCt G F yX9_isSurrounded wsX9_isSurrounded 0 [.ref (gad G 32), .int a1, .int a2, .int a3] S ((fX9_isSurrounded a1 a2 a3 S).map (fun x => (some (.int x), S))) := g_met (by decide +kernel) rfl (Nat.le_of_ble_eq_true rfl) (tX9_isSurrounded_L hG hF hX hQ a1 a2 a3 S)
/-! X9_comesAcross -/
theorem hiX9_comesAcross_9 : ∀ w ∈ u_ws RX9 TX9 8, w ∈ wsX9_comesAcross := fun _ hw => List.mem_cons_of_mem _ (List.mem_append_right _ (hw))
set_option maxRecDepth 100000 in
set_option maxHeartbeats 4000000 in
theorem tX9_comesAcross_L2 {G : gGG} {F : State → Heap → Prop} (hG : gOK G) (hF : gSb G F) (hX : gPX G) (hQ : gOQ G) (S : gSt) : ∀ (n : Nat) (x1 : Int32) (x2 : Int32) (x3 : Int32), Gof G F RX9 cX9_comesAcross 4 wsX9_comesAcross (some .boolean) (gRm 1) 0 0 (gQ G (fun x => (some (.int x), S))) 2 [(0, .ref (gad G 32)), (1, .int x1), (2, .int x2), (3, .int x3)] [] S (fX9_comesAcross_L2 S n x1 x2 x3) := by
  intro n
  induction n with
  | zero => intro x1 x2 x3; exact g_none
  | succ n ih =>
    intro x1 x2 x3
    unfold fX9_comesAcross_L2
    refine g_iload_n 3 dX9_comesAcross_2 rfl ?_
    refine g_bipush (v := 8) dX9_comesAcross_3 (by decide) ?_
    refine g_icmp_ge (tgt := 39) dX9_comesAcross_5 (by decide) (fun h_1 => ?_) (fun h_1 => ?_)
    · refine g_iconst (v := 0) dX9_comesAcross_39 (by decide) ?_
      exact g_zret (by decide) dX9_comesAcross_40 rfl
    · refine g_aload_n 0 dX9_comesAcross_8 rfl ?_
      refine g_getQ (ci := 9) (k0 := 2) (C0 := RX9) (T := TX9) (N := 8) (hX 32 (by decide)) rfl rfl hiX9_comesAcross_9 (by decide) (List.mem_of_getElem? (i := 1) rfl) rfl dX9_comesAcross_9 ?_
      refine g_iload_n 1 dX9_comesAcross_12 rfl ?_
      refine g_iald hG (hX 35 (by decide)) rfl dX9_comesAcross_13 ?_
      refine g_iconst (v := 1) dX9_comesAcross_14 (by decide) ?_
      refine g_iload_n 3 dX9_comesAcross_15 rfl ?_
      refine g_ishl dX9_comesAcross_16 ?_
      refine g_iand dX9_comesAcross_17 ?_
      refine g_if_eq (tgt := 33) dX9_comesAcross_18 (by decide) (fun h_2 => ?_) (fun h_2 => ?_)
      · refine g_iinc 3 (v := (x3 + 1)) (env' := [(3, .int (x3 + 1)), (0, .ref (gad G 32)), (1, .int x1), (2, .int x2)]) dX9_comesAcross_33 rfl rfl (by decide) rfl ?_
        refine g_goto (tgt := 2) dX9_comesAcross_36 (by decide) ?_
        refine g_env (env' := [(0, .ref (gad G 32)), (1, .int x1), (2, .int x2), (3, .int (x3 + 1))]) [1, 2, 3, 0] rfl ?_
        exact ih x1 x2 (x3 + 1)
      · refine g_aload_n 0 dX9_comesAcross_21 rfl ?_
        refine g_iload_n 3 dX9_comesAcross_22 rfl ?_
        refine g_iload_n 1 dX9_comesAcross_23 rfl ?_
        refine g_iload_n 2 dX9_comesAcross_24 rfl ?_
        refine g_cVp (ci := 9) (C0 := RX9) (T := TX9) (N := 8) (n := 3) (As := [.int x3, .int x1, .int x2]) (rest := []) hF (tX9_isSurrounded hG hF hX hQ x3 x1 x2 S) gX9_comesAcross_X9_isSurrounded rfl (hX 32 (by decide)) rfl rfl ⟨rfl, by decide +kernel, by decide +kernel, by decide +kernel⟩ rfl (gRm_ok (by decide) (by decide)) rfl (Nat.le_of_ble_eq_true rfl) dX9_comesAcross_25 (fun v_1 => ?_)
        refine g_if_eq (tgt := 33) dX9_comesAcross_28 (by decide) (fun h_3 => ?_) (fun h_3 => ?_)
        · refine g_iinc 3 (v := (x3 + 1)) (env' := [(3, .int (x3 + 1)), (0, .ref (gad G 32)), (1, .int x1), (2, .int x2)]) dX9_comesAcross_33 rfl rfl (by decide) rfl ?_
          refine g_goto (tgt := 2) dX9_comesAcross_36 (by decide) ?_
          refine g_env (env' := [(0, .ref (gad G 32)), (1, .int x1), (2, .int x2), (3, .int (x3 + 1))]) [1, 2, 3, 0] rfl ?_
          exact ih x1 x2 (x3 + 1)
        · refine g_iconst (v := 1) dX9_comesAcross_31 (by decide) ?_
          exact g_zret (by decide) dX9_comesAcross_32 rfl
set_option maxRecDepth 100000 in
set_option maxHeartbeats 4000000 in
theorem tX9_comesAcross_L {G : gGG} {F : State → Heap → Prop} (hG : gOK G) (hF : gSb G F) (hX : gPX G) (hQ : gOQ G) (a1 : Int32) (a2 : Int32) (S : gSt) : Gof G F RX9 cX9_comesAcross 4 wsX9_comesAcross (some .boolean) (gRm 1) 0 0 (gQ G (fun x => (some (.int x), S))) 0 [(0, .ref (gad G 32)), (1, .int a1), (2, .int a2)] [] S (fX9_comesAcross a1 a2 S) := by
  unfold fX9_comesAcross
  refine g_iconst (v := 0) dX9_comesAcross_0 (by decide) ?_
  refine g_istore_n (i := 3) (env' := [(3, .int 0), (0, .ref (gad G 32)), (1, .int a1), (2, .int a2)]) dX9_comesAcross_1 rfl (by decide) rfl ?_
  refine g_env (env' := [(0, .ref (gad G 32)), (1, .int a1), (2, .int a2), (3, .int 0)]) [1, 2, 3, 0] rfl ?_
  exact tX9_comesAcross_L2 hG hF hX hQ S gFU a1 a2 0
set_option maxRecDepth 100000 in
set_option maxHeartbeats 4000000 in
theorem tX9_comesAcross {G : gGG} {F : State → Heap → Prop} (hG : gOK G) (hF : gSb G F) (hX : gPX G) (hQ : gOQ G) (a1 : Int32) (a2 : Int32) (S : gSt) : gCt G F yX9_comesAcross wsX9_comesAcross 1 [.ref (gad G 32), .int a1, .int a2] S ((fX9_comesAcross a1 a2 S).map (fun x => (some (.int x), S))) := g_met (by decide +kernel) rfl (Nat.le_of_ble_eq_true rfl) (tX9_comesAcross_L hG hF hX hQ a1 a2 S)
/-! X9_mayStand -/
theorem hiX9_mayStand_9 : ∀ w ∈ u_ws RX9 TX9 8, w ∈ wsX9_mayStand := fun _ hw => List.mem_cons_of_mem _ (List.mem_append_left _ (List.mem_append_right _ (hw)))
set_option maxRecDepth 100000 in
set_option maxHeartbeats 4000000 in
theorem tX9_mayStand_L31 {G : gGG} {F : State → Heap → Prop} (hG : gOK G) (hF : gSb G F) (hX : gPX G) (hQ : gOQ G) (S : gSt) (x1 : Int32) (x2 : Int32) (x3 : Int32) : Gof G F RX9 cX9_mayStand 5 wsX9_mayStand (some .boolean) (gRm 2) 0 0 (gQ G (fun x => (some (.int x), S))) 31 [(0, .ref (gad G 32)), (1, .int x1), (2, .int x2), (3, .int x3)] [] S (fX9_mayStand_L31 S x1 x2 x3) := by
  unfold fX9_mayStand_L31
  refine g_aload_n 0 dX9_mayStand_31 rfl ?_
  refine g_gC (fun h_1 => ?_)
  refine g_getM (ci := 9) (k0 := 3) (C0 := RX9) (T := TX9) (N := 8) (hX 32 (by decide)) rfl rfl hiX9_mayStand_9 (by decide) (List.mem_of_getElem? (i := 1) rfl) rfl dX9_mayStand_32 ?_
  refine g_iload_n 1 dX9_mayStand_35 rfl ?_
  refine g_aload_n 0 dX9_mayStand_36 rfl ?_
  refine g_getQ (ci := 9) (k0 := 2) (C0 := RX9) (T := TX9) (N := 8) (hX 32 (by decide)) rfl rfl hiX9_mayStand_9 (by decide) (List.mem_of_getElem? (i := 2) rfl) rfl dX9_mayStand_37 ?_
  refine g_iload_n 2 dX9_mayStand_40 rfl ?_
  refine g_iald hG (hX 35 (by decide)) rfl dX9_mayStand_41 ?_
  refine g_cVp (ci := 5) (C0 := RX5) (T := TX5) (N := 6) (n := 2) (As := [.int x1, .int (gR S 35 (gN x2))]) (rest := []) hF (tX5_mayCome hG hF hX hQ h_1 x1 (gR S 35 (gN x2)) S) gX9_mayStand_X5_mayCome rfl (gRu_m hX h_1) (gRu_l h_1) rfl ⟨rfl, by decide +kernel, by decide +kernel, by decide +kernel⟩ rfl (gRm_ok (by decide) (by decide)) rfl (Nat.le_of_ble_eq_true rfl) dX9_mayStand_42 (fun v_1 => ?_)
  refine g_if_ne (tgt := 50) dX9_mayStand_45 (by decide) (fun h_2 => ?_) (fun h_2 => ?_)
  · refine g_aload_n 0 dX9_mayStand_50 rfl ?_
    refine g_gC (fun h_3 => ?_)
    refine g_getM (ci := 9) (k0 := 3) (C0 := RX9) (T := TX9) (N := 8) (hX 32 (by decide)) rfl rfl hiX9_mayStand_9 (by decide) (List.mem_of_getElem? (i := 1) rfl) rfl dX9_mayStand_51 ?_
    refine g_iconst (v := 4) dX9_mayStand_54 (by decide) ?_
    refine g_cVp (ci := 5) (C0 := RX5) (T := TX5) (N := 6) (n := 1) (As := [.int 4]) (rest := []) hF (tX5_lawOf hG hF hX hQ h_3 4 S) gX9_mayStand_X5_lawOf rfl (gRu_m hX h_3) (gRu_l h_3) rfl ⟨rfl, by decide +kernel, by decide +kernel, by decide +kernel⟩ rfl (gRm_ok (by decide) (by decide)) rfl (Nat.le_of_ble_eq_true rfl) dX9_mayStand_55 (fun v_2 => ?_)
    refine g_if_eq (tgt := 70) dX9_mayStand_58 (by decide) (fun h_4 => ?_) (fun h_4 => ?_)
    · refine g_iconst (v := 1) dX9_mayStand_70 (by decide) ?_
      refine g_goto (tgt := 75) dX9_mayStand_71 (by decide) ?_
      exact g_zret (by decide) dX9_mayStand_75 rfl
    · refine g_aload_n 0 dX9_mayStand_61 rfl ?_
      refine g_iload_n 2 dX9_mayStand_62 rfl ?_
      refine g_iload_n 3 dX9_mayStand_63 rfl ?_
      refine g_cVp (ci := 9) (C0 := RX9) (T := TX9) (N := 8) (n := 2) (As := [.int x2, .int x3]) (rest := []) hF (tX9_comesAcross hG hF hX hQ x2 x3 S) gX9_mayStand_X9_comesAcross rfl (hX 32 (by decide)) rfl rfl ⟨rfl, by decide +kernel, by decide +kernel, by decide +kernel⟩ rfl (gRm_ok (by decide) (by decide)) rfl (Nat.le_of_ble_eq_true rfl) dX9_mayStand_64 (fun v_3 => ?_)
      refine g_if_ne (tgt := 74) dX9_mayStand_67 (by decide) (fun h_5 => ?_) (fun h_5 => ?_)
      · refine g_iconst (v := 0) dX9_mayStand_74 (by decide) ?_
        exact g_zret (by decide) dX9_mayStand_75 rfl
      · refine g_iconst (v := 1) dX9_mayStand_70 (by decide) ?_
        refine g_goto (tgt := 75) dX9_mayStand_71 (by decide) ?_
        exact g_zret (by decide) dX9_mayStand_75 rfl
  · refine g_iconst (v := 0) dX9_mayStand_48 (by decide) ?_
    exact g_zret (by decide) dX9_mayStand_49 rfl
set_option maxRecDepth 100000 in
set_option maxHeartbeats 4000000 in
theorem tX9_mayStand_L {G : gGG} {F : State → Heap → Prop} (hG : gOK G) (hF : gSb G F) (hX : gPX G) (hQ : gOQ G) (a1 : Int32) (a2 : Int32) (a3 : Int32) (S : gSt) : Gof G F RX9 cX9_mayStand 5 wsX9_mayStand (some .boolean) (gRm 2) 0 0 (gQ G (fun x => (some (.int x), S))) 0 [(0, .ref (gad G 32)), (1, .int a1), (2, .int a2), (3, .int a3)] [] S (fX9_mayStand a1 a2 a3 S) := by
  unfold fX9_mayStand
  refine g_aload_n 0 dX9_mayStand_0 rfl ?_
  refine g_gC (fun h_1 => ?_)
  refine g_getM (ci := 9) (k0 := 3) (C0 := RX9) (T := TX9) (N := 8) (hX 32 (by decide)) rfl rfl hiX9_mayStand_9 (by decide) (List.mem_of_getElem? (i := 1) rfl) rfl dX9_mayStand_1 ?_
  refine g_iconst (v := 2) dX9_mayStand_4 (by decide) ?_
  refine g_cVp (ci := 5) (C0 := RX5) (T := TX5) (N := 6) (n := 1) (As := [.int 2]) (rest := []) hF (tX5_lawOf hG hF hX hQ h_1 2 S) gX9_mayStand_X5_lawOf rfl (gRu_m hX h_1) (gRu_l h_1) rfl ⟨rfl, by decide +kernel, by decide +kernel, by decide +kernel⟩ rfl (gRm_ok (by decide) (by decide)) rfl (Nat.le_of_ble_eq_true rfl) dX9_mayStand_5 (fun v_1 => ?_)
  refine g_istore (i := 4) (env' := [(4, .int v_1), (0, .ref (gad G 32)), (1, .int a1), (2, .int a2), (3, .int a3)]) dX9_mayStand_8 (by decide) rfl ?_
  refine g_iload 0 dX9_mayStand_10 rfl ?_
  refine g_if_eq (tgt := 31) dX9_mayStand_12 (by decide) (fun h_2 => ?_) (fun h_2 => ?_)
  · refine g_env (env' := [(0, .ref (gad G 32)), (1, .int a1), (2, .int a2), (3, .int a3)]) [1, 2, 3, 4] rfl ?_
    exact tX9_mayStand_L31 hG hF hX hQ S a1 a2 a3
  · refine g_aload_n 1 dX9_mayStand_15 rfl ?_
    refine g_getQ (ci := 9) (k0 := 2) (C0 := RX9) (T := TX9) (N := 8) (hX 32 (by decide)) rfl rfl hiX9_mayStand_9 (by decide) (List.mem_of_getElem? (i := 2) rfl) rfl dX9_mayStand_16 ?_
    refine g_iload_n 3 dX9_mayStand_19 rfl ?_
    refine g_iald hG (hX 35 (by decide)) rfl dX9_mayStand_20 ?_
    refine g_cSp (n := 1) (As := [.int (gR S 35 (gN a2))]) (rest := []) hF (tJ6_bitCount_0f7a4 (gR S 35 (gN a2)) S) gX9_mayStand_J6_bitCount_0f7a4 rfl ⟨by decide +kernel, by decide +kernel, by decide +kernel⟩ rfl (gRm_ok (by decide) (by decide)) rfl (Nat.le_of_ble_eq_true rfl) dX9_mayStand_21 (fun v_2 => ?_)
    refine g_iload 0 dX9_mayStand_24 rfl ?_
    refine g_icmp_lt (tgt := 31) dX9_mayStand_26 (by decide) (fun h_3 => ?_) (fun h_3 => ?_)
    · refine g_env (env' := [(0, .ref (gad G 32)), (1, .int a1), (2, .int a2), (3, .int a3)]) [1, 2, 3, 4] rfl ?_
      exact tX9_mayStand_L31 hG hF hX hQ S a1 a2 a3
    · refine g_iconst (v := 0) dX9_mayStand_29 (by decide) ?_
      exact g_zret (by decide) dX9_mayStand_30 rfl
set_option maxRecDepth 100000 in
set_option maxHeartbeats 4000000 in
theorem tX9_mayStand {G : gGG} {F : State → Heap → Prop} (hG : gOK G) (hF : gSb G F) (hX : gPX G) (hQ : gOQ G) (a1 : Int32) (a2 : Int32) (a3 : Int32) (S : gSt) : gCt G F yX9_mayStand wsX9_mayStand 2 [.ref (gad G 32), .int a1, .int a2, .int a3] S ((fX9_mayStand a1 a2 a3 S).map (fun x => (some (.int x), S))) := g_met (by decide +kernel) rfl (Nat.le_of_ble_eq_true rfl) (tX9_mayStand_L hG hF hX hQ a1 a2 a3 S)
/-! X9_place -/
theorem hiX9_place_9 : ∀ w ∈ u_ws RX9 TX9 8, w ∈ wsX9_place := fun _ hw => List.mem_cons_of_mem _ (List.mem_append_left _ (List.mem_append_right _ (hw)))
set_option maxRecDepth 100000 in
set_option maxHeartbeats 4000000 in
theorem tX9_place_L {G : gGG} {F : State → Heap → Prop} (hG : gOK G) (hF : gSb G F) (hX : gPX G) (hQ : gOQ G) {d dr : Nat} (hd : dr + 1 ≤ d) (hd0 : 30 ≤ d) (rc : Int32 → Int32 → Int32 → Int32 → gSt → Option gSt) (hrc : ∀  (b1 b2 b3 b4 : Int32) (S : gSt), gCt G F yX9_placeFrom wsX9_placeFrom dr [.ref (gad G 32), .int b1, .int b2, .int b3, .int b4] S ((rc b1 b2 b3 b4 S).map (fun x => (none, x)))) (a1 : Int32) (a2 : Int32) (a3 : Int32) (a4 : Int32) (a5 : Int32) (S : gSt) : Gof G F RX9 cX9_place 9 wsX9_place none (gRm d) 0 0 (gQ G (fun x => (none, x))) 0 [(0, .ref (gad G 32)), (1, .int a1), (2, .int a2), (3, .int a3), (4, .int a4), (5, .int a5)] [] S (fX9_place rc a1 a2 a3 a4 a5 S) := by
  unfold fX9_place
  refine g_aload_n 0 dX9_place_0 rfl ?_
  refine g_getQ (ci := 9) (k0 := 2) (C0 := RX9) (T := TX9) (N := 8) (hX 32 (by decide)) rfl rfl hiX9_place_9 (by decide) (List.mem_of_getElem? (i := 1) rfl) rfl dX9_place_1 ?_
  refine g_iload_n 2 dX9_place_4 rfl ?_
  refine g_iald hG (hX 35 (by decide)) rfl dX9_place_5 ?_
  refine g_nI (fun v_1 => ?_)
  refine g_istore (i := 6) (env' := [(6, .int v_1), (0, .ref (gad G 32)), (1, .int a1), (2, .int a2), (3, .int a3), (4, .int a4), (5, .int a5)]) dX9_place_6 (by decide) rfl ?_
  refine g_iload 6 dX9_place_8 rfl ?_
  refine g_aload_n 1 dX9_place_10 rfl ?_
  refine g_gC (fun h_1 => ?_)
  refine g_getM (ci := 9) (k0 := 3) (C0 := RX9) (T := TX9) (N := 8) (hX 32 (by decide)) rfl rfl hiX9_place_9 (by decide) (List.mem_of_getElem? (i := 2) rfl) rfl dX9_place_11 ?_
  refine g_iload_n 2 dX9_place_14 rfl ?_
  refine g_iload 0 dX9_place_15 rfl ?_
  refine g_cVp (ci := 5) (C0 := RX5) (T := TX5) (N := 6) (n := 2) (As := [.int a1, .int v_1]) (rest := [.int a5]) hF (tX5_worthWith hG hF hX hQ h_1 a1 v_1 S) gX9_place_X5_worthWith rfl (gRu_m hX h_1) (gRu_l h_1) rfl ⟨rfl, by decide +kernel, by decide +kernel, by decide +kernel⟩ rfl (gRm_ok (Nat.le_trans (by decide : 1 + 1 ≤ 30) hd0) (by decide)) rfl (Nat.le_of_ble_eq_true rfl) dX9_place_17 (fun v_2 => ?_)
  refine g_iadd dX9_place_20 ?_
  refine g_nI (fun v_3 => ?_)
  refine g_istore (i := 7) (env' := [(7, .int v_3), (6, .int v_1), (0, .ref (gad G 32)), (1, .int a1), (2, .int a2), (3, .int a3), (4, .int a4), (5, .int a5)]) dX9_place_21 (by decide) rfl ?_
  refine g_iload 6 dX9_place_23 rfl ?_
  refine g_iload_n 4 dX9_place_25 rfl ?_
  refine g_iload_n 3 dX9_place_26 rfl ?_
  refine g_cSp (n := 1) (As := [.int a1]) (rest := [.int a2, .int a4]) hF (tX7_shiftOf hG hF hX hQ a1 S) gX9_place_X7_shiftOf rfl ⟨by decide +kernel, by decide +kernel, by decide +kernel⟩ rfl (gRm_ok (Nat.le_trans (by decide : 0 + 1 ≤ 30) hd0) (by decide)) rfl (Nat.le_of_ble_eq_true rfl) dX9_place_27 (fun v_4 => ?_)
  refine g_ishl dX9_place_30 ?_
  refine g_ior dX9_place_31 ?_
  refine g_nI (fun v_5 => ?_)
  refine g_istore (i := 8) (env' := [(8, .int v_5), (7, .int v_3), (6, .int v_1), (0, .ref (gad G 32)), (1, .int a1), (2, .int a2), (3, .int a3), (4, .int a4), (5, .int a5)]) dX9_place_32 (by decide) rfl ?_
  refine g_aload_n 3 dX9_place_34 rfl ?_
  refine g_getQ (ci := 9) (k0 := 2) (C0 := RX9) (T := TX9) (N := 8) (hX 32 (by decide)) rfl rfl hiX9_place_9 (by decide) (List.mem_of_getElem? (i := 1) rfl) rfl dX9_place_35 ?_
  refine g_iload_n 5 dX9_place_38 rfl ?_
  refine g_iload 2 dX9_place_39 rfl ?_
  refine g_iconst (v := 1) dX9_place_41 (by decide) ?_
  refine g_iload_n 4 dX9_place_42 rfl ?_
  refine g_ishl dX9_place_43 ?_
  refine g_ior dX9_place_44 ?_
  refine g_iast hG (hX 35 (by decide)) rfl dX9_place_45 ?_
  refine g_nS (fun S_6 => ?_)
  refine g_aload_n 3 dX9_place_46 rfl ?_
  refine g_iload_n 4 dX9_place_47 rfl ?_
  refine g_iconst (v := 1) dX9_place_48 (by decide) ?_
  refine g_iadd dX9_place_49 ?_
  refine g_iload_n 6 dX9_place_50 rfl ?_
  refine g_iload_n 5 dX9_place_51 rfl ?_
  refine g_iconst (v := 1) dX9_place_52 (by decide) ?_
  refine g_iadd dX9_place_53 ?_
  refine g_mmax (List.mem_of_getElem? (i := 3) rfl) (List.mem_of_getElem? (i := 4) rfl) (List.mem_of_getElem? (i := 5) rfl) (List.mem_of_getElem? (i := 6) rfl) (gRm_mx (by first | decide | omega)) (Nat.le_of_ble_eq_true rfl) dX9_place_54 ?_
  refine g_iload 0 dX9_place_57 rfl ?_
  refine g_iload 1 dX9_place_59 rfl ?_
  refine g_cVv (ci := 9) (C0 := RX9) (T := TX9) (N := 8) (n := 4) (As := [.int (a1 + 1), .int (if a3 < (a2 + 1) then (a2 + 1) else a3), .int v_5, .int v_3]) (rest := []) hF (hrc (a1 + 1) (if a3 < (a2 + 1) then (a2 + 1) else a3) v_5 v_3 S_6) gX9_place_X9_placeFrom rfl (hX 32 (by decide)) rfl rfl ⟨rfl, by decide +kernel, by decide +kernel, by decide +kernel⟩ rfl (gRm_ok hd (by decide)) rfl (Nat.le_of_ble_eq_true rfl) dX9_place_61 (fun S_7 => ?_)
  refine g_aload_n 3 dX9_place_64 rfl ?_
  refine g_getQ (ci := 9) (k0 := 2) (C0 := RX9) (T := TX9) (N := 8) (hX 32 (by decide)) rfl rfl hiX9_place_9 (by decide) (List.mem_of_getElem? (i := 1) rfl) rfl dX9_place_65 ?_
  refine g_iload_n 5 dX9_place_68 rfl ?_
  refine g_iload 2 dX9_place_69 rfl ?_
  refine g_iast hG (hX 35 (by decide)) rfl dX9_place_71 ?_
  refine g_nS (fun S_8 => ?_)
  exact g_vret dX9_place_72 rfl
set_option maxRecDepth 100000 in
set_option maxHeartbeats 4000000 in
theorem tX9_place_rec {G : gGG} {F : State → Heap → Prop} (hG : gOK G) (hF : gSb G F) (hX : gPX G) (hQ : gOQ G) {d dr : Nat} (hd : dr + 1 ≤ d) (hd0 : 30 ≤ d) (rc : Int32 → Int32 → Int32 → Int32 → gSt → Option gSt) (hrc : ∀  (b1 b2 b3 b4 : Int32) (S : gSt), gCt G F yX9_placeFrom wsX9_placeFrom dr [.ref (gad G 32), .int b1, .int b2, .int b3, .int b4] S ((rc b1 b2 b3 b4 S).map (fun x => (none, x)))) (a1 : Int32) (a2 : Int32) (a3 : Int32) (a4 : Int32) (a5 : Int32) (S : gSt) : gCt G F yX9_place wsX9_place d [.ref (gad G 32), .int a1, .int a2, .int a3, .int a4, .int a5] S ((fX9_place rc a1 a2 a3 a4 a5 S).map (fun x => (none, x))) := g_met (by decide +kernel) rfl (Nat.le_of_ble_eq_true rfl) (tX9_place_L hG hF hX hQ hd hd0 rc hrc a1 a2 a3 a4 a5 S)
/-! X9_placeFrom -/
theorem hiX9_placeFrom_9 : ∀ w ∈ u_ws RX9 TX9 8, w ∈ wsX9_placeFrom := fun _ hw => List.mem_cons_of_mem _ (List.mem_append_left _ (List.mem_append_right _ (hw)))
set_option maxRecDepth 100000 in
set_option maxHeartbeats 4000000 in
theorem tX9_placeFrom_L17 {G : gGG} {F : State → Heap → Prop} (hG : gOK G) (hF : gSb G F) (hX : gPX G) (hQ : gOQ G) {d dr : Nat} (hd : dr + 1 ≤ d) (hd0 : 30 ≤ d) (rc : Int32 → Int32 → Int32 → Int32 → Int32 → gSt → Option gSt) (hrc : ∀  (b1 b2 b3 b4 b5 : Int32) (S : gSt), gCt G F yX9_place wsX9_place dr [.ref (gad G 32), .int b1, .int b2, .int b3, .int b4, .int b5] S ((rc b1 b2 b3 b4 b5 S).map (fun x => (none, x)))) (x2 : Int32) (x3 : Int32) (x4 : Int32) (S : gSt) : Gof G F RX9 cX9_placeFrom 6 wsX9_placeFrom none (gRm d) 0 0 (gQ G (fun x => (none, x))) 17 [(0, .ref (gad G 32)), (2, .int x2), (3, .int x3), (4, .int x4)] [] S (fX9_placeFrom_L17 rc x2 x3 x4 S) := by
  unfold fX9_placeFrom_L17
  refine g_aload_n 0 dX9_placeFrom_17 rfl ?_
  refine g_iload_n 1 dX9_placeFrom_18 rfl ?_
  refine g_iload_n 2 dX9_placeFrom_19 rfl ?_
  refine g_iload 3 dX9_placeFrom_20 rfl ?_
  refine g_cVv (ci := 9) (C0 := RX9) (T := TX9) (N := 8) (n := 3) (As := [.int x2, .int x3, .int x4]) (rest := []) hF (tX9_accept hG hF hX hQ x2 x3 x4 S) gX9_placeFrom_X9_accept rfl (hX 32 (by decide)) rfl rfl ⟨rfl, by decide +kernel, by decide +kernel, by decide +kernel⟩ rfl (gRm_ok (Nat.le_trans (by decide : 2 + 1 ≤ 30) hd0) (by decide)) rfl (Nat.le_of_ble_eq_true rfl) dX9_placeFrom_22 (fun S_1 => ?_)
  exact g_vret dX9_placeFrom_25 rfl
set_option maxRecDepth 100000 in
set_option maxHeartbeats 4000000 in
theorem tX9_placeFrom_L29 {G : gGG} {F : State → Heap → Prop} (hG : gOK G) (hF : gSb G F) (hX : gPX G) (hQ : gOQ G) {d dr : Nat} (hd : dr + 1 ≤ d) (hd0 : 30 ≤ d) (rc : Int32 → Int32 → Int32 → Int32 → Int32 → gSt → Option gSt) (hrc : ∀  (b1 b2 b3 b4 b5 : Int32) (S : gSt), gCt G F yX9_place wsX9_place dr [.ref (gad G 32), .int b1, .int b2, .int b3, .int b4, .int b5] S ((rc b1 b2 b3 b4 b5 S).map (fun x => (none, x)))) : ∀ (n : Nat) (x1 : Int32) (x2 : Int32) (x3 : Int32) (x4 : Int32) (x5 : Int32) (S : gSt), Gof G F RX9 cX9_placeFrom 6 wsX9_placeFrom none (gRm d) 0 0 (gQ G (fun x => (none, x))) 29 [(0, .ref (gad G 32)), (1, .int x1), (2, .int x2), (3, .int x3), (4, .int x4), (5, .int x5)] [] S (fX9_placeFrom_L29 rc n x1 x2 x3 x4 x5 S) := by
  intro n
  induction n with
  | zero => intro x1 x2 x3 x4 x5 S; exact g_none
  | succ n ih =>
    intro x1 x2 x3 x4 x5 S
    unfold fX9_placeFrom_L29
    refine g_iload 5 dX9_placeFrom_29 rfl ?_
    refine g_iload_n 2 dX9_placeFrom_31 rfl ?_
    refine g_icmp_gt (tgt := 70) dX9_placeFrom_32 (by decide) (fun h_1 => ?_) (fun h_1 => ?_)
    · exact g_vret dX9_placeFrom_70 rfl
    · refine g_iload 5 dX9_placeFrom_35 rfl ?_
      refine g_bipush (v := 8) dX9_placeFrom_37 (by decide) ?_
      refine g_icmp_ge (tgt := 70) dX9_placeFrom_39 (by decide) (fun h_2 => ?_) (fun h_2 => ?_)
      · exact g_vret dX9_placeFrom_70 rfl
      · refine g_aload_n 0 dX9_placeFrom_42 rfl ?_
        refine g_iload_n 1 dX9_placeFrom_43 rfl ?_
        refine g_iload 5 dX9_placeFrom_44 rfl ?_
        refine g_iload_n 2 dX9_placeFrom_46 rfl ?_
        refine g_cVp (ci := 9) (C0 := RX9) (T := TX9) (N := 8) (n := 3) (As := [.int x1, .int x5, .int x2]) (rest := []) hF (tX9_mayStand hG hF hX hQ x1 x5 x2 S) gX9_placeFrom_X9_mayStand rfl (hX 32 (by decide)) rfl rfl ⟨rfl, by decide +kernel, by decide +kernel, by decide +kernel⟩ rfl (gRm_ok (Nat.le_trans (by decide : 2 + 1 ≤ 30) hd0) (by decide)) rfl (Nat.le_of_ble_eq_true rfl) dX9_placeFrom_47 (fun v_1 => ?_)
        refine g_if_eq (tgt := 64) dX9_placeFrom_50 (by decide) (fun h_3 => ?_) (fun h_3 => ?_)
        · refine g_iinc 5 (v := (x5 + 1)) (env' := [(5, .int (x5 + 1)), (0, .ref (gad G 32)), (1, .int x1), (2, .int x2), (3, .int x3), (4, .int x4)]) dX9_placeFrom_64 rfl rfl (by decide) rfl ?_
          refine g_goto (tgt := 29) dX9_placeFrom_67 (by decide) ?_
          refine g_env (env' := [(0, .ref (gad G 32)), (1, .int x1), (2, .int x2), (3, .int x3), (4, .int x4), (5, .int (x5 + 1))]) [1, 2, 3, 4, 5, 0] rfl ?_
          exact ih x1 x2 x3 x4 (x5 + 1) S
        · refine g_aload_n 0 dX9_placeFrom_53 rfl ?_
          refine g_iload_n 1 dX9_placeFrom_54 rfl ?_
          refine g_iload 5 dX9_placeFrom_55 rfl ?_
          refine g_iload_n 2 dX9_placeFrom_57 rfl ?_
          refine g_iload_n 3 dX9_placeFrom_58 rfl ?_
          refine g_iload 4 dX9_placeFrom_59 rfl ?_
          refine g_cVv (ci := 9) (C0 := RX9) (T := TX9) (N := 8) (n := 5) (As := [.int x1, .int x5, .int x2, .int x3, .int x4]) (rest := []) hF (hrc x1 x5 x2 x3 x4 S) gX9_placeFrom_X9_place rfl (hX 32 (by decide)) rfl rfl ⟨rfl, by decide +kernel, by decide +kernel, by decide +kernel⟩ rfl (gRm_ok hd (by decide)) rfl (Nat.le_of_ble_eq_true rfl) dX9_placeFrom_61 (fun S_2 => ?_)
          refine g_iinc 5 (v := (x5 + 1)) (env' := [(5, .int (x5 + 1)), (0, .ref (gad G 32)), (1, .int x1), (2, .int x2), (3, .int x3), (4, .int x4)]) dX9_placeFrom_64 rfl rfl (by decide) rfl ?_
          refine g_goto (tgt := 29) dX9_placeFrom_67 (by decide) ?_
          refine g_env (env' := [(0, .ref (gad G 32)), (1, .int x1), (2, .int x2), (3, .int x3), (4, .int x4), (5, .int (x5 + 1))]) [1, 2, 3, 4, 5, 0] rfl ?_
          exact ih x1 x2 x3 x4 (x5 + 1) S_2
set_option maxRecDepth 100000 in
set_option maxHeartbeats 4000000 in
theorem tX9_placeFrom_L {G : gGG} {F : State → Heap → Prop} (hG : gOK G) (hF : gSb G F) (hX : gPX G) (hQ : gOQ G) {d dr : Nat} (hd : dr + 1 ≤ d) (hd0 : 30 ≤ d) (rc : Int32 → Int32 → Int32 → Int32 → Int32 → gSt → Option gSt) (hrc : ∀  (b1 b2 b3 b4 b5 : Int32) (S : gSt), gCt G F yX9_place wsX9_place dr [.ref (gad G 32), .int b1, .int b2, .int b3, .int b4, .int b5] S ((rc b1 b2 b3 b4 b5 S).map (fun x => (none, x)))) (a1 : Int32) (a2 : Int32) (a3 : Int32) (a4 : Int32) (S : gSt) : Gof G F RX9 cX9_placeFrom 6 wsX9_placeFrom none (gRm d) 0 0 (gQ G (fun x => (none, x))) 0 [(0, .ref (gad G 32)), (1, .int a1), (2, .int a2), (3, .int a3), (4, .int a4)] [] S (fX9_placeFrom rc a1 a2 a3 a4 S) := by
  unfold fX9_placeFrom
  refine g_iload_n 1 dX9_placeFrom_0 rfl ?_
  refine g_aload_n 0 dX9_placeFrom_1 rfl ?_
  refine g_gC (fun h_1 => ?_)
  refine g_getM (ci := 9) (k0 := 3) (C0 := RX9) (T := TX9) (N := 8) (hX 32 (by decide)) rfl rfl hiX9_placeFrom_9 (by decide) (List.mem_of_getElem? (i := 1) rfl) rfl dX9_placeFrom_2 ?_
  refine g_cVp (ci := 5) (C0 := RX5) (T := TX5) (N := 6) (n := 0) (As := []) (rest := [.int a1]) hF (tX5_guests hG hF hX hQ h_1 S) gX9_placeFrom_X5_guests rfl (gRu_m hX h_1) (gRu_l h_1) rfl ⟨rfl, by decide +kernel, by decide +kernel, by decide +kernel⟩ rfl (gRm_ok (Nat.le_trans (by decide : 0 + 1 ≤ 30) hd0) (by decide)) rfl (Nat.le_of_ble_eq_true rfl) dX9_placeFrom_5 (fun v_1 => ?_)
  refine g_icmp_ge (tgt := 17) dX9_placeFrom_8 (by decide) (fun h_2 => ?_) (fun h_2 => ?_)
  · refine g_env (env' := [(0, .ref (gad G 32)), (2, .int a2), (3, .int a3), (4, .int a4)]) [0, 2, 3, 4] rfl ?_
    exact tX9_placeFrom_L17 hG hF hX hQ hd hd0 rc hrc a2 a3 a4 S
  · refine g_iload_n 1 dX9_placeFrom_11 rfl ?_
    refine g_bipush (v := 8) dX9_placeFrom_12 (by decide) ?_
    refine g_icmp_lt (tgt := 26) dX9_placeFrom_14 (by decide) (fun h_3 => ?_) (fun h_3 => ?_)
    · refine g_iconst (v := 0) dX9_placeFrom_26 (by decide) ?_
      refine g_istore (i := 5) (env' := [(5, .int 0), (0, .ref (gad G 32)), (1, .int a1), (2, .int a2), (3, .int a3), (4, .int a4)]) dX9_placeFrom_27 (by decide) rfl ?_
      refine g_env (env' := [(0, .ref (gad G 32)), (1, .int a1), (2, .int a2), (3, .int a3), (4, .int a4), (5, .int 0)]) [1, 2, 3, 4, 5, 0] rfl ?_
      exact tX9_placeFrom_L29 hG hF hX hQ hd hd0 rc hrc gFU a1 a2 a3 a4 0 S
    · refine g_env (env' := [(0, .ref (gad G 32)), (2, .int a2), (3, .int a3), (4, .int a4)]) [0, 2, 3, 4] rfl ?_
      exact tX9_placeFrom_L17 hG hF hX hQ hd hd0 rc hrc a2 a3 a4 S
set_option maxRecDepth 100000 in
set_option maxHeartbeats 4000000 in
theorem tX9_placeFrom_rec {G : gGG} {F : State → Heap → Prop} (hG : gOK G) (hF : gSb G F) (hX : gPX G) (hQ : gOQ G) {d dr : Nat} (hd : dr + 1 ≤ d) (hd0 : 30 ≤ d) (rc : Int32 → Int32 → Int32 → Int32 → Int32 → gSt → Option gSt) (hrc : ∀  (b1 b2 b3 b4 b5 : Int32) (S : gSt), gCt G F yX9_place wsX9_place dr [.ref (gad G 32), .int b1, .int b2, .int b3, .int b4, .int b5] S ((rc b1 b2 b3 b4 b5 S).map (fun x => (none, x)))) (a1 : Int32) (a2 : Int32) (a3 : Int32) (a4 : Int32) (S : gSt) : gCt G F yX9_placeFrom wsX9_placeFrom d [.ref (gad G 32), .int a1, .int a2, .int a3, .int a4] S ((fX9_placeFrom rc a1 a2 a3 a4 S).map (fun x => (none, x))) := g_met (by decide +kernel) rfl (Nat.le_of_ble_eq_true rfl) (tX9_placeFrom_L hG hF hX hQ hd hd0 rc hrc a1 a2 a3 a4 S)
theorem tPF {G : gGG} {F : State → Heap → Prop} (hG : gOK G) (hF : gSb G F) (hX : gPX G) (hQ : gOQ G) : ∀ (k : Nat) (a1 a2 a3 a4 : Int32) (S : gSt), gCt G F yX9_placeFrom wsX9_placeFrom (30 + 2 * k) [.ref (gad G 32), .int a1, .int a2, .int a3, .int a4] S ((fPF k a1 a2 a3 a4 S).map (fun x => (none, x))) := by
  intro k
  induction k with
  | zero => intro a1 a2 a3 a4 S l x hx; cases hx
  | succ k ih =>
    intro a1 a2 a3 a4 S
    exact tX9_placeFrom_rec hG hF hX hQ (d := 30 + 2 * (k + 1)) (dr := 30 + 2 * k + 1) (by omega) (by omega) _ (fun b1 b2 b3 b4 b5 T => tX9_place_rec hG hF hX hQ (d := 30 + 2 * k + 1) (dr := 30 + 2 * k) (by omega) (by omega) _ ih b1 b2 b3 b4 b5 T) a1 a2 a3 a4 S
theorem tX9_placeFrom_c {G : gGG} {F : State → Heap → Prop} (hG : gOK G) (hF : gSb G F) (hX : gPX G) (hQ : gOQ G) (a1 a2 a3 a4 : Int32) (S : gSt) : gCt G F yX9_placeFrom wsX9_placeFrom 50 [.ref (gad G 32), .int a1, .int a2, .int a3, .int a4] S ((fX9_placeFrom_c a1 a2 a3 a4 S).map (fun x => (none, x))) := tPF hG hF hX hQ 10 a1 a2 a3 a4 S
/-! X9_gather -/
theorem hiX9_gather_9 : ∀ w ∈ u_ws RX9 TX9 8, w ∈ wsX9_gather := fun _ hw => List.mem_cons_of_mem _ (List.mem_append_left _ (List.mem_append_right _ (hw)))
set_option maxRecDepth 100000 in
set_option maxHeartbeats 4000000 in
theorem tX9_gather_L44 {G : gGG} {F : State → Heap → Prop} (hG : gOK G) (hF : gSb G F) (hX : gPX G) (hQ : gOQ G) : ∀ (n : Nat) (x1 : Int32) (S : gSt), Gof G F RX9 cX9_gather 2 wsX9_gather none (gRm 51) 0 0 (gQ G (fun x => (none, x))) 44 [(0, .ref (gad G 32)), (1, .int x1)] [] S (fX9_gather_L44 n x1 S) := by
  intro n
  induction n with
  | zero => intro x1 S; exact g_none
  | succ n ih =>
    intro x1 S
    unfold fX9_gather_L44
    refine g_iload_n 1 dX9_gather_44 rfl ?_
    refine g_bipush (v := 8) dX9_gather_45 (by decide) ?_
    refine g_icmp_ge (tgt := 63) dX9_gather_47 (by decide) (fun h_1 => ?_) (fun h_1 => ?_)
    · refine g_aload_n 0 dX9_gather_63 rfl ?_
      refine g_iconst (v := 0) dX9_gather_64 (by decide) ?_
      refine g_iconst (v := 0) dX9_gather_65 (by decide) ?_
      refine g_iconst (v := 0) dX9_gather_66 (by decide) ?_
      refine g_iconst (v := 0) dX9_gather_67 (by decide) ?_
      refine g_cVv (ci := 9) (C0 := RX9) (T := TX9) (N := 8) (n := 4) (As := [.int 0, .int 0, .int 0, .int 0]) (rest := []) hF (tX9_placeFrom_c hG hF hX hQ 0 0 0 0 S) gX9_gather_X9_placeFrom rfl (hX 32 (by decide)) rfl rfl ⟨rfl, by decide +kernel, by decide +kernel, by decide +kernel⟩ rfl (gRm_ok (by decide) (by decide)) rfl (Nat.le_of_ble_eq_true rfl) dX9_gather_68 (fun S_1 => ?_)
      exact g_vret dX9_gather_71 rfl
    · refine g_aload_n 0 dX9_gather_50 rfl ?_
      refine g_getQ (ci := 9) (k0 := 2) (C0 := RX9) (T := TX9) (N := 8) (hX 32 (by decide)) rfl rfl hiX9_gather_9 (by decide) (List.mem_of_getElem? (i := 4) rfl) rfl dX9_gather_51 ?_
      refine g_iload_n 1 dX9_gather_54 rfl ?_
      refine g_iconst (v := 0) dX9_gather_55 (by decide) ?_
      refine g_iast hG (hX 35 (by decide)) rfl dX9_gather_56 ?_
      refine g_nS (fun S_2 => ?_)
      refine g_iinc 1 (v := (x1 + 1)) (env' := [(1, .int (x1 + 1)), (0, .ref (gad G 32))]) dX9_gather_57 rfl rfl (by decide) rfl ?_
      refine g_goto (tgt := 44) dX9_gather_60 (by decide) ?_
      refine g_env (env' := [(0, .ref (gad G 32)), (1, .int (x1 + 1))]) [1, 0] rfl ?_
      exact ih (x1 + 1) S_2
set_option maxRecDepth 100000 in
set_option maxHeartbeats 4000000 in
theorem tX9_gather_L20 {G : gGG} {F : State → Heap → Prop} (hG : gOK G) (hF : gSb G F) (hX : gPX G) (hQ : gOQ G) : ∀ (n : Nat) (x1 : Int32) (S : gSt), Gof G F RX9 cX9_gather 2 wsX9_gather none (gRm 51) 0 0 (gQ G (fun x => (none, x))) 20 [(0, .ref (gad G 32)), (1, .int x1)] [] S (fX9_gather_L20 n x1 S) := by
  intro n
  induction n with
  | zero => intro x1 S; exact g_none
  | succ n ih =>
    intro x1 S
    unfold fX9_gather_L20
    refine g_iload_n 1 dX9_gather_20 rfl ?_
    refine g_aload_n 0 dX9_gather_21 rfl ?_
    refine g_getQ (ci := 9) (k0 := 1) (C0 := RX9) (T := TX9) (N := 8) (hX 32 (by decide)) rfl rfl hiX9_gather_9 (by decide) (List.mem_of_getElem? (i := 3) rfl) rfl dX9_gather_22 ?_
    refine g_alen (t0 := 0) (v := 9) hG.2.2.1 (hX 34 (by decide)) (gEnt_I rfl) (by first | rfl | decide) dX9_gather_25 ?_
    refine g_icmp_ge (tgt := 42) dX9_gather_26 (by decide) (fun h_1 => ?_) (fun h_1 => ?_)
    · refine g_iconst (v := 0) dX9_gather_42 (by decide) ?_
      refine g_istore_n (i := 1) (env' := [(1, .int 0), (0, .ref (gad G 32))]) dX9_gather_43 rfl (by decide) rfl ?_
      refine g_env (env' := [(0, .ref (gad G 32)), (1, .int 0)]) [1, 0] rfl ?_
      exact tX9_gather_L44 hG hF hX hQ gFU 0 S
    · refine g_aload_n 0 dX9_gather_29 rfl ?_
      refine g_getQ (ci := 9) (k0 := 1) (C0 := RX9) (T := TX9) (N := 8) (hX 32 (by decide)) rfl rfl hiX9_gather_9 (by decide) (List.mem_of_getElem? (i := 3) rfl) rfl dX9_gather_30 ?_
      refine g_iload_n 1 dX9_gather_33 rfl ?_
      refine g_iconst (v := 0) dX9_gather_34 (by decide) ?_
      refine g_iast hG (hX 34 (by decide)) rfl dX9_gather_35 ?_
      refine g_nS (fun S_1 => ?_)
      refine g_iinc 1 (v := (x1 + 1)) (env' := [(1, .int (x1 + 1)), (0, .ref (gad G 32))]) dX9_gather_36 rfl rfl (by decide) rfl ?_
      refine g_goto (tgt := 20) dX9_gather_39 (by decide) ?_
      refine g_env (env' := [(0, .ref (gad G 32)), (1, .int (x1 + 1))]) [1, 0] rfl ?_
      exact ih (x1 + 1) S_1
set_option maxRecDepth 100000 in
set_option maxHeartbeats 4000000 in
theorem tX9_gather_L {G : gGG} {F : State → Heap → Prop} (hG : gOK G) (hF : gSb G F) (hX : gPX G) (hQ : gOQ G) (S : gSt) : Gof G F RX9 cX9_gather 2 wsX9_gather none (gRm 51) 0 0 (gQ G (fun x => (none, x))) 0 [(0, .ref (gad G 32))] [] S (fX9_gather S) := by
  unfold fX9_gather
  refine g_aload_n 0 dX9_gather_0 rfl ?_
  refine g_getI (ci := 9) (k0 := 4) (C0 := RX9) (T := TX9) (N := 8) (hX 32 (by decide)) rfl rfl hiX9_gather_9 (by decide) (List.mem_of_getElem? (i := 1) rfl) rfl dX9_gather_1 ?_
  refine g_if_eq (tgt := 8) dX9_gather_4 (by decide) (fun h_1 => ?_) (fun h_1 => ?_)
  · refine g_aload_n 0 dX9_gather_8 rfl ?_
    refine g_iconst (v := 1) dX9_gather_9 (by decide) ?_
    refine g_putI hG (ci := 9) (k0 := 4) (C0 := RX9) (T := TX9) (N := 8) (hX 32 (by decide)) rfl rfl hiX9_gather_9 (by decide) (List.mem_of_getElem? (i := 1) rfl) tyX9 tyX9_ok nmX9 rfl rfl rfl rfl dX9_gather_10 ?_
    refine g_nS (fun S_1 => ?_)
    refine g_aload_n 0 dX9_gather_13 rfl ?_
    refine g_iconst (v := 0) dX9_gather_14 (by decide) ?_
    refine g_putI hG (ci := 9) (k0 := 5) (C0 := RX9) (T := TX9) (N := 8) (hX 32 (by decide)) rfl rfl hiX9_gather_9 (by decide) (List.mem_of_getElem? (i := 2) rfl) tyX9 tyX9_ok nmX9 rfl rfl rfl rfl dX9_gather_15 ?_
    refine g_nS (fun S_2 => ?_)
    refine g_iconst (v := 0) dX9_gather_18 (by decide) ?_
    refine g_istore_n (i := 1) (env' := [(1, .int 0), (0, .ref (gad G 32))]) dX9_gather_19 rfl (by decide) rfl ?_
    refine g_env (env' := [(0, .ref (gad G 32)), (1, .int 0)]) [1, 0] rfl ?_
    exact tX9_gather_L20 hG hF hX hQ gFU 0 S_2
  · exact g_vret dX9_gather_7 rfl
set_option maxRecDepth 100000 in
set_option maxHeartbeats 4000000 in
theorem tX9_gather {G : gGG} {F : State → Heap → Prop} (hG : gOK G) (hF : gSb G F) (hX : gPX G) (hQ : gOQ G) (S : gSt) : gCt G F yX9_gather wsX9_gather 51 [.ref (gad G 32)] S ((fX9_gather S).map (fun x => (none, x))) := g_met (by decide +kernel) rfl (Nat.le_of_ble_eq_true rfl) (tX9_gather_L hG hF hX hQ S)
/-! X9_total -/
theorem hiX9_total_9 : ∀ w ∈ u_ws RX9 TX9 8, w ∈ wsX9_total := fun _ hw => List.mem_cons_of_mem _ (List.mem_append_left _ (List.mem_append_right _ (hw)))
set_option maxRecDepth 100000 in
set_option maxHeartbeats 4000000 in
theorem tX9_total_L {G : gGG} {F : State → Heap → Prop} (hG : gOK G) (hF : gSb G F) (hX : gPX G) (hQ : gOQ G) (S : gSt) : Gof G F RX9 cX9_total 1 wsX9_total (some .int) (gRm 52) 0 0 (gQ G (fun x => (some (.int x.1), x.2))) 0 [(0, .ref (gad G 32))] [] S (fX9_total S) := by
  unfold fX9_total
  refine g_aload_n 0 dX9_total_0 rfl ?_
  refine g_cVv (ci := 9) (C0 := RX9) (T := TX9) (N := 8) (n := 0) (As := []) (rest := []) hF (tX9_gather hG hF hX hQ S) gX9_total_X9_gather rfl (hX 32 (by decide)) rfl rfl ⟨rfl, by decide +kernel, by decide +kernel, by decide +kernel⟩ rfl (gRm_ok (by decide) (by decide)) rfl (Nat.le_of_ble_eq_true rfl) dX9_total_1 (fun S_1 => ?_)
  refine g_aload_n 0 dX9_total_4 rfl ?_
  refine g_getI (ci := 9) (k0 := 5) (C0 := RX9) (T := TX9) (N := 8) (hX 32 (by decide)) rfl rfl hiX9_total_9 (by decide) (List.mem_of_getElem? (i := 1) rfl) rfl dX9_total_5 ?_
  exact g_iret dX9_total_8 rfl
set_option maxRecDepth 100000 in
set_option maxHeartbeats 4000000 in
theorem tX9_total {G : gGG} {F : State → Heap → Prop} (hG : gOK G) (hF : gSb G F) (hX : gPX G) (hQ : gOQ G) (S : gSt) : gCt G F yX9_total wsX9_total 52 [.ref (gad G 32)] S ((fX9_total S).map (fun x => (some (.int x.1), x.2))) := g_met (by decide +kernel) rfl (Nat.le_of_ble_eq_true rfl) (tX9_total_L hG hF hX hQ S)
/-! X9_totalWith -/
theorem hiX9_totalWith_9 : ∀ w ∈ u_ws RX9 TX9 8, w ∈ wsX9_totalWith := fun _ hw => List.mem_cons_of_mem _ (List.mem_append_left _ (List.mem_append_right _ (hw)))
set_option maxRecDepth 100000 in
set_option maxHeartbeats 4000000 in
theorem tX9_totalWith_L {G : gGG} {F : State → Heap → Prop} (hG : gOK G) (hF : gSb G F) (hX : gPX G) (hQ : gOQ G) (a1 : Int32) (S : gSt) : Gof G F RX9 cX9_totalWith 2 wsX9_totalWith (some .int) (gRm 52) 0 0 (gQ G (fun x => (some (.int x.1), x.2))) 0 [(0, .ref (gad G 32)), (1, .int a1)] [] S (fX9_totalWith a1 S) := by
  unfold fX9_totalWith
  refine g_aload_n 0 dX9_totalWith_0 rfl ?_
  refine g_cVv (ci := 9) (C0 := RX9) (T := TX9) (N := 8) (n := 0) (As := []) (rest := []) hF (tX9_gather hG hF hX hQ S) gX9_totalWith_X9_gather rfl (hX 32 (by decide)) rfl rfl ⟨rfl, by decide +kernel, by decide +kernel, by decide +kernel⟩ rfl (gRm_ok (by decide) (by decide)) rfl (Nat.le_of_ble_eq_true rfl) dX9_totalWith_1 (fun S_1 => ?_)
  refine g_iload_n 1 dX9_totalWith_4 rfl ?_
  refine g_if_lt (tgt := 26) dX9_totalWith_5 (by decide) (fun h_1 => ?_) (fun h_1 => ?_)
  · refine g_iconst (v := 0) dX9_totalWith_26 (by decide) ?_
    exact g_iret dX9_totalWith_27 rfl
  · refine g_iload_n 1 dX9_totalWith_8 rfl ?_
    refine g_aload_n 0 dX9_totalWith_9 rfl ?_
    refine g_getQ (ci := 9) (k0 := 1) (C0 := RX9) (T := TX9) (N := 8) (hX 32 (by decide)) rfl rfl hiX9_totalWith_9 (by decide) (List.mem_of_getElem? (i := 1) rfl) rfl dX9_totalWith_10 ?_
    refine g_alen (t0 := 0) (v := 9) hG.2.2.1 (hX 34 (by decide)) (gEnt_I rfl) (by first | rfl | decide) dX9_totalWith_13 ?_
    refine g_icmp_ge (tgt := 26) dX9_totalWith_14 (by decide) (fun h_2 => ?_) (fun h_2 => ?_)
    · refine g_iconst (v := 0) dX9_totalWith_26 (by decide) ?_
      exact g_iret dX9_totalWith_27 rfl
    · refine g_aload_n 0 dX9_totalWith_17 rfl ?_
      refine g_getQ (ci := 9) (k0 := 1) (C0 := RX9) (T := TX9) (N := 8) (hX 32 (by decide)) rfl rfl hiX9_totalWith_9 (by decide) (List.mem_of_getElem? (i := 1) rfl) rfl dX9_totalWith_18 ?_
      refine g_iload_n 1 dX9_totalWith_21 rfl ?_
      refine g_iald hG (hX 34 (by decide)) rfl dX9_totalWith_22 ?_
      refine g_goto (tgt := 27) dX9_totalWith_23 (by decide) ?_
      exact g_iret dX9_totalWith_27 rfl
set_option maxRecDepth 100000 in
set_option maxHeartbeats 4000000 in
theorem tX9_totalWith {G : gGG} {F : State → Heap → Prop} (hG : gOK G) (hF : gSb G F) (hX : gPX G) (hQ : gOQ G) (a1 : Int32) (S : gSt) : gCt G F yX9_totalWith wsX9_totalWith 52 [.ref (gad G 32), .int a1] S ((fX9_totalWith a1 S).map (fun x => (some (.int x.1), x.2))) := g_met (by decide +kernel) rfl (Nat.le_of_ble_eq_true rfl) (tX9_totalWith_L hG hF hX hQ a1 S)
/-! X9_codeAt -/
theorem hiX9_codeAt_9 : ∀ w ∈ u_ws RX9 TX9 8, w ∈ wsX9_codeAt := fun _ hw => List.mem_cons_of_mem _ (List.mem_append_left _ (List.mem_append_right _ (hw)))
set_option maxRecDepth 100000 in
set_option maxHeartbeats 4000000 in
theorem tX9_codeAt_L {G : gGG} {F : State → Heap → Prop} (hG : gOK G) (hF : gSb G F) (hX : gPX G) (hQ : gOQ G) (a1 : Int32) (S : gSt) : Gof G F RX9 cX9_codeAt 2 wsX9_codeAt (some .int) (gRm 52) 0 0 (gQ G (fun x => (some (.int x.1), x.2))) 0 [(0, .ref (gad G 32)), (1, .int a1)] [] S (fX9_codeAt a1 S) := by
  unfold fX9_codeAt
  refine g_aload_n 0 dX9_codeAt_0 rfl ?_
  refine g_cVv (ci := 9) (C0 := RX9) (T := TX9) (N := 8) (n := 0) (As := []) (rest := []) hF (tX9_gather hG hF hX hQ S) gX9_codeAt_X9_gather rfl (hX 32 (by decide)) rfl rfl ⟨rfl, by decide +kernel, by decide +kernel, by decide +kernel⟩ rfl (gRm_ok (by decide) (by decide)) rfl (Nat.le_of_ble_eq_true rfl) dX9_codeAt_1 (fun S_1 => ?_)
  refine g_iload_n 1 dX9_codeAt_4 rfl ?_
  refine g_if_lt (tgt := 25) dX9_codeAt_5 (by decide) (fun h_1 => ?_) (fun h_1 => ?_)
  · refine g_iconst (v := 0) dX9_codeAt_25 (by decide) ?_
    exact g_iret dX9_codeAt_26 rfl
  · refine g_iload_n 1 dX9_codeAt_8 rfl ?_
    refine g_aload_n 0 dX9_codeAt_9 rfl ?_
    refine g_getI (ci := 9) (k0 := 5) (C0 := RX9) (T := TX9) (N := 8) (hX 32 (by decide)) rfl rfl hiX9_codeAt_9 (by decide) (List.mem_of_getElem? (i := 1) rfl) rfl dX9_codeAt_10 ?_
    refine g_icmp_ge (tgt := 25) dX9_codeAt_13 (by decide) (fun h_2 => ?_) (fun h_2 => ?_)
    · refine g_iconst (v := 0) dX9_codeAt_25 (by decide) ?_
      exact g_iret dX9_codeAt_26 rfl
    · refine g_aload_n 0 dX9_codeAt_16 rfl ?_
      refine g_getQ (ci := 9) (k0 := 0) (C0 := RX9) (T := TX9) (N := 8) (hX 32 (by decide)) rfl rfl hiX9_codeAt_9 (by decide) (List.mem_of_getElem? (i := 2) rfl) rfl dX9_codeAt_17 ?_
      refine g_iload_n 1 dX9_codeAt_20 rfl ?_
      refine g_iald hG (hX 33 (by decide)) rfl dX9_codeAt_21 ?_
      refine g_goto (tgt := 26) dX9_codeAt_22 (by decide) ?_
      exact g_iret dX9_codeAt_26 rfl
set_option maxRecDepth 100000 in
set_option maxHeartbeats 4000000 in
theorem tX9_codeAt {G : gGG} {F : State → Heap → Prop} (hG : gOK G) (hF : gSb G F) (hX : gPX G) (hQ : gOQ G) (a1 : Int32) (S : gSt) : gCt G F yX9_codeAt wsX9_codeAt 52 [.ref (gad G 32), .int a1] S ((fX9_codeAt a1 S).map (fun x => (some (.int x.1), x.2))) := g_met (by decide +kernel) rfl (Nat.le_of_ble_eq_true rfl) (tX9_codeAt_L hG hF hX hQ a1 S)
/-! X9_greatestWorth -/
theorem hiX9_greatestWorth_9 : ∀ w ∈ u_ws RX9 TX9 8, w ∈ wsX9_greatestWorth := fun _ hw => List.mem_cons_of_mem _ (List.mem_append_left _ (List.mem_append_right _ (hw)))
set_option maxRecDepth 100000 in
set_option maxHeartbeats 4000000 in
theorem tX9_greatestWorth_L {G : gGG} {F : State → Heap → Prop} (hG : gOK G) (hF : gSb G F) (hX : gPX G) (hQ : gOQ G) (S : gSt) : Gof G F RX9 cX9_greatestWorth 1 wsX9_greatestWorth (some .int) (gRm 52) 0 0 (gQ G (fun x => (some (.int x.1), x.2))) 0 [(0, .ref (gad G 32))] [] S (fX9_greatestWorth S) := by
  unfold fX9_greatestWorth
  refine g_aload_n 0 dX9_greatestWorth_0 rfl ?_
  refine g_cVv (ci := 9) (C0 := RX9) (T := TX9) (N := 8) (n := 0) (As := []) (rest := []) hF (tX9_gather hG hF hX hQ S) gX9_greatestWorth_X9_gather rfl (hX 32 (by decide)) rfl rfl ⟨rfl, by decide +kernel, by decide +kernel, by decide +kernel⟩ rfl (gRm_ok (by decide) (by decide)) rfl (Nat.le_of_ble_eq_true rfl) dX9_greatestWorth_1 (fun S_1 => ?_)
  refine g_aload_n 0 dX9_greatestWorth_4 rfl ?_
  refine g_getI (ci := 9) (k0 := 6) (C0 := RX9) (T := TX9) (N := 8) (hX 32 (by decide)) rfl rfl hiX9_greatestWorth_9 (by decide) (List.mem_of_getElem? (i := 1) rfl) rfl dX9_greatestWorth_5 ?_
  exact g_iret dX9_greatestWorth_8 rfl
set_option maxRecDepth 100000 in
set_option maxHeartbeats 4000000 in
theorem tX9_greatestWorth {G : gGG} {F : State → Heap → Prop} (hG : gOK G) (hF : gSb G F) (hX : gPX G) (hQ : gOQ G) (S : gSt) : gCt G F yX9_greatestWorth wsX9_greatestWorth 52 [.ref (gad G 32)] S ((fX9_greatestWorth S).map (fun x => (some (.int x.1), x.2))) := g_met (by decide +kernel) rfl (Nat.le_of_ble_eq_true rfl) (tX9_greatestWorth_L hG hF hX hQ S)
/-! X9_worthiestCode -/
theorem hiX9_worthiestCode_9 : ∀ w ∈ u_ws RX9 TX9 8, w ∈ wsX9_worthiestCode := fun _ hw => List.mem_cons_of_mem _ (List.mem_append_left _ (List.mem_append_right _ (hw)))
set_option maxRecDepth 100000 in
set_option maxHeartbeats 4000000 in
theorem tX9_worthiestCode_L {G : gGG} {F : State → Heap → Prop} (hG : gOK G) (hF : gSb G F) (hX : gPX G) (hQ : gOQ G) (S : gSt) : Gof G F RX9 cX9_worthiestCode 1 wsX9_worthiestCode (some .int) (gRm 52) 0 0 (gQ G (fun x => (some (.int x.1), x.2))) 0 [(0, .ref (gad G 32))] [] S (fX9_worthiestCode S) := by
  unfold fX9_worthiestCode
  refine g_aload_n 0 dX9_worthiestCode_0 rfl ?_
  refine g_cVv (ci := 9) (C0 := RX9) (T := TX9) (N := 8) (n := 0) (As := []) (rest := []) hF (tX9_gather hG hF hX hQ S) gX9_worthiestCode_X9_gather rfl (hX 32 (by decide)) rfl rfl ⟨rfl, by decide +kernel, by decide +kernel, by decide +kernel⟩ rfl (gRm_ok (by decide) (by decide)) rfl (Nat.le_of_ble_eq_true rfl) dX9_worthiestCode_1 (fun S_1 => ?_)
  refine g_aload_n 0 dX9_worthiestCode_4 rfl ?_
  refine g_getI (ci := 9) (k0 := 7) (C0 := RX9) (T := TX9) (N := 8) (hX 32 (by decide)) rfl rfl hiX9_worthiestCode_9 (by decide) (List.mem_of_getElem? (i := 1) rfl) rfl dX9_worthiestCode_5 ?_
  exact g_iret dX9_worthiestCode_8 rfl
set_option maxRecDepth 100000 in
set_option maxHeartbeats 4000000 in
theorem tX9_worthiestCode {G : gGG} {F : State → Heap → Prop} (hG : gOK G) (hF : gSb G F) (hX : gPX G) (hQ : gOQ G) (S : gSt) : gCt G F yX9_worthiestCode wsX9_worthiestCode 52 [.ref (gad G 32)] S ((fX9_worthiestCode S).map (fun x => (some (.int x.1), x.2))) := g_met (by decide +kernel) rfl (Nat.le_of_ble_eq_true rfl) (tX9_worthiestCode_L hG hF hX hQ S)
/-! X9_placeOf -/
theorem hiX9_placeOf_9 : ∀ w ∈ u_ws RX9 TX9 8, w ∈ wsX9_placeOf := fun _ hw => List.mem_cons_of_mem _ (List.mem_append_left _ (List.mem_append_right _ (hw)))
set_option maxRecDepth 100000 in
set_option maxHeartbeats 4000000 in
theorem tX9_placeOf_L30 {G : gGG} {F : State → Heap → Prop} (hG : gOK G) (hF : gSb G F) (hX : gPX G) (hQ : gOQ G) (x1 : Int32) (x2 : Int32) (S : gSt) : Gof G F RX9 cX9_placeOf 3 wsX9_placeOf (some .int) (gRm 52) 0 0 (gQ G (fun x => (some (.int x.1), x.2))) 30 [(0, .ref (gad G 32)), (1, .int x1), (2, .int x2)] [] S (fX9_placeOf_L30 x1 x2 S) := by
  unfold fX9_placeOf_L30
  refine g_iload_n 2 dX9_placeOf_30 rfl ?_
  refine g_aload_n 0 dX9_placeOf_31 rfl ?_
  refine g_getI (ci := 9) (k0 := 5) (C0 := RX9) (T := TX9) (N := 8) (hX 32 (by decide)) rfl rfl hiX9_placeOf_9 (by decide) (List.mem_of_getElem? (i := 1) rfl) rfl dX9_placeOf_32 ?_
  refine g_icmp_ge (tgt := 52) dX9_placeOf_35 (by decide) (fun h_1 => ?_) (fun h_1 => ?_)
  · refine g_bipush (v := (-9)) dX9_placeOf_52 (by decide) ?_
    exact g_iret dX9_placeOf_54 rfl
  · refine g_aload_n 0 dX9_placeOf_38 rfl ?_
    refine g_getQ (ci := 9) (k0 := 0) (C0 := RX9) (T := TX9) (N := 8) (hX 32 (by decide)) rfl rfl hiX9_placeOf_9 (by decide) (List.mem_of_getElem? (i := 2) rfl) rfl dX9_placeOf_39 ?_
    refine g_iload_n 2 dX9_placeOf_42 rfl ?_
    refine g_iald hG (hX 33 (by decide)) rfl dX9_placeOf_43 ?_
    refine g_iload_n 1 dX9_placeOf_44 rfl ?_
    refine g_icmp_ne (tgt := 52) dX9_placeOf_45 (by decide) (fun h_2 => ?_) (fun h_2 => ?_)
    · refine g_bipush (v := (-9)) dX9_placeOf_52 (by decide) ?_
      exact g_iret dX9_placeOf_54 rfl
    · refine g_iload_n 2 dX9_placeOf_48 rfl ?_
      refine g_goto (tgt := 54) dX9_placeOf_49 (by decide) ?_
      exact g_iret dX9_placeOf_54 rfl
set_option maxRecDepth 100000 in
set_option maxHeartbeats 4000000 in
theorem tX9_placeOf_L6 {G : gGG} {F : State → Heap → Prop} (hG : gOK G) (hF : gSb G F) (hX : gPX G) (hQ : gOQ G) : ∀ (n : Nat) (x1 : Int32) (x2 : Int32) (S : gSt), Gof G F RX9 cX9_placeOf 3 wsX9_placeOf (some .int) (gRm 52) 0 0 (gQ G (fun x => (some (.int x.1), x.2))) 6 [(0, .ref (gad G 32)), (1, .int x1), (2, .int x2)] [] S (fX9_placeOf_L6 n x1 x2 S) := by
  intro n
  induction n with
  | zero => intro x1 x2 S; exact g_none
  | succ n ih =>
    intro x1 x2 S
    unfold fX9_placeOf_L6
    refine g_iload_n 2 dX9_placeOf_6 rfl ?_
    refine g_aload_n 0 dX9_placeOf_7 rfl ?_
    refine g_getI (ci := 9) (k0 := 5) (C0 := RX9) (T := TX9) (N := 8) (hX 32 (by decide)) rfl rfl hiX9_placeOf_9 (by decide) (List.mem_of_getElem? (i := 1) rfl) rfl dX9_placeOf_8 ?_
    refine g_icmp_ge (tgt := 30) dX9_placeOf_11 (by decide) (fun h_1 => ?_) (fun h_1 => ?_)
    · exact tX9_placeOf_L30 hG hF hX hQ x1 x2 S
    · refine g_aload_n 0 dX9_placeOf_14 rfl ?_
      refine g_getQ (ci := 9) (k0 := 0) (C0 := RX9) (T := TX9) (N := 8) (hX 32 (by decide)) rfl rfl hiX9_placeOf_9 (by decide) (List.mem_of_getElem? (i := 2) rfl) rfl dX9_placeOf_15 ?_
      refine g_iload_n 2 dX9_placeOf_18 rfl ?_
      refine g_iald hG (hX 33 (by decide)) rfl dX9_placeOf_19 ?_
      refine g_iload_n 1 dX9_placeOf_20 rfl ?_
      refine g_icmp_ge (tgt := 30) dX9_placeOf_21 (by decide) (fun h_2 => ?_) (fun h_2 => ?_)
      · exact tX9_placeOf_L30 hG hF hX hQ x1 x2 S
      · refine g_iinc 2 (v := (x2 + 1)) (env' := [(2, .int (x2 + 1)), (0, .ref (gad G 32)), (1, .int x1)]) dX9_placeOf_24 rfl rfl (by decide) rfl ?_
        refine g_goto (tgt := 6) dX9_placeOf_27 (by decide) ?_
        refine g_env (env' := [(0, .ref (gad G 32)), (1, .int x1), (2, .int (x2 + 1))]) [1, 2, 0] rfl ?_
        exact ih x1 (x2 + 1) S
set_option maxRecDepth 100000 in
set_option maxHeartbeats 4000000 in
theorem tX9_placeOf_L {G : gGG} {F : State → Heap → Prop} (hG : gOK G) (hF : gSb G F) (hX : gPX G) (hQ : gOQ G) (a1 : Int32) (S : gSt) : Gof G F RX9 cX9_placeOf 3 wsX9_placeOf (some .int) (gRm 52) 0 0 (gQ G (fun x => (some (.int x.1), x.2))) 0 [(0, .ref (gad G 32)), (1, .int a1)] [] S (fX9_placeOf a1 S) := by
  unfold fX9_placeOf
  refine g_aload_n 0 dX9_placeOf_0 rfl ?_
  refine g_cVv (ci := 9) (C0 := RX9) (T := TX9) (N := 8) (n := 0) (As := []) (rest := []) hF (tX9_gather hG hF hX hQ S) gX9_placeOf_X9_gather rfl (hX 32 (by decide)) rfl rfl ⟨rfl, by decide +kernel, by decide +kernel, by decide +kernel⟩ rfl (gRm_ok (by decide) (by decide)) rfl (Nat.le_of_ble_eq_true rfl) dX9_placeOf_1 (fun S_1 => ?_)
  refine g_iconst (v := 0) dX9_placeOf_4 (by decide) ?_
  refine g_istore_n (i := 2) (env' := [(2, .int 0), (0, .ref (gad G 32)), (1, .int a1)]) dX9_placeOf_5 rfl (by decide) rfl ?_
  refine g_env (env' := [(0, .ref (gad G 32)), (1, .int a1), (2, .int 0)]) [1, 2, 0] rfl ?_
  exact tX9_placeOf_L6 hG hF hX hQ gFU a1 0 S_1
set_option maxRecDepth 100000 in
set_option maxHeartbeats 4000000 in
theorem tX9_placeOf {G : gGG} {F : State → Heap → Prop} (hG : gOK G) (hF : gSb G F) (hX : gPX G) (hQ : gOQ G) (a1 : Int32) (S : gSt) : gCt G F yX9_placeOf wsX9_placeOf 52 [.ref (gad G 32), .int a1] S ((fX9_placeOf a1 S).map (fun x => (some (.int x.1), x.2))) := g_met (by decide +kernel) rfl (Nat.le_of_ble_eq_true rfl) (tX9_placeOf_L hG hF hX hQ a1 S)
/-! X9_fitting -/
theorem hiX9_fitting_9 : ∀ w ∈ u_ws RX9 TX9 8, w ∈ wsX9_fitting := fun _ hw => List.mem_cons_of_mem _ (List.mem_append_left _ (List.mem_append_left _ (List.mem_append_right _ (hw))))
set_option maxRecDepth 100000 in
set_option maxHeartbeats 4000000 in
theorem tX9_fitting_L8 {G : gGG} {F : State → Heap → Prop} (hG : gOK G) (hF : gSb G F) (hX : gPX G) (hQ : gOQ G) {a1 : Nat} (h1 : gIsSi a1 = true) : ∀ (n : Nat) (x2 : Int32) (x3 : Int32) (S : gSt), Gof G F RX9 cX9_fitting 4 wsX9_fitting (some .int) (gRm 52) 0 0 (gQ G (fun x => (some (.int x.1), x.2))) 8 [(0, .ref (gad G 32)), (1, .ref (gad G a1)), (2, .int x2), (3, .int x3)] [] S (fX9_fitting_L8 a1 n x2 x3 S) := by
  intro n
  induction n with
  | zero => intro x2 x3 S; exact g_none
  | succ n ih =>
    intro x2 x3 S
    unfold fX9_fitting_L8
    refine g_iload_n 3 dX9_fitting_8 rfl ?_
    refine g_aload_n 0 dX9_fitting_9 rfl ?_
    refine g_getI (ci := 9) (k0 := 5) (C0 := RX9) (T := TX9) (N := 8) (hX 32 (by decide)) rfl rfl hiX9_fitting_9 (by decide) (List.mem_of_getElem? (i := 1) rfl) rfl dX9_fitting_10 ?_
    refine g_icmp_ge (tgt := 38) dX9_fitting_13 (by decide) (fun h_1 => ?_) (fun h_1 => ?_)
    · refine g_iload_n 2 dX9_fitting_38 rfl ?_
      exact g_iret dX9_fitting_39 rfl
    · refine g_aload_n 1 dX9_fitting_16 rfl ?_
      refine g_aload_n 0 dX9_fitting_17 rfl ?_
      refine g_getQ (ci := 9) (k0 := 0) (C0 := RX9) (T := TX9) (N := 8) (hX 32 (by decide)) rfl rfl hiX9_fitting_9 (by decide) (List.mem_of_getElem? (i := 2) rfl) rfl dX9_fitting_18 ?_
      refine g_iload_n 3 dX9_fitting_21 rfl ?_
      refine g_iald hG (hX 33 (by decide)) rfl dX9_fitting_22 ?_
      refine g_cVp (ci := 6) (C0 := RX6) (T := TX6) (N := 4) (n := 1) (As := [.int (gR S 33 (gN x3))]) (rest := []) hF (tX6_fit hG hF hX hQ h1 (gR S 33 (gN x3)) S) gX9_fitting_X6_fit rfl (gSi_m hX h1) (gSi_l h1) rfl ⟨rfl, by decide +kernel, by decide +kernel, by decide +kernel⟩ rfl (gRm_ok (by decide) (by decide)) rfl (Nat.le_of_ble_eq_true rfl) dX9_fitting_23 (fun v_1 => ?_)
      refine g_if_eq (tgt := 32) dX9_fitting_26 (by decide) (fun h_2 => ?_) (fun h_2 => ?_)
      · refine g_iinc 3 (v := (x3 + 1)) (env' := [(3, .int (x3 + 1)), (0, .ref (gad G 32)), (1, .ref (gad G a1)), (2, .int x2)]) dX9_fitting_32 rfl rfl (by decide) rfl ?_
        refine g_goto (tgt := 8) dX9_fitting_35 (by decide) ?_
        refine g_env (env' := [(0, .ref (gad G 32)), (1, .ref (gad G a1)), (2, .int x2), (3, .int (x3 + 1))]) [1, 2, 3, 0] rfl ?_
        exact ih x2 (x3 + 1) S
      · refine g_iinc 2 (v := (x2 + 1)) (env' := [(2, .int (x2 + 1)), (0, .ref (gad G 32)), (1, .ref (gad G a1)), (3, .int x3)]) dX9_fitting_29 rfl rfl (by decide) rfl ?_
        refine g_iinc 3 (v := (x3 + 1)) (env' := [(3, .int (x3 + 1)), (2, .int (x2 + 1)), (0, .ref (gad G 32)), (1, .ref (gad G a1))]) dX9_fitting_32 rfl rfl (by decide) rfl ?_
        refine g_goto (tgt := 8) dX9_fitting_35 (by decide) ?_
        refine g_env (env' := [(0, .ref (gad G 32)), (1, .ref (gad G a1)), (2, .int (x2 + 1)), (3, .int (x3 + 1))]) [2, 3, 1, 0] rfl ?_
        exact ih (x2 + 1) (x3 + 1) S
set_option maxRecDepth 100000 in
set_option maxHeartbeats 4000000 in
theorem tX9_fitting_L {G : gGG} {F : State → Heap → Prop} (hG : gOK G) (hF : gSb G F) (hX : gPX G) (hQ : gOQ G) {a1 : Nat} (h1 : gIsSi a1 = true) (S : gSt) : Gof G F RX9 cX9_fitting 4 wsX9_fitting (some .int) (gRm 52) 0 0 (gQ G (fun x => (some (.int x.1), x.2))) 0 [(0, .ref (gad G 32)), (1, .ref (gad G a1))] [] S (fX9_fitting a1 S) := by
  unfold fX9_fitting
  refine g_aload_n 0 dX9_fitting_0 rfl ?_
  refine g_cVv (ci := 9) (C0 := RX9) (T := TX9) (N := 8) (n := 0) (As := []) (rest := []) hF (tX9_gather hG hF hX hQ S) gX9_fitting_X9_gather rfl (hX 32 (by decide)) rfl rfl ⟨rfl, by decide +kernel, by decide +kernel, by decide +kernel⟩ rfl (gRm_ok (by decide) (by decide)) rfl (Nat.le_of_ble_eq_true rfl) dX9_fitting_1 (fun S_1 => ?_)
  refine g_iconst (v := 0) dX9_fitting_4 (by decide) ?_
  refine g_istore_n (i := 2) (env' := [(2, .int 0), (0, .ref (gad G 32)), (1, .ref (gad G a1))]) dX9_fitting_5 rfl (by decide) rfl ?_
  refine g_iconst (v := 0) dX9_fitting_6 (by decide) ?_
  refine g_istore_n (i := 3) (env' := [(3, .int 0), (2, .int 0), (0, .ref (gad G 32)), (1, .ref (gad G a1))]) dX9_fitting_7 rfl (by decide) rfl ?_
  refine g_env (env' := [(0, .ref (gad G 32)), (1, .ref (gad G a1)), (2, .int 0), (3, .int 0)]) [2, 3, 1, 0] rfl ?_
  exact tX9_fitting_L8 hG hF hX hQ h1 gFU 0 0 S_1
set_option maxRecDepth 100000 in
set_option maxHeartbeats 4000000 in
theorem tX9_fitting {G : gGG} {F : State → Heap → Prop} (hG : gOK G) (hF : gSb G F) (hX : gPX G) (hQ : gOQ G) {a1 : Nat} (h1 : gIsSi a1 = true) (S : gSt) : gCt G F yX9_fitting wsX9_fitting 52 [.ref (gad G 32), .ref (gad G a1)] S ((fX9_fitting a1 S).map (fun x => (some (.int x.1), x.2))) := g_met (by decide +kernel) rfl (Nat.le_of_ble_eq_true rfl) (tX9_fitting_L hG hF hX hQ h1 S)
/-! X9_certain -/
theorem hiX9_certain_9 : ∀ w ∈ u_ws RX9 TX9 8, w ∈ wsX9_certain := fun _ hw => List.mem_cons_of_mem _ (List.mem_append_left _ (List.mem_append_left _ (List.mem_append_right _ (hw))))
set_option maxRecDepth 100000 in
set_option maxHeartbeats 4000000 in
theorem tX9_certain_L64 {G : gGG} {F : State → Heap → Prop} (hG : gOK G) (hF : gSb G F) (hX : gPX G) (hQ : gOQ G) {a1 : Nat} (h1 : gIsSi a1 = true) (k11 : Int32 → Int32 → Int32 → Int32 → gSt → Option (Int32 × gSt)) (hk11 : ∀ (x2 : Int32) (x3 : Int32) (x4 : Int32) (x5 : Int32) (S : gSt), Gof G F RX9 cX9_certain 7 wsX9_certain (some .int) (gRm 52) 0 0 (gQ G (fun x => (some (.int x.1), x.2))) 11 [(0, .ref (gad G 32)), (1, .ref (gad G a1)), (2, .int x2), (3, .int x3), (4, .int x4), (5, .int x5)] [] S (k11 x2 x3 x4 x5 S)) (x2 : Int32) (x3 : Int32) (x4 : Int32) (x5 : Int32) (s0 : Int32) (S : gSt) : Gof G F RX9 cX9_certain 7 wsX9_certain (some .int) (gRm 52) 0 0 (gQ G (fun x => (some (.int x.1), x.2))) 64 [(0, .ref (gad G 32)), (1, .ref (gad G a1)), (2, .int x2), (3, .int x3), (4, .int x4), (5, .int x5)] [.int s0] S (fX9_certain_L64 k11 a1 x2 x3 x4 x5 s0 S) := by
  unfold fX9_certain_L64
  refine g_istore (i := 6) (env' := [(6, .int s0), (0, .ref (gad G 32)), (1, .ref (gad G a1)), (2, .int x2), (3, .int x3), (4, .int x4), (5, .int x5)]) dX9_certain_64 (by decide) rfl ?_
  refine g_iload 5 dX9_certain_66 rfl ?_
  refine g_bipush (v := (-9)) dX9_certain_68 (by decide) ?_
  refine g_icmp_eq (tgt := 83) dX9_certain_70 (by decide) (fun h_1 => ?_) (fun h_1 => ?_)
  · refine g_iload 0 dX9_certain_83 rfl ?_
    refine g_istore (i := 4) (env' := [(4, .int s0), (6, .int s0), (0, .ref (gad G 32)), (1, .ref (gad G a1)), (2, .int x2), (3, .int x3), (5, .int x5)]) dX9_certain_85 (by decide) rfl ?_
    refine g_iinc 6 (v := (x5 + 1)) (env' := [(5, .int (x5 + 1)), (4, .int s0), (6, .int s0), (0, .ref (gad G 32)), (1, .ref (gad G a1)), (2, .int x2), (3, .int x3)]) dX9_certain_87 rfl rfl (by decide) rfl ?_
    refine g_goto (tgt := 11) dX9_certain_90 (by decide) ?_
    refine g_env (env' := [(0, .ref (gad G 32)), (1, .ref (gad G a1)), (2, .int x2), (3, .int x3), (4, .int s0), (5, .int (x5 + 1))]) [3, 4, 5, 6, 1, 0] rfl ?_
    exact hk11 x2 x3 s0 (x5 + 1) S
  · refine g_iload 5 dX9_certain_73 rfl ?_
    refine g_iload 0 dX9_certain_75 rfl ?_
    refine g_icmp_eq (tgt := 83) dX9_certain_77 (by decide) (fun h_2 => ?_) (fun h_2 => ?_)
    · refine g_iload 0 dX9_certain_83 rfl ?_
      refine g_istore (i := 4) (env' := [(4, .int s0), (6, .int s0), (0, .ref (gad G 32)), (1, .ref (gad G a1)), (2, .int x2), (3, .int x3), (5, .int x5)]) dX9_certain_85 (by decide) rfl ?_
      refine g_iinc 6 (v := (x5 + 1)) (env' := [(5, .int (x5 + 1)), (4, .int s0), (6, .int s0), (0, .ref (gad G 32)), (1, .ref (gad G a1)), (2, .int x2), (3, .int x3)]) dX9_certain_87 rfl rfl (by decide) rfl ?_
      refine g_goto (tgt := 11) dX9_certain_90 (by decide) ?_
      refine g_env (env' := [(0, .ref (gad G 32)), (1, .ref (gad G a1)), (2, .int x2), (3, .int x3), (4, .int s0), (5, .int (x5 + 1))]) [3, 4, 5, 6, 1, 0] rfl ?_
      exact hk11 x2 x3 s0 (x5 + 1) S
    · refine g_bipush (v := (-9)) dX9_certain_80 (by decide) ?_
      exact g_iret dX9_certain_82 rfl
set_option maxRecDepth 100000 in
set_option maxHeartbeats 4000000 in
theorem tX9_certain_L11 {G : gGG} {F : State → Heap → Prop} (hG : gOK G) (hF : gSb G F) (hX : gPX G) (hQ : gOQ G) {a1 : Nat} (h1 : gIsSi a1 = true) : ∀ (n : Nat) (x2 : Int32) (x3 : Int32) (x4 : Int32) (x5 : Int32) (S : gSt), Gof G F RX9 cX9_certain 7 wsX9_certain (some .int) (gRm 52) 0 0 (gQ G (fun x => (some (.int x.1), x.2))) 11 [(0, .ref (gad G 32)), (1, .ref (gad G a1)), (2, .int x2), (3, .int x3), (4, .int x4), (5, .int x5)] [] S (fX9_certain_L11 a1 n x2 x3 x4 x5 S) := by
  intro n
  induction n with
  | zero => intro x2 x3 x4 x5 S; exact g_none
  | succ n ih =>
    intro x2 x3 x4 x5 S
    unfold fX9_certain_L11
    refine g_iload 5 dX9_certain_11 rfl ?_
    refine g_aload_n 0 dX9_certain_13 rfl ?_
    refine g_getI (ci := 9) (k0 := 5) (C0 := RX9) (T := TX9) (N := 8) (hX 32 (by decide)) rfl rfl hiX9_certain_9 (by decide) (List.mem_of_getElem? (i := 1) rfl) rfl dX9_certain_14 ?_
    refine g_icmp_ge (tgt := 93) dX9_certain_17 (by decide) (fun h_1 => ?_) (fun h_1 => ?_)
    · refine g_iload 4 dX9_certain_93 rfl ?_
      exact g_iret dX9_certain_95 rfl
    · refine g_aload_n 1 dX9_certain_20 rfl ?_
      refine g_aload_n 0 dX9_certain_21 rfl ?_
      refine g_getQ (ci := 9) (k0 := 0) (C0 := RX9) (T := TX9) (N := 8) (hX 32 (by decide)) rfl rfl hiX9_certain_9 (by decide) (List.mem_of_getElem? (i := 2) rfl) rfl dX9_certain_22 ?_
      refine g_iload 5 dX9_certain_25 rfl ?_
      refine g_iald hG (hX 33 (by decide)) rfl dX9_certain_27 ?_
      refine g_cVp (ci := 6) (C0 := RX6) (T := TX6) (N := 4) (n := 1) (As := [.int (gR S 33 (gN x5))]) (rest := []) hF (tX6_fit hG hF hX hQ h1 (gR S 33 (gN x5)) S) gX9_certain_X6_fit rfl (gSi_m hX h1) (gSi_l h1) rfl ⟨rfl, by decide +kernel, by decide +kernel, by decide +kernel⟩ rfl (gRm_ok (by decide) (by decide)) rfl (Nat.le_of_ble_eq_true rfl) dX9_certain_28 (fun v_1 => ?_)
      refine g_if_eq (tgt := 87) dX9_certain_31 (by decide) (fun h_2 => ?_) (fun h_2 => ?_)
      · refine g_iinc 5 (v := (x5 + 1)) (env' := [(5, .int (x5 + 1)), (0, .ref (gad G 32)), (1, .ref (gad G a1)), (2, .int x2), (3, .int x3), (4, .int x4)]) dX9_certain_87 rfl rfl (by decide) rfl ?_
        refine g_goto (tgt := 11) dX9_certain_90 (by decide) ?_
        refine g_env (env' := [(0, .ref (gad G 32)), (1, .ref (gad G a1)), (2, .int x2), (3, .int x3), (4, .int x4), (5, .int (x5 + 1))]) [1, 2, 3, 4, 5, 0] rfl ?_
        exact ih x2 x3 x4 (x5 + 1) S
      · refine g_aload_n 0 dX9_certain_34 rfl ?_
        refine g_getQ (ci := 9) (k0 := 0) (C0 := RX9) (T := TX9) (N := 8) (hX 32 (by decide)) rfl rfl hiX9_certain_9 (by decide) (List.mem_of_getElem? (i := 2) rfl) rfl dX9_certain_35 ?_
        refine g_iload 5 dX9_certain_38 rfl ?_
        refine g_iald hG (hX 33 (by decide)) rfl dX9_certain_40 ?_
        refine g_iload_n 2 dX9_certain_41 rfl ?_
        refine g_cSp (n := 2) (As := [.int (gR S 33 (gN x5)), .int x2]) (rest := []) hF (tX7_partyIn hG hF hX hQ (gR S 33 (gN x5)) x2 S) gX9_certain_X7_partyIn rfl ⟨by decide +kernel, by decide +kernel, by decide +kernel⟩ rfl (gRm_ok (by decide) (by decide)) rfl (Nat.le_of_ble_eq_true rfl) dX9_certain_42 (fun v_2 => ?_)
        refine g_aload_n 0 dX9_certain_45 rfl ?_
        refine g_getQ (ci := 9) (k0 := 0) (C0 := RX9) (T := TX9) (N := 8) (hX 32 (by decide)) rfl rfl hiX9_certain_9 (by decide) (List.mem_of_getElem? (i := 2) rfl) rfl dX9_certain_46 ?_
        refine g_iload 5 dX9_certain_49 rfl ?_
        refine g_iald hG (hX 33 (by decide)) rfl dX9_certain_51 ?_
        refine g_iload_n 3 dX9_certain_52 rfl ?_
        refine g_cSp (n := 2) (As := [.int (gR S 33 (gN x5)), .int x3]) (rest := [.int v_2]) hF (tX7_partyIn hG hF hX hQ (gR S 33 (gN x5)) x3 S) gX9_certain_X7_partyIn rfl ⟨by decide +kernel, by decide +kernel, by decide +kernel⟩ rfl (gRm_ok (by decide) (by decide)) rfl (Nat.le_of_ble_eq_true rfl) dX9_certain_53 (fun v_3 => ?_)
        refine g_icmp_ne (tgt := 63) dX9_certain_56 (by decide) (fun h_3 => ?_) (fun h_3 => ?_)
        · refine g_iconst (v := 0) dX9_certain_63 (by decide) ?_
          exact tX9_certain_L64 hG hF hX hQ h1 (fX9_certain_L11 a1 n) ih x2 x3 x4 x5 0 S
        · refine g_iconst (v := 1) dX9_certain_59 (by decide) ?_
          refine g_goto (tgt := 64) dX9_certain_60 (by decide) ?_
          exact tX9_certain_L64 hG hF hX hQ h1 (fX9_certain_L11 a1 n) ih x2 x3 x4 x5 1 S
set_option maxRecDepth 100000 in
set_option maxHeartbeats 4000000 in
theorem tX9_certain_L {G : gGG} {F : State → Heap → Prop} (hG : gOK G) (hF : gSb G F) (hX : gPX G) (hQ : gOQ G) {a1 : Nat} (h1 : gIsSi a1 = true) (a2 : Int32) (a3 : Int32) (S : gSt) : Gof G F RX9 cX9_certain 7 wsX9_certain (some .int) (gRm 52) 0 0 (gQ G (fun x => (some (.int x.1), x.2))) 0 [(0, .ref (gad G 32)), (1, .ref (gad G a1)), (2, .int a2), (3, .int a3)] [] S (fX9_certain a1 a2 a3 S) := by
  unfold fX9_certain
  refine g_aload_n 0 dX9_certain_0 rfl ?_
  refine g_cVv (ci := 9) (C0 := RX9) (T := TX9) (N := 8) (n := 0) (As := []) (rest := []) hF (tX9_gather hG hF hX hQ S) gX9_certain_X9_gather rfl (hX 32 (by decide)) rfl rfl ⟨rfl, by decide +kernel, by decide +kernel, by decide +kernel⟩ rfl (gRm_ok (by decide) (by decide)) rfl (Nat.le_of_ble_eq_true rfl) dX9_certain_1 (fun S_1 => ?_)
  refine g_bipush (v := (-9)) dX9_certain_4 (by decide) ?_
  refine g_istore (i := 4) (env' := [(4, .int (-9)), (0, .ref (gad G 32)), (1, .ref (gad G a1)), (2, .int a2), (3, .int a3)]) dX9_certain_6 (by decide) rfl ?_
  refine g_iconst (v := 0) dX9_certain_8 (by decide) ?_
  refine g_istore (i := 5) (env' := [(5, .int 0), (4, .int (-9)), (0, .ref (gad G 32)), (1, .ref (gad G a1)), (2, .int a2), (3, .int a3)]) dX9_certain_9 (by decide) rfl ?_
  refine g_env (env' := [(0, .ref (gad G 32)), (1, .ref (gad G a1)), (2, .int a2), (3, .int a3), (4, .int (-9)), (5, .int 0)]) [2, 3, 4, 5, 1, 0] rfl ?_
  exact tX9_certain_L11 hG hF hX hQ h1 gFU a2 a3 (-9) 0 S_1
set_option maxRecDepth 100000 in
set_option maxHeartbeats 4000000 in
theorem tX9_certain {G : gGG} {F : State → Heap → Prop} (hG : gOK G) (hF : gSb G F) (hX : gPX G) (hQ : gOQ G) {a1 : Nat} (h1 : gIsSi a1 = true) (a2 : Int32) (a3 : Int32) (S : gSt) : gCt G F yX9_certain wsX9_certain 52 [.ref (gad G 32), .ref (gad G a1), .int a2, .int a3] S ((fX9_certain a1 a2 a3 S).map (fun x => (some (.int x.1), x.2))) := g_met (by decide +kernel) rfl (Nat.le_of_ble_eq_true rfl) (tX9_certain_L hG hF hX hQ h1 a2 a3 S)
