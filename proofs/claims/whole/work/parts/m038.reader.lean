/-! X4_isLetter -/
set_option maxRecDepth 100000 in
set_option maxHeartbeats 4000000 in
theorem tX4_isLetter_L {G : gGG} {F : State → Heap → Prop} (hG : gOK G) (hF : gSb G F) (hX : gPX G) (hQ : gOQ G) (a0 : Int32) (S : gSt) : Gof G F RX4 cX4_isLetter 1 wsX4_isLetter (some .boolean) (gRm 0) 0 0 (gQ G (fun x => (some (.int x), S))) 0 [(0, .int a0)] [] S (fX4_isLetter a0 S) := by
  unfold fX4_isLetter
  refine g_iload_n 0 dX4_isLetter_0 rfl ?_
  refine g_bipush (v := 97) dX4_isLetter_1 (by decide) ?_
  refine g_icmp_lt (tgt := 16) dX4_isLetter_3 (by decide) (fun h_1 => ?_) (fun h_1 => ?_)
  · refine g_iconst (v := 0) dX4_isLetter_16 (by decide) ?_
    exact g_zret (by decide) dX4_isLetter_17 rfl
  · refine g_iload_n 0 dX4_isLetter_6 rfl ?_
    refine g_bipush (v := 122) dX4_isLetter_7 (by decide) ?_
    refine g_icmp_gt (tgt := 16) dX4_isLetter_9 (by decide) (fun h_2 => ?_) (fun h_2 => ?_)
    · refine g_iconst (v := 0) dX4_isLetter_16 (by decide) ?_
      exact g_zret (by decide) dX4_isLetter_17 rfl
    · refine g_iconst (v := 1) dX4_isLetter_12 (by decide) ?_
      refine g_goto (tgt := 17) dX4_isLetter_13 (by decide) ?_
      exact g_zret (by decide) dX4_isLetter_17 rfl
set_option maxRecDepth 100000 in
set_option maxHeartbeats 4000000 in
theorem tX4_isLetter {G : gGG} {F : State → Heap → Prop} (hG : gOK G) (hF : gSb G F) (hX : gPX G) (hQ : gOQ G) (a0 : Int32) (S : gSt) : gCt G F yX4_isLetter wsX4_isLetter 0 [.int a0] S ((fX4_isLetter a0 S).map (fun x => (some (.int x), S))) := g_met (by decide +kernel) rfl (Nat.le_of_ble_eq_true rfl) (tX4_isLetter_L hG hF hX hQ a0 S)
/-! X4_spelling -/
set_option maxRecDepth 100000 in
set_option maxHeartbeats 4000000 in
theorem tX4_spelling_L {G : gGG} {F : State → Heap → Prop} (hG : gOK G) (hF : gSb G F) (hX : gPX G) (hQ : gOQ G) (hV : gVX G F) (a0 : Int32) (S : gSt) : Gof G F RX4 cX4_spelling 1 wsX4_spelling (some (.object "java/lang/String")) (gRm 0) 0 0 (gQ G (fun x => (some (.ref (gad G x)), S))) 0 [(0, .int a0)] [] S (fX4_spelling a0 S) := by
  unfold fX4_spelling
  refine g_iload_n 0 dX4_spelling_0 rfl ?_
  refine g_ite (c0 := a0 = 0) (fun h_1 => ?_) (fun h_1 => ?_)
  · refine g_tin (tgt := 60) dX4_spelling_1 (by rw [h_1]; decide) (by rw [h_1]; decide) (by rw [h_1]; rfl) (by decide) ?_
    refine g_ldcS hV 0 (by decide) rfl rfl dX4_spelling_60 ?_
    exact g_aret dX4_spelling_62 rfl
  refine g_ite (c0 := a0 = 1) (fun h_2 => ?_) (fun h_2 => ?_)
  · refine g_tin (tgt := 63) dX4_spelling_1 (by rw [h_2]; decide) (by rw [h_2]; decide) (by rw [h_2]; rfl) (by decide) ?_
    refine g_ldcS hV 1 (by decide) rfl rfl dX4_spelling_63 ?_
    exact g_aret dX4_spelling_65 rfl
  refine g_ite (c0 := a0 = 2) (fun h_3 => ?_) (fun h_3 => ?_)
  · refine g_tin (tgt := 66) dX4_spelling_1 (by rw [h_3]; decide) (by rw [h_3]; decide) (by rw [h_3]; rfl) (by decide) ?_
    refine g_ldcS hV 2 (by decide) rfl rfl dX4_spelling_66 ?_
    exact g_aret dX4_spelling_68 rfl
  refine g_ite (c0 := a0 = 3) (fun h_4 => ?_) (fun h_4 => ?_)
  · refine g_tin (tgt := 69) dX4_spelling_1 (by rw [h_4]; decide) (by rw [h_4]; decide) (by rw [h_4]; rfl) (by decide) ?_
    refine g_ldcS hV 3 (by decide) rfl rfl dX4_spelling_69 ?_
    exact g_aret dX4_spelling_71 rfl
  refine g_ite (c0 := a0 = 4) (fun h_5 => ?_) (fun h_5 => ?_)
  · refine g_tin (tgt := 72) dX4_spelling_1 (by rw [h_5]; decide) (by rw [h_5]; decide) (by rw [h_5]; rfl) (by decide) ?_
    refine g_ldcS hV 4 (by decide) rfl rfl dX4_spelling_72 ?_
    exact g_aret dX4_spelling_74 rfl
  refine g_ite (c0 := a0 = 5) (fun h_6 => ?_) (fun h_6 => ?_)
  · refine g_tin (tgt := 75) dX4_spelling_1 (by rw [h_6]; decide) (by rw [h_6]; decide) (by rw [h_6]; rfl) (by decide) ?_
    refine g_ldcS hV 5 (by decide) rfl rfl dX4_spelling_75 ?_
    exact g_aret dX4_spelling_77 rfl
  refine g_ite (c0 := a0 = 6) (fun h_7 => ?_) (fun h_7 => ?_)
  · refine g_tin (tgt := 78) dX4_spelling_1 (by rw [h_7]; decide) (by rw [h_7]; decide) (by rw [h_7]; rfl) (by decide) ?_
    refine g_ldcS hV 6 (by decide) rfl rfl dX4_spelling_78 ?_
    exact g_aret dX4_spelling_80 rfl
  refine g_ite (c0 := a0 = 7) (fun h_8 => ?_) (fun h_8 => ?_)
  · refine g_tin (tgt := 81) dX4_spelling_1 (by rw [h_8]; decide) (by rw [h_8]; decide) (by rw [h_8]; rfl) (by decide) ?_
    refine g_ldcS hV 7 (by decide) rfl rfl dX4_spelling_81 ?_
    exact g_aret dX4_spelling_83 rfl
  refine g_ite (c0 := a0 = 8) (fun h_9 => ?_) (fun h_9 => ?_)
  · refine g_tin (tgt := 84) dX4_spelling_1 (by rw [h_9]; decide) (by rw [h_9]; decide) (by rw [h_9]; rfl) (by decide) ?_
    refine g_ldcS hV 8 (by decide) rfl rfl dX4_spelling_84 ?_
    exact g_aret dX4_spelling_86 rfl
  refine g_ite (c0 := a0 = 9) (fun h_10 => ?_) (fun h_10 => ?_)
  · refine g_tin (tgt := 87) dX4_spelling_1 (by rw [h_10]; decide) (by rw [h_10]; decide) (by rw [h_10]; rfl) (by decide) ?_
    refine g_ldcS hV 9 (by decide) rfl rfl dX4_spelling_87 ?_
    exact g_aret dX4_spelling_89 rfl
  refine g_ite (c0 := a0 = 10) (fun h_11 => ?_) (fun h_11 => ?_)
  · refine g_tin (tgt := 90) dX4_spelling_1 (by rw [h_11]; decide) (by rw [h_11]; decide) (by rw [h_11]; rfl) (by decide) ?_
    refine g_ldcS hV 10 (by decide) rfl rfl dX4_spelling_90 ?_
    exact g_aret dX4_spelling_92 rfl
  refine g_tout (tgt := 93) dX4_spelling_1 (by have nh_1 := lv_neT (a := 0) h_1 (by decide); have nh_2 := lv_neT (a := 1) h_2 (by decide); have nh_3 := lv_neT (a := 2) h_3 (by decide); have nh_4 := lv_neT (a := 3) h_4 (by decide); have nh_5 := lv_neT (a := 4) h_5 (by decide); have nh_6 := lv_neT (a := 5) h_6 (by decide); have nh_7 := lv_neT (a := 6) h_7 (by decide); have nh_8 := lv_neT (a := 7) h_8 (by decide); have nh_9 := lv_neT (a := 8) h_9 (by decide); have nh_10 := lv_neT (a := 9) h_10 (by decide); have nh_11 := lv_neT (a := 10) h_11 (by decide); omega) (by decide) ?_
  exact g_none
set_option maxRecDepth 100000 in
set_option maxHeartbeats 4000000 in
theorem tX4_spelling {G : gGG} {F : State → Heap → Prop} (hG : gOK G) (hF : gSb G F) (hX : gPX G) (hQ : gOQ G) (hV : gVX G F) (a0 : Int32) (S : gSt) : gCt G F yX4_spelling wsX4_spelling 0 [.int a0] S ((fX4_spelling a0 S).map (fun x => (some (.ref (gad G x)), S))) := g_met (by decide +kernel) rfl (Nat.le_of_ble_eq_true rfl) (tX4_spelling_L hG hF hX hQ hV a0 S)
/-! X4_isSpelled -/
theorem hiX4_isSpelled_4 : ∀ w ∈ u_ws RX4 TX4 7, w ∈ wsX4_isSpelled := fun _ hw => List.mem_cons_of_mem _ (List.mem_append_left _ (List.mem_append_right _ (hw)))
set_option maxRecDepth 100000 in
set_option maxHeartbeats 4000000 in
theorem tX4_isSpelled_L20 {G : gGG} {F : State → Heap → Prop} (hG : gOK G) (hF : gSb G F) (hX : gPX G) (hQ : gOQ G) (hV : gVX G F) {a1 : Nat} (h1 : gIsStr a1 = true) (S : gSt) : ∀ (n : Nat) (x2 : Int32), Gof G F RX4 cX4_isSpelled 3 wsX4_isSpelled (some .boolean) (gRm 4) 0 0 (gQ G (fun x => (some (.int x), S))) 20 [(0, .ref (gad G 31)), (1, .ref (gad G a1)), (2, .int x2)] [] S (fX4_isSpelled_L20 a1 S n x2) := by
  intro n
  induction n with
  | zero => intro x2; exact g_none
  | succ n ih =>
    intro x2
    unfold fX4_isSpelled_L20
    refine g_iload_n 2 dX4_isSpelled_20 rfl ?_
    refine g_aload_n 1 dX4_isSpelled_21 rfl ?_
    refine g_cTp (n := 0) (As := []) (rest := [.int x2]) hV hF (tJ0_length_8abf5 hG hF hV h1 S) gX4_isSpelled_J0_length_8abf5 rfl h1 ⟨rfl, by decide +kernel, by decide +kernel, by decide +kernel⟩ rfl (gRm_ok (by decide) (by decide)) rfl (Nat.le_of_ble_eq_true rfl) dX4_isSpelled_22 (fun v_1 => ?_)
    refine g_icmp_ge (tgt := 57) dX4_isSpelled_25 (by decide) (fun h_1 => ?_) (fun h_1 => ?_)
    · refine g_iconst (v := 1) dX4_isSpelled_57 (by decide) ?_
      exact g_zret (by decide) dX4_isSpelled_58 rfl
    · refine g_aload_n 1 dX4_isSpelled_28 rfl ?_
      refine g_iload_n 2 dX4_isSpelled_29 rfl ?_
      refine g_cTp (n := 1) (As := [.int x2]) (rest := []) hV hF (tJ0_charAt_5068e hG hF hV h1 x2 S) gX4_isSpelled_J0_charAt_5068e rfl h1 ⟨rfl, by decide +kernel, by decide +kernel, by decide +kernel⟩ rfl (gRm_ok (by decide) (by decide)) rfl (Nat.le_of_ble_eq_true rfl) dX4_isSpelled_30 (fun v_2 => ?_)
      refine g_aload_n 0 dX4_isSpelled_33 rfl ?_
      refine g_getK (ci := 4) (k0 := 0) (C0 := RX4) (T := TX4) (N := 7) (hX 31 (by decide)) rfl rfl hiX4_isSpelled_4 (by decide) (List.mem_of_getElem? (i := 3) rfl) rfl dX4_isSpelled_34 ?_
      refine g_aload_n 0 dX4_isSpelled_37 rfl ?_
      refine g_getI (ci := 4) (k0 := 5) (C0 := RX4) (T := TX4) (N := 7) (hX 31 (by decide)) rfl rfl hiX4_isSpelled_4 (by decide) (List.mem_of_getElem? (i := 2) rfl) rfl dX4_isSpelled_38 ?_
      refine g_iload_n 2 dX4_isSpelled_41 rfl ?_
      refine g_iadd dX4_isSpelled_42 ?_
      refine g_cVp (ci := 8) (C0 := RX8) (T := TX8) (N := 2) (n := 1) (As := [.int ((gR S 31 5) + x2)]) (rest := [.int v_2]) hF (tX8_byteAt hG hF hX hQ ((gR S 31 5) + x2) S) gX4_isSpelled_X8_byteAt rfl (hX 29 (by decide)) rfl rfl ⟨rfl, by decide +kernel, by decide +kernel, by decide +kernel⟩ rfl (gRm_ok (by decide) (by decide)) rfl (Nat.le_of_ble_eq_true rfl) dX4_isSpelled_43 (fun v_3 => ?_)
      refine g_icmp_eq (tgt := 51) dX4_isSpelled_46 (by decide) (fun h_2 => ?_) (fun h_2 => ?_)
      · refine g_iinc 2 (v := (x2 + 1)) (env' := [(2, .int (x2 + 1)), (0, .ref (gad G 31)), (1, .ref (gad G a1))]) dX4_isSpelled_51 rfl rfl (by decide) rfl ?_
        refine g_goto (tgt := 20) dX4_isSpelled_54 (by decide) ?_
        refine g_env (env' := [(0, .ref (gad G 31)), (1, .ref (gad G a1)), (2, .int (x2 + 1))]) [1, 2, 0] rfl ?_
        exact ih (x2 + 1)
      · refine g_iconst (v := 0) dX4_isSpelled_49 (by decide) ?_
        exact g_zret (by decide) dX4_isSpelled_50 rfl
set_option maxRecDepth 100000 in
set_option maxHeartbeats 4000000 in
theorem tX4_isSpelled_L {G : gGG} {F : State → Heap → Prop} (hG : gOK G) (hF : gSb G F) (hX : gPX G) (hQ : gOQ G) (hV : gVX G F) {a1 : Nat} (h1 : gIsStr a1 = true) (S : gSt) : Gof G F RX4 cX4_isSpelled 3 wsX4_isSpelled (some .boolean) (gRm 4) 0 0 (gQ G (fun x => (some (.int x), S))) 0 [(0, .ref (gad G 31)), (1, .ref (gad G a1))] [] S (fX4_isSpelled a1 S) := by
  unfold fX4_isSpelled
  refine g_aload_n 1 dX4_isSpelled_0 rfl ?_
  refine g_cTp (n := 0) (As := []) (rest := []) hV hF (tJ0_length_8abf5 hG hF hV h1 S) gX4_isSpelled_J0_length_8abf5 rfl h1 ⟨rfl, by decide +kernel, by decide +kernel, by decide +kernel⟩ rfl (gRm_ok (by decide) (by decide)) rfl (Nat.le_of_ble_eq_true rfl) dX4_isSpelled_1 (fun v_1 => ?_)
  refine g_aload_n 0 dX4_isSpelled_4 rfl ?_
  refine g_getI (ci := 4) (k0 := 3) (C0 := RX4) (T := TX4) (N := 7) (hX 31 (by decide)) rfl rfl hiX4_isSpelled_4 (by decide) (List.mem_of_getElem? (i := 1) rfl) rfl dX4_isSpelled_5 ?_
  refine g_aload_n 0 dX4_isSpelled_8 rfl ?_
  refine g_getI (ci := 4) (k0 := 5) (C0 := RX4) (T := TX4) (N := 7) (hX 31 (by decide)) rfl rfl hiX4_isSpelled_4 (by decide) (List.mem_of_getElem? (i := 2) rfl) rfl dX4_isSpelled_9 ?_
  refine g_isub dX4_isSpelled_12 ?_
  refine g_icmp_eq (tgt := 18) dX4_isSpelled_13 (by decide) (fun h_1 => ?_) (fun h_1 => ?_)
  · refine g_iconst (v := 0) dX4_isSpelled_18 (by decide) ?_
    refine g_istore_n (i := 2) (env' := [(2, .int 0), (0, .ref (gad G 31)), (1, .ref (gad G a1))]) dX4_isSpelled_19 rfl (by decide) rfl ?_
    refine g_env (env' := [(0, .ref (gad G 31)), (1, .ref (gad G a1)), (2, .int 0)]) [1, 2, 0] rfl ?_
    exact tX4_isSpelled_L20 hG hF hX hQ hV h1 S gFU 0
  · refine g_iconst (v := 0) dX4_isSpelled_16 (by decide) ?_
    exact g_zret (by decide) dX4_isSpelled_17 rfl
set_option maxRecDepth 100000 in
set_option maxHeartbeats 4000000 in
theorem tX4_isSpelled {G : gGG} {F : State → Heap → Prop} (hG : gOK G) (hF : gSb G F) (hX : gPX G) (hQ : gOQ G) (hV : gVX G F) {a1 : Nat} (h1 : gIsStr a1 = true) (S : gSt) : gCt G F yX4_isSpelled wsX4_isSpelled 4 [.ref (gad G 31), .ref (gad G a1)] S ((fX4_isSpelled a1 S).map (fun x => (some (.int x), S))) := g_met (by decide +kernel) rfl (Nat.le_of_ble_eq_true rfl) (tX4_isSpelled_L hG hF hX hQ hV h1 S)
/-! X4_scanWord -/
theorem hiX4_scanWord_4 : ∀ w ∈ u_ws RX4 TX4 7, w ∈ wsX4_scanWord := fun _ hw => List.mem_cons_of_mem _ (List.mem_append_left _ (List.mem_append_right _ (hw)))
set_option maxRecDepth 100000 in
set_option maxHeartbeats 4000000 in
theorem tX4_scanWord_L42 {G : gGG} {F : State → Heap → Prop} (hG : gOK G) (hF : gSb G F) (hX : gPX G) (hQ : gOQ G) (hV : gVX G F) : ∀ (n : Nat) (x1 : Int32) (S : gSt), Gof G F RX4 cX4_scanWord 2 wsX4_scanWord (some .int) (gRm 5) 0 0 (gQ G (fun x => (some (.int x.1), x.2))) 42 [(0, .ref (gad G 31)), (1, .int x1)] [] S (fX4_scanWord_L42 n x1 S) := by
  intro n
  induction n with
  | zero => intro x1 S; exact g_none
  | succ n ih =>
    intro x1 S
    unfold fX4_scanWord_L42
    refine g_iload_n 1 dX4_scanWord_42 rfl ?_
    refine g_bipush (v := 11) dX4_scanWord_43 (by decide) ?_
    refine g_icmp_ge (tgt := 67) dX4_scanWord_45 (by decide) (fun h_1 => ?_) (fun h_1 => ?_)
    · refine g_bipush (v := 14) dX4_scanWord_67 (by decide) ?_
      exact g_iret dX4_scanWord_69 rfl
    · refine g_aload_n 0 dX4_scanWord_48 rfl ?_
      refine g_iload_n 1 dX4_scanWord_49 rfl ?_
      refine g_cSr (n := 1) (As := [.int x1]) (rest := [.ref (gad G 31)]) hF (tX4_spelling hG hF hX hQ hV x1 S) gX4_scanWord_X4_spelling rfl ⟨by decide +kernel, by decide +kernel, by decide +kernel⟩ rfl (gRm_ok (by decide) (by decide)) rfl (Nat.le_of_ble_eq_true rfl) dX4_scanWord_50 (fun q_1 => ?_)
      refine g_gC (fun h_2 => ?_)
      refine g_cVp (ci := 4) (C0 := RX4) (T := TX4) (N := 7) (n := 1) (As := [.ref (gad G q_1)]) (rest := []) hF (tX4_isSpelled hG hF hX hQ hV h_2 S) gX4_scanWord_X4_isSpelled rfl (hX 31 (by decide)) rfl rfl ⟨rfl, by decide +kernel, by decide +kernel, by decide +kernel⟩ rfl (gRm_ok (by decide) (by decide)) rfl (Nat.le_of_ble_eq_true rfl) dX4_scanWord_53 (fun v_2 => ?_)
      refine g_if_eq (tgt := 61) dX4_scanWord_56 (by decide) (fun h_3 => ?_) (fun h_3 => ?_)
      · refine g_iinc 1 (v := (x1 + 1)) (env' := [(1, .int (x1 + 1)), (0, .ref (gad G 31))]) dX4_scanWord_61 rfl rfl (by decide) rfl ?_
        refine g_goto (tgt := 42) dX4_scanWord_64 (by decide) ?_
        refine g_env (env' := [(0, .ref (gad G 31)), (1, .int (x1 + 1))]) [1, 0] rfl ?_
        exact ih (x1 + 1) S
      · refine g_iload_n 1 dX4_scanWord_59 rfl ?_
        exact g_iret dX4_scanWord_60 rfl
set_option maxRecDepth 100000 in
set_option maxHeartbeats 4000000 in
theorem tX4_scanWord_L0 {G : gGG} {F : State → Heap → Prop} (hG : gOK G) (hF : gSb G F) (hX : gPX G) (hQ : gOQ G) (hV : gVX G F) : ∀ (n : Nat)  (S : gSt), Gof G F RX4 cX4_scanWord 2 wsX4_scanWord (some .int) (gRm 5) 0 0 (gQ G (fun x => (some (.int x.1), x.2))) 0 [(0, .ref (gad G 31))] [] S (fX4_scanWord_L0 n S) := by
  intro n
  induction n with
  | zero => intro  S; exact g_none
  | succ n ih =>
    intro  S
    unfold fX4_scanWord_L0
    refine g_aload_n 0 dX4_scanWord_0 rfl ?_
    refine g_getI (ci := 4) (k0 := 3) (C0 := RX4) (T := TX4) (N := 7) (hX 31 (by decide)) rfl rfl hiX4_scanWord_4 (by decide) (List.mem_of_getElem? (i := 1) rfl) rfl dX4_scanWord_1 ?_
    refine g_sipush (v := 300) dX4_scanWord_4 (by decide) ?_
    refine g_icmp_ge (tgt := 40) dX4_scanWord_7 (by decide) (fun h_1 => ?_) (fun h_1 => ?_)
    · refine g_iconst (v := 0) dX4_scanWord_40 (by decide) ?_
      refine g_istore_n (i := 1) (env' := [(1, .int 0), (0, .ref (gad G 31))]) dX4_scanWord_41 rfl (by decide) rfl ?_
      refine g_env (env' := [(0, .ref (gad G 31)), (1, .int 0)]) [1, 0] rfl ?_
      exact tX4_scanWord_L42 hG hF hX hQ hV gFU 0 S
    · refine g_aload_n 0 dX4_scanWord_10 rfl ?_
      refine g_getK (ci := 4) (k0 := 0) (C0 := RX4) (T := TX4) (N := 7) (hX 31 (by decide)) rfl rfl hiX4_scanWord_4 (by decide) (List.mem_of_getElem? (i := 2) rfl) rfl dX4_scanWord_11 ?_
      refine g_aload_n 0 dX4_scanWord_14 rfl ?_
      refine g_getI (ci := 4) (k0 := 3) (C0 := RX4) (T := TX4) (N := 7) (hX 31 (by decide)) rfl rfl hiX4_scanWord_4 (by decide) (List.mem_of_getElem? (i := 1) rfl) rfl dX4_scanWord_15 ?_
      refine g_cVp (ci := 8) (C0 := RX8) (T := TX8) (N := 2) (n := 1) (As := [.int (gR S 31 3)]) (rest := []) hF (tX8_byteAt hG hF hX hQ (gR S 31 3) S) gX4_scanWord_X8_byteAt rfl (hX 29 (by decide)) rfl rfl ⟨rfl, by decide +kernel, by decide +kernel, by decide +kernel⟩ rfl (gRm_ok (by decide) (by decide)) rfl (Nat.le_of_ble_eq_true rfl) dX4_scanWord_18 (fun v_1 => ?_)
      refine g_cSp (n := 1) (As := [.int v_1]) (rest := []) hF (tX4_isLetter hG hF hX hQ v_1 S) gX4_scanWord_X4_isLetter rfl ⟨by decide +kernel, by decide +kernel, by decide +kernel⟩ rfl (gRm_ok (by decide) (by decide)) rfl (Nat.le_of_ble_eq_true rfl) dX4_scanWord_21 (fun v_2 => ?_)
      refine g_if_eq (tgt := 40) dX4_scanWord_24 (by decide) (fun h_2 => ?_) (fun h_2 => ?_)
      · refine g_iconst (v := 0) dX4_scanWord_40 (by decide) ?_
        refine g_istore_n (i := 1) (env' := [(1, .int 0), (0, .ref (gad G 31))]) dX4_scanWord_41 rfl (by decide) rfl ?_
        refine g_env (env' := [(0, .ref (gad G 31)), (1, .int 0)]) [1, 0] rfl ?_
        exact tX4_scanWord_L42 hG hF hX hQ hV gFU 0 S
      · refine g_aload_n 0 dX4_scanWord_27 rfl ?_
        refine g_dup dX4_scanWord_28 rfl ?_
        refine g_getI (ci := 4) (k0 := 3) (C0 := RX4) (T := TX4) (N := 7) (hX 31 (by decide)) rfl rfl hiX4_scanWord_4 (by decide) (List.mem_of_getElem? (i := 1) rfl) rfl dX4_scanWord_29 ?_
        refine g_iconst (v := 1) dX4_scanWord_32 (by decide) ?_
        refine g_iadd dX4_scanWord_33 ?_
        refine g_putI hG (ci := 4) (k0 := 3) (C0 := RX4) (T := TX4) (N := 7) (hX 31 (by decide)) rfl rfl hiX4_scanWord_4 (by decide) (List.mem_of_getElem? (i := 1) rfl) tyX4 tyX4_ok nmX4 rfl rfl rfl rfl dX4_scanWord_34 ?_
        refine g_nS (fun S_3 => ?_)
        refine g_goto (tgt := 0) dX4_scanWord_37 (by decide) ?_
        exact ih S_3
set_option maxRecDepth 100000 in
set_option maxHeartbeats 4000000 in
theorem tX4_scanWord_L {G : gGG} {F : State → Heap → Prop} (hG : gOK G) (hF : gSb G F) (hX : gPX G) (hQ : gOQ G) (hV : gVX G F) (S : gSt) : Gof G F RX4 cX4_scanWord 2 wsX4_scanWord (some .int) (gRm 5) 0 0 (gQ G (fun x => (some (.int x.1), x.2))) 0 [(0, .ref (gad G 31))] [] S (fX4_scanWord S) := by
  unfold fX4_scanWord
  exact tX4_scanWord_L0 hG hF hX hQ hV gFU S
set_option maxRecDepth 100000 in
set_option maxHeartbeats 4000000 in
theorem tX4_scanWord {G : gGG} {F : State → Heap → Prop} (hG : gOK G) (hF : gSb G F) (hX : gPX G) (hQ : gOQ G) (hV : gVX G F) (S : gSt) : gCt G F yX4_scanWord wsX4_scanWord 5 [.ref (gad G 31)] S ((fX4_scanWord S).map (fun x => (some (.int x.1), x.2))) := g_met (by decide +kernel) rfl (Nat.le_of_ble_eq_true rfl) (tX4_scanWord_L hG hF hX hQ hV S)
/-! X4_isDigit -/
set_option maxRecDepth 100000 in
set_option maxHeartbeats 4000000 in
theorem tX4_isDigit_L {G : gGG} {F : State → Heap → Prop} (hG : gOK G) (hF : gSb G F) (hX : gPX G) (hQ : gOQ G) (a0 : Int32) (S : gSt) : Gof G F RX4 cX4_isDigit 1 wsX4_isDigit (some .boolean) (gRm 0) 0 0 (gQ G (fun x => (some (.int x), S))) 0 [(0, .int a0)] [] S (fX4_isDigit a0 S) := by
  unfold fX4_isDigit
  refine g_iload_n 0 dX4_isDigit_0 rfl ?_
  refine g_bipush (v := 48) dX4_isDigit_1 (by decide) ?_
  refine g_icmp_lt (tgt := 16) dX4_isDigit_3 (by decide) (fun h_1 => ?_) (fun h_1 => ?_)
  · refine g_iconst (v := 0) dX4_isDigit_16 (by decide) ?_
    exact g_zret (by decide) dX4_isDigit_17 rfl
  · refine g_iload_n 0 dX4_isDigit_6 rfl ?_
    refine g_bipush (v := 57) dX4_isDigit_7 (by decide) ?_
    refine g_icmp_gt (tgt := 16) dX4_isDigit_9 (by decide) (fun h_2 => ?_) (fun h_2 => ?_)
    · refine g_iconst (v := 0) dX4_isDigit_16 (by decide) ?_
      exact g_zret (by decide) dX4_isDigit_17 rfl
    · refine g_iconst (v := 1) dX4_isDigit_12 (by decide) ?_
      refine g_goto (tgt := 17) dX4_isDigit_13 (by decide) ?_
      exact g_zret (by decide) dX4_isDigit_17 rfl
set_option maxRecDepth 100000 in
set_option maxHeartbeats 4000000 in
theorem tX4_isDigit {G : gGG} {F : State → Heap → Prop} (hG : gOK G) (hF : gSb G F) (hX : gPX G) (hQ : gOQ G) (a0 : Int32) (S : gSt) : gCt G F yX4_isDigit wsX4_isDigit 0 [.int a0] S ((fX4_isDigit a0 S).map (fun x => (some (.int x), S))) := g_met (by decide +kernel) rfl (Nat.le_of_ble_eq_true rfl) (tX4_isDigit_L hG hF hX hQ a0 S)
/-! X4_scanNumber -/
theorem hiX4_scanNumber_4 : ∀ w ∈ u_ws RX4 TX4 7, w ∈ wsX4_scanNumber := fun _ hw => List.mem_cons_of_mem _ (List.mem_append_left _ (List.mem_append_right _ (hw)))
set_option maxRecDepth 100000 in
set_option maxHeartbeats 4000000 in
theorem tX4_scanNumber_L114 {G : gGG} {F : State → Heap → Prop} (hG : gOK G) (hF : gSb G F) (hX : gPX G) (hQ : gOQ G) (s0 : Int32) (S : gSt) : Gof G F RX4 cX4_scanNumber 2 wsX4_scanNumber (some .int) (gRm 1) 0 0 (gQ G (fun x => (some (.int x.1), x.2))) 114 [(0, .ref (gad G 31))] [.int s0] S (fX4_scanNumber_L114 s0 S) := by
  unfold fX4_scanNumber_L114
  refine g_istore_n (i := 1) (env' := [(1, .int s0), (0, .ref (gad G 31))]) dX4_scanNumber_114 rfl (by decide) rfl ?_
  refine g_aload_n 1 dX4_scanNumber_115 rfl ?_
  refine g_getI (ci := 4) (k0 := 6) (C0 := RX4) (T := TX4) (N := 7) (hX 31 (by decide)) rfl rfl hiX4_scanNumber_4 (by decide) (List.mem_of_getElem? (i := 1) rfl) rfl dX4_scanNumber_116 ?_
  refine g_bipush (v := 99) dX4_scanNumber_119 (by decide) ?_
  refine g_icmp_gt (tgt := 128) dX4_scanNumber_121 (by decide) (fun h_1 => ?_) (fun h_1 => ?_)
  · refine g_bipush (v := 14) dX4_scanNumber_128 (by decide) ?_
    refine g_goto (tgt := 135) dX4_scanNumber_130 (by decide) ?_
    exact g_iret dX4_scanNumber_135 rfl
  · refine g_iload_n 0 dX4_scanNumber_124 rfl ?_
    refine g_if_eq (tgt := 133) dX4_scanNumber_125 (by decide) (fun h_2 => ?_) (fun h_2 => ?_)
    · refine g_bipush (v := 11) dX4_scanNumber_133 (by decide) ?_
      exact g_iret dX4_scanNumber_135 rfl
    · refine g_bipush (v := 14) dX4_scanNumber_128 (by decide) ?_
      refine g_goto (tgt := 135) dX4_scanNumber_130 (by decide) ?_
      exact g_iret dX4_scanNumber_135 rfl
set_option maxRecDepth 100000 in
set_option maxHeartbeats 4000000 in
theorem tX4_scanNumber_L80 {G : gGG} {F : State → Heap → Prop} (hG : gOK G) (hF : gSb G F) (hX : gPX G) (hQ : gOQ G)  (S : gSt) : Gof G F RX4 cX4_scanNumber 2 wsX4_scanNumber (some .int) (gRm 1) 0 0 (gQ G (fun x => (some (.int x.1), x.2))) 80 [(0, .ref (gad G 31))] [] S (fX4_scanNumber_L80 S) := by
  unfold fX4_scanNumber_L80
  refine g_aload_n 0 dX4_scanNumber_80 rfl ?_
  refine g_getK (ci := 4) (k0 := 0) (C0 := RX4) (T := TX4) (N := 7) (hX 31 (by decide)) rfl rfl hiX4_scanNumber_4 (by decide) (List.mem_of_getElem? (i := 3) rfl) rfl dX4_scanNumber_81 ?_
  refine g_aload_n 0 dX4_scanNumber_84 rfl ?_
  refine g_getI (ci := 4) (k0 := 5) (C0 := RX4) (T := TX4) (N := 7) (hX 31 (by decide)) rfl rfl hiX4_scanNumber_4 (by decide) (List.mem_of_getElem? (i := 4) rfl) rfl dX4_scanNumber_85 ?_
  refine g_cVp (ci := 8) (C0 := RX8) (T := TX8) (N := 2) (n := 1) (As := [.int (gR S 31 5)]) (rest := []) hF (tX8_byteAt hG hF hX hQ (gR S 31 5) S) gX4_scanNumber_X8_byteAt rfl (hX 29 (by decide)) rfl rfl ⟨rfl, by decide +kernel, by decide +kernel, by decide +kernel⟩ rfl (gRm_ok (by decide) (by decide)) rfl (Nat.le_of_ble_eq_true rfl) dX4_scanNumber_88 (fun v_1 => ?_)
  refine g_bipush (v := 48) dX4_scanNumber_91 (by decide) ?_
  refine g_icmp_ne (tgt := 113) dX4_scanNumber_93 (by decide) (fun h_1 => ?_) (fun h_1 => ?_)
  · refine g_iconst (v := 0) dX4_scanNumber_113 (by decide) ?_
    exact tX4_scanNumber_L114 hG hF hX hQ 0 S
  · refine g_aload_n 0 dX4_scanNumber_96 rfl ?_
    refine g_getI (ci := 4) (k0 := 3) (C0 := RX4) (T := TX4) (N := 7) (hX 31 (by decide)) rfl rfl hiX4_scanNumber_4 (by decide) (List.mem_of_getElem? (i := 2) rfl) rfl dX4_scanNumber_97 ?_
    refine g_aload_n 0 dX4_scanNumber_100 rfl ?_
    refine g_getI (ci := 4) (k0 := 5) (C0 := RX4) (T := TX4) (N := 7) (hX 31 (by decide)) rfl rfl hiX4_scanNumber_4 (by decide) (List.mem_of_getElem? (i := 4) rfl) rfl dX4_scanNumber_101 ?_
    refine g_isub dX4_scanNumber_104 ?_
    refine g_iconst (v := 1) dX4_scanNumber_105 (by decide) ?_
    refine g_icmp_le (tgt := 113) dX4_scanNumber_106 (by decide) (fun h_2 => ?_) (fun h_2 => ?_)
    · refine g_iconst (v := 0) dX4_scanNumber_113 (by decide) ?_
      exact tX4_scanNumber_L114 hG hF hX hQ 0 S
    · refine g_iconst (v := 1) dX4_scanNumber_109 (by decide) ?_
      refine g_goto (tgt := 114) dX4_scanNumber_110 (by decide) ?_
      exact tX4_scanNumber_L114 hG hF hX hQ 1 S
set_option maxRecDepth 100000 in
set_option maxHeartbeats 4000000 in
theorem tX4_scanNumber_L5 {G : gGG} {F : State → Heap → Prop} (hG : gOK G) (hF : gSb G F) (hX : gPX G) (hQ : gOQ G) : ∀ (n : Nat)  (S : gSt), Gof G F RX4 cX4_scanNumber 2 wsX4_scanNumber (some .int) (gRm 1) 0 0 (gQ G (fun x => (some (.int x.1), x.2))) 5 [(0, .ref (gad G 31))] [] S (fX4_scanNumber_L5 n S) := by
  intro n
  induction n with
  | zero => intro  S; exact g_none
  | succ n ih =>
    intro  S
    unfold fX4_scanNumber_L5
    refine g_aload_n 0 dX4_scanNumber_5 rfl ?_
    refine g_getI (ci := 4) (k0 := 3) (C0 := RX4) (T := TX4) (N := 7) (hX 31 (by decide)) rfl rfl hiX4_scanNumber_4 (by decide) (List.mem_of_getElem? (i := 2) rfl) rfl dX4_scanNumber_6 ?_
    refine g_sipush (v := 300) dX4_scanNumber_9 (by decide) ?_
    refine g_icmp_ge (tgt := 80) dX4_scanNumber_12 (by decide) (fun h_1 => ?_) (fun h_1 => ?_)
    · exact tX4_scanNumber_L80 hG hF hX hQ S
    · refine g_aload_n 0 dX4_scanNumber_15 rfl ?_
      refine g_getK (ci := 4) (k0 := 0) (C0 := RX4) (T := TX4) (N := 7) (hX 31 (by decide)) rfl rfl hiX4_scanNumber_4 (by decide) (List.mem_of_getElem? (i := 3) rfl) rfl dX4_scanNumber_16 ?_
      refine g_aload_n 0 dX4_scanNumber_19 rfl ?_
      refine g_getI (ci := 4) (k0 := 3) (C0 := RX4) (T := TX4) (N := 7) (hX 31 (by decide)) rfl rfl hiX4_scanNumber_4 (by decide) (List.mem_of_getElem? (i := 2) rfl) rfl dX4_scanNumber_20 ?_
      refine g_cVp (ci := 8) (C0 := RX8) (T := TX8) (N := 2) (n := 1) (As := [.int (gR S 31 3)]) (rest := []) hF (tX8_byteAt hG hF hX hQ (gR S 31 3) S) gX4_scanNumber_X8_byteAt rfl (hX 29 (by decide)) rfl rfl ⟨rfl, by decide +kernel, by decide +kernel, by decide +kernel⟩ rfl (gRm_ok (by decide) (by decide)) rfl (Nat.le_of_ble_eq_true rfl) dX4_scanNumber_23 (fun v_1 => ?_)
      refine g_cSp (n := 1) (As := [.int v_1]) (rest := []) hF (tX4_isDigit hG hF hX hQ v_1 S) gX4_scanNumber_X4_isDigit rfl ⟨by decide +kernel, by decide +kernel, by decide +kernel⟩ rfl (gRm_ok (by decide) (by decide)) rfl (Nat.le_of_ble_eq_true rfl) dX4_scanNumber_26 (fun v_2 => ?_)
      refine g_if_eq (tgt := 80) dX4_scanNumber_29 (by decide) (fun h_2 => ?_) (fun h_2 => ?_)
      · exact tX4_scanNumber_L80 hG hF hX hQ S
      · refine g_aload_n 0 dX4_scanNumber_32 rfl ?_
        refine g_getI (ci := 4) (k0 := 6) (C0 := RX4) (T := TX4) (N := 7) (hX 31 (by decide)) rfl rfl hiX4_scanNumber_4 (by decide) (List.mem_of_getElem? (i := 1) rfl) rfl dX4_scanNumber_33 ?_
        refine g_bipush (v := 99) dX4_scanNumber_36 (by decide) ?_
        refine g_icmp_gt (tgt := 67) dX4_scanNumber_38 (by decide) (fun h_3 => ?_) (fun h_3 => ?_)
        · refine g_aload_n 0 dX4_scanNumber_67 rfl ?_
          refine g_dup dX4_scanNumber_68 rfl ?_
          refine g_getI (ci := 4) (k0 := 3) (C0 := RX4) (T := TX4) (N := 7) (hX 31 (by decide)) rfl rfl hiX4_scanNumber_4 (by decide) (List.mem_of_getElem? (i := 2) rfl) rfl dX4_scanNumber_69 ?_
          refine g_iconst (v := 1) dX4_scanNumber_72 (by decide) ?_
          refine g_iadd dX4_scanNumber_73 ?_
          refine g_putI hG (ci := 4) (k0 := 3) (C0 := RX4) (T := TX4) (N := 7) (hX 31 (by decide)) rfl rfl hiX4_scanNumber_4 (by decide) (List.mem_of_getElem? (i := 2) rfl) tyX4 tyX4_ok nmX4 rfl rfl rfl rfl dX4_scanNumber_74 ?_
          refine g_nS (fun S_3 => ?_)
          refine g_goto (tgt := 5) dX4_scanNumber_77 (by decide) ?_
          exact ih S_3
        · refine g_aload_n 0 dX4_scanNumber_41 rfl ?_
          refine g_aload_n 0 dX4_scanNumber_42 rfl ?_
          refine g_getI (ci := 4) (k0 := 6) (C0 := RX4) (T := TX4) (N := 7) (hX 31 (by decide)) rfl rfl hiX4_scanNumber_4 (by decide) (List.mem_of_getElem? (i := 1) rfl) rfl dX4_scanNumber_43 ?_
          refine g_bipush (v := 10) dX4_scanNumber_46 (by decide) ?_
          refine g_imul dX4_scanNumber_48 ?_
          refine g_aload_n 0 dX4_scanNumber_49 rfl ?_
          refine g_getK (ci := 4) (k0 := 0) (C0 := RX4) (T := TX4) (N := 7) (hX 31 (by decide)) rfl rfl hiX4_scanNumber_4 (by decide) (List.mem_of_getElem? (i := 3) rfl) rfl dX4_scanNumber_50 ?_
          refine g_aload_n 0 dX4_scanNumber_53 rfl ?_
          refine g_getI (ci := 4) (k0 := 3) (C0 := RX4) (T := TX4) (N := 7) (hX 31 (by decide)) rfl rfl hiX4_scanNumber_4 (by decide) (List.mem_of_getElem? (i := 2) rfl) rfl dX4_scanNumber_54 ?_
          refine g_cVp (ci := 8) (C0 := RX8) (T := TX8) (N := 2) (n := 1) (As := [.int (gR S 31 3)]) (rest := [.int ((gR S 31 6) * 10), .ref (gad G 31)]) hF (tX8_byteAt hG hF hX hQ (gR S 31 3) S) gX4_scanNumber_X8_byteAt rfl (hX 29 (by decide)) rfl rfl ⟨rfl, by decide +kernel, by decide +kernel, by decide +kernel⟩ rfl (gRm_ok (by decide) (by decide)) rfl (Nat.le_of_ble_eq_true rfl) dX4_scanNumber_57 (fun v_4 => ?_)
          refine g_iadd dX4_scanNumber_60 ?_
          refine g_bipush (v := 48) dX4_scanNumber_61 (by decide) ?_
          refine g_isub dX4_scanNumber_63 ?_
          refine g_putI hG (ci := 4) (k0 := 6) (C0 := RX4) (T := TX4) (N := 7) (hX 31 (by decide)) rfl rfl hiX4_scanNumber_4 (by decide) (List.mem_of_getElem? (i := 1) rfl) tyX4 tyX4_ok nmX4 rfl rfl rfl rfl dX4_scanNumber_64 ?_
          refine g_nS (fun S_5 => ?_)
          refine g_aload_n 0 dX4_scanNumber_67 rfl ?_
          refine g_dup dX4_scanNumber_68 rfl ?_
          refine g_getI (ci := 4) (k0 := 3) (C0 := RX4) (T := TX4) (N := 7) (hX 31 (by decide)) rfl rfl hiX4_scanNumber_4 (by decide) (List.mem_of_getElem? (i := 2) rfl) rfl dX4_scanNumber_69 ?_
          refine g_iconst (v := 1) dX4_scanNumber_72 (by decide) ?_
          refine g_iadd dX4_scanNumber_73 ?_
          refine g_putI hG (ci := 4) (k0 := 3) (C0 := RX4) (T := TX4) (N := 7) (hX 31 (by decide)) rfl rfl hiX4_scanNumber_4 (by decide) (List.mem_of_getElem? (i := 2) rfl) tyX4 tyX4_ok nmX4 rfl rfl rfl rfl dX4_scanNumber_74 ?_
          refine g_nS (fun S_6 => ?_)
          refine g_goto (tgt := 5) dX4_scanNumber_77 (by decide) ?_
          exact ih S_6
set_option maxRecDepth 100000 in
set_option maxHeartbeats 4000000 in
theorem tX4_scanNumber_L {G : gGG} {F : State → Heap → Prop} (hG : gOK G) (hF : gSb G F) (hX : gPX G) (hQ : gOQ G) (S : gSt) : Gof G F RX4 cX4_scanNumber 2 wsX4_scanNumber (some .int) (gRm 1) 0 0 (gQ G (fun x => (some (.int x.1), x.2))) 0 [(0, .ref (gad G 31))] [] S (fX4_scanNumber S) := by
  unfold fX4_scanNumber
  refine g_aload_n 0 dX4_scanNumber_0 rfl ?_
  refine g_iconst (v := 0) dX4_scanNumber_1 (by decide) ?_
  refine g_putI hG (ci := 4) (k0 := 6) (C0 := RX4) (T := TX4) (N := 7) (hX 31 (by decide)) rfl rfl hiX4_scanNumber_4 (by decide) (List.mem_of_getElem? (i := 1) rfl) tyX4 tyX4_ok nmX4 rfl rfl rfl rfl dX4_scanNumber_2 ?_
  refine g_nS (fun S_1 => ?_)
  exact tX4_scanNumber_L5 hG hF hX hQ gFU S_1
set_option maxRecDepth 100000 in
set_option maxHeartbeats 4000000 in
theorem tX4_scanNumber {G : gGG} {F : State → Heap → Prop} (hG : gOK G) (hF : gSb G F) (hX : gPX G) (hQ : gOQ G) (S : gSt) : gCt G F yX4_scanNumber wsX4_scanNumber 1 [.ref (gad G 31)] S ((fX4_scanNumber S).map (fun x => (some (.int x.1), x.2))) := g_met (by decide +kernel) rfl (Nat.le_of_ble_eq_true rfl) (tX4_scanNumber_L hG hF hX hQ S)
/-! X4_advance -/
theorem hiX4_advance_4 : ∀ w ∈ u_ws RX4 TX4 7, w ∈ wsX4_advance := fun _ hw => List.mem_cons_of_mem _ (List.mem_append_left _ (List.mem_append_right _ (hw)))
set_option maxRecDepth 100000 in
set_option maxHeartbeats 4000000 in
theorem tX4_advance_L140 {G : gGG} {F : State → Heap → Prop} (hG : gOK G) (hF : gSb G F) (hX : gPX G) (hQ : gOQ G) (hV : gVX G F)  (S : gSt) : Gof G F RX4 cX4_advance 2 wsX4_advance none (gRm 6) 0 0 (gQ G (fun x => (none, x))) 140 [] [] S (fX4_advance_L140 S) := by
  unfold fX4_advance_L140
  exact g_vret dX4_advance_140 rfl
set_option maxRecDepth 100000 in
set_option maxHeartbeats 4000000 in
theorem tX4_advance_L39 {G : gGG} {F : State → Heap → Prop} (hG : gOK G) (hF : gSb G F) (hX : gPX G) (hQ : gOQ G) (hV : gVX G F)  (S : gSt) : Gof G F RX4 cX4_advance 2 wsX4_advance none (gRm 6) 0 0 (gQ G (fun x => (none, x))) 39 [(0, .ref (gad G 31))] [] S (fX4_advance_L39 S) := by
  unfold fX4_advance_L39
  refine g_aload_n 0 dX4_advance_39 rfl ?_
  refine g_aload_n 0 dX4_advance_40 rfl ?_
  refine g_getI (ci := 4) (k0 := 3) (C0 := RX4) (T := TX4) (N := 7) (hX 31 (by decide)) rfl rfl hiX4_advance_4 (by decide) (List.mem_of_getElem? (i := 1) rfl) rfl dX4_advance_41 ?_
  refine g_putI hG (ci := 4) (k0 := 5) (C0 := RX4) (T := TX4) (N := 7) (hX 31 (by decide)) rfl rfl hiX4_advance_4 (by decide) (List.mem_of_getElem? (i := 3) rfl) tyX4 tyX4_ok nmX4 rfl rfl rfl rfl dX4_advance_44 ?_
  refine g_nS (fun S_1 => ?_)
  refine g_aload_n 0 dX4_advance_47 rfl ?_
  refine g_getK (ci := 4) (k0 := 0) (C0 := RX4) (T := TX4) (N := 7) (hX 31 (by decide)) rfl rfl hiX4_advance_4 (by decide) (List.mem_of_getElem? (i := 2) rfl) rfl dX4_advance_48 ?_
  refine g_aload_n 0 dX4_advance_51 rfl ?_
  refine g_getI (ci := 4) (k0 := 3) (C0 := RX4) (T := TX4) (N := 7) (hX 31 (by decide)) rfl rfl hiX4_advance_4 (by decide) (List.mem_of_getElem? (i := 1) rfl) rfl dX4_advance_52 ?_
  refine g_cVp (ci := 8) (C0 := RX8) (T := TX8) (N := 2) (n := 1) (As := [.int (gR S_1 31 3)]) (rest := []) hF (tX8_byteAt hG hF hX hQ (gR S_1 31 3) S_1) gX4_advance_X8_byteAt rfl (hX 29 (by decide)) rfl rfl ⟨rfl, by decide +kernel, by decide +kernel, by decide +kernel⟩ rfl (gRm_ok (by decide) (by decide)) rfl (Nat.le_of_ble_eq_true rfl) dX4_advance_55 (fun v_2 => ?_)
  refine g_istore_n (i := 1) (env' := [(1, .int v_2), (0, .ref (gad G 31))]) dX4_advance_58 rfl (by decide) rfl ?_
  refine g_iload_n 0 dX4_advance_59 rfl ?_
  refine g_iconst (v := (-1)) dX4_advance_60 (by decide) ?_
  refine g_icmp_ne (tgt := 73) dX4_advance_61 (by decide) (fun h_1 => ?_) (fun h_1 => ?_)
  · refine g_iload_n 0 dX4_advance_73 rfl ?_
    refine g_bipush (v := 59) dX4_advance_74 (by decide) ?_
    refine g_icmp_ne (tgt := 98) dX4_advance_76 (by decide) (fun h_2 => ?_) (fun h_2 => ?_)
    · refine g_iload_n 0 dX4_advance_98 rfl ?_
      refine g_cSp (n := 1) (As := [.int v_2]) (rest := []) hF (tX4_isLetter hG hF hX hQ v_2 S_1) gX4_advance_X4_isLetter rfl ⟨by decide +kernel, by decide +kernel, by decide +kernel⟩ rfl (gRm_ok (by decide) (by decide)) rfl (Nat.le_of_ble_eq_true rfl) dX4_advance_99 (fun v_3 => ?_)
      refine g_if_eq (tgt := 116) dX4_advance_102 (by decide) (fun h_3 => ?_) (fun h_3 => ?_)
      · refine g_iload_n 0 dX4_advance_116 rfl ?_
        refine g_cSp (n := 1) (As := [.int v_2]) (rest := []) hF (tX4_isDigit hG hF hX hQ v_2 S_1) gX4_advance_X4_isDigit rfl ⟨by decide +kernel, by decide +kernel, by decide +kernel⟩ rfl (gRm_ok (by decide) (by decide)) rfl (Nat.le_of_ble_eq_true rfl) dX4_advance_117 (fun v_4 => ?_)
        refine g_if_eq (tgt := 134) dX4_advance_120 (by decide) (fun h_4 => ?_) (fun h_4 => ?_)
        · refine g_aload_n 1 dX4_advance_134 rfl ?_
          refine g_bipush (v := 14) dX4_advance_135 (by decide) ?_
          refine g_putI hG (ci := 4) (k0 := 4) (C0 := RX4) (T := TX4) (N := 7) (hX 31 (by decide)) rfl rfl hiX4_advance_4 (by decide) (List.mem_of_getElem? (i := 4) rfl) tyX4 tyX4_ok nmX4 rfl rfl rfl rfl dX4_advance_137 ?_
          refine g_nS (fun S_5 => ?_)
          refine g_env (env' := []) [] rfl ?_
          exact tX4_advance_L140 hG hF hX hQ hV S_5
        · refine g_aload_n 1 dX4_advance_123 rfl ?_
          refine g_aload_n 1 dX4_advance_124 rfl ?_
          refine g_cVi (ci := 4) (C0 := RX4) (T := TX4) (N := 7) (n := 0) (As := []) (rest := [.ref (gad G 31)]) hF (tX4_scanNumber hG hF hX hQ S_1) gX4_advance_X4_scanNumber rfl (hX 31 (by decide)) rfl rfl ⟨rfl, by decide +kernel, by decide +kernel, by decide +kernel⟩ rfl (gRm_ok (by decide) (by decide)) rfl (Nat.le_of_ble_eq_true rfl) dX4_advance_125 (fun v_6 S_7 => ?_)
          refine g_putI hG (ci := 4) (k0 := 4) (C0 := RX4) (T := TX4) (N := 7) (hX 31 (by decide)) rfl rfl hiX4_advance_4 (by decide) (List.mem_of_getElem? (i := 4) rfl) tyX4 tyX4_ok nmX4 rfl rfl rfl rfl dX4_advance_128 ?_
          refine g_nS (fun S_8 => ?_)
          refine g_goto (tgt := 140) dX4_advance_131 (by decide) ?_
          refine g_env (env' := []) [] rfl ?_
          exact tX4_advance_L140 hG hF hX hQ hV S_8
      · refine g_aload_n 1 dX4_advance_105 rfl ?_
        refine g_aload_n 1 dX4_advance_106 rfl ?_
        refine g_cVi (ci := 4) (C0 := RX4) (T := TX4) (N := 7) (n := 0) (As := []) (rest := [.ref (gad G 31)]) hF (tX4_scanWord hG hF hX hQ hV S_1) gX4_advance_X4_scanWord rfl (hX 31 (by decide)) rfl rfl ⟨rfl, by decide +kernel, by decide +kernel, by decide +kernel⟩ rfl (gRm_ok (by decide) (by decide)) rfl (Nat.le_of_ble_eq_true rfl) dX4_advance_107 (fun v_9 S_10 => ?_)
        refine g_putI hG (ci := 4) (k0 := 4) (C0 := RX4) (T := TX4) (N := 7) (hX 31 (by decide)) rfl rfl hiX4_advance_4 (by decide) (List.mem_of_getElem? (i := 4) rfl) tyX4 tyX4_ok nmX4 rfl rfl rfl rfl dX4_advance_110 ?_
        refine g_nS (fun S_11 => ?_)
        refine g_goto (tgt := 140) dX4_advance_113 (by decide) ?_
        refine g_env (env' := []) [] rfl ?_
        exact tX4_advance_L140 hG hF hX hQ hV S_11
    · refine g_aload_n 1 dX4_advance_79 rfl ?_
      refine g_dup dX4_advance_80 rfl ?_
      refine g_getI (ci := 4) (k0 := 3) (C0 := RX4) (T := TX4) (N := 7) (hX 31 (by decide)) rfl rfl hiX4_advance_4 (by decide) (List.mem_of_getElem? (i := 1) rfl) rfl dX4_advance_81 ?_
      refine g_iconst (v := 1) dX4_advance_84 (by decide) ?_
      refine g_iadd dX4_advance_85 ?_
      refine g_putI hG (ci := 4) (k0 := 3) (C0 := RX4) (T := TX4) (N := 7) (hX 31 (by decide)) rfl rfl hiX4_advance_4 (by decide) (List.mem_of_getElem? (i := 1) rfl) tyX4 tyX4_ok nmX4 rfl rfl rfl rfl dX4_advance_86 ?_
      refine g_nS (fun S_12 => ?_)
      refine g_aload_n 1 dX4_advance_89 rfl ?_
      refine g_bipush (v := 12) dX4_advance_90 (by decide) ?_
      refine g_putI hG (ci := 4) (k0 := 4) (C0 := RX4) (T := TX4) (N := 7) (hX 31 (by decide)) rfl rfl hiX4_advance_4 (by decide) (List.mem_of_getElem? (i := 4) rfl) tyX4 tyX4_ok nmX4 rfl rfl rfl rfl dX4_advance_92 ?_
      refine g_nS (fun S_13 => ?_)
      refine g_goto (tgt := 140) dX4_advance_95 (by decide) ?_
      refine g_env (env' := []) [] rfl ?_
      exact tX4_advance_L140 hG hF hX hQ hV S_13
  · refine g_aload_n 1 dX4_advance_64 rfl ?_
    refine g_bipush (v := 13) dX4_advance_65 (by decide) ?_
    refine g_putI hG (ci := 4) (k0 := 4) (C0 := RX4) (T := TX4) (N := 7) (hX 31 (by decide)) rfl rfl hiX4_advance_4 (by decide) (List.mem_of_getElem? (i := 4) rfl) tyX4 tyX4_ok nmX4 rfl rfl rfl rfl dX4_advance_67 ?_
    refine g_nS (fun S_14 => ?_)
    refine g_goto (tgt := 140) dX4_advance_70 (by decide) ?_
    refine g_env (env' := []) [] rfl ?_
    exact tX4_advance_L140 hG hF hX hQ hV S_14
set_option maxRecDepth 100000 in
set_option maxHeartbeats 4000000 in
theorem tX4_advance_L0 {G : gGG} {F : State → Heap → Prop} (hG : gOK G) (hF : gSb G F) (hX : gPX G) (hQ : gOQ G) (hV : gVX G F) : ∀ (n : Nat)  (S : gSt), Gof G F RX4 cX4_advance 2 wsX4_advance none (gRm 6) 0 0 (gQ G (fun x => (none, x))) 0 [(0, .ref (gad G 31))] [] S (fX4_advance_L0 n S) := by
  intro n
  induction n with
  | zero => intro  S; exact g_none
  | succ n ih =>
    intro  S
    unfold fX4_advance_L0
    refine g_aload_n 0 dX4_advance_0 rfl ?_
    refine g_getI (ci := 4) (k0 := 3) (C0 := RX4) (T := TX4) (N := 7) (hX 31 (by decide)) rfl rfl hiX4_advance_4 (by decide) (List.mem_of_getElem? (i := 1) rfl) rfl dX4_advance_1 ?_
    refine g_sipush (v := 300) dX4_advance_4 (by decide) ?_
    refine g_icmp_ge (tgt := 39) dX4_advance_7 (by decide) (fun h_1 => ?_) (fun h_1 => ?_)
    · exact tX4_advance_L39 hG hF hX hQ hV S
    · refine g_aload_n 0 dX4_advance_10 rfl ?_
      refine g_getK (ci := 4) (k0 := 0) (C0 := RX4) (T := TX4) (N := 7) (hX 31 (by decide)) rfl rfl hiX4_advance_4 (by decide) (List.mem_of_getElem? (i := 2) rfl) rfl dX4_advance_11 ?_
      refine g_aload_n 0 dX4_advance_14 rfl ?_
      refine g_getI (ci := 4) (k0 := 3) (C0 := RX4) (T := TX4) (N := 7) (hX 31 (by decide)) rfl rfl hiX4_advance_4 (by decide) (List.mem_of_getElem? (i := 1) rfl) rfl dX4_advance_15 ?_
      refine g_cVp (ci := 8) (C0 := RX8) (T := TX8) (N := 2) (n := 1) (As := [.int (gR S 31 3)]) (rest := []) hF (tX8_byteAt hG hF hX hQ (gR S 31 3) S) gX4_advance_X8_byteAt rfl (hX 29 (by decide)) rfl rfl ⟨rfl, by decide +kernel, by decide +kernel, by decide +kernel⟩ rfl (gRm_ok (by decide) (by decide)) rfl (Nat.le_of_ble_eq_true rfl) dX4_advance_18 (fun v_1 => ?_)
      refine g_bipush (v := 32) dX4_advance_21 (by decide) ?_
      refine g_icmp_ne (tgt := 39) dX4_advance_23 (by decide) (fun h_2 => ?_) (fun h_2 => ?_)
      · exact tX4_advance_L39 hG hF hX hQ hV S
      · refine g_aload_n 0 dX4_advance_26 rfl ?_
        refine g_dup dX4_advance_27 rfl ?_
        refine g_getI (ci := 4) (k0 := 3) (C0 := RX4) (T := TX4) (N := 7) (hX 31 (by decide)) rfl rfl hiX4_advance_4 (by decide) (List.mem_of_getElem? (i := 1) rfl) rfl dX4_advance_28 ?_
        refine g_iconst (v := 1) dX4_advance_31 (by decide) ?_
        refine g_iadd dX4_advance_32 ?_
        refine g_putI hG (ci := 4) (k0 := 3) (C0 := RX4) (T := TX4) (N := 7) (hX 31 (by decide)) rfl rfl hiX4_advance_4 (by decide) (List.mem_of_getElem? (i := 1) rfl) tyX4 tyX4_ok nmX4 rfl rfl rfl rfl dX4_advance_33 ?_
        refine g_nS (fun S_2 => ?_)
        refine g_goto (tgt := 0) dX4_advance_36 (by decide) ?_
        exact ih S_2
set_option maxRecDepth 100000 in
set_option maxHeartbeats 4000000 in
theorem tX4_advance_L {G : gGG} {F : State → Heap → Prop} (hG : gOK G) (hF : gSb G F) (hX : gPX G) (hQ : gOQ G) (hV : gVX G F) (S : gSt) : Gof G F RX4 cX4_advance 2 wsX4_advance none (gRm 6) 0 0 (gQ G (fun x => (none, x))) 0 [(0, .ref (gad G 31))] [] S (fX4_advance S) := by
  unfold fX4_advance
  exact tX4_advance_L0 hG hF hX hQ hV gFU S
set_option maxRecDepth 100000 in
set_option maxHeartbeats 4000000 in
theorem tX4_advance {G : gGG} {F : State → Heap → Prop} (hG : gOK G) (hF : gSb G F) (hX : gPX G) (hQ : gOQ G) (hV : gVX G F) (S : gSt) : gCt G F yX4_advance wsX4_advance 6 [.ref (gad G 31)] S ((fX4_advance S).map (fun x => (none, x))) := g_met (by decide +kernel) rfl (Nat.le_of_ble_eq_true rfl) (tX4_advance_L hG hF hX hQ hV S)
/-! X4_mayBegin -/
theorem hiX4_mayBegin_4 : ∀ w ∈ u_ws RX4 TX4 7, w ∈ wsX4_mayBegin := fun _ hw => List.mem_cons_of_mem _ (List.mem_append_left _ (List.mem_append_right _ (hw)))
set_option maxRecDepth 100000 in
set_option maxHeartbeats 4000000 in
theorem tX4_mayBegin_L {G : gGG} {F : State → Heap → Prop} (hG : gOK G) (hF : gSb G F) (hX : gPX G) (hQ : gOQ G) (a1 : Int32) (a2 : Int32) (S : gSt) : Gof G F RX4 cX4_mayBegin 3 wsX4_mayBegin (some .boolean) (gRm 1) 0 0 (gQ G (fun x => (some (.int x), S))) 0 [(0, .ref (gad G 31)), (1, .int a1), (2, .int a2)] [] S (fX4_mayBegin a1 a2 S) := by
  unfold fX4_mayBegin
  refine g_iload_n 1 dX4_mayBegin_0 rfl ?_
  refine g_ite (c0 := a1 = 0) (fun h_1 => ?_) (fun h_1 => ?_)
  · refine g_tin (tgt := 44) dX4_mayBegin_1 (by rw [h_1]; decide) (by rw [h_1]; decide) (by rw [h_1]; rfl) (by decide) ?_
    refine g_iload_n 2 dX4_mayBegin_44 rfl ?_
    refine g_if_ne (tgt := 52) dX4_mayBegin_45 (by decide) (fun h_2 => ?_) (fun h_2 => ?_)
    · refine g_iconst (v := 0) dX4_mayBegin_52 (by decide) ?_
      exact g_zret (by decide) dX4_mayBegin_53 rfl
    · refine g_iconst (v := 1) dX4_mayBegin_48 (by decide) ?_
      refine g_goto (tgt := 53) dX4_mayBegin_49 (by decide) ?_
      exact g_zret (by decide) dX4_mayBegin_53 rfl
  refine g_ite (c0 := a1 = 2) (fun h_3 => ?_) (fun h_3 => ?_)
  · refine g_tin (tgt := 54) dX4_mayBegin_1 (by rw [h_3]; decide) (by rw [h_3]; decide) (by rw [h_3]; rfl) (by decide) ?_
    refine g_aload_n 0 dX4_mayBegin_54 rfl ?_
    refine g_gC (fun h_4 => ?_)
    refine g_getM (ci := 4) (k0 := 2) (C0 := RX4) (T := TX4) (N := 7) (hX 31 (by decide)) rfl rfl hiX4_mayBegin_4 (by decide) (List.mem_of_getElem? (i := 1) rfl) rfl dX4_mayBegin_55 ?_
    refine g_iconst (v := 0) dX4_mayBegin_58 (by decide) ?_
    refine g_cVp (ci := 5) (C0 := RX5) (T := TX5) (N := 6) (n := 1) (As := [.int 0]) (rest := []) hF (tX5_lawOf hG hF hX hQ h_4 0 S) gX4_mayBegin_X5_lawOf rfl (gRu_m hX h_4) (gRu_l h_4) rfl ⟨rfl, by decide +kernel, by decide +kernel, by decide +kernel⟩ rfl (gRm_ok (by decide) (by decide)) rfl (Nat.le_of_ble_eq_true rfl) dX4_mayBegin_59 (fun v_1 => ?_)
    refine g_if_ne (tgt := 69) dX4_mayBegin_62 (by decide) (fun h_5 => ?_) (fun h_5 => ?_)
    · refine g_iconst (v := 0) dX4_mayBegin_69 (by decide) ?_
      exact g_zret (by decide) dX4_mayBegin_70 rfl
    · refine g_iconst (v := 1) dX4_mayBegin_65 (by decide) ?_
      refine g_goto (tgt := 70) dX4_mayBegin_66 (by decide) ?_
      exact g_zret (by decide) dX4_mayBegin_70 rfl
  refine g_ite (c0 := a1 = 3) (fun h_6 => ?_) (fun h_6 => ?_)
  · refine g_tin (tgt := 71) dX4_mayBegin_1 (by rw [h_6]; decide) (by rw [h_6]; decide) (by rw [h_6]; rfl) (by decide) ?_
    refine g_aload_n 0 dX4_mayBegin_71 rfl ?_
    refine g_gC (fun h_7 => ?_)
    refine g_getM (ci := 4) (k0 := 2) (C0 := RX4) (T := TX4) (N := 7) (hX 31 (by decide)) rfl rfl hiX4_mayBegin_4 (by decide) (List.mem_of_getElem? (i := 1) rfl) rfl dX4_mayBegin_72 ?_
    refine g_iconst (v := 1) dX4_mayBegin_75 (by decide) ?_
    refine g_cVp (ci := 5) (C0 := RX5) (T := TX5) (N := 6) (n := 1) (As := [.int 1]) (rest := []) hF (tX5_lawOf hG hF hX hQ h_7 1 S) gX4_mayBegin_X5_lawOf rfl (gRu_m hX h_7) (gRu_l h_7) rfl ⟨rfl, by decide +kernel, by decide +kernel, by decide +kernel⟩ rfl (gRm_ok (by decide) (by decide)) rfl (Nat.le_of_ble_eq_true rfl) dX4_mayBegin_76 (fun v_2 => ?_)
    refine g_if_ne (tgt := 86) dX4_mayBegin_79 (by decide) (fun h_8 => ?_) (fun h_8 => ?_)
    · refine g_iconst (v := 0) dX4_mayBegin_86 (by decide) ?_
      exact g_zret (by decide) dX4_mayBegin_87 rfl
    · refine g_iconst (v := 1) dX4_mayBegin_82 (by decide) ?_
      refine g_goto (tgt := 87) dX4_mayBegin_83 (by decide) ?_
      exact g_zret (by decide) dX4_mayBegin_87 rfl
  refine g_ite (c0 := a1 = 4) (fun h_9 => ?_) (fun h_9 => ?_)
  · refine g_tin (tgt := 88) dX4_mayBegin_1 (by rw [h_9]; decide) (by rw [h_9]; decide) (by rw [h_9]; rfl) (by decide) ?_
    refine g_aload_n 0 dX4_mayBegin_88 rfl ?_
    refine g_gC (fun h_10 => ?_)
    refine g_getM (ci := 4) (k0 := 2) (C0 := RX4) (T := TX4) (N := 7) (hX 31 (by decide)) rfl rfl hiX4_mayBegin_4 (by decide) (List.mem_of_getElem? (i := 1) rfl) rfl dX4_mayBegin_89 ?_
    refine g_iconst (v := 2) dX4_mayBegin_92 (by decide) ?_
    refine g_cVp (ci := 5) (C0 := RX5) (T := TX5) (N := 6) (n := 1) (As := [.int 2]) (rest := []) hF (tX5_lawOf hG hF hX hQ h_10 2 S) gX4_mayBegin_X5_lawOf rfl (gRu_m hX h_10) (gRu_l h_10) rfl ⟨rfl, by decide +kernel, by decide +kernel, by decide +kernel⟩ rfl (gRm_ok (by decide) (by decide)) rfl (Nat.le_of_ble_eq_true rfl) dX4_mayBegin_93 (fun v_3 => ?_)
    refine g_if_ne (tgt := 103) dX4_mayBegin_96 (by decide) (fun h_11 => ?_) (fun h_11 => ?_)
    · refine g_iconst (v := 0) dX4_mayBegin_103 (by decide) ?_
      exact g_zret (by decide) dX4_mayBegin_104 rfl
    · refine g_iconst (v := 1) dX4_mayBegin_99 (by decide) ?_
      refine g_goto (tgt := 104) dX4_mayBegin_100 (by decide) ?_
      exact g_zret (by decide) dX4_mayBegin_104 rfl
  refine g_ite (c0 := a1 = 5) (fun h_12 => ?_) (fun h_12 => ?_)
  · refine g_tin (tgt := 105) dX4_mayBegin_1 (by rw [h_12]; decide) (by rw [h_12]; decide) (by rw [h_12]; rfl) (by decide) ?_
    refine g_aload_n 0 dX4_mayBegin_105 rfl ?_
    refine g_gC (fun h_13 => ?_)
    refine g_getM (ci := 4) (k0 := 2) (C0 := RX4) (T := TX4) (N := 7) (hX 31 (by decide)) rfl rfl hiX4_mayBegin_4 (by decide) (List.mem_of_getElem? (i := 1) rfl) rfl dX4_mayBegin_106 ?_
    refine g_iconst (v := 3) dX4_mayBegin_109 (by decide) ?_
    refine g_cVp (ci := 5) (C0 := RX5) (T := TX5) (N := 6) (n := 1) (As := [.int 3]) (rest := []) hF (tX5_lawOf hG hF hX hQ h_13 3 S) gX4_mayBegin_X5_lawOf rfl (gRu_m hX h_13) (gRu_l h_13) rfl ⟨rfl, by decide +kernel, by decide +kernel, by decide +kernel⟩ rfl (gRm_ok (by decide) (by decide)) rfl (Nat.le_of_ble_eq_true rfl) dX4_mayBegin_110 (fun v_4 => ?_)
    refine g_if_ne (tgt := 120) dX4_mayBegin_113 (by decide) (fun h_14 => ?_) (fun h_14 => ?_)
    · refine g_iconst (v := 0) dX4_mayBegin_120 (by decide) ?_
      exact g_zret (by decide) dX4_mayBegin_121 rfl
    · refine g_iconst (v := 1) dX4_mayBegin_116 (by decide) ?_
      refine g_goto (tgt := 121) dX4_mayBegin_117 (by decide) ?_
      exact g_zret (by decide) dX4_mayBegin_121 rfl
  refine g_ite (c0 := a1 = 6) (fun h_15 => ?_) (fun h_15 => ?_)
  · refine g_tin (tgt := 122) dX4_mayBegin_1 (by rw [h_15]; decide) (by rw [h_15]; decide) (by rw [h_15]; rfl) (by decide) ?_
    refine g_aload_n 0 dX4_mayBegin_122 rfl ?_
    refine g_gC (fun h_16 => ?_)
    refine g_getM (ci := 4) (k0 := 2) (C0 := RX4) (T := TX4) (N := 7) (hX 31 (by decide)) rfl rfl hiX4_mayBegin_4 (by decide) (List.mem_of_getElem? (i := 1) rfl) rfl dX4_mayBegin_123 ?_
    refine g_iconst (v := 4) dX4_mayBegin_126 (by decide) ?_
    refine g_cVp (ci := 5) (C0 := RX5) (T := TX5) (N := 6) (n := 1) (As := [.int 4]) (rest := []) hF (tX5_lawOf hG hF hX hQ h_16 4 S) gX4_mayBegin_X5_lawOf rfl (gRu_m hX h_16) (gRu_l h_16) rfl ⟨rfl, by decide +kernel, by decide +kernel, by decide +kernel⟩ rfl (gRm_ok (by decide) (by decide)) rfl (Nat.le_of_ble_eq_true rfl) dX4_mayBegin_127 (fun v_5 => ?_)
    refine g_if_ne (tgt := 137) dX4_mayBegin_130 (by decide) (fun h_17 => ?_) (fun h_17 => ?_)
    · refine g_iconst (v := 0) dX4_mayBegin_137 (by decide) ?_
      exact g_zret (by decide) dX4_mayBegin_138 rfl
    · refine g_iconst (v := 1) dX4_mayBegin_133 (by decide) ?_
      refine g_goto (tgt := 138) dX4_mayBegin_134 (by decide) ?_
      exact g_zret (by decide) dX4_mayBegin_138 rfl
  refine g_tdf (tgt := 139) dX4_mayBegin_1 ?_ (by decide) ?_
  · have nh_1 := lv_neT (a := 0) h_1 (by decide); have nh_3 := lv_neT (a := 2) h_3 (by decide); have nh_6 := lv_neT (a := 3) h_6 (by decide); have nh_9 := lv_neT (a := 4) h_9 (by decide); have nh_12 := lv_neT (a := 5) h_12 (by decide); have nh_15 := lv_neT (a := 6) h_15 (by decide)
    by_cases z0 : a1 = 1
    · exact Or.inr (by rw [z0]; exact ⟨by decide, by decide, rfl⟩)
    have nz0 := lv_neT (a := 1) z0 (by decide)
    exact Or.inl (by omega)
  refine g_iload_n 1 dX4_mayBegin_139 rfl ?_
  refine g_bipush (v := 11) dX4_mayBegin_140 (by decide) ?_
  refine g_icmp_ge (tgt := 149) dX4_mayBegin_142 (by decide) (fun h_18 => ?_) (fun h_18 => ?_)
  · refine g_iconst (v := 0) dX4_mayBegin_149 (by decide) ?_
    exact g_zret (by decide) dX4_mayBegin_150 rfl
  · refine g_iconst (v := 1) dX4_mayBegin_145 (by decide) ?_
    refine g_goto (tgt := 150) dX4_mayBegin_146 (by decide) ?_
    exact g_zret (by decide) dX4_mayBegin_150 rfl
set_option maxRecDepth 100000 in
set_option maxHeartbeats 4000000 in
theorem tX4_mayBegin {G : gGG} {F : State → Heap → Prop} (hG : gOK G) (hF : gSb G F) (hX : gPX G) (hQ : gOQ G) (a1 : Int32) (a2 : Int32) (S : gSt) : gCt G F yX4_mayBegin wsX4_mayBegin 1 [.ref (gad G 31), .int a1, .int a2] S ((fX4_mayBegin a1 a2 S).map (fun x => (some (.int x), S))) := g_met (by decide +kernel) rfl (Nat.le_of_ble_eq_true rfl) (tX4_mayBegin_L hG hF hX hQ a1 a2 S)
/-! X4_numbersOf -/
set_option maxRecDepth 100000 in
set_option maxHeartbeats 4000000 in
theorem tX4_numbersOf_L {G : gGG} {F : State → Heap → Prop} (hG : gOK G) (hF : gSb G F) (hX : gPX G) (hQ : gOQ G) (a0 : Int32) (S : gSt) : Gof G F RX4 cX4_numbersOf 1 wsX4_numbersOf (some .int) (gRm 0) 0 0 (gQ G (fun x => (some (.int x), S))) 0 [(0, .int a0)] [] S (fX4_numbersOf a0 S) := by
  unfold fX4_numbersOf
  refine g_iload_n 0 dX4_numbersOf_0 rfl ?_
  refine g_ite (c0 := a0 = 0) (fun h_1 => ?_) (fun h_1 => ?_)
  · refine g_tin (tgt := 54) dX4_numbersOf_1 (by rw [h_1]; decide) (by rw [h_1]; decide) (by rw [h_1]; rfl) (by decide) ?_
    refine g_iconst (v := 1) dX4_numbersOf_54 (by decide) ?_
    exact g_iret dX4_numbersOf_55 rfl
  refine g_ite (c0 := a0 = 1) (fun h_2 => ?_) (fun h_2 => ?_)
  · refine g_tin (tgt := 56) dX4_numbersOf_1 (by rw [h_2]; decide) (by rw [h_2]; decide) (by rw [h_2]; rfl) (by decide) ?_
    refine g_iconst (v := 2) dX4_numbersOf_56 (by decide) ?_
    exact g_iret dX4_numbersOf_57 rfl
  refine g_ite (c0 := a0 = 2) (fun h_3 => ?_) (fun h_3 => ?_)
  · refine g_tin (tgt := 54) dX4_numbersOf_1 (by rw [h_3]; decide) (by rw [h_3]; decide) (by rw [h_3]; rfl) (by decide) ?_
    refine g_iconst (v := 1) dX4_numbersOf_54 (by decide) ?_
    exact g_iret dX4_numbersOf_55 rfl
  refine g_ite (c0 := a0 = 3) (fun h_4 => ?_) (fun h_4 => ?_)
  · refine g_tin (tgt := 54) dX4_numbersOf_1 (by rw [h_4]; decide) (by rw [h_4]; decide) (by rw [h_4]; rfl) (by decide) ?_
    refine g_iconst (v := 1) dX4_numbersOf_54 (by decide) ?_
    exact g_iret dX4_numbersOf_55 rfl
  refine g_ite (c0 := a0 = 4) (fun h_5 => ?_) (fun h_5 => ?_)
  · refine g_tin (tgt := 54) dX4_numbersOf_1 (by rw [h_5]; decide) (by rw [h_5]; decide) (by rw [h_5]; rfl) (by decide) ?_
    refine g_iconst (v := 1) dX4_numbersOf_54 (by decide) ?_
    exact g_iret dX4_numbersOf_55 rfl
  refine g_ite (c0 := a0 = 5) (fun h_6 => ?_) (fun h_6 => ?_)
  · refine g_tin (tgt := 52) dX4_numbersOf_1 (by rw [h_6]; decide) (by rw [h_6]; decide) (by rw [h_6]; rfl) (by decide) ?_
    refine g_iconst (v := 0) dX4_numbersOf_52 (by decide) ?_
    exact g_iret dX4_numbersOf_53 rfl
  refine g_ite (c0 := a0 = 6) (fun h_7 => ?_) (fun h_7 => ?_)
  · refine g_tin (tgt := 52) dX4_numbersOf_1 (by rw [h_7]; decide) (by rw [h_7]; decide) (by rw [h_7]; rfl) (by decide) ?_
    refine g_iconst (v := 0) dX4_numbersOf_52 (by decide) ?_
    exact g_iret dX4_numbersOf_53 rfl
  refine g_ite (c0 := a0 = 7) (fun h_8 => ?_) (fun h_8 => ?_)
  · refine g_tin (tgt := 56) dX4_numbersOf_1 (by rw [h_8]; decide) (by rw [h_8]; decide) (by rw [h_8]; rfl) (by decide) ?_
    refine g_iconst (v := 2) dX4_numbersOf_56 (by decide) ?_
    exact g_iret dX4_numbersOf_57 rfl
  refine g_ite (c0 := a0 = 8) (fun h_9 => ?_) (fun h_9 => ?_)
  · refine g_tin (tgt := 56) dX4_numbersOf_1 (by rw [h_9]; decide) (by rw [h_9]; decide) (by rw [h_9]; rfl) (by decide) ?_
    refine g_iconst (v := 2) dX4_numbersOf_56 (by decide) ?_
    exact g_iret dX4_numbersOf_57 rfl
  refine g_tout (tgt := 58) dX4_numbersOf_1 (by have nh_1 := lv_neT (a := 0) h_1 (by decide); have nh_2 := lv_neT (a := 1) h_2 (by decide); have nh_3 := lv_neT (a := 2) h_3 (by decide); have nh_4 := lv_neT (a := 3) h_4 (by decide); have nh_5 := lv_neT (a := 4) h_5 (by decide); have nh_6 := lv_neT (a := 5) h_6 (by decide); have nh_7 := lv_neT (a := 6) h_7 (by decide); have nh_8 := lv_neT (a := 7) h_8 (by decide); have nh_9 := lv_neT (a := 8) h_9 (by decide); omega) (by decide) ?_
  refine g_iconst (v := 3) dX4_numbersOf_58 (by decide) ?_
  exact g_iret dX4_numbersOf_59 rfl
set_option maxRecDepth 100000 in
set_option maxHeartbeats 4000000 in
theorem tX4_numbersOf {G : gGG} {F : State → Heap → Prop} (hG : gOK G) (hF : gSb G F) (hX : gPX G) (hQ : gOQ G) (a0 : Int32) (S : gSt) : gCt G F yX4_numbersOf wsX4_numbersOf 0 [.int a0] S ((fX4_numbersOf a0 S).map (fun x => (some (.int x), S))) := g_met (by decide +kernel) rfl (Nat.le_of_ble_eq_true rfl) (tX4_numbersOf_L hG hF hX hQ a0 S)
/-! X4_lowest -/
set_option maxRecDepth 100000 in
set_option maxHeartbeats 4000000 in
theorem tX4_lowest_L {G : gGG} {F : State → Heap → Prop} (hG : gOK G) (hF : gSb G F) (hX : gPX G) (hQ : gOQ G) (a0 : Int32) (S : gSt) : Gof G F RX4 cX4_lowest 1 wsX4_lowest (some .int) (gRm 0) 0 0 (gQ G (fun x => (some (.int x), S))) 0 [(0, .int a0)] [] S (fX4_lowest a0 S) := by
  unfold fX4_lowest
  refine g_iload_n 0 dX4_lowest_0 rfl ?_
  refine g_ite (c0 := a0 = 0) (fun h_1 => ?_) (fun h_1 => ?_)
  · refine g_tin (tgt := 36) dX4_lowest_1 (by rw [h_1]; decide) (by rw [h_1]; decide) (by rw [h_1]; rfl) (by decide) ?_
    refine g_iconst (v := 1) dX4_lowest_36 (by decide) ?_
    exact g_iret dX4_lowest_37 rfl
  refine g_ite (c0 := a0 = 2) (fun h_2 => ?_) (fun h_2 => ?_)
  · refine g_tin (tgt := 36) dX4_lowest_1 (by rw [h_2]; decide) (by rw [h_2]; decide) (by rw [h_2]; rfl) (by decide) ?_
    refine g_iconst (v := 1) dX4_lowest_36 (by decide) ?_
    exact g_iret dX4_lowest_37 rfl
  refine g_ite (c0 := a0 = 3) (fun h_3 => ?_) (fun h_3 => ?_)
  · refine g_tin (tgt := 36) dX4_lowest_1 (by rw [h_3]; decide) (by rw [h_3]; decide) (by rw [h_3]; rfl) (by decide) ?_
    refine g_iconst (v := 1) dX4_lowest_36 (by decide) ?_
    exact g_iret dX4_lowest_37 rfl
  refine g_ite (c0 := a0 = 4) (fun h_4 => ?_) (fun h_4 => ?_)
  · refine g_tin (tgt := 36) dX4_lowest_1 (by rw [h_4]; decide) (by rw [h_4]; decide) (by rw [h_4]; rfl) (by decide) ?_
    refine g_iconst (v := 1) dX4_lowest_36 (by decide) ?_
    exact g_iret dX4_lowest_37 rfl
  refine g_tdf (tgt := 38) dX4_lowest_1 ?_ (by decide) ?_
  · have nh_1 := lv_neT (a := 0) h_1 (by decide); have nh_2 := lv_neT (a := 2) h_2 (by decide); have nh_3 := lv_neT (a := 3) h_3 (by decide); have nh_4 := lv_neT (a := 4) h_4 (by decide)
    by_cases z0 : a0 = 1
    · exact Or.inr (by rw [z0]; exact ⟨by decide, by decide, rfl⟩)
    have nz0 := lv_neT (a := 1) z0 (by decide)
    exact Or.inl (by omega)
  refine g_iconst (v := 0) dX4_lowest_38 (by decide) ?_
  exact g_iret dX4_lowest_39 rfl
set_option maxRecDepth 100000 in
set_option maxHeartbeats 4000000 in
theorem tX4_lowest {G : gGG} {F : State → Heap → Prop} (hG : gOK G) (hF : gSb G F) (hX : gPX G) (hQ : gOQ G) (a0 : Int32) (S : gSt) : gCt G F yX4_lowest wsX4_lowest 0 [.int a0] S ((fX4_lowest a0 S).map (fun x => (some (.int x), S))) := g_met (by decide +kernel) rfl (Nat.le_of_ble_eq_true rfl) (tX4_lowest_L hG hF hX hQ a0 S)
/-! X4_highest -/
theorem hiX4_highest_4 : ∀ w ∈ u_ws RX4 TX4 7, w ∈ wsX4_highest := fun _ hw => List.mem_cons_of_mem _ (List.mem_append_left _ (List.mem_append_right _ (hw)))
set_option maxRecDepth 100000 in
set_option maxHeartbeats 4000000 in
theorem tX4_highest_L {G : gGG} {F : State → Heap → Prop} (hG : gOK G) (hF : gSb G F) (hX : gPX G) (hQ : gOQ G) (a1 : Int32) (a2 : Int32) (S : gSt) : Gof G F RX4 cX4_highest 4 wsX4_highest (some .int) (gRm 1) 0 0 (gQ G (fun x => (some (.int x), S))) 0 [(0, .ref (gad G 31)), (1, .int a1), (2, .int a2)] [] S (fX4_highest a1 a2 S) := by
  unfold fX4_highest
  refine g_aload_n 0 dX4_highest_0 rfl ?_
  refine g_gC (fun h_1 => ?_)
  refine g_getM (ci := 4) (k0 := 2) (C0 := RX4) (T := TX4) (N := 7) (hX 31 (by decide)) rfl rfl hiX4_highest_4 (by decide) (List.mem_of_getElem? (i := 1) rfl) rfl dX4_highest_1 ?_
  refine g_cVp (ci := 5) (C0 := RX5) (T := TX5) (N := 6) (n := 0) (As := []) (rest := []) hF (tX5_guests hG hF hX hQ h_1 S) gX4_highest_X5_guests rfl (gRu_m hX h_1) (gRu_l h_1) rfl ⟨rfl, by decide +kernel, by decide +kernel, by decide +kernel⟩ rfl (gRm_ok (by decide) (by decide)) rfl (Nat.le_of_ble_eq_true rfl) dX4_highest_4 (fun v_1 => ?_)
  refine g_iconst (v := 1) dX4_highest_7 (by decide) ?_
  refine g_isub dX4_highest_8 ?_
  refine g_nI (fun v_2 => ?_)
  refine g_istore_n (i := 3) (env' := [(3, .int v_2), (0, .ref (gad G 31)), (1, .int a1), (2, .int a2)]) dX4_highest_9 rfl (by decide) rfl ?_
  refine g_iload_n 2 dX4_highest_10 rfl ?_
  refine g_ite (c0 := a1 = 0) (fun h_2 => ?_) (fun h_2 => ?_)
  · refine g_tin (tgt := 44) dX4_highest_11 (by rw [h_2]; decide) (by rw [h_2]; decide) (by rw [h_2]; rfl) (by decide) ?_
    refine g_bipush (v := 8) dX4_highest_44 (by decide) ?_
    exact g_iret dX4_highest_46 rfl
  refine g_ite (c0 := a1 = 1) (fun h_3 => ?_) (fun h_3 => ?_)
  · refine g_tin (tgt := 47) dX4_highest_11 (by rw [h_3]; decide) (by rw [h_3]; decide) (by rw [h_3]; rfl) (by decide) ?_
    refine g_iload_n 3 dX4_highest_47 rfl ?_
    refine g_if_ne (tgt := 55) dX4_highest_48 (by decide) (fun h_4 => ?_) (fun h_4 => ?_)
    · refine g_iconst (v := 5) dX4_highest_55 (by decide) ?_
      exact g_iret dX4_highest_56 rfl
    · refine g_iload_n 0 dX4_highest_51 rfl ?_
      refine g_goto (tgt := 56) dX4_highest_52 (by decide) ?_
      exact g_iret dX4_highest_56 rfl
  refine g_ite (c0 := a1 = 2) (fun h_5 => ?_) (fun h_5 => ?_)
  · refine g_tin (tgt := 44) dX4_highest_11 (by rw [h_5]; decide) (by rw [h_5]; decide) (by rw [h_5]; rfl) (by decide) ?_
    refine g_bipush (v := 8) dX4_highest_44 (by decide) ?_
    exact g_iret dX4_highest_46 rfl
  refine g_ite (c0 := a1 = 3) (fun h_6 => ?_) (fun h_6 => ?_)
  · refine g_tin (tgt := 44) dX4_highest_11 (by rw [h_6]; decide) (by rw [h_6]; decide) (by rw [h_6]; rfl) (by decide) ?_
    refine g_bipush (v := 8) dX4_highest_44 (by decide) ?_
    exact g_iret dX4_highest_46 rfl
  refine g_ite (c0 := a1 = 4) (fun h_7 => ?_) (fun h_7 => ?_)
  · refine g_tin (tgt := 44) dX4_highest_11 (by rw [h_7]; decide) (by rw [h_7]; decide) (by rw [h_7]; rfl) (by decide) ?_
    refine g_bipush (v := 8) dX4_highest_44 (by decide) ?_
    exact g_iret dX4_highest_46 rfl
  refine g_tout (tgt := 57) dX4_highest_11 (by have nh_2 := lv_neT (a := 0) h_2 (by decide); have nh_3 := lv_neT (a := 1) h_3 (by decide); have nh_5 := lv_neT (a := 2) h_5 (by decide); have nh_6 := lv_neT (a := 3) h_6 (by decide); have nh_7 := lv_neT (a := 4) h_7 (by decide); omega) (by decide) ?_
  refine g_iload_n 3 dX4_highest_57 rfl ?_
  refine g_iconst (v := 2) dX4_highest_58 (by decide) ?_
  refine g_icmp_ge (tgt := 66) dX4_highest_59 (by decide) (fun h_8 => ?_) (fun h_8 => ?_)
  · refine g_bipush (v := 9) dX4_highest_66 (by decide) ?_
    exact g_iret dX4_highest_68 rfl
  · refine g_iload_n 0 dX4_highest_62 rfl ?_
    refine g_goto (tgt := 68) dX4_highest_63 (by decide) ?_
    exact g_iret dX4_highest_68 rfl
set_option maxRecDepth 100000 in
set_option maxHeartbeats 4000000 in
theorem tX4_highest {G : gGG} {F : State → Heap → Prop} (hG : gOK G) (hF : gSb G F) (hX : gPX G) (hQ : gOQ G) (a1 : Int32) (a2 : Int32) (S : gSt) : gCt G F yX4_highest wsX4_highest 1 [.ref (gad G 31), .int a1, .int a2] S ((fX4_highest a1 a2 S).map (fun x => (some (.int x), S))) := g_met (by decide +kernel) rfl (Nat.le_of_ble_eq_true rfl) (tX4_highest_L hG hF hX hQ a1 a2 S)
/-! X4_readNumbers -/
theorem hiX4_readNumbers_4 : ∀ w ∈ u_ws RX4 TX4 7, w ∈ wsX4_readNumbers := fun _ hw => List.mem_cons_of_mem _ (List.mem_append_left _ (List.mem_append_left _ (List.mem_append_right _ (hw))))
set_option maxRecDepth 100000 in
set_option maxHeartbeats 4000000 in
theorem tX4_readNumbers_L71 {G : gGG} {F : State → Heap → Prop} (hG : gOK G) (hF : gSb G F) (hX : gPX G) (hQ : gOQ G) (hV : gVX G F) (k7 : Int32 → Int32 → Int32 → gSt → Option (Int32 × gSt)) (hk7 : ∀ (x1 : Int32) (x2 : Int32) (x3 : Int32) (S : gSt), Gof G F RX4 cX4_readNumbers 5 wsX4_readNumbers (some .boolean) (gRm 7) 0 0 (gQ G (fun x => (some (.int x.1), x.2))) 7 [(0, .ref (gad G 31)), (1, .int x1), (2, .int x2), (3, .int x3)] [] S (k7 x1 x2 x3 S)) (x1 : Int32) (x2 : Int32) (x3 : Int32) (s0 : Int32) (S : gSt) : Gof G F RX4 cX4_readNumbers 5 wsX4_readNumbers (some .boolean) (gRm 7) 0 0 (gQ G (fun x => (some (.int x.1), x.2))) 71 [(0, .ref (gad G 31)), (1, .int x1), (2, .int x2), (3, .int x3)] [.int s0] S (fX4_readNumbers_L71 k7 x1 x2 x3 s0 S) := by
  unfold fX4_readNumbers_L71
  refine g_istore (i := 4) (env' := [(4, .int s0), (0, .ref (gad G 31)), (1, .int x1), (2, .int x2), (3, .int x3)]) dX4_readNumbers_71 (by decide) rfl ?_
  refine g_iload 0 dX4_readNumbers_73 rfl ?_
  refine g_if_eq (tgt := 93) dX4_readNumbers_75 (by decide) (fun h_1 => ?_) (fun h_1 => ?_)
  · refine g_aload_n 1 dX4_readNumbers_93 rfl ?_
    refine g_getK (ci := 4) (k0 := 1) (C0 := RX4) (T := TX4) (N := 7) (hX 31 (by decide)) rfl rfl hiX4_readNumbers_4 (by decide) (List.mem_of_getElem? (i := 3) rfl) rfl dX4_readNumbers_94 ?_
    refine g_iload_n 4 dX4_readNumbers_97 rfl ?_
    refine g_aload_n 1 dX4_readNumbers_98 rfl ?_
    refine g_getI (ci := 4) (k0 := 6) (C0 := RX4) (T := TX4) (N := 7) (hX 31 (by decide)) rfl rfl hiX4_readNumbers_4 (by decide) (List.mem_of_getElem? (i := 2) rfl) rfl dX4_readNumbers_99 ?_
    refine g_iast hG (hX 87 (by decide)) rfl dX4_readNumbers_102 ?_
    refine g_nS (fun S_1 => ?_)
    refine g_iinc 4 (v := (x3 + 1)) (env' := [(3, .int (x3 + 1)), (4, .int s0), (0, .ref (gad G 31)), (1, .int x1), (2, .int x2)]) dX4_readNumbers_103 rfl rfl (by decide) rfl ?_
    refine g_goto (tgt := 7) dX4_readNumbers_106 (by decide) ?_
    refine g_env (env' := [(0, .ref (gad G 31)), (1, .int x1), (2, .int x2), (3, .int (x3 + 1))]) [2, 3, 4, 0] rfl ?_
    exact hk7 x1 x2 (x3 + 1) S_1
  · refine g_aload_n 1 dX4_readNumbers_78 rfl ?_
    refine g_getI (ci := 4) (k0 := 6) (C0 := RX4) (T := TX4) (N := 7) (hX 31 (by decide)) rfl rfl hiX4_readNumbers_4 (by decide) (List.mem_of_getElem? (i := 2) rfl) rfl dX4_readNumbers_79 ?_
    refine g_aload_n 1 dX4_readNumbers_82 rfl ?_
    refine g_getK (ci := 4) (k0 := 1) (C0 := RX4) (T := TX4) (N := 7) (hX 31 (by decide)) rfl rfl hiX4_readNumbers_4 (by decide) (List.mem_of_getElem? (i := 3) rfl) rfl dX4_readNumbers_83 ?_
    refine g_iconst (v := 0) dX4_readNumbers_86 (by decide) ?_
    refine g_iald hG (hX 87 (by decide)) rfl dX4_readNumbers_87 ?_
    refine g_icmp_ne (tgt := 93) dX4_readNumbers_88 (by decide) (fun h_2 => ?_) (fun h_2 => ?_)
    · refine g_aload_n 1 dX4_readNumbers_93 rfl ?_
      refine g_getK (ci := 4) (k0 := 1) (C0 := RX4) (T := TX4) (N := 7) (hX 31 (by decide)) rfl rfl hiX4_readNumbers_4 (by decide) (List.mem_of_getElem? (i := 3) rfl) rfl dX4_readNumbers_94 ?_
      refine g_iload_n 4 dX4_readNumbers_97 rfl ?_
      refine g_aload_n 1 dX4_readNumbers_98 rfl ?_
      refine g_getI (ci := 4) (k0 := 6) (C0 := RX4) (T := TX4) (N := 7) (hX 31 (by decide)) rfl rfl hiX4_readNumbers_4 (by decide) (List.mem_of_getElem? (i := 2) rfl) rfl dX4_readNumbers_99 ?_
      refine g_iast hG (hX 87 (by decide)) rfl dX4_readNumbers_102 ?_
      refine g_nS (fun S_2 => ?_)
      refine g_iinc 4 (v := (x3 + 1)) (env' := [(3, .int (x3 + 1)), (4, .int s0), (0, .ref (gad G 31)), (1, .int x1), (2, .int x2)]) dX4_readNumbers_103 rfl rfl (by decide) rfl ?_
      refine g_goto (tgt := 7) dX4_readNumbers_106 (by decide) ?_
      refine g_env (env' := [(0, .ref (gad G 31)), (1, .int x1), (2, .int x2), (3, .int (x3 + 1))]) [2, 3, 4, 0] rfl ?_
      exact hk7 x1 x2 (x3 + 1) S_2
    · refine g_iconst (v := 0) dX4_readNumbers_91 (by decide) ?_
      exact g_zret (by decide) dX4_readNumbers_92 rfl
set_option maxRecDepth 100000 in
set_option maxHeartbeats 4000000 in
theorem tX4_readNumbers_L7 {G : gGG} {F : State → Heap → Prop} (hG : gOK G) (hF : gSb G F) (hX : gPX G) (hQ : gOQ G) (hV : gVX G F) : ∀ (n : Nat) (x1 : Int32) (x2 : Int32) (x3 : Int32) (S : gSt), Gof G F RX4 cX4_readNumbers 5 wsX4_readNumbers (some .boolean) (gRm 7) 0 0 (gQ G (fun x => (some (.int x.1), x.2))) 7 [(0, .ref (gad G 31)), (1, .int x1), (2, .int x2), (3, .int x3)] [] S (fX4_readNumbers_L7 n x1 x2 x3 S) := by
  intro n
  induction n with
  | zero => intro x1 x2 x3 S; exact g_none
  | succ n ih =>
    intro x1 x2 x3 S
    unfold fX4_readNumbers_L7
    refine g_iload_n 3 dX4_readNumbers_7 rfl ?_
    refine g_iload_n 2 dX4_readNumbers_8 rfl ?_
    refine g_icmp_ge (tgt := 109) dX4_readNumbers_9 (by decide) (fun h_1 => ?_) (fun h_1 => ?_)
    · refine g_iconst (v := 1) dX4_readNumbers_109 (by decide) ?_
      exact g_zret (by decide) dX4_readNumbers_110 rfl
    · refine g_iload_n 3 dX4_readNumbers_12 rfl ?_
      refine g_iconst (v := 3) dX4_readNumbers_13 (by decide) ?_
      refine g_icmp_ge (tgt := 109) dX4_readNumbers_14 (by decide) (fun h_2 => ?_) (fun h_2 => ?_)
      · refine g_iconst (v := 1) dX4_readNumbers_109 (by decide) ?_
        exact g_zret (by decide) dX4_readNumbers_110 rfl
      · refine g_aload_n 0 dX4_readNumbers_17 rfl ?_
        refine g_cVv (ci := 4) (C0 := RX4) (T := TX4) (N := 7) (n := 0) (As := []) (rest := []) hF (tX4_advance hG hF hX hQ hV S) gX4_readNumbers_X4_advance rfl (hX 31 (by decide)) rfl rfl ⟨rfl, by decide +kernel, by decide +kernel, by decide +kernel⟩ rfl (gRm_ok (by decide) (by decide)) rfl (Nat.le_of_ble_eq_true rfl) dX4_readNumbers_18 (fun S_1 => ?_)
        refine g_aload_n 0 dX4_readNumbers_21 rfl ?_
        refine g_getI (ci := 4) (k0 := 4) (C0 := RX4) (T := TX4) (N := 7) (hX 31 (by decide)) rfl rfl hiX4_readNumbers_4 (by decide) (List.mem_of_getElem? (i := 1) rfl) rfl dX4_readNumbers_22 ?_
        refine g_bipush (v := 11) dX4_readNumbers_25 (by decide) ?_
        refine g_icmp_ne (tgt := 54) dX4_readNumbers_27 (by decide) (fun h_3 => ?_) (fun h_3 => ?_)
        · refine g_iconst (v := 0) dX4_readNumbers_54 (by decide) ?_
          exact g_zret (by decide) dX4_readNumbers_55 rfl
        · refine g_aload_n 0 dX4_readNumbers_30 rfl ?_
          refine g_getI (ci := 4) (k0 := 6) (C0 := RX4) (T := TX4) (N := 7) (hX 31 (by decide)) rfl rfl hiX4_readNumbers_4 (by decide) (List.mem_of_getElem? (i := 2) rfl) rfl dX4_readNumbers_31 ?_
          refine g_iload_n 1 dX4_readNumbers_34 rfl ?_
          refine g_cSp (n := 1) (As := [.int x1]) (rest := [.int (gR S_1 31 6)]) hF (tX4_lowest hG hF hX hQ x1 S_1) gX4_readNumbers_X4_lowest rfl ⟨by decide +kernel, by decide +kernel, by decide +kernel⟩ rfl (gRm_ok (by decide) (by decide)) rfl (Nat.le_of_ble_eq_true rfl) dX4_readNumbers_35 (fun v_2 => ?_)
          refine g_icmp_lt (tgt := 54) dX4_readNumbers_38 (by decide) (fun h_4 => ?_) (fun h_4 => ?_)
          · refine g_iconst (v := 0) dX4_readNumbers_54 (by decide) ?_
            exact g_zret (by decide) dX4_readNumbers_55 rfl
          · refine g_aload_n 0 dX4_readNumbers_41 rfl ?_
            refine g_getI (ci := 4) (k0 := 6) (C0 := RX4) (T := TX4) (N := 7) (hX 31 (by decide)) rfl rfl hiX4_readNumbers_4 (by decide) (List.mem_of_getElem? (i := 2) rfl) rfl dX4_readNumbers_42 ?_
            refine g_aload_n 0 dX4_readNumbers_45 rfl ?_
            refine g_iload_n 1 dX4_readNumbers_46 rfl ?_
            refine g_iload_n 3 dX4_readNumbers_47 rfl ?_
            refine g_cVp (ci := 4) (C0 := RX4) (T := TX4) (N := 7) (n := 2) (As := [.int x1, .int x3]) (rest := [.int (gR S_1 31 6)]) hF (tX4_highest hG hF hX hQ x1 x3 S_1) gX4_readNumbers_X4_highest rfl (hX 31 (by decide)) rfl rfl ⟨rfl, by decide +kernel, by decide +kernel, by decide +kernel⟩ rfl (gRm_ok (by decide) (by decide)) rfl (Nat.le_of_ble_eq_true rfl) dX4_readNumbers_48 (fun v_3 => ?_)
            refine g_icmp_le (tgt := 56) dX4_readNumbers_51 (by decide) (fun h_5 => ?_) (fun h_5 => ?_)
            · refine g_iload_n 3 dX4_readNumbers_56 rfl ?_
              refine g_iconst (v := 1) dX4_readNumbers_57 (by decide) ?_
              refine g_icmp_ne (tgt := 70) dX4_readNumbers_58 (by decide) (fun h_6 => ?_) (fun h_6 => ?_)
              · refine g_iconst (v := 0) dX4_readNumbers_70 (by decide) ?_
                exact tX4_readNumbers_L71 hG hF hX hQ hV (fX4_readNumbers_L7 n) ih x1 x2 x3 0 S_1
              · refine g_iload_n 1 dX4_readNumbers_61 rfl ?_
                refine g_iconst (v := 1) dX4_readNumbers_62 (by decide) ?_
                refine g_icmp_eq (tgt := 70) dX4_readNumbers_63 (by decide) (fun h_7 => ?_) (fun h_7 => ?_)
                · refine g_iconst (v := 0) dX4_readNumbers_70 (by decide) ?_
                  exact tX4_readNumbers_L71 hG hF hX hQ hV (fX4_readNumbers_L7 n) ih x1 x2 x3 0 S_1
                · refine g_iconst (v := 1) dX4_readNumbers_66 (by decide) ?_
                  refine g_goto (tgt := 71) dX4_readNumbers_67 (by decide) ?_
                  exact tX4_readNumbers_L71 hG hF hX hQ hV (fX4_readNumbers_L7 n) ih x1 x2 x3 1 S_1
            · refine g_iconst (v := 0) dX4_readNumbers_54 (by decide) ?_
              exact g_zret (by decide) dX4_readNumbers_55 rfl
set_option maxRecDepth 100000 in
set_option maxHeartbeats 4000000 in
theorem tX4_readNumbers_L {G : gGG} {F : State → Heap → Prop} (hG : gOK G) (hF : gSb G F) (hX : gPX G) (hQ : gOQ G) (hV : gVX G F) (a1 : Int32) (S : gSt) : Gof G F RX4 cX4_readNumbers 5 wsX4_readNumbers (some .boolean) (gRm 7) 0 0 (gQ G (fun x => (some (.int x.1), x.2))) 0 [(0, .ref (gad G 31)), (1, .int a1)] [] S (fX4_readNumbers a1 S) := by
  unfold fX4_readNumbers
  refine g_iload_n 1 dX4_readNumbers_0 rfl ?_
  refine g_cSp (n := 1) (As := [.int a1]) (rest := []) hF (tX4_numbersOf hG hF hX hQ a1 S) gX4_readNumbers_X4_numbersOf rfl ⟨by decide +kernel, by decide +kernel, by decide +kernel⟩ rfl (gRm_ok (by decide) (by decide)) rfl (Nat.le_of_ble_eq_true rfl) dX4_readNumbers_1 (fun v_1 => ?_)
  refine g_istore_n (i := 2) (env' := [(2, .int v_1), (0, .ref (gad G 31)), (1, .int a1)]) dX4_readNumbers_4 rfl (by decide) rfl ?_
  refine g_iconst (v := 0) dX4_readNumbers_5 (by decide) ?_
  refine g_istore_n (i := 3) (env' := [(3, .int 0), (2, .int v_1), (0, .ref (gad G 31)), (1, .int a1)]) dX4_readNumbers_6 rfl (by decide) rfl ?_
  refine g_env (env' := [(0, .ref (gad G 31)), (1, .int a1), (2, .int v_1), (3, .int 0)]) [2, 3, 1, 0] rfl ?_
  exact tX4_readNumbers_L7 hG hF hX hQ hV gFU a1 v_1 0 S
set_option maxRecDepth 100000 in
set_option maxHeartbeats 4000000 in
theorem tX4_readNumbers {G : gGG} {F : State → Heap → Prop} (hG : gOK G) (hF : gSb G F) (hX : gPX G) (hQ : gOQ G) (hV : gVX G F) (a1 : Int32) (S : gSt) : gCt G F yX4_readNumbers wsX4_readNumbers 7 [.ref (gad G 31), .int a1] S ((fX4_readNumbers a1 S).map (fun x => (some (.int x.1), x.2))) := g_met (by decide +kernel) rfl (Nat.le_of_ble_eq_true rfl) (tX4_readNumbers_L hG hF hX hQ hV a1 S)
/-! X4_readSemicolon -/
theorem hiX4_readSemicolon_4 : ∀ w ∈ u_ws RX4 TX4 7, w ∈ wsX4_readSemicolon := fun _ hw => List.mem_cons_of_mem _ (List.mem_append_left _ (List.mem_append_right _ (hw)))
set_option maxRecDepth 100000 in
set_option maxHeartbeats 4000000 in
theorem tX4_readSemicolon_L {G : gGG} {F : State → Heap → Prop} (hG : gOK G) (hF : gSb G F) (hX : gPX G) (hQ : gOQ G) (hV : gVX G F) (S : gSt) : Gof G F RX4 cX4_readSemicolon 1 wsX4_readSemicolon (some .boolean) (gRm 7) 0 0 (gQ G (fun x => (some (.int x.1), x.2))) 0 [(0, .ref (gad G 31))] [] S (fX4_readSemicolon S) := by
  unfold fX4_readSemicolon
  refine g_aload_n 0 dX4_readSemicolon_0 rfl ?_
  refine g_cVv (ci := 4) (C0 := RX4) (T := TX4) (N := 7) (n := 0) (As := []) (rest := []) hF (tX4_advance hG hF hX hQ hV S) gX4_readSemicolon_X4_advance rfl (hX 31 (by decide)) rfl rfl ⟨rfl, by decide +kernel, by decide +kernel, by decide +kernel⟩ rfl (gRm_ok (by decide) (by decide)) rfl (Nat.le_of_ble_eq_true rfl) dX4_readSemicolon_1 (fun S_1 => ?_)
  refine g_aload_n 0 dX4_readSemicolon_4 rfl ?_
  refine g_getI (ci := 4) (k0 := 4) (C0 := RX4) (T := TX4) (N := 7) (hX 31 (by decide)) rfl rfl hiX4_readSemicolon_4 (by decide) (List.mem_of_getElem? (i := 1) rfl) rfl dX4_readSemicolon_5 ?_
  refine g_bipush (v := 12) dX4_readSemicolon_8 (by decide) ?_
  refine g_icmp_ne (tgt := 17) dX4_readSemicolon_10 (by decide) (fun h_1 => ?_) (fun h_1 => ?_)
  · refine g_iconst (v := 0) dX4_readSemicolon_17 (by decide) ?_
    exact g_zret (by decide) dX4_readSemicolon_18 rfl
  · refine g_iconst (v := 1) dX4_readSemicolon_13 (by decide) ?_
    refine g_goto (tgt := 18) dX4_readSemicolon_14 (by decide) ?_
    exact g_zret (by decide) dX4_readSemicolon_18 rfl
set_option maxRecDepth 100000 in
set_option maxHeartbeats 4000000 in
theorem tX4_readSemicolon {G : gGG} {F : State → Heap → Prop} (hG : gOK G) (hF : gSb G F) (hX : gPX G) (hQ : gOQ G) (hV : gVX G F) (S : gSt) : gCt G F yX4_readSemicolon wsX4_readSemicolon 7 [.ref (gad G 31)] S ((fX4_readSemicolon S).map (fun x => (some (.int x.1), x.2))) := g_met (by decide +kernel) rfl (Nat.le_of_ble_eq_true rfl) (tX4_readSemicolon_L hG hF hX hQ hV S)
/-! X4_tell -/
theorem hiX4_tell_4 : ∀ w ∈ u_ws RX4 TX4 7, w ∈ wsX4_tell := fun _ hw => List.mem_cons_of_mem _ (List.mem_append_left _ (List.mem_append_right _ (hw)))
set_option maxRecDepth 100000 in
set_option maxHeartbeats 4000000 in
theorem tX4_tell_L274 {G : gGG} {F : State → Heap → Prop} (hG : gOK G) (hF : gSb G F) (hX : gPX G) (hQ : gOQ G)  (S : gSt) : Gof G F RX4 cX4_tell 2 wsX4_tell none (gRm 2) 0 0 (gQ G (fun x => (none, x))) 274 [] [] S (fX4_tell_L274 S) := by
  unfold fX4_tell_L274
  exact g_vret dX4_tell_274 rfl
set_option maxRecDepth 100000 in
set_option maxHeartbeats 4000000 in
theorem tX4_tell_L {G : gGG} {F : State → Heap → Prop} (hG : gOK G) (hF : gSb G F) (hX : gPX G) (hQ : gOQ G) (a1 : Int32) (S : gSt) : Gof G F RX4 cX4_tell 2 wsX4_tell none (gRm 2) 0 0 (gQ G (fun x => (none, x))) 0 [(0, .ref (gad G 31)), (1, .int a1)] [] S (fX4_tell a1 S) := by
  unfold fX4_tell
  refine g_iload_n 1 dX4_tell_0 rfl ?_
  refine g_ite (c0 := a1 = 0) (fun h_1 => ?_) (fun h_1 => ?_)
  · refine g_tin (tgt := 60) dX4_tell_1 (by rw [h_1]; decide) (by rw [h_1]; decide) (by rw [h_1]; rfl) (by decide) ?_
    refine g_aload_n 0 dX4_tell_60 rfl ?_
    refine g_gC (fun h_2 => ?_)
    refine g_getM (ci := 4) (k0 := 2) (C0 := RX4) (T := TX4) (N := 7) (hX 31 (by decide)) rfl rfl hiX4_tell_4 (by decide) (List.mem_of_getElem? (i := 1) rfl) rfl dX4_tell_61 ?_
    refine g_aload_n 0 dX4_tell_64 rfl ?_
    refine g_getK (ci := 4) (k0 := 1) (C0 := RX4) (T := TX4) (N := 7) (hX 31 (by decide)) rfl rfl hiX4_tell_4 (by decide) (List.mem_of_getElem? (i := 2) rfl) rfl dX4_tell_65 ?_
    refine g_iconst (v := 0) dX4_tell_68 (by decide) ?_
    refine g_iald hG (hX 87 (by decide)) rfl dX4_tell_69 ?_
    refine g_cVv (ci := 5) (C0 := RX5) (T := TX5) (N := 6) (n := 1) (As := [.int (gR S 87 (gN 0))]) (rest := []) hF (tX5_setGuests hG hF hX hQ h_2 (gR S 87 (gN 0)) S) gX4_tell_X5_setGuests rfl (gRu_m hX h_2) (gRu_l h_2) rfl ⟨rfl, by decide +kernel, by decide +kernel, by decide +kernel⟩ rfl (gRm_ok (by decide) (by decide)) rfl (Nat.le_of_ble_eq_true rfl) dX4_tell_70 (fun S_1 => ?_)
    refine g_goto (tgt := 274) dX4_tell_73 (by decide) ?_
    refine g_env (env' := []) [] rfl ?_
    exact tX4_tell_L274 hG hF hX hQ S_1
  refine g_ite (c0 := a1 = 1) (fun h_3 => ?_) (fun h_3 => ?_)
  · refine g_tin (tgt := 76) dX4_tell_1 (by rw [h_3]; decide) (by rw [h_3]; decide) (by rw [h_3]; rfl) (by decide) ?_
    refine g_aload_n 0 dX4_tell_76 rfl ?_
    refine g_gC (fun h_4 => ?_)
    refine g_getM (ci := 4) (k0 := 2) (C0 := RX4) (T := TX4) (N := 7) (hX 31 (by decide)) rfl rfl hiX4_tell_4 (by decide) (List.mem_of_getElem? (i := 1) rfl) rfl dX4_tell_77 ?_
    refine g_aload_n 0 dX4_tell_80 rfl ?_
    refine g_getK (ci := 4) (k0 := 1) (C0 := RX4) (T := TX4) (N := 7) (hX 31 (by decide)) rfl rfl hiX4_tell_4 (by decide) (List.mem_of_getElem? (i := 2) rfl) rfl dX4_tell_81 ?_
    refine g_iconst (v := 0) dX4_tell_84 (by decide) ?_
    refine g_iald hG (hX 87 (by decide)) rfl dX4_tell_85 ?_
    refine g_aload_n 0 dX4_tell_86 rfl ?_
    refine g_getK (ci := 4) (k0 := 1) (C0 := RX4) (T := TX4) (N := 7) (hX 31 (by decide)) rfl rfl hiX4_tell_4 (by decide) (List.mem_of_getElem? (i := 2) rfl) rfl dX4_tell_87 ?_
    refine g_iconst (v := 1) dX4_tell_90 (by decide) ?_
    refine g_iald hG (hX 87 (by decide)) rfl dX4_tell_91 ?_
    refine g_cVv (ci := 5) (C0 := RX5) (T := TX5) (N := 6) (n := 2) (As := [.int (gR S 87 (gN 0)), .int (gR S 87 (gN 1))]) (rest := []) hF (tX5_setHat hG hF hX hQ h_4 (gR S 87 (gN 0)) (gR S 87 (gN 1)) S) gX4_tell_X5_setHat rfl (gRu_m hX h_4) (gRu_l h_4) rfl ⟨rfl, by decide +kernel, by decide +kernel, by decide +kernel⟩ rfl (gRm_ok (by decide) (by decide)) rfl (Nat.le_of_ble_eq_true rfl) dX4_tell_92 (fun S_2 => ?_)
    refine g_goto (tgt := 274) dX4_tell_95 (by decide) ?_
    refine g_env (env' := []) [] rfl ?_
    exact tX4_tell_L274 hG hF hX hQ S_2
  refine g_ite (c0 := a1 = 2) (fun h_5 => ?_) (fun h_5 => ?_)
  · refine g_tin (tgt := 98) dX4_tell_1 (by rw [h_5]; decide) (by rw [h_5]; decide) (by rw [h_5]; rfl) (by decide) ?_
    refine g_aload_n 0 dX4_tell_98 rfl ?_
    refine g_gC (fun h_6 => ?_)
    refine g_getM (ci := 4) (k0 := 2) (C0 := RX4) (T := TX4) (N := 7) (hX 31 (by decide)) rfl rfl hiX4_tell_4 (by decide) (List.mem_of_getElem? (i := 1) rfl) rfl dX4_tell_99 ?_
    refine g_iconst (v := 0) dX4_tell_102 (by decide) ?_
    refine g_aload_n 0 dX4_tell_103 rfl ?_
    refine g_getK (ci := 4) (k0 := 1) (C0 := RX4) (T := TX4) (N := 7) (hX 31 (by decide)) rfl rfl hiX4_tell_4 (by decide) (List.mem_of_getElem? (i := 2) rfl) rfl dX4_tell_104 ?_
    refine g_iconst (v := 0) dX4_tell_107 (by decide) ?_
    refine g_iald hG (hX 87 (by decide)) rfl dX4_tell_108 ?_
    refine g_cVv (ci := 5) (C0 := RX5) (T := TX5) (N := 6) (n := 2) (As := [.int 0, .int (gR S 87 (gN 0))]) (rest := []) hF (tX5_setLaw hG hF hX hQ h_6 0 (gR S 87 (gN 0)) S) gX4_tell_X5_setLaw rfl (gRu_m hX h_6) (gRu_l h_6) rfl ⟨rfl, by decide +kernel, by decide +kernel, by decide +kernel⟩ rfl (gRm_ok (by decide) (by decide)) rfl (Nat.le_of_ble_eq_true rfl) dX4_tell_109 (fun S_3 => ?_)
    refine g_goto (tgt := 274) dX4_tell_112 (by decide) ?_
    refine g_env (env' := []) [] rfl ?_
    exact tX4_tell_L274 hG hF hX hQ S_3
  refine g_ite (c0 := a1 = 3) (fun h_7 => ?_) (fun h_7 => ?_)
  · refine g_tin (tgt := 115) dX4_tell_1 (by rw [h_7]; decide) (by rw [h_7]; decide) (by rw [h_7]; rfl) (by decide) ?_
    refine g_aload_n 0 dX4_tell_115 rfl ?_
    refine g_gC (fun h_8 => ?_)
    refine g_getM (ci := 4) (k0 := 2) (C0 := RX4) (T := TX4) (N := 7) (hX 31 (by decide)) rfl rfl hiX4_tell_4 (by decide) (List.mem_of_getElem? (i := 1) rfl) rfl dX4_tell_116 ?_
    refine g_iconst (v := 1) dX4_tell_119 (by decide) ?_
    refine g_aload_n 0 dX4_tell_120 rfl ?_
    refine g_getK (ci := 4) (k0 := 1) (C0 := RX4) (T := TX4) (N := 7) (hX 31 (by decide)) rfl rfl hiX4_tell_4 (by decide) (List.mem_of_getElem? (i := 2) rfl) rfl dX4_tell_121 ?_
    refine g_iconst (v := 0) dX4_tell_124 (by decide) ?_
    refine g_iald hG (hX 87 (by decide)) rfl dX4_tell_125 ?_
    refine g_cVv (ci := 5) (C0 := RX5) (T := TX5) (N := 6) (n := 2) (As := [.int 1, .int (gR S 87 (gN 0))]) (rest := []) hF (tX5_setLaw hG hF hX hQ h_8 1 (gR S 87 (gN 0)) S) gX4_tell_X5_setLaw rfl (gRu_m hX h_8) (gRu_l h_8) rfl ⟨rfl, by decide +kernel, by decide +kernel, by decide +kernel⟩ rfl (gRm_ok (by decide) (by decide)) rfl (Nat.le_of_ble_eq_true rfl) dX4_tell_126 (fun S_4 => ?_)
    refine g_goto (tgt := 274) dX4_tell_129 (by decide) ?_
    refine g_env (env' := []) [] rfl ?_
    exact tX4_tell_L274 hG hF hX hQ S_4
  refine g_ite (c0 := a1 = 4) (fun h_9 => ?_) (fun h_9 => ?_)
  · refine g_tin (tgt := 132) dX4_tell_1 (by rw [h_9]; decide) (by rw [h_9]; decide) (by rw [h_9]; rfl) (by decide) ?_
    refine g_aload_n 0 dX4_tell_132 rfl ?_
    refine g_gC (fun h_10 => ?_)
    refine g_getM (ci := 4) (k0 := 2) (C0 := RX4) (T := TX4) (N := 7) (hX 31 (by decide)) rfl rfl hiX4_tell_4 (by decide) (List.mem_of_getElem? (i := 1) rfl) rfl dX4_tell_133 ?_
    refine g_iconst (v := 2) dX4_tell_136 (by decide) ?_
    refine g_aload_n 0 dX4_tell_137 rfl ?_
    refine g_getK (ci := 4) (k0 := 1) (C0 := RX4) (T := TX4) (N := 7) (hX 31 (by decide)) rfl rfl hiX4_tell_4 (by decide) (List.mem_of_getElem? (i := 2) rfl) rfl dX4_tell_138 ?_
    refine g_iconst (v := 0) dX4_tell_141 (by decide) ?_
    refine g_iald hG (hX 87 (by decide)) rfl dX4_tell_142 ?_
    refine g_cVv (ci := 5) (C0 := RX5) (T := TX5) (N := 6) (n := 2) (As := [.int 2, .int (gR S 87 (gN 0))]) (rest := []) hF (tX5_setLaw hG hF hX hQ h_10 2 (gR S 87 (gN 0)) S) gX4_tell_X5_setLaw rfl (gRu_m hX h_10) (gRu_l h_10) rfl ⟨rfl, by decide +kernel, by decide +kernel, by decide +kernel⟩ rfl (gRm_ok (by decide) (by decide)) rfl (Nat.le_of_ble_eq_true rfl) dX4_tell_143 (fun S_5 => ?_)
    refine g_goto (tgt := 274) dX4_tell_146 (by decide) ?_
    refine g_env (env' := []) [] rfl ?_
    exact tX4_tell_L274 hG hF hX hQ S_5
  refine g_ite (c0 := a1 = 5) (fun h_11 => ?_) (fun h_11 => ?_)
  · refine g_tin (tgt := 149) dX4_tell_1 (by rw [h_11]; decide) (by rw [h_11]; decide) (by rw [h_11]; rfl) (by decide) ?_
    refine g_aload_n 0 dX4_tell_149 rfl ?_
    refine g_gC (fun h_12 => ?_)
    refine g_getM (ci := 4) (k0 := 2) (C0 := RX4) (T := TX4) (N := 7) (hX 31 (by decide)) rfl rfl hiX4_tell_4 (by decide) (List.mem_of_getElem? (i := 1) rfl) rfl dX4_tell_150 ?_
    refine g_iconst (v := 3) dX4_tell_153 (by decide) ?_
    refine g_iconst (v := 1) dX4_tell_154 (by decide) ?_
    refine g_cVv (ci := 5) (C0 := RX5) (T := TX5) (N := 6) (n := 2) (As := [.int 3, .int 1]) (rest := []) hF (tX5_setLaw hG hF hX hQ h_12 3 1 S) gX4_tell_X5_setLaw rfl (gRu_m hX h_12) (gRu_l h_12) rfl ⟨rfl, by decide +kernel, by decide +kernel, by decide +kernel⟩ rfl (gRm_ok (by decide) (by decide)) rfl (Nat.le_of_ble_eq_true rfl) dX4_tell_155 (fun S_6 => ?_)
    refine g_goto (tgt := 274) dX4_tell_158 (by decide) ?_
    refine g_env (env' := []) [] rfl ?_
    exact tX4_tell_L274 hG hF hX hQ S_6
  refine g_ite (c0 := a1 = 6) (fun h_13 => ?_) (fun h_13 => ?_)
  · refine g_tin (tgt := 161) dX4_tell_1 (by rw [h_13]; decide) (by rw [h_13]; decide) (by rw [h_13]; rfl) (by decide) ?_
    refine g_aload_n 0 dX4_tell_161 rfl ?_
    refine g_gC (fun h_14 => ?_)
    refine g_getM (ci := 4) (k0 := 2) (C0 := RX4) (T := TX4) (N := 7) (hX 31 (by decide)) rfl rfl hiX4_tell_4 (by decide) (List.mem_of_getElem? (i := 1) rfl) rfl dX4_tell_162 ?_
    refine g_iconst (v := 4) dX4_tell_165 (by decide) ?_
    refine g_iconst (v := 1) dX4_tell_166 (by decide) ?_
    refine g_cVv (ci := 5) (C0 := RX5) (T := TX5) (N := 6) (n := 2) (As := [.int 4, .int 1]) (rest := []) hF (tX5_setLaw hG hF hX hQ h_14 4 1 S) gX4_tell_X5_setLaw rfl (gRu_m hX h_14) (gRu_l h_14) rfl ⟨rfl, by decide +kernel, by decide +kernel, by decide +kernel⟩ rfl (gRm_ok (by decide) (by decide)) rfl (Nat.le_of_ble_eq_true rfl) dX4_tell_167 (fun S_7 => ?_)
    refine g_goto (tgt := 274) dX4_tell_170 (by decide) ?_
    refine g_env (env' := []) [] rfl ?_
    exact tX4_tell_L274 hG hF hX hQ S_7
  refine g_ite (c0 := a1 = 7) (fun h_15 => ?_) (fun h_15 => ?_)
  · refine g_tin (tgt := 173) dX4_tell_1 (by rw [h_15]; decide) (by rw [h_15]; decide) (by rw [h_15]; rfl) (by decide) ?_
    refine g_aload_n 0 dX4_tell_173 rfl ?_
    refine g_gC (fun h_16 => ?_)
    refine g_getM (ci := 4) (k0 := 2) (C0 := RX4) (T := TX4) (N := 7) (hX 31 (by decide)) rfl rfl hiX4_tell_4 (by decide) (List.mem_of_getElem? (i := 1) rfl) rfl dX4_tell_174 ?_
    refine g_aload_n 0 dX4_tell_177 rfl ?_
    refine g_getK (ci := 4) (k0 := 1) (C0 := RX4) (T := TX4) (N := 7) (hX 31 (by decide)) rfl rfl hiX4_tell_4 (by decide) (List.mem_of_getElem? (i := 2) rfl) rfl dX4_tell_178 ?_
    refine g_iconst (v := 0) dX4_tell_181 (by decide) ?_
    refine g_iald hG (hX 87 (by decide)) rfl dX4_tell_182 ?_
    refine g_aload_n 0 dX4_tell_183 rfl ?_
    refine g_getK (ci := 4) (k0 := 1) (C0 := RX4) (T := TX4) (N := 7) (hX 31 (by decide)) rfl rfl hiX4_tell_4 (by decide) (List.mem_of_getElem? (i := 2) rfl) rfl dX4_tell_184 ?_
    refine g_iconst (v := 1) dX4_tell_187 (by decide) ?_
    refine g_iald hG (hX 87 (by decide)) rfl dX4_tell_188 ?_
    refine g_cVv (ci := 5) (C0 := RX5) (T := TX5) (N := 6) (n := 2) (As := [.int (gR S 87 (gN 0)), .int (gR S 87 (gN 1))]) (rest := []) hF (tX5_putTogether hG hF hX hQ h_16 (gR S 87 (gN 0)) (gR S 87 (gN 1)) S) gX4_tell_X5_putTogether rfl (gRu_m hX h_16) (gRu_l h_16) rfl ⟨rfl, by decide +kernel, by decide +kernel, by decide +kernel⟩ rfl (gRm_ok (by decide) (by decide)) rfl (Nat.le_of_ble_eq_true rfl) dX4_tell_189 (fun S_8 => ?_)
    refine g_goto (tgt := 274) dX4_tell_192 (by decide) ?_
    refine g_env (env' := []) [] rfl ?_
    exact tX4_tell_L274 hG hF hX hQ S_8
  refine g_ite (c0 := a1 = 8) (fun h_17 => ?_) (fun h_17 => ?_)
  · refine g_tin (tgt := 195) dX4_tell_1 (by rw [h_17]; decide) (by rw [h_17]; decide) (by rw [h_17]; rfl) (by decide) ?_
    refine g_aload_n 0 dX4_tell_195 rfl ?_
    refine g_gC (fun h_18 => ?_)
    refine g_getM (ci := 4) (k0 := 2) (C0 := RX4) (T := TX4) (N := 7) (hX 31 (by decide)) rfl rfl hiX4_tell_4 (by decide) (List.mem_of_getElem? (i := 1) rfl) rfl dX4_tell_196 ?_
    refine g_aload_n 0 dX4_tell_199 rfl ?_
    refine g_getK (ci := 4) (k0 := 1) (C0 := RX4) (T := TX4) (N := 7) (hX 31 (by decide)) rfl rfl hiX4_tell_4 (by decide) (List.mem_of_getElem? (i := 2) rfl) rfl dX4_tell_200 ?_
    refine g_iconst (v := 0) dX4_tell_203 (by decide) ?_
    refine g_iald hG (hX 87 (by decide)) rfl dX4_tell_204 ?_
    refine g_aload_n 0 dX4_tell_205 rfl ?_
    refine g_getK (ci := 4) (k0 := 1) (C0 := RX4) (T := TX4) (N := 7) (hX 31 (by decide)) rfl rfl hiX4_tell_4 (by decide) (List.mem_of_getElem? (i := 2) rfl) rfl dX4_tell_206 ?_
    refine g_iconst (v := 1) dX4_tell_209 (by decide) ?_
    refine g_iald hG (hX 87 (by decide)) rfl dX4_tell_210 ?_
    refine g_cVv (ci := 5) (C0 := RX5) (T := TX5) (N := 6) (n := 2) (As := [.int (gR S 87 (gN 0)), .int (gR S 87 (gN 1))]) (rest := []) hF (tX5_putApart hG hF hX hQ h_18 (gR S 87 (gN 0)) (gR S 87 (gN 1)) S) gX4_tell_X5_putApart rfl (gRu_m hX h_18) (gRu_l h_18) rfl ⟨rfl, by decide +kernel, by decide +kernel, by decide +kernel⟩ rfl (gRm_ok (by decide) (by decide)) rfl (Nat.le_of_ble_eq_true rfl) dX4_tell_211 (fun S_9 => ?_)
    refine g_goto (tgt := 274) dX4_tell_214 (by decide) ?_
    refine g_env (env' := []) [] rfl ?_
    exact tX4_tell_L274 hG hF hX hQ S_9
  refine g_ite (c0 := a1 = 9) (fun h_19 => ?_) (fun h_19 => ?_)
  · refine g_tin (tgt := 217) dX4_tell_1 (by rw [h_19]; decide) (by rw [h_19]; decide) (by rw [h_19]; rfl) (by decide) ?_
    refine g_aload_n 0 dX4_tell_217 rfl ?_
    refine g_gC (fun h_20 => ?_)
    refine g_getM (ci := 4) (k0 := 2) (C0 := RX4) (T := TX4) (N := 7) (hX 31 (by decide)) rfl rfl hiX4_tell_4 (by decide) (List.mem_of_getElem? (i := 1) rfl) rfl dX4_tell_218 ?_
    refine g_aload_n 0 dX4_tell_221 rfl ?_
    refine g_getK (ci := 4) (k0 := 1) (C0 := RX4) (T := TX4) (N := 7) (hX 31 (by decide)) rfl rfl hiX4_tell_4 (by decide) (List.mem_of_getElem? (i := 2) rfl) rfl dX4_tell_222 ?_
    refine g_iconst (v := 0) dX4_tell_225 (by decide) ?_
    refine g_iald hG (hX 87 (by decide)) rfl dX4_tell_226 ?_
    refine g_aload_n 0 dX4_tell_227 rfl ?_
    refine g_getK (ci := 4) (k0 := 1) (C0 := RX4) (T := TX4) (N := 7) (hX 31 (by decide)) rfl rfl hiX4_tell_4 (by decide) (List.mem_of_getElem? (i := 2) rfl) rfl dX4_tell_228 ?_
    refine g_iconst (v := 1) dX4_tell_231 (by decide) ?_
    refine g_iald hG (hX 87 (by decide)) rfl dX4_tell_232 ?_
    refine g_aload_n 0 dX4_tell_233 rfl ?_
    refine g_getK (ci := 4) (k0 := 1) (C0 := RX4) (T := TX4) (N := 7) (hX 31 (by decide)) rfl rfl hiX4_tell_4 (by decide) (List.mem_of_getElem? (i := 2) rfl) rfl dX4_tell_234 ?_
    refine g_iconst (v := 2) dX4_tell_237 (by decide) ?_
    refine g_iald hG (hX 87 (by decide)) rfl dX4_tell_238 ?_
    refine g_cVv (ci := 5) (C0 := RX5) (T := TX5) (N := 6) (n := 3) (As := [.int (gR S 87 (gN 0)), .int (gR S 87 (gN 1)), .int (gR S 87 (gN 2))]) (rest := []) hF (tX5_setWorth hG hF hX hQ h_20 (gR S 87 (gN 0)) (gR S 87 (gN 1)) (gR S 87 (gN 2)) S) gX4_tell_X5_setWorth rfl (gRu_m hX h_20) (gRu_l h_20) rfl ⟨rfl, by decide +kernel, by decide +kernel, by decide +kernel⟩ rfl (gRm_ok (by decide) (by decide)) rfl (Nat.le_of_ble_eq_true rfl) dX4_tell_239 (fun S_10 => ?_)
    refine g_goto (tgt := 274) dX4_tell_242 (by decide) ?_
    refine g_env (env' := []) [] rfl ?_
    exact tX4_tell_L274 hG hF hX hQ S_10
  refine g_ite (c0 := a1 = 10) (fun h_21 => ?_) (fun h_21 => ?_)
  · refine g_tin (tgt := 245) dX4_tell_1 (by rw [h_21]; decide) (by rw [h_21]; decide) (by rw [h_21]; rfl) (by decide) ?_
    refine g_aload_n 0 dX4_tell_245 rfl ?_
    refine g_gC (fun h_22 => ?_)
    refine g_getM (ci := 4) (k0 := 2) (C0 := RX4) (T := TX4) (N := 7) (hX 31 (by decide)) rfl rfl hiX4_tell_4 (by decide) (List.mem_of_getElem? (i := 1) rfl) rfl dX4_tell_246 ?_
    refine g_aload_n 0 dX4_tell_249 rfl ?_
    refine g_getK (ci := 4) (k0 := 1) (C0 := RX4) (T := TX4) (N := 7) (hX 31 (by decide)) rfl rfl hiX4_tell_4 (by decide) (List.mem_of_getElem? (i := 2) rfl) rfl dX4_tell_250 ?_
    refine g_iconst (v := 0) dX4_tell_253 (by decide) ?_
    refine g_iald hG (hX 87 (by decide)) rfl dX4_tell_254 ?_
    refine g_aload_n 0 dX4_tell_255 rfl ?_
    refine g_getK (ci := 4) (k0 := 1) (C0 := RX4) (T := TX4) (N := 7) (hX 31 (by decide)) rfl rfl hiX4_tell_4 (by decide) (List.mem_of_getElem? (i := 2) rfl) rfl dX4_tell_256 ?_
    refine g_iconst (v := 1) dX4_tell_259 (by decide) ?_
    refine g_iald hG (hX 87 (by decide)) rfl dX4_tell_260 ?_
    refine g_aload_n 0 dX4_tell_261 rfl ?_
    refine g_getK (ci := 4) (k0 := 1) (C0 := RX4) (T := TX4) (N := 7) (hX 31 (by decide)) rfl rfl hiX4_tell_4 (by decide) (List.mem_of_getElem? (i := 2) rfl) rfl dX4_tell_262 ?_
    refine g_iconst (v := 2) dX4_tell_265 (by decide) ?_
    refine g_iald hG (hX 87 (by decide)) rfl dX4_tell_266 ?_
    refine g_ineg dX4_tell_267 ?_
    refine g_cVv (ci := 5) (C0 := RX5) (T := TX5) (N := 6) (n := 3) (As := [.int (gR S 87 (gN 0)), .int (gR S 87 (gN 1)), .int (-(gR S 87 (gN 2)))]) (rest := []) hF (tX5_setWorth hG hF hX hQ h_22 (gR S 87 (gN 0)) (gR S 87 (gN 1)) (-(gR S 87 (gN 2))) S) gX4_tell_X5_setWorth rfl (gRu_m hX h_22) (gRu_l h_22) rfl ⟨rfl, by decide +kernel, by decide +kernel, by decide +kernel⟩ rfl (gRm_ok (by decide) (by decide)) rfl (Nat.le_of_ble_eq_true rfl) dX4_tell_268 (fun S_11 => ?_)
    refine g_goto (tgt := 274) dX4_tell_271 (by decide) ?_
    refine g_env (env' := []) [] rfl ?_
    exact tX4_tell_L274 hG hF hX hQ S_11
  refine g_tout (tgt := 274) dX4_tell_1 (by have nh_1 := lv_neT (a := 0) h_1 (by decide); have nh_3 := lv_neT (a := 1) h_3 (by decide); have nh_5 := lv_neT (a := 2) h_5 (by decide); have nh_7 := lv_neT (a := 3) h_7 (by decide); have nh_9 := lv_neT (a := 4) h_9 (by decide); have nh_11 := lv_neT (a := 5) h_11 (by decide); have nh_13 := lv_neT (a := 6) h_13 (by decide); have nh_15 := lv_neT (a := 7) h_15 (by decide); have nh_17 := lv_neT (a := 8) h_17 (by decide); have nh_19 := lv_neT (a := 9) h_19 (by decide); have nh_21 := lv_neT (a := 10) h_21 (by decide); omega) (by decide) ?_
  refine g_env (env' := []) [] rfl ?_
  exact tX4_tell_L274 hG hF hX hQ S
set_option maxRecDepth 100000 in
set_option maxHeartbeats 4000000 in
theorem tX4_tell {G : gGG} {F : State → Heap → Prop} (hG : gOK G) (hF : gSb G F) (hX : gPX G) (hQ : gOQ G) (a1 : Int32) (S : gSt) : gCt G F yX4_tell wsX4_tell 2 [.ref (gad G 31), .int a1] S ((fX4_tell a1 S).map (fun x => (none, x))) := g_met (by decide +kernel) rfl (Nat.le_of_ble_eq_true rfl) (tX4_tell_L hG hF hX hQ a1 S)
/-! X4_readInto -/
theorem hiX4_readInto_4 : ∀ w ∈ u_ws RX4 TX4 7, w ∈ wsX4_readInto := fun _ hw => List.mem_cons_of_mem _ (List.mem_append_left _ (List.mem_append_left _ (List.mem_append_right _ (hw))))
set_option maxRecDepth 100000 in
set_option maxHeartbeats 4000000 in
theorem tX4_readInto_L23 {G : gGG} {F : State → Heap → Prop} (hG : gOK G) (hF : gSb G F) (hX : gPX G) (hQ : gOQ G) (hV : gVX G F) {a1 : Nat} (h1 : gIsRu a1 = true) : ∀ (n : Nat) (x2 : Int32) (S : gSt), Gof G F RX4 cX4_readInto 4 wsX4_readInto (some .int) (gRm 8) 0 0 (gQ G (fun x => (some (.int x.1), x.2))) 23 [(0, .ref (gad G 31)), (2, .int x2)] [] S (fX4_readInto_L23 a1 n x2 S) := by
  intro n
  induction n with
  | zero => intro x2 S; exact g_none
  | succ n ih =>
    intro x2 S
    unfold fX4_readInto_L23
    refine g_aload_n 0 dX4_readInto_23 rfl ?_
    refine g_getI (ci := 4) (k0 := 4) (C0 := RX4) (T := TX4) (N := 7) (hX 31 (by decide)) rfl rfl hiX4_readInto_4 (by decide) (List.mem_of_getElem? (i := 3) rfl) rfl dX4_readInto_24 ?_
    refine g_bipush (v := 13) dX4_readInto_27 (by decide) ?_
    refine g_icmp_eq (tgt := 91) dX4_readInto_29 (by decide) (fun h_1 => ?_) (fun h_1 => ?_)
    · refine g_iload_n 1 dX4_readInto_91 rfl ?_
      exact g_iret dX4_readInto_92 rfl
    · refine g_iload_n 1 dX4_readInto_32 rfl ?_
      refine g_sipush (v := 300) dX4_readInto_33 (by decide) ?_
      refine g_icmp_ge (tgt := 91) dX4_readInto_36 (by decide) (fun h_2 => ?_) (fun h_2 => ?_)
      · refine g_iload_n 1 dX4_readInto_91 rfl ?_
        exact g_iret dX4_readInto_92 rfl
      · refine g_aload_n 0 dX4_readInto_39 rfl ?_
        refine g_getI (ci := 4) (k0 := 4) (C0 := RX4) (T := TX4) (N := 7) (hX 31 (by decide)) rfl rfl hiX4_readInto_4 (by decide) (List.mem_of_getElem? (i := 3) rfl) rfl dX4_readInto_40 ?_
        refine g_nI (fun v_1 => ?_)
        refine g_istore_n (i := 3) (env' := [(3, .int v_1), (0, .ref (gad G 31)), (2, .int x2)]) dX4_readInto_43 rfl (by decide) rfl ?_
        refine g_aload_n 1 dX4_readInto_44 rfl ?_
        refine g_iload_n 0 dX4_readInto_45 rfl ?_
        refine g_iload_n 2 dX4_readInto_46 rfl ?_
        refine g_cVp (ci := 4) (C0 := RX4) (T := TX4) (N := 7) (n := 2) (As := [.int v_1, .int x2]) (rest := []) hF (tX4_mayBegin hG hF hX hQ v_1 x2 S) gX4_readInto_X4_mayBegin rfl (hX 31 (by decide)) rfl rfl ⟨rfl, by decide +kernel, by decide +kernel, by decide +kernel⟩ rfl (gRm_ok (by decide) (by decide)) rfl (Nat.le_of_ble_eq_true rfl) dX4_readInto_47 (fun v_2 => ?_)
        refine g_if_eq (tgt := 68) dX4_readInto_50 (by decide) (fun h_3 => ?_) (fun h_3 => ?_)
        · refine g_bipush (v := (-10)) dX4_readInto_68 (by decide) ?_
          refine g_aload_n 1 dX4_readInto_70 rfl ?_
          refine g_getI (ci := 4) (k0 := 5) (C0 := RX4) (T := TX4) (N := 7) (hX 31 (by decide)) rfl rfl hiX4_readInto_4 (by decide) (List.mem_of_getElem? (i := 4) rfl) rfl dX4_readInto_71 ?_
          refine g_isub dX4_readInto_74 ?_
          exact g_iret dX4_readInto_75 rfl
        · refine g_aload_n 1 dX4_readInto_53 rfl ?_
          refine g_iload_n 0 dX4_readInto_54 rfl ?_
          refine g_cVi (ci := 4) (C0 := RX4) (T := TX4) (N := 7) (n := 1) (As := [.int v_1]) (rest := []) hF (tX4_readNumbers hG hF hX hQ hV v_1 S) gX4_readInto_X4_readNumbers rfl (hX 31 (by decide)) rfl rfl ⟨rfl, by decide +kernel, by decide +kernel, by decide +kernel⟩ rfl (gRm_ok (by decide) (by decide)) rfl (Nat.le_of_ble_eq_true rfl) dX4_readInto_55 (fun v_3 S_4 => ?_)
          refine g_if_eq (tgt := 68) dX4_readInto_58 (by decide) (fun h_4 => ?_) (fun h_4 => ?_)
          · refine g_bipush (v := (-10)) dX4_readInto_68 (by decide) ?_
            refine g_aload_n 1 dX4_readInto_70 rfl ?_
            refine g_getI (ci := 4) (k0 := 5) (C0 := RX4) (T := TX4) (N := 7) (hX 31 (by decide)) rfl rfl hiX4_readInto_4 (by decide) (List.mem_of_getElem? (i := 4) rfl) rfl dX4_readInto_71 ?_
            refine g_isub dX4_readInto_74 ?_
            exact g_iret dX4_readInto_75 rfl
          · refine g_aload_n 1 dX4_readInto_61 rfl ?_
            refine g_cVi (ci := 4) (C0 := RX4) (T := TX4) (N := 7) (n := 0) (As := []) (rest := []) hF (tX4_readSemicolon hG hF hX hQ hV S_4) gX4_readInto_X4_readSemicolon rfl (hX 31 (by decide)) rfl rfl ⟨rfl, by decide +kernel, by decide +kernel, by decide +kernel⟩ rfl (gRm_ok (by decide) (by decide)) rfl (Nat.le_of_ble_eq_true rfl) dX4_readInto_62 (fun v_5 S_6 => ?_)
            refine g_if_ne (tgt := 76) dX4_readInto_65 (by decide) (fun h_5 => ?_) (fun h_5 => ?_)
            · refine g_aload_n 1 dX4_readInto_76 rfl ?_
              refine g_iload_n 0 dX4_readInto_77 rfl ?_
              refine g_cVv (ci := 4) (C0 := RX4) (T := TX4) (N := 7) (n := 1) (As := [.int v_1]) (rest := []) hF (tX4_tell hG hF hX hQ v_1 S_6) gX4_readInto_X4_tell rfl (hX 31 (by decide)) rfl rfl ⟨rfl, by decide +kernel, by decide +kernel, by decide +kernel⟩ rfl (gRm_ok (by decide) (by decide)) rfl (Nat.le_of_ble_eq_true rfl) dX4_readInto_78 (fun S_7 => ?_)
              refine g_iinc 2 (v := (x2 + 1)) (env' := [(2, .int (x2 + 1)), (3, .int v_1), (0, .ref (gad G 31))]) dX4_readInto_81 rfl rfl (by decide) rfl ?_
              refine g_aload_n 2 dX4_readInto_84 rfl ?_
              refine g_cVv (ci := 4) (C0 := RX4) (T := TX4) (N := 7) (n := 0) (As := []) (rest := []) hF (tX4_advance hG hF hX hQ hV S_7) gX4_readInto_X4_advance rfl (hX 31 (by decide)) rfl rfl ⟨rfl, by decide +kernel, by decide +kernel, by decide +kernel⟩ rfl (gRm_ok (by decide) (by decide)) rfl (Nat.le_of_ble_eq_true rfl) dX4_readInto_85 (fun S_8 => ?_)
              refine g_goto (tgt := 23) dX4_readInto_88 (by decide) ?_
              refine g_env (env' := [(0, .ref (gad G 31)), (2, .int (x2 + 1))]) [2, 0] rfl ?_
              exact ih (x2 + 1) S_8
            · refine g_bipush (v := (-10)) dX4_readInto_68 (by decide) ?_
              refine g_aload_n 1 dX4_readInto_70 rfl ?_
              refine g_getI (ci := 4) (k0 := 5) (C0 := RX4) (T := TX4) (N := 7) (hX 31 (by decide)) rfl rfl hiX4_readInto_4 (by decide) (List.mem_of_getElem? (i := 4) rfl) rfl dX4_readInto_71 ?_
              refine g_isub dX4_readInto_74 ?_
              exact g_iret dX4_readInto_75 rfl
set_option maxRecDepth 100000 in
set_option maxHeartbeats 4000000 in
theorem tX4_readInto_L {G : gGG} {F : State → Heap → Prop} (hG : gOK G) (hF : gSb G F) (hX : gPX G) (hQ : gOQ G) (hV : gVX G F) {a1 : Nat} (h1 : gIsRu a1 = true) (S : gSt) : Gof G F RX4 cX4_readInto 4 wsX4_readInto (some .int) (gRm 8) 0 0 (gQ G (fun x => (some (.int x.1), x.2))) 0 [(0, .ref (gad G 31)), (1, .ref (gad G a1))] [] S (fX4_readInto a1 S) := by
  unfold fX4_readInto
  refine g_aload_n 0 dX4_readInto_0 rfl ?_
  refine g_aload_n 1 dX4_readInto_1 rfl ?_
  refine g_putM hG (ci := 4) (k0 := 2) (C0 := RX4) (T := TX4) (N := 7) (hX 31 (by decide)) rfl rfl hiX4_readInto_4 (by decide) (List.mem_of_getElem? (i := 1) rfl) tyX4 tyX4_ok nmX4 rfl (gRu_lt h1) rfl rfl rfl dX4_readInto_2 ?_
  refine g_nS (fun S_1 => ?_)
  refine g_aload_n 0 dX4_readInto_5 rfl ?_
  refine g_gC (fun h_1 => ?_)
  refine g_getM (ci := 4) (k0 := 2) (C0 := RX4) (T := TX4) (N := 7) (hX 31 (by decide)) rfl rfl hiX4_readInto_4 (by decide) (List.mem_of_getElem? (i := 1) rfl) rfl dX4_readInto_6 ?_
  refine g_cVv (ci := 5) (C0 := RX5) (T := TX5) (N := 6) (n := 0) (As := []) (rest := []) hF (tX5_reset hG hF hX hQ h_1 S_1) gX4_readInto_X5_reset rfl (gRu_m hX h_1) (gRu_l h_1) rfl ⟨rfl, by decide +kernel, by decide +kernel, by decide +kernel⟩ rfl (gRm_ok (by decide) (by decide)) rfl (Nat.le_of_ble_eq_true rfl) dX4_readInto_9 (fun S_2 => ?_)
  refine g_aload_n 0 dX4_readInto_12 rfl ?_
  refine g_iconst (v := 0) dX4_readInto_13 (by decide) ?_
  refine g_putI hG (ci := 4) (k0 := 3) (C0 := RX4) (T := TX4) (N := 7) (hX 31 (by decide)) rfl rfl hiX4_readInto_4 (by decide) (List.mem_of_getElem? (i := 2) rfl) tyX4 tyX4_ok nmX4 rfl rfl rfl rfl dX4_readInto_14 ?_
  refine g_nS (fun S_3 => ?_)
  refine g_iconst (v := 0) dX4_readInto_17 (by decide) ?_
  refine g_istore_n (i := 2) (env' := [(2, .int 0), (0, .ref (gad G 31)), (1, .ref (gad G a1))]) dX4_readInto_18 rfl (by decide) rfl ?_
  refine g_aload_n 1 dX4_readInto_19 rfl ?_
  refine g_cVv (ci := 4) (C0 := RX4) (T := TX4) (N := 7) (n := 0) (As := []) (rest := []) hF (tX4_advance hG hF hX hQ hV S_3) gX4_readInto_X4_advance rfl (hX 31 (by decide)) rfl rfl ⟨rfl, by decide +kernel, by decide +kernel, by decide +kernel⟩ rfl (gRm_ok (by decide) (by decide)) rfl (Nat.le_of_ble_eq_true rfl) dX4_readInto_20 (fun S_4 => ?_)
  refine g_env (env' := [(0, .ref (gad G 31)), (2, .int 0)]) [1, 0] rfl ?_
  exact tX4_readInto_L23 hG hF hX hQ hV h1 gFU 0 S_4
set_option maxRecDepth 100000 in
set_option maxHeartbeats 4000000 in
theorem tX4_readInto {G : gGG} {F : State → Heap → Prop} (hG : gOK G) (hF : gSb G F) (hX : gPX G) (hQ : gOQ G) (hV : gVX G F) {a1 : Nat} (h1 : gIsRu a1 = true) (S : gSt) : gCt G F yX4_readInto wsX4_readInto 8 [.ref (gad G 31), .ref (gad G a1)] S ((fX4_readInto a1 S).map (fun x => (some (.int x.1), x.2))) := g_met (by decide +kernel) rfl (Nat.le_of_ble_eq_true rfl) (tX4_readInto_L hG hF hX hQ hV h1 S)
