/-! X4_isLetter -/
set_option maxRecDepth 100000 in
set_option maxHeartbeats 4000000 in
theorem tX4_isLetter_L {G : gGG} {F : State → Heap → Prop} (hG : gOK G) (hF : gSb G F) (hX : gPX G) (hQ : gOQ G) (a0 : Int32) (S : gSt) : Gof G F RX4 cX4_isLetter 1 wsX4_isLetter (some .boolean) (gRm 0) 0 0 (gQ G (fun x => (some (.int x), S))) 0 [(0, .int a0)] [] S (fX4_isLetter a0 S) := by
  unfold fX4_isLetter
  refine g_iload_n 0 dX4_isLetter_0 rfl ?_
  refine g_bipush (v := 97) dX4_isLetter_1 (by decide) ?_
  refine g_icmp_lt (tgt := 16) dX4_isLetter_3 (by decide) (fun h_1 => ?_) (fun h_1 => ?_)
  · refine g_iconst (v := 0) dX4_isLetter_16 (by decide) ?_
    exact g_zret (by decide) dX4_isLetter_17 rfl
  · refine g_iload_n 0 dX4_isLetter_6 rfl ?_
    refine g_bipush (v := 122) dX4_isLetter_7 (by decide) ?_
    refine g_icmp_gt (tgt := 16) dX4_isLetter_9 (by decide) (fun h_2 => ?_) (fun h_2 => ?_)
    · refine g_iconst (v := 0) dX4_isLetter_16 (by decide) ?_
      exact g_zret (by decide) dX4_isLetter_17 rfl
    · refine g_iconst (v := 1) dX4_isLetter_12 (by decide) ?_
      refine g_goto (tgt := 17) dX4_isLetter_13 (by decide) ?_
      exact g_zret (by decide) dX4_isLetter_17 rfl
set_option maxRecDepth 100000 in
set_option maxHeartbeats 4000000 in
theorem tX4_isLetter {G : gGG} {F : State → Heap → Prop} (hG : gOK G) (hF : gSb G F) (hX : gPX G) (hQ : gOQ G) (a0 : Int32) (S : gSt) : gCt G F yX4_isLetter wsX4_isLetter 0 [.int a0] S ((fX4_isLetter a0 S).map (fun x => (some (.int x), S))) := g_met (by decide +kernel) rfl (Nat.le_of_ble_eq_true rfl) (tX4_isLetter_L hG hF hX hQ a0 S)
/-! X4_spelling -/
set_option maxRecDepth 100000 in
set_option maxHeartbeats 4000000 in
theorem tX4_spelling_L {G : gGG} {F : State → Heap → Prop} (hG : gOK G) (hF : gSb G F) (hX : gPX G) (hQ : gOQ G) (hV : gVX G F) (a0 : Int32) (S : gSt) : Gof G F RX4 cX4_spelling 1 wsX4_spelling (some (.object "java/lang/String")) (gRm 0) 0 0 (gQ G (fun x => (some (.ref (gad G x)), S))) 0 [(0, .int a0)] [] S (fX4_spelling a0 S) := by
  unfold fX4_spelling
  refine g_iload_n 0 dX4_spelling_0 rfl ?_
  refine g_ite (c0 := a0 = 0) (fun h_1 => ?_) (fun h_1 => ?_)
  · refine g_tin (tgt := 56) dX4_spelling_1 (by rw [h_1]; decide) (by rw [h_1]; decide) (by rw [h_1]; rfl) (by decide) ?_
    refine g_ldcS hV 0 (by decide) rfl rfl dX4_spelling_56 ?_
    exact g_aret dX4_spelling_58 rfl
  refine g_ite (c0 := a0 = 1) (fun h_2 => ?_) (fun h_2 => ?_)
  · refine g_tin (tgt := 59) dX4_spelling_1 (by rw [h_2]; decide) (by rw [h_2]; decide) (by rw [h_2]; rfl) (by decide) ?_
    refine g_ldcS hV 1 (by decide) rfl rfl dX4_spelling_59 ?_
    exact g_aret dX4_spelling_61 rfl
  refine g_ite (c0 := a0 = 2) (fun h_3 => ?_) (fun h_3 => ?_)
  · refine g_tin (tgt := 62) dX4_spelling_1 (by rw [h_3]; decide) (by rw [h_3]; decide) (by rw [h_3]; rfl) (by decide) ?_
    refine g_ldcS hV 2 (by decide) rfl rfl dX4_spelling_62 ?_
    exact g_aret dX4_spelling_64 rfl
  refine g_ite (c0 := a0 = 3) (fun h_4 => ?_) (fun h_4 => ?_)
  · refine g_tin (tgt := 65) dX4_spelling_1 (by rw [h_4]; decide) (by rw [h_4]; decide) (by rw [h_4]; rfl) (by decide) ?_
    refine g_ldcS hV 3 (by decide) rfl rfl dX4_spelling_65 ?_
    exact g_aret dX4_spelling_67 rfl
  refine g_ite (c0 := a0 = 4) (fun h_5 => ?_) (fun h_5 => ?_)
  · refine g_tin (tgt := 68) dX4_spelling_1 (by rw [h_5]; decide) (by rw [h_5]; decide) (by rw [h_5]; rfl) (by decide) ?_
    refine g_ldcS hV 4 (by decide) rfl rfl dX4_spelling_68 ?_
    exact g_aret dX4_spelling_70 rfl
  refine g_ite (c0 := a0 = 5) (fun h_6 => ?_) (fun h_6 => ?_)
  · refine g_tin (tgt := 71) dX4_spelling_1 (by rw [h_6]; decide) (by rw [h_6]; decide) (by rw [h_6]; rfl) (by decide) ?_
    refine g_ldcS hV 5 (by decide) rfl rfl dX4_spelling_71 ?_
    exact g_aret dX4_spelling_73 rfl
  refine g_ite (c0 := a0 = 6) (fun h_7 => ?_) (fun h_7 => ?_)
  · refine g_tin (tgt := 74) dX4_spelling_1 (by rw [h_7]; decide) (by rw [h_7]; decide) (by rw [h_7]; rfl) (by decide) ?_
    refine g_ldcS hV 6 (by decide) rfl rfl dX4_spelling_74 ?_
    exact g_aret dX4_spelling_76 rfl
  refine g_ite (c0 := a0 = 7) (fun h_8 => ?_) (fun h_8 => ?_)
  · refine g_tin (tgt := 77) dX4_spelling_1 (by rw [h_8]; decide) (by rw [h_8]; decide) (by rw [h_8]; rfl) (by decide) ?_
    refine g_ldcS hV 7 (by decide) rfl rfl dX4_spelling_77 ?_
    exact g_aret dX4_spelling_79 rfl
  refine g_ite (c0 := a0 = 8) (fun h_9 => ?_) (fun h_9 => ?_)
  · refine g_tin (tgt := 80) dX4_spelling_1 (by rw [h_9]; decide) (by rw [h_9]; decide) (by rw [h_9]; rfl) (by decide) ?_
    refine g_ldcS hV 8 (by decide) rfl rfl dX4_spelling_80 ?_
    exact g_aret dX4_spelling_82 rfl
  refine g_ite (c0 := a0 = 9) (fun h_10 => ?_) (fun h_10 => ?_)
  · refine g_tin (tgt := 83) dX4_spelling_1 (by rw [h_10]; decide) (by rw [h_10]; decide) (by rw [h_10]; rfl) (by decide) ?_
    refine g_ldcS hV 9 (by decide) rfl rfl dX4_spelling_83 ?_
    exact g_aret dX4_spelling_85 rfl
  refine g_tout (tgt := 86) dX4_spelling_1 (by have nh_1 := lv_neT (a := 0) h_1 (by decide); have nh_2 := lv_neT (a := 1) h_2 (by decide); have nh_3 := lv_neT (a := 2) h_3 (by decide); have nh_4 := lv_neT (a := 3) h_4 (by decide); have nh_5 := lv_neT (a := 4) h_5 (by decide); have nh_6 := lv_neT (a := 5) h_6 (by decide); have nh_7 := lv_neT (a := 6) h_7 (by decide); have nh_8 := lv_neT (a := 7) h_8 (by decide); have nh_9 := lv_neT (a := 8) h_9 (by decide); have nh_10 := lv_neT (a := 9) h_10 (by decide); omega) (by decide) ?_
  refine g_ldcS hV 10 (by decide) rfl rfl dX4_spelling_86 ?_
  exact g_aret dX4_spelling_88 rfl
set_option maxRecDepth 100000 in
set_option maxHeartbeats 4000000 in
theorem tX4_spelling {G : gGG} {F : State → Heap → Prop} (hG : gOK G) (hF : gSb G F) (hX : gPX G) (hQ : gOQ G) (hV : gVX G F) (a0 : Int32) (S : gSt) : gCt G F yX4_spelling wsX4_spelling 0 [.int a0] S ((fX4_spelling a0 S).map (fun x => (some (.ref (gad G x)), S))) := g_met (by decide +kernel) rfl (Nat.le_of_ble_eq_true rfl) (tX4_spelling_L hG hF hX hQ hV a0 S)
/-! X4_isSpelled -/
theorem hiX4_isSpelled_4 : ∀ w ∈ u_ws RX4 TX4 8, w ∈ wsX4_isSpelled := fun _ hw => List.mem_cons_of_mem _ (List.mem_append_left _ (List.mem_append_right _ (hw)))
set_option maxRecDepth 100000 in
set_option maxHeartbeats 4000000 in
theorem tX4_isSpelled_L20 {G : gGG} {F : State → Heap → Prop} (hG : gOK G) (hF : gSb G F) (hX : gPX G) (hQ : gOQ G) (hV : gVX G F) {a1 : Nat} (h1 : gIsStr a1 = true) (S : gSt) : ∀ (n : Nat) (x2 : Int32), Gof G F RX4 cX4_isSpelled 3 wsX4_isSpelled (some .boolean) (gRm 4) 0 0 (gQ G (fun x => (some (.int x), S))) 20 [(0, .ref (gad G 31)), (1, .ref (gad G a1)), (2, .int x2)] [] S (fX4_isSpelled_L20 a1 S n x2) := by
  intro n
  induction n with
  | zero => intro x2; exact g_none
  | succ n ih =>
    intro x2
    unfold fX4_isSpelled_L20
    refine g_iload_n 2 dX4_isSpelled_20 rfl ?_
    refine g_aload_n 1 dX4_isSpelled_21 rfl ?_
    refine g_cTp (n := 0) (As := []) (rest := [.int x2]) hV hF (tJ0_length_8abf5 hG hF hV h1 S) gX4_isSpelled_J0_length_8abf5 rfl h1 ⟨rfl, by decide +kernel, by decide +kernel, by decide +kernel⟩ rfl (gRm_ok (by decide) (by decide)) rfl (Nat.le_of_ble_eq_true rfl) dX4_isSpelled_22 (fun v_1 => ?_)
    refine g_icmp_ge (tgt := 57) dX4_isSpelled_25 (by decide) (fun h_1 => ?_) (fun h_1 => ?_)
    · refine g_iconst (v := 1) dX4_isSpelled_57 (by decide) ?_
      exact g_zret (by decide) dX4_isSpelled_58 rfl
    · refine g_aload_n 1 dX4_isSpelled_28 rfl ?_
      refine g_iload_n 2 dX4_isSpelled_29 rfl ?_
      refine g_cTp (n := 1) (As := [.int x2]) (rest := []) hV hF (tJ0_charAt_5068e hG hF hV h1 x2 S) gX4_isSpelled_J0_charAt_5068e rfl h1 ⟨rfl, by decide +kernel, by decide +kernel, by decide +kernel⟩ rfl (gRm_ok (by decide) (by decide)) rfl (Nat.le_of_ble_eq_true rfl) dX4_isSpelled_30 (fun v_2 => ?_)
      refine g_aload_n 0 dX4_isSpelled_33 rfl ?_
      refine g_getK (ci := 4) (k0 := 0) (C0 := RX4) (T := TX4) (N := 8) (hX 31 (by decide)) rfl rfl hiX4_isSpelled_4 (by decide) (List.mem_of_getElem? (i := 3) rfl) rfl dX4_isSpelled_34 ?_
      refine g_aload_n 0 dX4_isSpelled_37 rfl ?_
      refine g_getI (ci := 4) (k0 := 4) (C0 := RX4) (T := TX4) (N := 8) (hX 31 (by decide)) rfl rfl hiX4_isSpelled_4 (by decide) (List.mem_of_getElem? (i := 2) rfl) rfl dX4_isSpelled_38 ?_
      refine g_iload_n 2 dX4_isSpelled_41 rfl ?_
      refine g_iadd dX4_isSpelled_42 ?_
      refine g_cVp (ci := 8) (C0 := RX8) (T := TX8) (N := 2) (n := 1) (As := [.int ((gR S 31 4) + x2)]) (rest := [.int v_2]) hF (tX8_byteAt hG hF hX hQ ((gR S 31 4) + x2) S) gX4_isSpelled_X8_byteAt rfl (hX 29 (by decide)) rfl rfl ⟨rfl, by decide +kernel, by decide +kernel, by decide +kernel⟩ rfl (gRm_ok (by decide) (by decide)) rfl (Nat.le_of_ble_eq_true rfl) dX4_isSpelled_43 (fun v_3 => ?_)
      refine g_icmp_eq (tgt := 51) dX4_isSpelled_46 (by decide) (fun h_2 => ?_) (fun h_2 => ?_)
      · refine g_iinc 2 (v := (x2 + 1)) (env' := [(2, .int (x2 + 1)), (0, .ref (gad G 31)), (1, .ref (gad G a1))]) dX4_isSpelled_51 rfl rfl (by decide) rfl ?_
        refine g_goto (tgt := 20) dX4_isSpelled_54 (by decide) ?_
        refine g_env (env' := [(0, .ref (gad G 31)), (1, .ref (gad G a1)), (2, .int (x2 + 1))]) [1, 2, 0] rfl ?_
        exact ih (x2 + 1)
      · refine g_iconst (v := 0) dX4_isSpelled_49 (by decide) ?_
        exact g_zret (by decide) dX4_isSpelled_50 rfl
set_option maxRecDepth 100000 in
set_option maxHeartbeats 4000000 in
theorem tX4_isSpelled_L {G : gGG} {F : State → Heap → Prop} (hG : gOK G) (hF : gSb G F) (hX : gPX G) (hQ : gOQ G) (hV : gVX G F) {a1 : Nat} (h1 : gIsStr a1 = true) (S : gSt) : Gof G F RX4 cX4_isSpelled 3 wsX4_isSpelled (some .boolean) (gRm 4) 0 0 (gQ G (fun x => (some (.int x), S))) 0 [(0, .ref (gad G 31)), (1, .ref (gad G a1))] [] S (fX4_isSpelled a1 S) := by
  unfold fX4_isSpelled
  refine g_aload_n 1 dX4_isSpelled_0 rfl ?_
  refine g_cTp (n := 0) (As := []) (rest := []) hV hF (tJ0_length_8abf5 hG hF hV h1 S) gX4_isSpelled_J0_length_8abf5 rfl h1 ⟨rfl, by decide +kernel, by decide +kernel, by decide +kernel⟩ rfl (gRm_ok (by decide) (by decide)) rfl (Nat.le_of_ble_eq_true rfl) dX4_isSpelled_1 (fun v_1 => ?_)
  refine g_aload_n 0 dX4_isSpelled_4 rfl ?_
  refine g_getI (ci := 4) (k0 := 2) (C0 := RX4) (T := TX4) (N := 8) (hX 31 (by decide)) rfl rfl hiX4_isSpelled_4 (by decide) (List.mem_of_getElem? (i := 1) rfl) rfl dX4_isSpelled_5 ?_
  refine g_aload_n 0 dX4_isSpelled_8 rfl ?_
  refine g_getI (ci := 4) (k0 := 4) (C0 := RX4) (T := TX4) (N := 8) (hX 31 (by decide)) rfl rfl hiX4_isSpelled_4 (by decide) (List.mem_of_getElem? (i := 2) rfl) rfl dX4_isSpelled_9 ?_
  refine g_isub dX4_isSpelled_12 ?_
  refine g_icmp_eq (tgt := 18) dX4_isSpelled_13 (by decide) (fun h_1 => ?_) (fun h_1 => ?_)
  · refine g_iconst (v := 0) dX4_isSpelled_18 (by decide) ?_
    refine g_istore_n (i := 2) (env' := [(2, .int 0), (0, .ref (gad G 31)), (1, .ref (gad G a1))]) dX4_isSpelled_19 rfl (by decide) rfl ?_
    refine g_env (env' := [(0, .ref (gad G 31)), (1, .ref (gad G a1)), (2, .int 0)]) [1, 2, 0] rfl ?_
    exact tX4_isSpelled_L20 hG hF hX hQ hV h1 S gFU 0
  · refine g_iconst (v := 0) dX4_isSpelled_16 (by decide) ?_
    exact g_zret (by decide) dX4_isSpelled_17 rfl
set_option maxRecDepth 100000 in
set_option maxHeartbeats 4000000 in
theorem tX4_isSpelled {G : gGG} {F : State → Heap → Prop} (hG : gOK G) (hF : gSb G F) (hX : gPX G) (hQ : gOQ G) (hV : gVX G F) {a1 : Nat} (h1 : gIsStr a1 = true) (S : gSt) : gCt G F yX4_isSpelled wsX4_isSpelled 4 [.ref (gad G 31), .ref (gad G a1)] S ((fX4_isSpelled a1 S).map (fun x => (some (.int x), S))) := g_met (by decide +kernel) rfl (Nat.le_of_ble_eq_true rfl) (tX4_isSpelled_L hG hF hX hQ hV h1 S)
/-! X4_scanWord -/
theorem hiX4_scanWord_4 : ∀ w ∈ u_ws RX4 TX4 8, w ∈ wsX4_scanWord := fun _ hw => List.mem_cons_of_mem _ (List.mem_append_left _ (List.mem_append_right _ (hw)))
set_option maxRecDepth 100000 in
set_option maxHeartbeats 4000000 in
theorem tX4_scanWord_L42 {G : gGG} {F : State → Heap → Prop} (hG : gOK G) (hF : gSb G F) (hX : gPX G) (hQ : gOQ G) (hV : gVX G F) : ∀ (n : Nat) (x1 : Int32) (S : gSt), Gof G F RX4 cX4_scanWord 2 wsX4_scanWord (some .int) (gRm 5) 0 0 (gQ G (fun x => (some (.int x.1), x.2))) 42 [(0, .ref (gad G 31)), (1, .int x1)] [] S (fX4_scanWord_L42 n x1 S) := by
  intro n
  induction n with
  | zero => intro x1 S; exact g_none
  | succ n ih =>
    intro x1 S
    unfold fX4_scanWord_L42
    refine g_iload_n 1 dX4_scanWord_42 rfl ?_
    refine g_bipush (v := 11) dX4_scanWord_43 (by decide) ?_
    refine g_icmp_ge (tgt := 67) dX4_scanWord_45 (by decide) (fun h_1 => ?_) (fun h_1 => ?_)
    · refine g_bipush (v := 14) dX4_scanWord_67 (by decide) ?_
      exact g_iret dX4_scanWord_69 rfl
    · refine g_aload_n 0 dX4_scanWord_48 rfl ?_
      refine g_iload_n 1 dX4_scanWord_49 rfl ?_
      refine g_cSr (n := 1) (As := [.int x1]) (rest := [.ref (gad G 31)]) hF (tX4_spelling hG hF hX hQ hV x1 S) gX4_scanWord_X4_spelling rfl ⟨by decide +kernel, by decide +kernel, by decide +kernel⟩ rfl (gRm_ok (by decide) (by decide)) rfl (Nat.le_of_ble_eq_true rfl) dX4_scanWord_50 (fun q_1 => ?_)
      refine g_gC (fun h_2 => ?_)
      refine g_cVp (ci := 4) (C0 := RX4) (T := TX4) (N := 8) (n := 1) (As := [.ref (gad G q_1)]) (rest := []) hF (tX4_isSpelled hG hF hX hQ hV h_2 S) gX4_scanWord_X4_isSpelled rfl (hX 31 (by decide)) rfl rfl ⟨rfl, by decide +kernel, by decide +kernel, by decide +kernel⟩ rfl (gRm_ok (by decide) (by decide)) rfl (Nat.le_of_ble_eq_true rfl) dX4_scanWord_53 (fun v_2 => ?_)
      refine g_if_eq (tgt := 61) dX4_scanWord_56 (by decide) (fun h_3 => ?_) (fun h_3 => ?_)
      · refine g_iinc 1 (v := (x1 + 1)) (env' := [(1, .int (x1 + 1)), (0, .ref (gad G 31))]) dX4_scanWord_61 rfl rfl (by decide) rfl ?_
        refine g_goto (tgt := 42) dX4_scanWord_64 (by decide) ?_
        refine g_env (env' := [(0, .ref (gad G 31)), (1, .int (x1 + 1))]) [1, 0] rfl ?_
        exact ih (x1 + 1) S
      · refine g_iload_n 1 dX4_scanWord_59 rfl ?_
        exact g_iret dX4_scanWord_60 rfl
set_option maxRecDepth 100000 in
set_option maxHeartbeats 4000000 in
theorem tX4_scanWord_L0 {G : gGG} {F : State → Heap → Prop} (hG : gOK G) (hF : gSb G F) (hX : gPX G) (hQ : gOQ G) (hV : gVX G F) : ∀ (n : Nat)  (S : gSt), Gof G F RX4 cX4_scanWord 2 wsX4_scanWord (some .int) (gRm 5) 0 0 (gQ G (fun x => (some (.int x.1), x.2))) 0 [(0, .ref (gad G 31))] [] S (fX4_scanWord_L0 n S) := by
  intro n
  induction n with
  | zero => intro  S; exact g_none
  | succ n ih =>
    intro  S
    unfold fX4_scanWord_L0
    refine g_aload_n 0 dX4_scanWord_0 rfl ?_
    refine g_getI (ci := 4) (k0 := 2) (C0 := RX4) (T := TX4) (N := 8) (hX 31 (by decide)) rfl rfl hiX4_scanWord_4 (by decide) (List.mem_of_getElem? (i := 1) rfl) rfl dX4_scanWord_1 ?_
    refine g_sipush (v := 300) dX4_scanWord_4 (by decide) ?_
    refine g_icmp_ge (tgt := 40) dX4_scanWord_7 (by decide) (fun h_1 => ?_) (fun h_1 => ?_)
    · refine g_iconst (v := 0) dX4_scanWord_40 (by decide) ?_
      refine g_istore_n (i := 1) (env' := [(1, .int 0), (0, .ref (gad G 31))]) dX4_scanWord_41 rfl (by decide) rfl ?_
      refine g_env (env' := [(0, .ref (gad G 31)), (1, .int 0)]) [1, 0] rfl ?_
      exact tX4_scanWord_L42 hG hF hX hQ hV gFU 0 S
    · refine g_aload_n 0 dX4_scanWord_10 rfl ?_
      refine g_getK (ci := 4) (k0 := 0) (C0 := RX4) (T := TX4) (N := 8) (hX 31 (by decide)) rfl rfl hiX4_scanWord_4 (by decide) (List.mem_of_getElem? (i := 2) rfl) rfl dX4_scanWord_11 ?_
      refine g_aload_n 0 dX4_scanWord_14 rfl ?_
      refine g_getI (ci := 4) (k0 := 2) (C0 := RX4) (T := TX4) (N := 8) (hX 31 (by decide)) rfl rfl hiX4_scanWord_4 (by decide) (List.mem_of_getElem? (i := 1) rfl) rfl dX4_scanWord_15 ?_
      refine g_cVp (ci := 8) (C0 := RX8) (T := TX8) (N := 2) (n := 1) (As := [.int (gR S 31 2)]) (rest := []) hF (tX8_byteAt hG hF hX hQ (gR S 31 2) S) gX4_scanWord_X8_byteAt rfl (hX 29 (by decide)) rfl rfl ⟨rfl, by decide +kernel, by decide +kernel, by decide +kernel⟩ rfl (gRm_ok (by decide) (by decide)) rfl (Nat.le_of_ble_eq_true rfl) dX4_scanWord_18 (fun v_1 => ?_)
      refine g_cSp (n := 1) (As := [.int v_1]) (rest := []) hF (tX4_isLetter hG hF hX hQ v_1 S) gX4_scanWord_X4_isLetter rfl ⟨by decide +kernel, by decide +kernel, by decide +kernel⟩ rfl (gRm_ok (by decide) (by decide)) rfl (Nat.le_of_ble_eq_true rfl) dX4_scanWord_21 (fun v_2 => ?_)
      refine g_if_eq (tgt := 40) dX4_scanWord_24 (by decide) (fun h_2 => ?_) (fun h_2 => ?_)
      · refine g_iconst (v := 0) dX4_scanWord_40 (by decide) ?_
        refine g_istore_n (i := 1) (env' := [(1, .int 0), (0, .ref (gad G 31))]) dX4_scanWord_41 rfl (by decide) rfl ?_
        refine g_env (env' := [(0, .ref (gad G 31)), (1, .int 0)]) [1, 0] rfl ?_
        exact tX4_scanWord_L42 hG hF hX hQ hV gFU 0 S
      · refine g_aload_n 0 dX4_scanWord_27 rfl ?_
        refine g_dup dX4_scanWord_28 rfl ?_
        refine g_getI (ci := 4) (k0 := 2) (C0 := RX4) (T := TX4) (N := 8) (hX 31 (by decide)) rfl rfl hiX4_scanWord_4 (by decide) (List.mem_of_getElem? (i := 1) rfl) rfl dX4_scanWord_29 ?_
        refine g_iconst (v := 1) dX4_scanWord_32 (by decide) ?_
        refine g_iadd dX4_scanWord_33 ?_
        refine g_putI hG (ci := 4) (k0 := 2) (C0 := RX4) (T := TX4) (N := 8) (hX 31 (by decide)) rfl rfl hiX4_scanWord_4 (by decide) (List.mem_of_getElem? (i := 1) rfl) tyX4 tyX4_ok nmX4 rfl rfl rfl rfl dX4_scanWord_34 ?_
        refine g_nS (fun S_3 => ?_)
        refine g_goto (tgt := 0) dX4_scanWord_37 (by decide) ?_
        exact ih S_3
set_option maxRecDepth 100000 in
set_option maxHeartbeats 4000000 in
theorem tX4_scanWord_L {G : gGG} {F : State → Heap → Prop} (hG : gOK G) (hF : gSb G F) (hX : gPX G) (hQ : gOQ G) (hV : gVX G F) (S : gSt) : Gof G F RX4 cX4_scanWord 2 wsX4_scanWord (some .int) (gRm 5) 0 0 (gQ G (fun x => (some (.int x.1), x.2))) 0 [(0, .ref (gad G 31))] [] S (fX4_scanWord S) := by
  unfold fX4_scanWord
  exact tX4_scanWord_L0 hG hF hX hQ hV gFU S
set_option maxRecDepth 100000 in
set_option maxHeartbeats 4000000 in
theorem tX4_scanWord {G : gGG} {F : State → Heap → Prop} (hG : gOK G) (hF : gSb G F) (hX : gPX G) (hQ : gOQ G) (hV : gVX G F) (S : gSt) : gCt G F yX4_scanWord wsX4_scanWord 5 [.ref (gad G 31)] S ((fX4_scanWord S).map (fun x => (some (.int x.1), x.2))) := g_met (by decide +kernel) rfl (Nat.le_of_ble_eq_true rfl) (tX4_scanWord_L hG hF hX hQ hV S)
/-! X4_isDigit -/
set_option maxRecDepth 100000 in
set_option maxHeartbeats 4000000 in
theorem tX4_isDigit_L {G : gGG} {F : State → Heap → Prop} (hG : gOK G) (hF : gSb G F) (hX : gPX G) (hQ : gOQ G) (a0 : Int32) (S : gSt) : Gof G F RX4 cX4_isDigit 1 wsX4_isDigit (some .boolean) (gRm 0) 0 0 (gQ G (fun x => (some (.int x), S))) 0 [(0, .int a0)] [] S (fX4_isDigit a0 S) := by
  unfold fX4_isDigit
  refine g_iload_n 0 dX4_isDigit_0 rfl ?_
  refine g_bipush (v := 48) dX4_isDigit_1 (by decide) ?_
  refine g_icmp_lt (tgt := 16) dX4_isDigit_3 (by decide) (fun h_1 => ?_) (fun h_1 => ?_)
  · refine g_iconst (v := 0) dX4_isDigit_16 (by decide) ?_
    exact g_zret (by decide) dX4_isDigit_17 rfl
  · refine g_iload_n 0 dX4_isDigit_6 rfl ?_
    refine g_bipush (v := 57) dX4_isDigit_7 (by decide) ?_
    refine g_icmp_gt (tgt := 16) dX4_isDigit_9 (by decide) (fun h_2 => ?_) (fun h_2 => ?_)
    · refine g_iconst (v := 0) dX4_isDigit_16 (by decide) ?_
      exact g_zret (by decide) dX4_isDigit_17 rfl
    · refine g_iconst (v := 1) dX4_isDigit_12 (by decide) ?_
      refine g_goto (tgt := 17) dX4_isDigit_13 (by decide) ?_
      exact g_zret (by decide) dX4_isDigit_17 rfl
set_option maxRecDepth 100000 in
set_option maxHeartbeats 4000000 in
theorem tX4_isDigit {G : gGG} {F : State → Heap → Prop} (hG : gOK G) (hF : gSb G F) (hX : gPX G) (hQ : gOQ G) (a0 : Int32) (S : gSt) : gCt G F yX4_isDigit wsX4_isDigit 0 [.int a0] S ((fX4_isDigit a0 S).map (fun x => (some (.int x), S))) := g_met (by decide +kernel) rfl (Nat.le_of_ble_eq_true rfl) (tX4_isDigit_L hG hF hX hQ a0 S)
/-! X4_scanNumber -/
theorem hiX4_scanNumber_4 : ∀ w ∈ u_ws RX4 TX4 8, w ∈ wsX4_scanNumber := fun _ hw => List.mem_cons_of_mem _ (List.mem_append_left _ (List.mem_append_right _ (hw)))
set_option maxRecDepth 100000 in
set_option maxHeartbeats 4000000 in
theorem tX4_scanNumber_L114 {G : gGG} {F : State → Heap → Prop} (hG : gOK G) (hF : gSb G F) (hX : gPX G) (hQ : gOQ G) (s0 : Int32) (S : gSt) : Gof G F RX4 cX4_scanNumber 2 wsX4_scanNumber (some .int) (gRm 1) 0 0 (gQ G (fun x => (some (.int x.1), x.2))) 114 [(0, .ref (gad G 31))] [.int s0] S (fX4_scanNumber_L114 s0 S) := by
  unfold fX4_scanNumber_L114
  refine g_istore_n (i := 1) (env' := [(1, .int s0), (0, .ref (gad G 31))]) dX4_scanNumber_114 rfl (by decide) rfl ?_
  refine g_aload_n 1 dX4_scanNumber_115 rfl ?_
  refine g_getI (ci := 4) (k0 := 5) (C0 := RX4) (T := TX4) (N := 8) (hX 31 (by decide)) rfl rfl hiX4_scanNumber_4 (by decide) (List.mem_of_getElem? (i := 1) rfl) rfl dX4_scanNumber_116 ?_
  refine g_bipush (v := 99) dX4_scanNumber_119 (by decide) ?_
  refine g_icmp_gt (tgt := 128) dX4_scanNumber_121 (by decide) (fun h_1 => ?_) (fun h_1 => ?_)
  · refine g_bipush (v := 14) dX4_scanNumber_128 (by decide) ?_
    refine g_goto (tgt := 135) dX4_scanNumber_130 (by decide) ?_
    exact g_iret dX4_scanNumber_135 rfl
  · refine g_iload_n 0 dX4_scanNumber_124 rfl ?_
    refine g_if_eq (tgt := 133) dX4_scanNumber_125 (by decide) (fun h_2 => ?_) (fun h_2 => ?_)
    · refine g_bipush (v := 11) dX4_scanNumber_133 (by decide) ?_
      exact g_iret dX4_scanNumber_135 rfl
    · refine g_bipush (v := 14) dX4_scanNumber_128 (by decide) ?_
      refine g_goto (tgt := 135) dX4_scanNumber_130 (by decide) ?_
      exact g_iret dX4_scanNumber_135 rfl
set_option maxRecDepth 100000 in
set_option maxHeartbeats 4000000 in
theorem tX4_scanNumber_L80 {G : gGG} {F : State → Heap → Prop} (hG : gOK G) (hF : gSb G F) (hX : gPX G) (hQ : gOQ G)  (S : gSt) : Gof G F RX4 cX4_scanNumber 2 wsX4_scanNumber (some .int) (gRm 1) 0 0 (gQ G (fun x => (some (.int x.1), x.2))) 80 [(0, .ref (gad G 31))] [] S (fX4_scanNumber_L80 S) := by
  unfold fX4_scanNumber_L80
  refine g_aload_n 0 dX4_scanNumber_80 rfl ?_
  refine g_getK (ci := 4) (k0 := 0) (C0 := RX4) (T := TX4) (N := 8) (hX 31 (by decide)) rfl rfl hiX4_scanNumber_4 (by decide) (List.mem_of_getElem? (i := 3) rfl) rfl dX4_scanNumber_81 ?_
  refine g_aload_n 0 dX4_scanNumber_84 rfl ?_
  refine g_getI (ci := 4) (k0 := 4) (C0 := RX4) (T := TX4) (N := 8) (hX 31 (by decide)) rfl rfl hiX4_scanNumber_4 (by decide) (List.mem_of_getElem? (i := 4) rfl) rfl dX4_scanNumber_85 ?_
  refine g_cVp (ci := 8) (C0 := RX8) (T := TX8) (N := 2) (n := 1) (As := [.int (gR S 31 4)]) (rest := []) hF (tX8_byteAt hG hF hX hQ (gR S 31 4) S) gX4_scanNumber_X8_byteAt rfl (hX 29 (by decide)) rfl rfl ⟨rfl, by decide +kernel, by decide +kernel, by decide +kernel⟩ rfl (gRm_ok (by decide) (by decide)) rfl (Nat.le_of_ble_eq_true rfl) dX4_scanNumber_88 (fun v_1 => ?_)
  refine g_bipush (v := 48) dX4_scanNumber_91 (by decide) ?_
  refine g_icmp_ne (tgt := 113) dX4_scanNumber_93 (by decide) (fun h_1 => ?_) (fun h_1 => ?_)
  · refine g_iconst (v := 0) dX4_scanNumber_113 (by decide) ?_
    exact tX4_scanNumber_L114 hG hF hX hQ 0 S
  · refine g_aload_n 0 dX4_scanNumber_96 rfl ?_
    refine g_getI (ci := 4) (k0 := 2) (C0 := RX4) (T := TX4) (N := 8) (hX 31 (by decide)) rfl rfl hiX4_scanNumber_4 (by decide) (List.mem_of_getElem? (i := 2) rfl) rfl dX4_scanNumber_97 ?_
    refine g_aload_n 0 dX4_scanNumber_100 rfl ?_
    refine g_getI (ci := 4) (k0 := 4) (C0 := RX4) (T := TX4) (N := 8) (hX 31 (by decide)) rfl rfl hiX4_scanNumber_4 (by decide) (List.mem_of_getElem? (i := 4) rfl) rfl dX4_scanNumber_101 ?_
    refine g_isub dX4_scanNumber_104 ?_
    refine g_iconst (v := 1) dX4_scanNumber_105 (by decide) ?_
    refine g_icmp_le (tgt := 113) dX4_scanNumber_106 (by decide) (fun h_2 => ?_) (fun h_2 => ?_)
    · refine g_iconst (v := 0) dX4_scanNumber_113 (by decide) ?_
      exact tX4_scanNumber_L114 hG hF hX hQ 0 S
    · refine g_iconst (v := 1) dX4_scanNumber_109 (by decide) ?_
      refine g_goto (tgt := 114) dX4_scanNumber_110 (by decide) ?_
      exact tX4_scanNumber_L114 hG hF hX hQ 1 S
set_option maxRecDepth 100000 in
set_option maxHeartbeats 4000000 in
theorem tX4_scanNumber_L5 {G : gGG} {F : State → Heap → Prop} (hG : gOK G) (hF : gSb G F) (hX : gPX G) (hQ : gOQ G) : ∀ (n : Nat)  (S : gSt), Gof G F RX4 cX4_scanNumber 2 wsX4_scanNumber (some .int) (gRm 1) 0 0 (gQ G (fun x => (some (.int x.1), x.2))) 5 [(0, .ref (gad G 31))] [] S (fX4_scanNumber_L5 n S) := by
  intro n
  induction n with
  | zero => intro  S; exact g_none
  | succ n ih =>
    intro  S
    unfold fX4_scanNumber_L5
    refine g_aload_n 0 dX4_scanNumber_5 rfl ?_
    refine g_getI (ci := 4) (k0 := 2) (C0 := RX4) (T := TX4) (N := 8) (hX 31 (by decide)) rfl rfl hiX4_scanNumber_4 (by decide) (List.mem_of_getElem? (i := 2) rfl) rfl dX4_scanNumber_6 ?_
    refine g_sipush (v := 300) dX4_scanNumber_9 (by decide) ?_
    refine g_icmp_ge (tgt := 80) dX4_scanNumber_12 (by decide) (fun h_1 => ?_) (fun h_1 => ?_)
    · exact tX4_scanNumber_L80 hG hF hX hQ S
    · refine g_aload_n 0 dX4_scanNumber_15 rfl ?_
      refine g_getK (ci := 4) (k0 := 0) (C0 := RX4) (T := TX4) (N := 8) (hX 31 (by decide)) rfl rfl hiX4_scanNumber_4 (by decide) (List.mem_of_getElem? (i := 3) rfl) rfl dX4_scanNumber_16 ?_
      refine g_aload_n 0 dX4_scanNumber_19 rfl ?_
      refine g_getI (ci := 4) (k0 := 2) (C0 := RX4) (T := TX4) (N := 8) (hX 31 (by decide)) rfl rfl hiX4_scanNumber_4 (by decide) (List.mem_of_getElem? (i := 2) rfl) rfl dX4_scanNumber_20 ?_
      refine g_cVp (ci := 8) (C0 := RX8) (T := TX8) (N := 2) (n := 1) (As := [.int (gR S 31 2)]) (rest := []) hF (tX8_byteAt hG hF hX hQ (gR S 31 2) S) gX4_scanNumber_X8_byteAt rfl (hX 29 (by decide)) rfl rfl ⟨rfl, by decide +kernel, by decide +kernel, by decide +kernel⟩ rfl (gRm_ok (by decide) (by decide)) rfl (Nat.le_of_ble_eq_true rfl) dX4_scanNumber_23 (fun v_1 => ?_)
      refine g_cSp (n := 1) (As := [.int v_1]) (rest := []) hF (tX4_isDigit hG hF hX hQ v_1 S) gX4_scanNumber_X4_isDigit rfl ⟨by decide +kernel, by decide +kernel, by decide +kernel⟩ rfl (gRm_ok (by decide) (by decide)) rfl (Nat.le_of_ble_eq_true rfl) dX4_scanNumber_26 (fun v_2 => ?_)
      refine g_if_eq (tgt := 80) dX4_scanNumber_29 (by decide) (fun h_2 => ?_) (fun h_2 => ?_)
      · exact tX4_scanNumber_L80 hG hF hX hQ S
      · refine g_aload_n 0 dX4_scanNumber_32 rfl ?_
        refine g_getI (ci := 4) (k0 := 5) (C0 := RX4) (T := TX4) (N := 8) (hX 31 (by decide)) rfl rfl hiX4_scanNumber_4 (by decide) (List.mem_of_getElem? (i := 1) rfl) rfl dX4_scanNumber_33 ?_
        refine g_bipush (v := 99) dX4_scanNumber_36 (by decide) ?_
        refine g_icmp_gt (tgt := 67) dX4_scanNumber_38 (by decide) (fun h_3 => ?_) (fun h_3 => ?_)
        · refine g_aload_n 0 dX4_scanNumber_67 rfl ?_
          refine g_dup dX4_scanNumber_68 rfl ?_
          refine g_getI (ci := 4) (k0 := 2) (C0 := RX4) (T := TX4) (N := 8) (hX 31 (by decide)) rfl rfl hiX4_scanNumber_4 (by decide) (List.mem_of_getElem? (i := 2) rfl) rfl dX4_scanNumber_69 ?_
          refine g_iconst (v := 1) dX4_scanNumber_72 (by decide) ?_
          refine g_iadd dX4_scanNumber_73 ?_
          refine g_putI hG (ci := 4) (k0 := 2) (C0 := RX4) (T := TX4) (N := 8) (hX 31 (by decide)) rfl rfl hiX4_scanNumber_4 (by decide) (List.mem_of_getElem? (i := 2) rfl) tyX4 tyX4_ok nmX4 rfl rfl rfl rfl dX4_scanNumber_74 ?_
          refine g_nS (fun S_3 => ?_)
          refine g_goto (tgt := 5) dX4_scanNumber_77 (by decide) ?_
          exact ih S_3
        · refine g_aload_n 0 dX4_scanNumber_41 rfl ?_
          refine g_aload_n 0 dX4_scanNumber_42 rfl ?_
          refine g_getI (ci := 4) (k0 := 5) (C0 := RX4) (T := TX4) (N := 8) (hX 31 (by decide)) rfl rfl hiX4_scanNumber_4 (by decide) (List.mem_of_getElem? (i := 1) rfl) rfl dX4_scanNumber_43 ?_
          refine g_bipush (v := 10) dX4_scanNumber_46 (by decide) ?_
          refine g_imul dX4_scanNumber_48 ?_
          refine g_aload_n 0 dX4_scanNumber_49 rfl ?_
          refine g_getK (ci := 4) (k0 := 0) (C0 := RX4) (T := TX4) (N := 8) (hX 31 (by decide)) rfl rfl hiX4_scanNumber_4 (by decide) (List.mem_of_getElem? (i := 3) rfl) rfl dX4_scanNumber_50 ?_
          refine g_aload_n 0 dX4_scanNumber_53 rfl ?_
          refine g_getI (ci := 4) (k0 := 2) (C0 := RX4) (T := TX4) (N := 8) (hX 31 (by decide)) rfl rfl hiX4_scanNumber_4 (by decide) (List.mem_of_getElem? (i := 2) rfl) rfl dX4_scanNumber_54 ?_
          refine g_cVp (ci := 8) (C0 := RX8) (T := TX8) (N := 2) (n := 1) (As := [.int (gR S 31 2)]) (rest := [.int ((gR S 31 5) * 10), .ref (gad G 31)]) hF (tX8_byteAt hG hF hX hQ (gR S 31 2) S) gX4_scanNumber_X8_byteAt rfl (hX 29 (by decide)) rfl rfl ⟨rfl, by decide +kernel, by decide +kernel, by decide +kernel⟩ rfl (gRm_ok (by decide) (by decide)) rfl (Nat.le_of_ble_eq_true rfl) dX4_scanNumber_57 (fun v_4 => ?_)
          refine g_iadd dX4_scanNumber_60 ?_
          refine g_bipush (v := 48) dX4_scanNumber_61 (by decide) ?_
          refine g_isub dX4_scanNumber_63 ?_
          refine g_putI hG (ci := 4) (k0 := 5) (C0 := RX4) (T := TX4) (N := 8) (hX 31 (by decide)) rfl rfl hiX4_scanNumber_4 (by decide) (List.mem_of_getElem? (i := 1) rfl) tyX4 tyX4_ok nmX4 rfl rfl rfl rfl dX4_scanNumber_64 ?_
          refine g_nS (fun S_5 => ?_)
          refine g_aload_n 0 dX4_scanNumber_67 rfl ?_
          refine g_dup dX4_scanNumber_68 rfl ?_
          refine g_getI (ci := 4) (k0 := 2) (C0 := RX4) (T := TX4) (N := 8) (hX 31 (by decide)) rfl rfl hiX4_scanNumber_4 (by decide) (List.mem_of_getElem? (i := 2) rfl) rfl dX4_scanNumber_69 ?_
          refine g_iconst (v := 1) dX4_scanNumber_72 (by decide) ?_
          refine g_iadd dX4_scanNumber_73 ?_
          refine g_putI hG (ci := 4) (k0 := 2) (C0 := RX4) (T := TX4) (N := 8) (hX 31 (by decide)) rfl rfl hiX4_scanNumber_4 (by decide) (List.mem_of_getElem? (i := 2) rfl) tyX4 tyX4_ok nmX4 rfl rfl rfl rfl dX4_scanNumber_74 ?_
          refine g_nS (fun S_6 => ?_)
          refine g_goto (tgt := 5) dX4_scanNumber_77 (by decide) ?_
          exact ih S_6
set_option maxRecDepth 100000 in
set_option maxHeartbeats 4000000 in
theorem tX4_scanNumber_L {G : gGG} {F : State → Heap → Prop} (hG : gOK G) (hF : gSb G F) (hX : gPX G) (hQ : gOQ G) (S : gSt) : Gof G F RX4 cX4_scanNumber 2 wsX4_scanNumber (some .int) (gRm 1) 0 0 (gQ G (fun x => (some (.int x.1), x.2))) 0 [(0, .ref (gad G 31))] [] S (fX4_scanNumber S) := by
  unfold fX4_scanNumber
  refine g_aload_n 0 dX4_scanNumber_0 rfl ?_
  refine g_iconst (v := 0) dX4_scanNumber_1 (by decide) ?_
  refine g_putI hG (ci := 4) (k0 := 5) (C0 := RX4) (T := TX4) (N := 8) (hX 31 (by decide)) rfl rfl hiX4_scanNumber_4 (by decide) (List.mem_of_getElem? (i := 1) rfl) tyX4 tyX4_ok nmX4 rfl rfl rfl rfl dX4_scanNumber_2 ?_
  refine g_nS (fun S_1 => ?_)
  exact tX4_scanNumber_L5 hG hF hX hQ gFU S_1
set_option maxRecDepth 100000 in
set_option maxHeartbeats 4000000 in
theorem tX4_scanNumber {G : gGG} {F : State → Heap → Prop} (hG : gOK G) (hF : gSb G F) (hX : gPX G) (hQ : gOQ G) (S : gSt) : gCt G F yX4_scanNumber wsX4_scanNumber 1 [.ref (gad G 31)] S ((fX4_scanNumber S).map (fun x => (some (.int x.1), x.2))) := g_met (by decide +kernel) rfl (Nat.le_of_ble_eq_true rfl) (tX4_scanNumber_L hG hF hX hQ S)
/-! X4_advance -/
theorem hiX4_advance_4 : ∀ w ∈ u_ws RX4 TX4 8, w ∈ wsX4_advance := fun _ hw => List.mem_cons_of_mem _ (List.mem_append_left _ (List.mem_append_right _ (hw)))
set_option maxRecDepth 100000 in
set_option maxHeartbeats 4000000 in
theorem tX4_advance_L140 {G : gGG} {F : State → Heap → Prop} (hG : gOK G) (hF : gSb G F) (hX : gPX G) (hQ : gOQ G) (hV : gVX G F)  (S : gSt) : Gof G F RX4 cX4_advance 2 wsX4_advance none (gRm 6) 0 0 (gQ G (fun x => (none, x))) 140 [] [] S (fX4_advance_L140 S) := by
  unfold fX4_advance_L140
  exact g_vret dX4_advance_140 rfl
set_option maxRecDepth 100000 in
set_option maxHeartbeats 4000000 in
theorem tX4_advance_L39 {G : gGG} {F : State → Heap → Prop} (hG : gOK G) (hF : gSb G F) (hX : gPX G) (hQ : gOQ G) (hV : gVX G F)  (S : gSt) : Gof G F RX4 cX4_advance 2 wsX4_advance none (gRm 6) 0 0 (gQ G (fun x => (none, x))) 39 [(0, .ref (gad G 31))] [] S (fX4_advance_L39 S) := by
  unfold fX4_advance_L39
  refine g_aload_n 0 dX4_advance_39 rfl ?_
  refine g_aload_n 0 dX4_advance_40 rfl ?_
  refine g_getI (ci := 4) (k0 := 2) (C0 := RX4) (T := TX4) (N := 8) (hX 31 (by decide)) rfl rfl hiX4_advance_4 (by decide) (List.mem_of_getElem? (i := 1) rfl) rfl dX4_advance_41 ?_
  refine g_putI hG (ci := 4) (k0 := 4) (C0 := RX4) (T := TX4) (N := 8) (hX 31 (by decide)) rfl rfl hiX4_advance_4 (by decide) (List.mem_of_getElem? (i := 3) rfl) tyX4 tyX4_ok nmX4 rfl rfl rfl rfl dX4_advance_44 ?_
  refine g_nS (fun S_1 => ?_)
  refine g_aload_n 0 dX4_advance_47 rfl ?_
  refine g_getK (ci := 4) (k0 := 0) (C0 := RX4) (T := TX4) (N := 8) (hX 31 (by decide)) rfl rfl hiX4_advance_4 (by decide) (List.mem_of_getElem? (i := 2) rfl) rfl dX4_advance_48 ?_
  refine g_aload_n 0 dX4_advance_51 rfl ?_
  refine g_getI (ci := 4) (k0 := 2) (C0 := RX4) (T := TX4) (N := 8) (hX 31 (by decide)) rfl rfl hiX4_advance_4 (by decide) (List.mem_of_getElem? (i := 1) rfl) rfl dX4_advance_52 ?_
  refine g_cVp (ci := 8) (C0 := RX8) (T := TX8) (N := 2) (n := 1) (As := [.int (gR S_1 31 2)]) (rest := []) hF (tX8_byteAt hG hF hX hQ (gR S_1 31 2) S_1) gX4_advance_X8_byteAt rfl (hX 29 (by decide)) rfl rfl ⟨rfl, by decide +kernel, by decide +kernel, by decide +kernel⟩ rfl (gRm_ok (by decide) (by decide)) rfl (Nat.le_of_ble_eq_true rfl) dX4_advance_55 (fun v_2 => ?_)
  refine g_istore_n (i := 1) (env' := [(1, .int v_2), (0, .ref (gad G 31))]) dX4_advance_58 rfl (by decide) rfl ?_
  refine g_iload_n 0 dX4_advance_59 rfl ?_
  refine g_iconst (v := (-1)) dX4_advance_60 (by decide) ?_
  refine g_icmp_ne (tgt := 73) dX4_advance_61 (by decide) (fun h_1 => ?_) (fun h_1 => ?_)
  · refine g_iload_n 0 dX4_advance_73 rfl ?_
    refine g_bipush (v := 59) dX4_advance_74 (by decide) ?_
    refine g_icmp_ne (tgt := 98) dX4_advance_76 (by decide) (fun h_2 => ?_) (fun h_2 => ?_)
    · refine g_iload_n 0 dX4_advance_98 rfl ?_
      refine g_cSp (n := 1) (As := [.int v_2]) (rest := []) hF (tX4_isLetter hG hF hX hQ v_2 S_1) gX4_advance_X4_isLetter rfl ⟨by decide +kernel, by decide +kernel, by decide +kernel⟩ rfl (gRm_ok (by decide) (by decide)) rfl (Nat.le_of_ble_eq_true rfl) dX4_advance_99 (fun v_3 => ?_)
      refine g_if_eq (tgt := 116) dX4_advance_102 (by decide) (fun h_3 => ?_) (fun h_3 => ?_)
      · refine g_iload_n 0 dX4_advance_116 rfl ?_
        refine g_cSp (n := 1) (As := [.int v_2]) (rest := []) hF (tX4_isDigit hG hF hX hQ v_2 S_1) gX4_advance_X4_isDigit rfl ⟨by decide +kernel, by decide +kernel, by decide +kernel⟩ rfl (gRm_ok (by decide) (by decide)) rfl (Nat.le_of_ble_eq_true rfl) dX4_advance_117 (fun v_4 => ?_)
        refine g_if_eq (tgt := 134) dX4_advance_120 (by decide) (fun h_4 => ?_) (fun h_4 => ?_)
        · refine g_aload_n 1 dX4_advance_134 rfl ?_
          refine g_bipush (v := 14) dX4_advance_135 (by decide) ?_
          refine g_putI hG (ci := 4) (k0 := 3) (C0 := RX4) (T := TX4) (N := 8) (hX 31 (by decide)) rfl rfl hiX4_advance_4 (by decide) (List.mem_of_getElem? (i := 4) rfl) tyX4 tyX4_ok nmX4 rfl rfl rfl rfl dX4_advance_137 ?_
          refine g_nS (fun S_5 => ?_)
          refine g_env (env' := []) [] rfl ?_
          exact tX4_advance_L140 hG hF hX hQ hV S_5
        · refine g_aload_n 1 dX4_advance_123 rfl ?_
          refine g_aload_n 1 dX4_advance_124 rfl ?_
          refine g_cVi (ci := 4) (C0 := RX4) (T := TX4) (N := 8) (n := 0) (As := []) (rest := [.ref (gad G 31)]) hF (tX4_scanNumber hG hF hX hQ S_1) gX4_advance_X4_scanNumber rfl (hX 31 (by decide)) rfl rfl ⟨rfl, by decide +kernel, by decide +kernel, by decide +kernel⟩ rfl (gRm_ok (by decide) (by decide)) rfl (Nat.le_of_ble_eq_true rfl) dX4_advance_125 (fun v_6 S_7 => ?_)
          refine g_putI hG (ci := 4) (k0 := 3) (C0 := RX4) (T := TX4) (N := 8) (hX 31 (by decide)) rfl rfl hiX4_advance_4 (by decide) (List.mem_of_getElem? (i := 4) rfl) tyX4 tyX4_ok nmX4 rfl rfl rfl rfl dX4_advance_128 ?_
          refine g_nS (fun S_8 => ?_)
          refine g_goto (tgt := 140) dX4_advance_131 (by decide) ?_
          refine g_env (env' := []) [] rfl ?_
          exact tX4_advance_L140 hG hF hX hQ hV S_8
      · refine g_aload_n 1 dX4_advance_105 rfl ?_
        refine g_aload_n 1 dX4_advance_106 rfl ?_
        refine g_cVi (ci := 4) (C0 := RX4) (T := TX4) (N := 8) (n := 0) (As := []) (rest := [.ref (gad G 31)]) hF (tX4_scanWord hG hF hX hQ hV S_1) gX4_advance_X4_scanWord rfl (hX 31 (by decide)) rfl rfl ⟨rfl, by decide +kernel, by decide +kernel, by decide +kernel⟩ rfl (gRm_ok (by decide) (by decide)) rfl (Nat.le_of_ble_eq_true rfl) dX4_advance_107 (fun v_9 S_10 => ?_)
        refine g_putI hG (ci := 4) (k0 := 3) (C0 := RX4) (T := TX4) (N := 8) (hX 31 (by decide)) rfl rfl hiX4_advance_4 (by decide) (List.mem_of_getElem? (i := 4) rfl) tyX4 tyX4_ok nmX4 rfl rfl rfl rfl dX4_advance_110 ?_
        refine g_nS (fun S_11 => ?_)
        refine g_goto (tgt := 140) dX4_advance_113 (by decide) ?_
        refine g_env (env' := []) [] rfl ?_
        exact tX4_advance_L140 hG hF hX hQ hV S_11
    · refine g_aload_n 1 dX4_advance_79 rfl ?_
      refine g_dup dX4_advance_80 rfl ?_
      refine g_getI (ci := 4) (k0 := 2) (C0 := RX4) (T := TX4) (N := 8) (hX 31 (by decide)) rfl rfl hiX4_advance_4 (by decide) (List.mem_of_getElem? (i := 1) rfl) rfl dX4_advance_81 ?_
      refine g_iconst (v := 1) dX4_advance_84 (by decide) ?_
      refine g_iadd dX4_advance_85 ?_
      refine g_putI hG (ci := 4) (k0 := 2) (C0 := RX4) (T := TX4) (N := 8) (hX 31 (by decide)) rfl rfl hiX4_advance_4 (by decide) (List.mem_of_getElem? (i := 1) rfl) tyX4 tyX4_ok nmX4 rfl rfl rfl rfl dX4_advance_86 ?_
      refine g_nS (fun S_12 => ?_)
      refine g_aload_n 1 dX4_advance_89 rfl ?_
      refine g_bipush (v := 12) dX4_advance_90 (by decide) ?_
      refine g_putI hG (ci := 4) (k0 := 3) (C0 := RX4) (T := TX4) (N := 8) (hX 31 (by decide)) rfl rfl hiX4_advance_4 (by decide) (List.mem_of_getElem? (i := 4) rfl) tyX4 tyX4_ok nmX4 rfl rfl rfl rfl dX4_advance_92 ?_
      refine g_nS (fun S_13 => ?_)
      refine g_goto (tgt := 140) dX4_advance_95 (by decide) ?_
      refine g_env (env' := []) [] rfl ?_
      exact tX4_advance_L140 hG hF hX hQ hV S_13
  · refine g_aload_n 1 dX4_advance_64 rfl ?_
    refine g_bipush (v := 13) dX4_advance_65 (by decide) ?_
    refine g_putI hG (ci := 4) (k0 := 3) (C0 := RX4) (T := TX4) (N := 8) (hX 31 (by decide)) rfl rfl hiX4_advance_4 (by decide) (List.mem_of_getElem? (i := 4) rfl) tyX4 tyX4_ok nmX4 rfl rfl rfl rfl dX4_advance_67 ?_
    refine g_nS (fun S_14 => ?_)
    refine g_goto (tgt := 140) dX4_advance_70 (by decide) ?_
    refine g_env (env' := []) [] rfl ?_
    exact tX4_advance_L140 hG hF hX hQ hV S_14
set_option maxRecDepth 100000 in
set_option maxHeartbeats 4000000 in
theorem tX4_advance_L0 {G : gGG} {F : State → Heap → Prop} (hG : gOK G) (hF : gSb G F) (hX : gPX G) (hQ : gOQ G) (hV : gVX G F) : ∀ (n : Nat)  (S : gSt), Gof G F RX4 cX4_advance 2 wsX4_advance none (gRm 6) 0 0 (gQ G (fun x => (none, x))) 0 [(0, .ref (gad G 31))] [] S (fX4_advance_L0 n S) := by
  intro n
  induction n with
  | zero => intro  S; exact g_none
  | succ n ih =>
    intro  S
    unfold fX4_advance_L0
    refine g_aload_n 0 dX4_advance_0 rfl ?_
    refine g_getI (ci := 4) (k0 := 2) (C0 := RX4) (T := TX4) (N := 8) (hX 31 (by decide)) rfl rfl hiX4_advance_4 (by decide) (List.mem_of_getElem? (i := 1) rfl) rfl dX4_advance_1 ?_
    refine g_sipush (v := 300) dX4_advance_4 (by decide) ?_
    refine g_icmp_ge (tgt := 39) dX4_advance_7 (by decide) (fun h_1 => ?_) (fun h_1 => ?_)
    · exact tX4_advance_L39 hG hF hX hQ hV S
    · refine g_aload_n 0 dX4_advance_10 rfl ?_
      refine g_getK (ci := 4) (k0 := 0) (C0 := RX4) (T := TX4) (N := 8) (hX 31 (by decide)) rfl rfl hiX4_advance_4 (by decide) (List.mem_of_getElem? (i := 2) rfl) rfl dX4_advance_11 ?_
      refine g_aload_n 0 dX4_advance_14 rfl ?_
      refine g_getI (ci := 4) (k0 := 2) (C0 := RX4) (T := TX4) (N := 8) (hX 31 (by decide)) rfl rfl hiX4_advance_4 (by decide) (List.mem_of_getElem? (i := 1) rfl) rfl dX4_advance_15 ?_
      refine g_cVp (ci := 8) (C0 := RX8) (T := TX8) (N := 2) (n := 1) (As := [.int (gR S 31 2)]) (rest := []) hF (tX8_byteAt hG hF hX hQ (gR S 31 2) S) gX4_advance_X8_byteAt rfl (hX 29 (by decide)) rfl rfl ⟨rfl, by decide +kernel, by decide +kernel, by decide +kernel⟩ rfl (gRm_ok (by decide) (by decide)) rfl (Nat.le_of_ble_eq_true rfl) dX4_advance_18 (fun v_1 => ?_)
      refine g_bipush (v := 32) dX4_advance_21 (by decide) ?_
      refine g_icmp_ne (tgt := 39) dX4_advance_23 (by decide) (fun h_2 => ?_) (fun h_2 => ?_)
      · exact tX4_advance_L39 hG hF hX hQ hV S
      · refine g_aload_n 0 dX4_advance_26 rfl ?_
        refine g_dup dX4_advance_27 rfl ?_
        refine g_getI (ci := 4) (k0 := 2) (C0 := RX4) (T := TX4) (N := 8) (hX 31 (by decide)) rfl rfl hiX4_advance_4 (by decide) (List.mem_of_getElem? (i := 1) rfl) rfl dX4_advance_28 ?_
        refine g_iconst (v := 1) dX4_advance_31 (by decide) ?_
        refine g_iadd dX4_advance_32 ?_
        refine g_putI hG (ci := 4) (k0 := 2) (C0 := RX4) (T := TX4) (N := 8) (hX 31 (by decide)) rfl rfl hiX4_advance_4 (by decide) (List.mem_of_getElem? (i := 1) rfl) tyX4 tyX4_ok nmX4 rfl rfl rfl rfl dX4_advance_33 ?_
        refine g_nS (fun S_2 => ?_)
        refine g_goto (tgt := 0) dX4_advance_36 (by decide) ?_
        exact ih S_2
set_option maxRecDepth 100000 in
set_option maxHeartbeats 4000000 in
theorem tX4_advance_L {G : gGG} {F : State → Heap → Prop} (hG : gOK G) (hF : gSb G F) (hX : gPX G) (hQ : gOQ G) (hV : gVX G F) (S : gSt) : Gof G F RX4 cX4_advance 2 wsX4_advance none (gRm 6) 0 0 (gQ G (fun x => (none, x))) 0 [(0, .ref (gad G 31))] [] S (fX4_advance S) := by
  unfold fX4_advance
  exact tX4_advance_L0 hG hF hX hQ hV gFU S
set_option maxRecDepth 100000 in
set_option maxHeartbeats 4000000 in
theorem tX4_advance {G : gGG} {F : State → Heap → Prop} (hG : gOK G) (hF : gSb G F) (hX : gPX G) (hQ : gOQ G) (hV : gVX G F) (S : gSt) : gCt G F yX4_advance wsX4_advance 6 [.ref (gad G 31)] S ((fX4_advance S).map (fun x => (none, x))) := g_met (by decide +kernel) rfl (Nat.le_of_ble_eq_true rfl) (tX4_advance_L hG hF hX hQ hV S)
/-! X4_readNumber -/
theorem hiX4_readNumber_4 : ∀ w ∈ u_ws RX4 TX4 8, w ∈ wsX4_readNumber := fun _ hw => List.mem_cons_of_mem _ (List.mem_append_left _ (List.mem_append_right _ (hw)))
set_option maxRecDepth 100000 in
set_option maxHeartbeats 4000000 in
theorem tX4_readNumber_L {G : gGG} {F : State → Heap → Prop} (hG : gOK G) (hF : gSb G F) (hX : gPX G) (hQ : gOQ G) (hV : gVX G F) (a1 : Int32) (a2 : Int32) (S : gSt) : Gof G F RX4 cX4_readNumber 3 wsX4_readNumber (some .boolean) (gRm 7) 0 0 (gQ G (fun x => (some (.int x.1), x.2))) 0 [(0, .ref (gad G 31)), (1, .int a1), (2, .int a2)] [] S (fX4_readNumber a1 a2 S) := by
  unfold fX4_readNumber
  refine g_aload_n 0 dX4_readNumber_0 rfl ?_
  refine g_cVv (ci := 4) (C0 := RX4) (T := TX4) (N := 8) (n := 0) (As := []) (rest := []) hF (tX4_advance hG hF hX hQ hV S) gX4_readNumber_X4_advance rfl (hX 31 (by decide)) rfl rfl ⟨rfl, by decide +kernel, by decide +kernel, by decide +kernel⟩ rfl (gRm_ok (by decide) (by decide)) rfl (Nat.le_of_ble_eq_true rfl) dX4_readNumber_1 (fun S_1 => ?_)
  refine g_aload_n 0 dX4_readNumber_4 rfl ?_
  refine g_getI (ci := 4) (k0 := 3) (C0 := RX4) (T := TX4) (N := 8) (hX 31 (by decide)) rfl rfl hiX4_readNumber_4 (by decide) (List.mem_of_getElem? (i := 1) rfl) rfl dX4_readNumber_5 ?_
  refine g_bipush (v := 11) dX4_readNumber_8 (by decide) ?_
  refine g_icmp_ne (tgt := 33) dX4_readNumber_10 (by decide) (fun h_1 => ?_) (fun h_1 => ?_)
  · refine g_iconst (v := 0) dX4_readNumber_33 (by decide) ?_
    exact g_zret (by decide) dX4_readNumber_34 rfl
  · refine g_aload_n 0 dX4_readNumber_13 rfl ?_
    refine g_getI (ci := 4) (k0 := 5) (C0 := RX4) (T := TX4) (N := 8) (hX 31 (by decide)) rfl rfl hiX4_readNumber_4 (by decide) (List.mem_of_getElem? (i := 2) rfl) rfl dX4_readNumber_14 ?_
    refine g_iload_n 1 dX4_readNumber_17 rfl ?_
    refine g_icmp_lt (tgt := 33) dX4_readNumber_18 (by decide) (fun h_2 => ?_) (fun h_2 => ?_)
    · refine g_iconst (v := 0) dX4_readNumber_33 (by decide) ?_
      exact g_zret (by decide) dX4_readNumber_34 rfl
    · refine g_aload_n 0 dX4_readNumber_21 rfl ?_
      refine g_getI (ci := 4) (k0 := 5) (C0 := RX4) (T := TX4) (N := 8) (hX 31 (by decide)) rfl rfl hiX4_readNumber_4 (by decide) (List.mem_of_getElem? (i := 2) rfl) rfl dX4_readNumber_22 ?_
      refine g_iload_n 2 dX4_readNumber_25 rfl ?_
      refine g_icmp_gt (tgt := 33) dX4_readNumber_26 (by decide) (fun h_3 => ?_) (fun h_3 => ?_)
      · refine g_iconst (v := 0) dX4_readNumber_33 (by decide) ?_
        exact g_zret (by decide) dX4_readNumber_34 rfl
      · refine g_iconst (v := 1) dX4_readNumber_29 (by decide) ?_
        refine g_goto (tgt := 34) dX4_readNumber_30 (by decide) ?_
        exact g_zret (by decide) dX4_readNumber_34 rfl
set_option maxRecDepth 100000 in
set_option maxHeartbeats 4000000 in
theorem tX4_readNumber {G : gGG} {F : State → Heap → Prop} (hG : gOK G) (hF : gSb G F) (hX : gPX G) (hQ : gOQ G) (hV : gVX G F) (a1 : Int32) (a2 : Int32) (S : gSt) : gCt G F yX4_readNumber wsX4_readNumber 7 [.ref (gad G 31), .int a1, .int a2] S ((fX4_readNumber a1 a2 S).map (fun x => (some (.int x.1), x.2))) := g_met (by decide +kernel) rfl (Nat.le_of_ble_eq_true rfl) (tX4_readNumber_L hG hF hX hQ hV a1 a2 S)
/-! X4_readSemicolon -/
theorem hiX4_readSemicolon_4 : ∀ w ∈ u_ws RX4 TX4 8, w ∈ wsX4_readSemicolon := fun _ hw => List.mem_cons_of_mem _ (List.mem_append_left _ (List.mem_append_right _ (hw)))
set_option maxRecDepth 100000 in
set_option maxHeartbeats 4000000 in
theorem tX4_readSemicolon_L {G : gGG} {F : State → Heap → Prop} (hG : gOK G) (hF : gSb G F) (hX : gPX G) (hQ : gOQ G) (hV : gVX G F) (S : gSt) : Gof G F RX4 cX4_readSemicolon 1 wsX4_readSemicolon (some .boolean) (gRm 7) 0 0 (gQ G (fun x => (some (.int x.1), x.2))) 0 [(0, .ref (gad G 31))] [] S (fX4_readSemicolon S) := by
  unfold fX4_readSemicolon
  refine g_aload_n 0 dX4_readSemicolon_0 rfl ?_
  refine g_cVv (ci := 4) (C0 := RX4) (T := TX4) (N := 8) (n := 0) (As := []) (rest := []) hF (tX4_advance hG hF hX hQ hV S) gX4_readSemicolon_X4_advance rfl (hX 31 (by decide)) rfl rfl ⟨rfl, by decide +kernel, by decide +kernel, by decide +kernel⟩ rfl (gRm_ok (by decide) (by decide)) rfl (Nat.le_of_ble_eq_true rfl) dX4_readSemicolon_1 (fun S_1 => ?_)
  refine g_aload_n 0 dX4_readSemicolon_4 rfl ?_
  refine g_getI (ci := 4) (k0 := 3) (C0 := RX4) (T := TX4) (N := 8) (hX 31 (by decide)) rfl rfl hiX4_readSemicolon_4 (by decide) (List.mem_of_getElem? (i := 1) rfl) rfl dX4_readSemicolon_5 ?_
  refine g_bipush (v := 12) dX4_readSemicolon_8 (by decide) ?_
  refine g_icmp_ne (tgt := 17) dX4_readSemicolon_10 (by decide) (fun h_1 => ?_) (fun h_1 => ?_)
  · refine g_iconst (v := 0) dX4_readSemicolon_17 (by decide) ?_
    exact g_zret (by decide) dX4_readSemicolon_18 rfl
  · refine g_iconst (v := 1) dX4_readSemicolon_13 (by decide) ?_
    refine g_goto (tgt := 18) dX4_readSemicolon_14 (by decide) ?_
    exact g_zret (by decide) dX4_readSemicolon_18 rfl
set_option maxRecDepth 100000 in
set_option maxHeartbeats 4000000 in
theorem tX4_readSemicolon {G : gGG} {F : State → Heap → Prop} (hG : gOK G) (hF : gSb G F) (hX : gPX G) (hQ : gOQ G) (hV : gVX G F) (S : gSt) : gCt G F yX4_readSemicolon wsX4_readSemicolon 7 [.ref (gad G 31)] S ((fX4_readSemicolon S).map (fun x => (some (.int x.1), x.2))) := g_met (by decide +kernel) rfl (Nat.le_of_ble_eq_true rfl) (tX4_readSemicolon_L hG hF hX hQ hV S)
/-! X4_readGuests -/
theorem hiX4_readGuests_4 : ∀ w ∈ u_ws RX4 TX4 8, w ∈ wsX4_readGuests := fun _ hw => List.mem_cons_of_mem _ (List.mem_append_left _ (List.mem_append_left _ (List.mem_append_right _ (hw))))
set_option maxRecDepth 100000 in
set_option maxHeartbeats 4000000 in
theorem tX4_readGuests_L {G : gGG} {F : State → Heap → Prop} (hG : gOK G) (hF : gSb G F) (hX : gPX G) (hQ : gOQ G) (hV : gVX G F) (S : gSt) : Gof G F RX4 cX4_readGuests 1 wsX4_readGuests (some .boolean) (gRm 8) 0 0 (gQ G (fun x => (some (.int x.1), x.2))) 0 [(0, .ref (gad G 31))] [] S (fX4_readGuests S) := by
  unfold fX4_readGuests
  refine g_aload_n 0 dX4_readGuests_0 rfl ?_
  refine g_iconst (v := 1) dX4_readGuests_1 (by decide) ?_
  refine g_bipush (v := 8) dX4_readGuests_2 (by decide) ?_
  refine g_cVi (ci := 4) (C0 := RX4) (T := TX4) (N := 8) (n := 2) (As := [.int 1, .int 8]) (rest := []) hF (tX4_readNumber hG hF hX hQ hV 1 8 S) gX4_readGuests_X4_readNumber rfl (hX 31 (by decide)) rfl rfl ⟨rfl, by decide +kernel, by decide +kernel, by decide +kernel⟩ rfl (gRm_ok (by decide) (by decide)) rfl (Nat.le_of_ble_eq_true rfl) dX4_readGuests_4 (fun v_1 S_2 => ?_)
  refine g_if_ne (tgt := 12) dX4_readGuests_7 (by decide) (fun h_1 => ?_) (fun h_1 => ?_)
  · refine g_aload_n 0 dX4_readGuests_12 rfl ?_
    refine g_gC (fun h_2 => ?_)
    refine g_getM (ci := 4) (k0 := 1) (C0 := RX4) (T := TX4) (N := 8) (hX 31 (by decide)) rfl rfl hiX4_readGuests_4 (by decide) (List.mem_of_getElem? (i := 1) rfl) rfl dX4_readGuests_13 ?_
    refine g_aload_n 0 dX4_readGuests_16 rfl ?_
    refine g_getI (ci := 4) (k0 := 5) (C0 := RX4) (T := TX4) (N := 8) (hX 31 (by decide)) rfl rfl hiX4_readGuests_4 (by decide) (List.mem_of_getElem? (i := 2) rfl) rfl dX4_readGuests_17 ?_
    refine g_cVv (ci := 5) (C0 := RX5) (T := TX5) (N := 6) (n := 1) (As := [.int (gR S_2 31 5)]) (rest := []) hF (tX5_setGuests hG hF hX hQ h_2 (gR S_2 31 5) S_2) gX4_readGuests_X5_setGuests rfl (gRu_m hX h_2) (gRu_l h_2) rfl ⟨rfl, by decide +kernel, by decide +kernel, by decide +kernel⟩ rfl (gRm_ok (by decide) (by decide)) rfl (Nat.le_of_ble_eq_true rfl) dX4_readGuests_20 (fun S_3 => ?_)
    refine g_aload_n 0 dX4_readGuests_23 rfl ?_
    refine g_cVi (ci := 4) (C0 := RX4) (T := TX4) (N := 8) (n := 0) (As := []) (rest := []) hF (tX4_readSemicolon hG hF hX hQ hV S_3) gX4_readGuests_X4_readSemicolon rfl (hX 31 (by decide)) rfl rfl ⟨rfl, by decide +kernel, by decide +kernel, by decide +kernel⟩ rfl (gRm_ok (by decide) (by decide)) rfl (Nat.le_of_ble_eq_true rfl) dX4_readGuests_24 (fun v_4 S_5 => ?_)
    refine g_gC (fun h_3 => ?_)
    exact g_zret (gBo_nar h_3) dX4_readGuests_27 rfl
  · refine g_iconst (v := 0) dX4_readGuests_10 (by decide) ?_
    exact g_zret (by decide) dX4_readGuests_11 rfl
set_option maxRecDepth 100000 in
set_option maxHeartbeats 4000000 in
theorem tX4_readGuests {G : gGG} {F : State → Heap → Prop} (hG : gOK G) (hF : gSb G F) (hX : gPX G) (hQ : gOQ G) (hV : gVX G F) (S : gSt) : gCt G F yX4_readGuests wsX4_readGuests 8 [.ref (gad G 31)] S ((fX4_readGuests S).map (fun x => (some (.int x.1), x.2))) := g_met (by decide +kernel) rfl (Nat.le_of_ble_eq_true rfl) (tX4_readGuests_L hG hF hX hQ hV S)
/-! X4_readHat -/
theorem hiX4_readHat_4 : ∀ w ∈ u_ws RX4 TX4 8, w ∈ wsX4_readHat := fun _ hw => List.mem_cons_of_mem _ (List.mem_append_left _ (List.mem_append_left _ (List.mem_append_right _ (hw))))
set_option maxRecDepth 100000 in
set_option maxHeartbeats 4000000 in
theorem tX4_readHat_L {G : gGG} {F : State → Heap → Prop} (hG : gOK G) (hF : gSb G F) (hX : gPX G) (hQ : gOQ G) (hV : gVX G F) (S : gSt) : Gof G F RX4 cX4_readHat 1 wsX4_readHat (some .boolean) (gRm 8) 0 0 (gQ G (fun x => (some (.int x.1), x.2))) 0 [(0, .ref (gad G 31))] [] S (fX4_readHat S) := by
  unfold fX4_readHat
  refine g_aload_n 0 dX4_readHat_0 rfl ?_
  refine g_iconst (v := 0) dX4_readHat_1 (by decide) ?_
  refine g_aload_n 0 dX4_readHat_2 rfl ?_
  refine g_gC (fun h_1 => ?_)
  refine g_getM (ci := 4) (k0 := 1) (C0 := RX4) (T := TX4) (N := 8) (hX 31 (by decide)) rfl rfl hiX4_readHat_4 (by decide) (List.mem_of_getElem? (i := 1) rfl) rfl dX4_readHat_3 ?_
  refine g_cVp (ci := 5) (C0 := RX5) (T := TX5) (N := 6) (n := 0) (As := []) (rest := [.int 0, .ref (gad G 31)]) hF (tX5_guests hG hF hX hQ h_1 S) gX4_readHat_X5_guests rfl (gRu_m hX h_1) (gRu_l h_1) rfl ⟨rfl, by decide +kernel, by decide +kernel, by decide +kernel⟩ rfl (gRm_ok (by decide) (by decide)) rfl (Nat.le_of_ble_eq_true rfl) dX4_readHat_6 (fun v_1 => ?_)
  refine g_iconst (v := 1) dX4_readHat_9 (by decide) ?_
  refine g_isub dX4_readHat_10 ?_
  refine g_cVi (ci := 4) (C0 := RX4) (T := TX4) (N := 8) (n := 2) (As := [.int 0, .int (v_1 - 1)]) (rest := []) hF (tX4_readNumber hG hF hX hQ hV 0 (v_1 - 1) S) gX4_readHat_X4_readNumber rfl (hX 31 (by decide)) rfl rfl ⟨rfl, by decide +kernel, by decide +kernel, by decide +kernel⟩ rfl (gRm_ok (by decide) (by decide)) rfl (Nat.le_of_ble_eq_true rfl) dX4_readHat_11 (fun v_2 S_3 => ?_)
  refine g_if_ne (tgt := 19) dX4_readHat_14 (by decide) (fun h_2 => ?_) (fun h_2 => ?_)
  · refine g_aload_n 0 dX4_readHat_19 rfl ?_
    refine g_aload_n 0 dX4_readHat_20 rfl ?_
    refine g_getI (ci := 4) (k0 := 5) (C0 := RX4) (T := TX4) (N := 8) (hX 31 (by decide)) rfl rfl hiX4_readHat_4 (by decide) (List.mem_of_getElem? (i := 2) rfl) rfl dX4_readHat_21 ?_
    refine g_putI hG (ci := 4) (k0 := 6) (C0 := RX4) (T := TX4) (N := 8) (hX 31 (by decide)) rfl rfl hiX4_readHat_4 (by decide) (List.mem_of_getElem? (i := 3) rfl) tyX4 tyX4_ok nmX4 rfl rfl rfl rfl dX4_readHat_24 ?_
    refine g_nS (fun S_4 => ?_)
    refine g_aload_n 0 dX4_readHat_27 rfl ?_
    refine g_iconst (v := 0) dX4_readHat_28 (by decide) ?_
    refine g_iconst (v := 5) dX4_readHat_29 (by decide) ?_
    refine g_cVi (ci := 4) (C0 := RX4) (T := TX4) (N := 8) (n := 2) (As := [.int 0, .int 5]) (rest := []) hF (tX4_readNumber hG hF hX hQ hV 0 5 S_4) gX4_readHat_X4_readNumber rfl (hX 31 (by decide)) rfl rfl ⟨rfl, by decide +kernel, by decide +kernel, by decide +kernel⟩ rfl (gRm_ok (by decide) (by decide)) rfl (Nat.le_of_ble_eq_true rfl) dX4_readHat_30 (fun v_5 S_6 => ?_)
    refine g_if_ne (tgt := 38) dX4_readHat_33 (by decide) (fun h_3 => ?_) (fun h_3 => ?_)
    · refine g_aload_n 0 dX4_readHat_38 rfl ?_
      refine g_gC (fun h_4 => ?_)
      refine g_getM (ci := 4) (k0 := 1) (C0 := RX4) (T := TX4) (N := 8) (hX 31 (by decide)) rfl rfl hiX4_readHat_4 (by decide) (List.mem_of_getElem? (i := 1) rfl) rfl dX4_readHat_39 ?_
      refine g_aload_n 0 dX4_readHat_42 rfl ?_
      refine g_getI (ci := 4) (k0 := 6) (C0 := RX4) (T := TX4) (N := 8) (hX 31 (by decide)) rfl rfl hiX4_readHat_4 (by decide) (List.mem_of_getElem? (i := 3) rfl) rfl dX4_readHat_43 ?_
      refine g_aload_n 0 dX4_readHat_46 rfl ?_
      refine g_getI (ci := 4) (k0 := 5) (C0 := RX4) (T := TX4) (N := 8) (hX 31 (by decide)) rfl rfl hiX4_readHat_4 (by decide) (List.mem_of_getElem? (i := 2) rfl) rfl dX4_readHat_47 ?_
      refine g_cVv (ci := 5) (C0 := RX5) (T := TX5) (N := 6) (n := 2) (As := [.int (gR S_6 31 6), .int (gR S_6 31 5)]) (rest := []) hF (tX5_setHat hG hF hX hQ h_4 (gR S_6 31 6) (gR S_6 31 5) S_6) gX4_readHat_X5_setHat rfl (gRu_m hX h_4) (gRu_l h_4) rfl ⟨rfl, by decide +kernel, by decide +kernel, by decide +kernel⟩ rfl (gRm_ok (by decide) (by decide)) rfl (Nat.le_of_ble_eq_true rfl) dX4_readHat_50 (fun S_7 => ?_)
      refine g_aload_n 0 dX4_readHat_53 rfl ?_
      refine g_cVi (ci := 4) (C0 := RX4) (T := TX4) (N := 8) (n := 0) (As := []) (rest := []) hF (tX4_readSemicolon hG hF hX hQ hV S_7) gX4_readHat_X4_readSemicolon rfl (hX 31 (by decide)) rfl rfl ⟨rfl, by decide +kernel, by decide +kernel, by decide +kernel⟩ rfl (gRm_ok (by decide) (by decide)) rfl (Nat.le_of_ble_eq_true rfl) dX4_readHat_54 (fun v_8 S_9 => ?_)
      refine g_gC (fun h_5 => ?_)
      exact g_zret (gBo_nar h_5) dX4_readHat_57 rfl
    · refine g_iconst (v := 0) dX4_readHat_36 (by decide) ?_
      exact g_zret (by decide) dX4_readHat_37 rfl
  · refine g_iconst (v := 0) dX4_readHat_17 (by decide) ?_
    exact g_zret (by decide) dX4_readHat_18 rfl
set_option maxRecDepth 100000 in
set_option maxHeartbeats 4000000 in
theorem tX4_readHat {G : gGG} {F : State → Heap → Prop} (hG : gOK G) (hF : gSb G F) (hX : gPX G) (hQ : gOQ G) (hV : gVX G F) (S : gSt) : gCt G F yX4_readHat wsX4_readHat 8 [.ref (gad G 31)] S ((fX4_readHat S).map (fun x => (some (.int x.1), x.2))) := g_met (by decide +kernel) rfl (Nat.le_of_ble_eq_true rfl) (tX4_readHat_L hG hF hX hQ hV S)
/-! X4_readNumberLaw -/
theorem hiX4_readNumberLaw_4 : ∀ w ∈ u_ws RX4 TX4 8, w ∈ wsX4_readNumberLaw := fun _ hw => List.mem_cons_of_mem _ (List.mem_append_left _ (List.mem_append_left _ (List.mem_append_right _ (hw))))
set_option maxRecDepth 100000 in
set_option maxHeartbeats 4000000 in
theorem tX4_readNumberLaw_L {G : gGG} {F : State → Heap → Prop} (hG : gOK G) (hF : gSb G F) (hX : gPX G) (hQ : gOQ G) (hV : gVX G F) (a1 : Int32) (S : gSt) : Gof G F RX4 cX4_readNumberLaw 2 wsX4_readNumberLaw (some .boolean) (gRm 8) 0 0 (gQ G (fun x => (some (.int x.1), x.2))) 0 [(0, .ref (gad G 31)), (1, .int a1)] [] S (fX4_readNumberLaw a1 S) := by
  unfold fX4_readNumberLaw
  refine g_aload_n 0 dX4_readNumberLaw_0 rfl ?_
  refine g_gC (fun h_1 => ?_)
  refine g_getM (ci := 4) (k0 := 1) (C0 := RX4) (T := TX4) (N := 8) (hX 31 (by decide)) rfl rfl hiX4_readNumberLaw_4 (by decide) (List.mem_of_getElem? (i := 1) rfl) rfl dX4_readNumberLaw_1 ?_
  refine g_iload_n 1 dX4_readNumberLaw_4 rfl ?_
  refine g_cVp (ci := 5) (C0 := RX5) (T := TX5) (N := 6) (n := 1) (As := [.int a1]) (rest := []) hF (tX5_lawOf hG hF hX hQ h_1 a1 S) gX4_readNumberLaw_X5_lawOf rfl (gRu_m hX h_1) (gRu_l h_1) rfl ⟨rfl, by decide +kernel, by decide +kernel, by decide +kernel⟩ rfl (gRm_ok (by decide) (by decide)) rfl (Nat.le_of_ble_eq_true rfl) dX4_readNumberLaw_5 (fun v_1 => ?_)
  refine g_if_ne (tgt := 21) dX4_readNumberLaw_8 (by decide) (fun h_2 => ?_) (fun h_2 => ?_)
  · refine g_iconst (v := 0) dX4_readNumberLaw_21 (by decide) ?_
    exact g_zret (by decide) dX4_readNumberLaw_22 rfl
  · refine g_aload_n 0 dX4_readNumberLaw_11 rfl ?_
    refine g_iconst (v := 1) dX4_readNumberLaw_12 (by decide) ?_
    refine g_bipush (v := 8) dX4_readNumberLaw_13 (by decide) ?_
    refine g_cVi (ci := 4) (C0 := RX4) (T := TX4) (N := 8) (n := 2) (As := [.int 1, .int 8]) (rest := []) hF (tX4_readNumber hG hF hX hQ hV 1 8 S) gX4_readNumberLaw_X4_readNumber rfl (hX 31 (by decide)) rfl rfl ⟨rfl, by decide +kernel, by decide +kernel, by decide +kernel⟩ rfl (gRm_ok (by decide) (by decide)) rfl (Nat.le_of_ble_eq_true rfl) dX4_readNumberLaw_15 (fun v_2 S_3 => ?_)
    refine g_if_ne (tgt := 23) dX4_readNumberLaw_18 (by decide) (fun h_3 => ?_) (fun h_3 => ?_)
    · refine g_aload_n 0 dX4_readNumberLaw_23 rfl ?_
      refine g_gC (fun h_4 => ?_)
      refine g_getM (ci := 4) (k0 := 1) (C0 := RX4) (T := TX4) (N := 8) (hX 31 (by decide)) rfl rfl hiX4_readNumberLaw_4 (by decide) (List.mem_of_getElem? (i := 1) rfl) rfl dX4_readNumberLaw_24 ?_
      refine g_iload_n 1 dX4_readNumberLaw_27 rfl ?_
      refine g_aload_n 0 dX4_readNumberLaw_28 rfl ?_
      refine g_getI (ci := 4) (k0 := 5) (C0 := RX4) (T := TX4) (N := 8) (hX 31 (by decide)) rfl rfl hiX4_readNumberLaw_4 (by decide) (List.mem_of_getElem? (i := 2) rfl) rfl dX4_readNumberLaw_29 ?_
      refine g_cVv (ci := 5) (C0 := RX5) (T := TX5) (N := 6) (n := 2) (As := [.int a1, .int (gR S_3 31 5)]) (rest := []) hF (tX5_setLaw hG hF hX hQ h_4 a1 (gR S_3 31 5) S_3) gX4_readNumberLaw_X5_setLaw rfl (gRu_m hX h_4) (gRu_l h_4) rfl ⟨rfl, by decide +kernel, by decide +kernel, by decide +kernel⟩ rfl (gRm_ok (by decide) (by decide)) rfl (Nat.le_of_ble_eq_true rfl) dX4_readNumberLaw_32 (fun S_4 => ?_)
      refine g_aload_n 0 dX4_readNumberLaw_35 rfl ?_
      refine g_cVi (ci := 4) (C0 := RX4) (T := TX4) (N := 8) (n := 0) (As := []) (rest := []) hF (tX4_readSemicolon hG hF hX hQ hV S_4) gX4_readNumberLaw_X4_readSemicolon rfl (hX 31 (by decide)) rfl rfl ⟨rfl, by decide +kernel, by decide +kernel, by decide +kernel⟩ rfl (gRm_ok (by decide) (by decide)) rfl (Nat.le_of_ble_eq_true rfl) dX4_readNumberLaw_36 (fun v_5 S_6 => ?_)
      refine g_gC (fun h_5 => ?_)
      exact g_zret (gBo_nar h_5) dX4_readNumberLaw_39 rfl
    · refine g_iconst (v := 0) dX4_readNumberLaw_21 (by decide) ?_
      exact g_zret (by decide) dX4_readNumberLaw_22 rfl
set_option maxRecDepth 100000 in
set_option maxHeartbeats 4000000 in
theorem tX4_readNumberLaw {G : gGG} {F : State → Heap → Prop} (hG : gOK G) (hF : gSb G F) (hX : gPX G) (hQ : gOQ G) (hV : gVX G F) (a1 : Int32) (S : gSt) : gCt G F yX4_readNumberLaw wsX4_readNumberLaw 8 [.ref (gad G 31), .int a1] S ((fX4_readNumberLaw a1 S).map (fun x => (some (.int x.1), x.2))) := g_met (by decide +kernel) rfl (Nat.le_of_ble_eq_true rfl) (tX4_readNumberLaw_L hG hF hX hQ hV a1 S)
/-! X4_readPlainLaw -/
theorem hiX4_readPlainLaw_4 : ∀ w ∈ u_ws RX4 TX4 8, w ∈ wsX4_readPlainLaw := fun _ hw => List.mem_cons_of_mem _ (List.mem_append_left _ (List.mem_append_left _ (List.mem_append_right _ (hw))))
set_option maxRecDepth 100000 in
set_option maxHeartbeats 4000000 in
theorem tX4_readPlainLaw_L {G : gGG} {F : State → Heap → Prop} (hG : gOK G) (hF : gSb G F) (hX : gPX G) (hQ : gOQ G) (hV : gVX G F) (a1 : Int32) (S : gSt) : Gof G F RX4 cX4_readPlainLaw 2 wsX4_readPlainLaw (some .boolean) (gRm 8) 0 0 (gQ G (fun x => (some (.int x.1), x.2))) 0 [(0, .ref (gad G 31)), (1, .int a1)] [] S (fX4_readPlainLaw a1 S) := by
  unfold fX4_readPlainLaw
  refine g_aload_n 0 dX4_readPlainLaw_0 rfl ?_
  refine g_gC (fun h_1 => ?_)
  refine g_getM (ci := 4) (k0 := 1) (C0 := RX4) (T := TX4) (N := 8) (hX 31 (by decide)) rfl rfl hiX4_readPlainLaw_4 (by decide) (List.mem_of_getElem? (i := 1) rfl) rfl dX4_readPlainLaw_1 ?_
  refine g_iload_n 1 dX4_readPlainLaw_4 rfl ?_
  refine g_cVp (ci := 5) (C0 := RX5) (T := TX5) (N := 6) (n := 1) (As := [.int a1]) (rest := []) hF (tX5_lawOf hG hF hX hQ h_1 a1 S) gX4_readPlainLaw_X5_lawOf rfl (gRu_m hX h_1) (gRu_l h_1) rfl ⟨rfl, by decide +kernel, by decide +kernel, by decide +kernel⟩ rfl (gRm_ok (by decide) (by decide)) rfl (Nat.le_of_ble_eq_true rfl) dX4_readPlainLaw_5 (fun v_1 => ?_)
  refine g_if_eq (tgt := 13) dX4_readPlainLaw_8 (by decide) (fun h_2 => ?_) (fun h_2 => ?_)
  · refine g_aload_n 0 dX4_readPlainLaw_13 rfl ?_
    refine g_gC (fun h_3 => ?_)
    refine g_getM (ci := 4) (k0 := 1) (C0 := RX4) (T := TX4) (N := 8) (hX 31 (by decide)) rfl rfl hiX4_readPlainLaw_4 (by decide) (List.mem_of_getElem? (i := 1) rfl) rfl dX4_readPlainLaw_14 ?_
    refine g_iload_n 1 dX4_readPlainLaw_17 rfl ?_
    refine g_iconst (v := 1) dX4_readPlainLaw_18 (by decide) ?_
    refine g_cVv (ci := 5) (C0 := RX5) (T := TX5) (N := 6) (n := 2) (As := [.int a1, .int 1]) (rest := []) hF (tX5_setLaw hG hF hX hQ h_3 a1 1 S) gX4_readPlainLaw_X5_setLaw rfl (gRu_m hX h_3) (gRu_l h_3) rfl ⟨rfl, by decide +kernel, by decide +kernel, by decide +kernel⟩ rfl (gRm_ok (by decide) (by decide)) rfl (Nat.le_of_ble_eq_true rfl) dX4_readPlainLaw_19 (fun S_2 => ?_)
    refine g_aload_n 0 dX4_readPlainLaw_22 rfl ?_
    refine g_cVi (ci := 4) (C0 := RX4) (T := TX4) (N := 8) (n := 0) (As := []) (rest := []) hF (tX4_readSemicolon hG hF hX hQ hV S_2) gX4_readPlainLaw_X4_readSemicolon rfl (hX 31 (by decide)) rfl rfl ⟨rfl, by decide +kernel, by decide +kernel, by decide +kernel⟩ rfl (gRm_ok (by decide) (by decide)) rfl (Nat.le_of_ble_eq_true rfl) dX4_readPlainLaw_23 (fun v_3 S_4 => ?_)
    refine g_gC (fun h_4 => ?_)
    exact g_zret (gBo_nar h_4) dX4_readPlainLaw_26 rfl
  · refine g_iconst (v := 0) dX4_readPlainLaw_11 (by decide) ?_
    exact g_zret (by decide) dX4_readPlainLaw_12 rfl
set_option maxRecDepth 100000 in
set_option maxHeartbeats 4000000 in
theorem tX4_readPlainLaw {G : gGG} {F : State → Heap → Prop} (hG : gOK G) (hF : gSb G F) (hX : gPX G) (hQ : gOQ G) (hV : gVX G F) (a1 : Int32) (S : gSt) : gCt G F yX4_readPlainLaw wsX4_readPlainLaw 8 [.ref (gad G 31), .int a1] S ((fX4_readPlainLaw a1 S).map (fun x => (some (.int x.1), x.2))) := g_met (by decide +kernel) rfl (Nat.le_of_ble_eq_true rfl) (tX4_readPlainLaw_L hG hF hX hQ hV a1 S)
/-! X4_readTwoGuests -/
theorem hiX4_readTwoGuests_4 : ∀ w ∈ u_ws RX4 TX4 8, w ∈ wsX4_readTwoGuests := fun _ hw => List.mem_cons_of_mem _ (List.mem_append_left _ (List.mem_append_left _ (List.mem_append_right _ (hw))))
set_option maxRecDepth 100000 in
set_option maxHeartbeats 4000000 in
theorem tX4_readTwoGuests_L {G : gGG} {F : State → Heap → Prop} (hG : gOK G) (hF : gSb G F) (hX : gPX G) (hQ : gOQ G) (hV : gVX G F) (S : gSt) : Gof G F RX4 cX4_readTwoGuests 1 wsX4_readTwoGuests (some .boolean) (gRm 8) 0 0 (gQ G (fun x => (some (.int x.1), x.2))) 0 [(0, .ref (gad G 31))] [] S (fX4_readTwoGuests S) := by
  unfold fX4_readTwoGuests
  refine g_aload_n 0 dX4_readTwoGuests_0 rfl ?_
  refine g_iconst (v := 0) dX4_readTwoGuests_1 (by decide) ?_
  refine g_aload_n 0 dX4_readTwoGuests_2 rfl ?_
  refine g_gC (fun h_1 => ?_)
  refine g_getM (ci := 4) (k0 := 1) (C0 := RX4) (T := TX4) (N := 8) (hX 31 (by decide)) rfl rfl hiX4_readTwoGuests_4 (by decide) (List.mem_of_getElem? (i := 1) rfl) rfl dX4_readTwoGuests_3 ?_
  refine g_cVp (ci := 5) (C0 := RX5) (T := TX5) (N := 6) (n := 0) (As := []) (rest := [.int 0, .ref (gad G 31)]) hF (tX5_guests hG hF hX hQ h_1 S) gX4_readTwoGuests_X5_guests rfl (gRu_m hX h_1) (gRu_l h_1) rfl ⟨rfl, by decide +kernel, by decide +kernel, by decide +kernel⟩ rfl (gRm_ok (by decide) (by decide)) rfl (Nat.le_of_ble_eq_true rfl) dX4_readTwoGuests_6 (fun v_1 => ?_)
  refine g_iconst (v := 1) dX4_readTwoGuests_9 (by decide) ?_
  refine g_isub dX4_readTwoGuests_10 ?_
  refine g_cVi (ci := 4) (C0 := RX4) (T := TX4) (N := 8) (n := 2) (As := [.int 0, .int (v_1 - 1)]) (rest := []) hF (tX4_readNumber hG hF hX hQ hV 0 (v_1 - 1) S) gX4_readTwoGuests_X4_readNumber rfl (hX 31 (by decide)) rfl rfl ⟨rfl, by decide +kernel, by decide +kernel, by decide +kernel⟩ rfl (gRm_ok (by decide) (by decide)) rfl (Nat.le_of_ble_eq_true rfl) dX4_readTwoGuests_11 (fun v_2 S_3 => ?_)
  refine g_if_ne (tgt := 19) dX4_readTwoGuests_14 (by decide) (fun h_2 => ?_) (fun h_2 => ?_)
  · refine g_aload_n 0 dX4_readTwoGuests_19 rfl ?_
    refine g_aload_n 0 dX4_readTwoGuests_20 rfl ?_
    refine g_getI (ci := 4) (k0 := 5) (C0 := RX4) (T := TX4) (N := 8) (hX 31 (by decide)) rfl rfl hiX4_readTwoGuests_4 (by decide) (List.mem_of_getElem? (i := 2) rfl) rfl dX4_readTwoGuests_21 ?_
    refine g_putI hG (ci := 4) (k0 := 6) (C0 := RX4) (T := TX4) (N := 8) (hX 31 (by decide)) rfl rfl hiX4_readTwoGuests_4 (by decide) (List.mem_of_getElem? (i := 3) rfl) tyX4 tyX4_ok nmX4 rfl rfl rfl rfl dX4_readTwoGuests_24 ?_
    refine g_nS (fun S_4 => ?_)
    refine g_aload_n 0 dX4_readTwoGuests_27 rfl ?_
    refine g_iconst (v := 0) dX4_readTwoGuests_28 (by decide) ?_
    refine g_aload_n 0 dX4_readTwoGuests_29 rfl ?_
    refine g_gC (fun h_3 => ?_)
    refine g_getM (ci := 4) (k0 := 1) (C0 := RX4) (T := TX4) (N := 8) (hX 31 (by decide)) rfl rfl hiX4_readTwoGuests_4 (by decide) (List.mem_of_getElem? (i := 1) rfl) rfl dX4_readTwoGuests_30 ?_
    refine g_cVp (ci := 5) (C0 := RX5) (T := TX5) (N := 6) (n := 0) (As := []) (rest := [.int 0, .ref (gad G 31)]) hF (tX5_guests hG hF hX hQ h_3 S_4) gX4_readTwoGuests_X5_guests rfl (gRu_m hX h_3) (gRu_l h_3) rfl ⟨rfl, by decide +kernel, by decide +kernel, by decide +kernel⟩ rfl (gRm_ok (by decide) (by decide)) rfl (Nat.le_of_ble_eq_true rfl) dX4_readTwoGuests_33 (fun v_5 => ?_)
    refine g_iconst (v := 1) dX4_readTwoGuests_36 (by decide) ?_
    refine g_isub dX4_readTwoGuests_37 ?_
    refine g_cVi (ci := 4) (C0 := RX4) (T := TX4) (N := 8) (n := 2) (As := [.int 0, .int (v_5 - 1)]) (rest := []) hF (tX4_readNumber hG hF hX hQ hV 0 (v_5 - 1) S_4) gX4_readTwoGuests_X4_readNumber rfl (hX 31 (by decide)) rfl rfl ⟨rfl, by decide +kernel, by decide +kernel, by decide +kernel⟩ rfl (gRm_ok (by decide) (by decide)) rfl (Nat.le_of_ble_eq_true rfl) dX4_readTwoGuests_38 (fun v_6 S_7 => ?_)
    refine g_if_ne (tgt := 46) dX4_readTwoGuests_41 (by decide) (fun h_4 => ?_) (fun h_4 => ?_)
    · refine g_aload_n 0 dX4_readTwoGuests_46 rfl ?_
      refine g_aload_n 0 dX4_readTwoGuests_47 rfl ?_
      refine g_getI (ci := 4) (k0 := 5) (C0 := RX4) (T := TX4) (N := 8) (hX 31 (by decide)) rfl rfl hiX4_readTwoGuests_4 (by decide) (List.mem_of_getElem? (i := 2) rfl) rfl dX4_readTwoGuests_48 ?_
      refine g_putI hG (ci := 4) (k0 := 7) (C0 := RX4) (T := TX4) (N := 8) (hX 31 (by decide)) rfl rfl hiX4_readTwoGuests_4 (by decide) (List.mem_of_getElem? (i := 4) rfl) tyX4 tyX4_ok nmX4 rfl rfl rfl rfl dX4_readTwoGuests_51 ?_
      refine g_nS (fun S_8 => ?_)
      refine g_aload_n 0 dX4_readTwoGuests_54 rfl ?_
      refine g_getI (ci := 4) (k0 := 6) (C0 := RX4) (T := TX4) (N := 8) (hX 31 (by decide)) rfl rfl hiX4_readTwoGuests_4 (by decide) (List.mem_of_getElem? (i := 3) rfl) rfl dX4_readTwoGuests_55 ?_
      refine g_aload_n 0 dX4_readTwoGuests_58 rfl ?_
      refine g_getI (ci := 4) (k0 := 7) (C0 := RX4) (T := TX4) (N := 8) (hX 31 (by decide)) rfl rfl hiX4_readTwoGuests_4 (by decide) (List.mem_of_getElem? (i := 4) rfl) rfl dX4_readTwoGuests_59 ?_
      refine g_icmp_eq (tgt := 69) dX4_readTwoGuests_62 (by decide) (fun h_5 => ?_) (fun h_5 => ?_)
      · refine g_iconst (v := 0) dX4_readTwoGuests_69 (by decide) ?_
        exact g_zret (by decide) dX4_readTwoGuests_70 rfl
      · refine g_iconst (v := 1) dX4_readTwoGuests_65 (by decide) ?_
        refine g_goto (tgt := 70) dX4_readTwoGuests_66 (by decide) ?_
        exact g_zret (by decide) dX4_readTwoGuests_70 rfl
    · refine g_iconst (v := 0) dX4_readTwoGuests_44 (by decide) ?_
      exact g_zret (by decide) dX4_readTwoGuests_45 rfl
  · refine g_iconst (v := 0) dX4_readTwoGuests_17 (by decide) ?_
    exact g_zret (by decide) dX4_readTwoGuests_18 rfl
set_option maxRecDepth 100000 in
set_option maxHeartbeats 4000000 in
theorem tX4_readTwoGuests {G : gGG} {F : State → Heap → Prop} (hG : gOK G) (hF : gSb G F) (hX : gPX G) (hQ : gOQ G) (hV : gVX G F) (S : gSt) : gCt G F yX4_readTwoGuests wsX4_readTwoGuests 8 [.ref (gad G 31)] S ((fX4_readTwoGuests S).map (fun x => (some (.int x.1), x.2))) := g_met (by decide +kernel) rfl (Nat.le_of_ble_eq_true rfl) (tX4_readTwoGuests_L hG hF hX hQ hV S)
/-! X4_readTogether -/
theorem hiX4_readTogether_4 : ∀ w ∈ u_ws RX4 TX4 8, w ∈ wsX4_readTogether := fun _ hw => List.mem_cons_of_mem _ (List.mem_append_left _ (List.mem_append_left _ (List.mem_append_right _ (hw))))
set_option maxRecDepth 100000 in
set_option maxHeartbeats 4000000 in
theorem tX4_readTogether_L {G : gGG} {F : State → Heap → Prop} (hG : gOK G) (hF : gSb G F) (hX : gPX G) (hQ : gOQ G) (hV : gVX G F) (S : gSt) : Gof G F RX4 cX4_readTogether 1 wsX4_readTogether (some .boolean) (gRm 9) 0 0 (gQ G (fun x => (some (.int x.1), x.2))) 0 [(0, .ref (gad G 31))] [] S (fX4_readTogether S) := by
  unfold fX4_readTogether
  refine g_aload_n 0 dX4_readTogether_0 rfl ?_
  refine g_cVi (ci := 4) (C0 := RX4) (T := TX4) (N := 8) (n := 0) (As := []) (rest := []) hF (tX4_readTwoGuests hG hF hX hQ hV S) gX4_readTogether_X4_readTwoGuests rfl (hX 31 (by decide)) rfl rfl ⟨rfl, by decide +kernel, by decide +kernel, by decide +kernel⟩ rfl (gRm_ok (by decide) (by decide)) rfl (Nat.le_of_ble_eq_true rfl) dX4_readTogether_1 (fun v_1 S_2 => ?_)
  refine g_if_ne (tgt := 9) dX4_readTogether_4 (by decide) (fun h_1 => ?_) (fun h_1 => ?_)
  · refine g_aload_n 0 dX4_readTogether_9 rfl ?_
    refine g_gC (fun h_2 => ?_)
    refine g_getM (ci := 4) (k0 := 1) (C0 := RX4) (T := TX4) (N := 8) (hX 31 (by decide)) rfl rfl hiX4_readTogether_4 (by decide) (List.mem_of_getElem? (i := 1) rfl) rfl dX4_readTogether_10 ?_
    refine g_aload_n 0 dX4_readTogether_13 rfl ?_
    refine g_getI (ci := 4) (k0 := 6) (C0 := RX4) (T := TX4) (N := 8) (hX 31 (by decide)) rfl rfl hiX4_readTogether_4 (by decide) (List.mem_of_getElem? (i := 2) rfl) rfl dX4_readTogether_14 ?_
    refine g_aload_n 0 dX4_readTogether_17 rfl ?_
    refine g_getI (ci := 4) (k0 := 7) (C0 := RX4) (T := TX4) (N := 8) (hX 31 (by decide)) rfl rfl hiX4_readTogether_4 (by decide) (List.mem_of_getElem? (i := 3) rfl) rfl dX4_readTogether_18 ?_
    refine g_cVv (ci := 5) (C0 := RX5) (T := TX5) (N := 6) (n := 2) (As := [.int (gR S_2 31 6), .int (gR S_2 31 7)]) (rest := []) hF (tX5_putTogether hG hF hX hQ h_2 (gR S_2 31 6) (gR S_2 31 7) S_2) gX4_readTogether_X5_putTogether rfl (gRu_m hX h_2) (gRu_l h_2) rfl ⟨rfl, by decide +kernel, by decide +kernel, by decide +kernel⟩ rfl (gRm_ok (by decide) (by decide)) rfl (Nat.le_of_ble_eq_true rfl) dX4_readTogether_21 (fun S_3 => ?_)
    refine g_aload_n 0 dX4_readTogether_24 rfl ?_
    refine g_cVi (ci := 4) (C0 := RX4) (T := TX4) (N := 8) (n := 0) (As := []) (rest := []) hF (tX4_readSemicolon hG hF hX hQ hV S_3) gX4_readTogether_X4_readSemicolon rfl (hX 31 (by decide)) rfl rfl ⟨rfl, by decide +kernel, by decide +kernel, by decide +kernel⟩ rfl (gRm_ok (by decide) (by decide)) rfl (Nat.le_of_ble_eq_true rfl) dX4_readTogether_25 (fun v_4 S_5 => ?_)
    refine g_gC (fun h_3 => ?_)
    exact g_zret (gBo_nar h_3) dX4_readTogether_28 rfl
  · refine g_iconst (v := 0) dX4_readTogether_7 (by decide) ?_
    exact g_zret (by decide) dX4_readTogether_8 rfl
set_option maxRecDepth 100000 in
set_option maxHeartbeats 4000000 in
theorem tX4_readTogether {G : gGG} {F : State → Heap → Prop} (hG : gOK G) (hF : gSb G F) (hX : gPX G) (hQ : gOQ G) (hV : gVX G F) (S : gSt) : gCt G F yX4_readTogether wsX4_readTogether 9 [.ref (gad G 31)] S ((fX4_readTogether S).map (fun x => (some (.int x.1), x.2))) := g_met (by decide +kernel) rfl (Nat.le_of_ble_eq_true rfl) (tX4_readTogether_L hG hF hX hQ hV S)
/-! X4_readApart -/
theorem hiX4_readApart_4 : ∀ w ∈ u_ws RX4 TX4 8, w ∈ wsX4_readApart := fun _ hw => List.mem_cons_of_mem _ (List.mem_append_left _ (List.mem_append_left _ (List.mem_append_right _ (hw))))
set_option maxRecDepth 100000 in
set_option maxHeartbeats 4000000 in
theorem tX4_readApart_L {G : gGG} {F : State → Heap → Prop} (hG : gOK G) (hF : gSb G F) (hX : gPX G) (hQ : gOQ G) (hV : gVX G F) (S : gSt) : Gof G F RX4 cX4_readApart 1 wsX4_readApart (some .boolean) (gRm 9) 0 0 (gQ G (fun x => (some (.int x.1), x.2))) 0 [(0, .ref (gad G 31))] [] S (fX4_readApart S) := by
  unfold fX4_readApart
  refine g_aload_n 0 dX4_readApart_0 rfl ?_
  refine g_cVi (ci := 4) (C0 := RX4) (T := TX4) (N := 8) (n := 0) (As := []) (rest := []) hF (tX4_readTwoGuests hG hF hX hQ hV S) gX4_readApart_X4_readTwoGuests rfl (hX 31 (by decide)) rfl rfl ⟨rfl, by decide +kernel, by decide +kernel, by decide +kernel⟩ rfl (gRm_ok (by decide) (by decide)) rfl (Nat.le_of_ble_eq_true rfl) dX4_readApart_1 (fun v_1 S_2 => ?_)
  refine g_if_ne (tgt := 9) dX4_readApart_4 (by decide) (fun h_1 => ?_) (fun h_1 => ?_)
  · refine g_aload_n 0 dX4_readApart_9 rfl ?_
    refine g_gC (fun h_2 => ?_)
    refine g_getM (ci := 4) (k0 := 1) (C0 := RX4) (T := TX4) (N := 8) (hX 31 (by decide)) rfl rfl hiX4_readApart_4 (by decide) (List.mem_of_getElem? (i := 1) rfl) rfl dX4_readApart_10 ?_
    refine g_aload_n 0 dX4_readApart_13 rfl ?_
    refine g_getI (ci := 4) (k0 := 6) (C0 := RX4) (T := TX4) (N := 8) (hX 31 (by decide)) rfl rfl hiX4_readApart_4 (by decide) (List.mem_of_getElem? (i := 2) rfl) rfl dX4_readApart_14 ?_
    refine g_aload_n 0 dX4_readApart_17 rfl ?_
    refine g_getI (ci := 4) (k0 := 7) (C0 := RX4) (T := TX4) (N := 8) (hX 31 (by decide)) rfl rfl hiX4_readApart_4 (by decide) (List.mem_of_getElem? (i := 3) rfl) rfl dX4_readApart_18 ?_
    refine g_cVv (ci := 5) (C0 := RX5) (T := TX5) (N := 6) (n := 2) (As := [.int (gR S_2 31 6), .int (gR S_2 31 7)]) (rest := []) hF (tX5_putApart hG hF hX hQ h_2 (gR S_2 31 6) (gR S_2 31 7) S_2) gX4_readApart_X5_putApart rfl (gRu_m hX h_2) (gRu_l h_2) rfl ⟨rfl, by decide +kernel, by decide +kernel, by decide +kernel⟩ rfl (gRm_ok (by decide) (by decide)) rfl (Nat.le_of_ble_eq_true rfl) dX4_readApart_21 (fun S_3 => ?_)
    refine g_aload_n 0 dX4_readApart_24 rfl ?_
    refine g_cVi (ci := 4) (C0 := RX4) (T := TX4) (N := 8) (n := 0) (As := []) (rest := []) hF (tX4_readSemicolon hG hF hX hQ hV S_3) gX4_readApart_X4_readSemicolon rfl (hX 31 (by decide)) rfl rfl ⟨rfl, by decide +kernel, by decide +kernel, by decide +kernel⟩ rfl (gRm_ok (by decide) (by decide)) rfl (Nat.le_of_ble_eq_true rfl) dX4_readApart_25 (fun v_4 S_5 => ?_)
    refine g_gC (fun h_3 => ?_)
    exact g_zret (gBo_nar h_3) dX4_readApart_28 rfl
  · refine g_iconst (v := 0) dX4_readApart_7 (by decide) ?_
    exact g_zret (by decide) dX4_readApart_8 rfl
set_option maxRecDepth 100000 in
set_option maxHeartbeats 4000000 in
theorem tX4_readApart {G : gGG} {F : State → Heap → Prop} (hG : gOK G) (hF : gSb G F) (hX : gPX G) (hQ : gOQ G) (hV : gVX G F) (S : gSt) : gCt G F yX4_readApart wsX4_readApart 9 [.ref (gad G 31)] S ((fX4_readApart S).map (fun x => (some (.int x.1), x.2))) := g_met (by decide +kernel) rfl (Nat.le_of_ble_eq_true rfl) (tX4_readApart_L hG hF hX hQ hV S)
/-! X4_readWorth -/
theorem hiX4_readWorth_4 : ∀ w ∈ u_ws RX4 TX4 8, w ∈ wsX4_readWorth := fun _ hw => List.mem_cons_of_mem _ (List.mem_append_left _ (List.mem_append_left _ (List.mem_append_right _ (hw))))
set_option maxRecDepth 100000 in
set_option maxHeartbeats 4000000 in
theorem tX4_readWorth_L {G : gGG} {F : State → Heap → Prop} (hG : gOK G) (hF : gSb G F) (hX : gPX G) (hQ : gOQ G) (hV : gVX G F) (a1 : Int32) (S : gSt) : Gof G F RX4 cX4_readWorth 2 wsX4_readWorth (some .boolean) (gRm 9) 0 0 (gQ G (fun x => (some (.int x.1), x.2))) 0 [(0, .ref (gad G 31)), (1, .int a1)] [] S (fX4_readWorth a1 S) := by
  unfold fX4_readWorth
  refine g_aload_n 0 dX4_readWorth_0 rfl ?_
  refine g_cVi (ci := 4) (C0 := RX4) (T := TX4) (N := 8) (n := 0) (As := []) (rest := []) hF (tX4_readTwoGuests hG hF hX hQ hV S) gX4_readWorth_X4_readTwoGuests rfl (hX 31 (by decide)) rfl rfl ⟨rfl, by decide +kernel, by decide +kernel, by decide +kernel⟩ rfl (gRm_ok (by decide) (by decide)) rfl (Nat.le_of_ble_eq_true rfl) dX4_readWorth_1 (fun v_1 S_2 => ?_)
  refine g_if_eq (tgt := 17) dX4_readWorth_4 (by decide) (fun h_1 => ?_) (fun h_1 => ?_)
  · refine g_iconst (v := 0) dX4_readWorth_17 (by decide) ?_
    exact g_zret (by decide) dX4_readWorth_18 rfl
  · refine g_aload_n 0 dX4_readWorth_7 rfl ?_
    refine g_iconst (v := 0) dX4_readWorth_8 (by decide) ?_
    refine g_bipush (v := 9) dX4_readWorth_9 (by decide) ?_
    refine g_cVi (ci := 4) (C0 := RX4) (T := TX4) (N := 8) (n := 2) (As := [.int 0, .int 9]) (rest := []) hF (tX4_readNumber hG hF hX hQ hV 0 9 S_2) gX4_readWorth_X4_readNumber rfl (hX 31 (by decide)) rfl rfl ⟨rfl, by decide +kernel, by decide +kernel, by decide +kernel⟩ rfl (gRm_ok (by decide) (by decide)) rfl (Nat.le_of_ble_eq_true rfl) dX4_readWorth_11 (fun v_3 S_4 => ?_)
    refine g_if_ne (tgt := 19) dX4_readWorth_14 (by decide) (fun h_2 => ?_) (fun h_2 => ?_)
    · refine g_aload_n 0 dX4_readWorth_19 rfl ?_
      refine g_gC (fun h_3 => ?_)
      refine g_getM (ci := 4) (k0 := 1) (C0 := RX4) (T := TX4) (N := 8) (hX 31 (by decide)) rfl rfl hiX4_readWorth_4 (by decide) (List.mem_of_getElem? (i := 1) rfl) rfl dX4_readWorth_20 ?_
      refine g_aload_n 0 dX4_readWorth_23 rfl ?_
      refine g_getI (ci := 4) (k0 := 6) (C0 := RX4) (T := TX4) (N := 8) (hX 31 (by decide)) rfl rfl hiX4_readWorth_4 (by decide) (List.mem_of_getElem? (i := 2) rfl) rfl dX4_readWorth_24 ?_
      refine g_aload_n 0 dX4_readWorth_27 rfl ?_
      refine g_getI (ci := 4) (k0 := 7) (C0 := RX4) (T := TX4) (N := 8) (hX 31 (by decide)) rfl rfl hiX4_readWorth_4 (by decide) (List.mem_of_getElem? (i := 3) rfl) rfl dX4_readWorth_28 ?_
      refine g_iload_n 1 dX4_readWorth_31 rfl ?_
      refine g_aload_n 0 dX4_readWorth_32 rfl ?_
      refine g_getI (ci := 4) (k0 := 5) (C0 := RX4) (T := TX4) (N := 8) (hX 31 (by decide)) rfl rfl hiX4_readWorth_4 (by decide) (List.mem_of_getElem? (i := 4) rfl) rfl dX4_readWorth_33 ?_
      refine g_imul dX4_readWorth_36 ?_
      refine g_cVv (ci := 5) (C0 := RX5) (T := TX5) (N := 6) (n := 3) (As := [.int (gR S_4 31 6), .int (gR S_4 31 7), .int (a1 * (gR S_4 31 5))]) (rest := []) hF (tX5_setWorth hG hF hX hQ h_3 (gR S_4 31 6) (gR S_4 31 7) (a1 * (gR S_4 31 5)) S_4) gX4_readWorth_X5_setWorth rfl (gRu_m hX h_3) (gRu_l h_3) rfl ⟨rfl, by decide +kernel, by decide +kernel, by decide +kernel⟩ rfl (gRm_ok (by decide) (by decide)) rfl (Nat.le_of_ble_eq_true rfl) dX4_readWorth_37 (fun S_5 => ?_)
      refine g_aload_n 0 dX4_readWorth_40 rfl ?_
      refine g_cVi (ci := 4) (C0 := RX4) (T := TX4) (N := 8) (n := 0) (As := []) (rest := []) hF (tX4_readSemicolon hG hF hX hQ hV S_5) gX4_readWorth_X4_readSemicolon rfl (hX 31 (by decide)) rfl rfl ⟨rfl, by decide +kernel, by decide +kernel, by decide +kernel⟩ rfl (gRm_ok (by decide) (by decide)) rfl (Nat.le_of_ble_eq_true rfl) dX4_readWorth_41 (fun v_6 S_7 => ?_)
      refine g_gC (fun h_4 => ?_)
      exact g_zret (gBo_nar h_4) dX4_readWorth_44 rfl
    · refine g_iconst (v := 0) dX4_readWorth_17 (by decide) ?_
      exact g_zret (by decide) dX4_readWorth_18 rfl
set_option maxRecDepth 100000 in
set_option maxHeartbeats 4000000 in
theorem tX4_readWorth {G : gGG} {F : State → Heap → Prop} (hG : gOK G) (hF : gSb G F) (hX : gPX G) (hQ : gOQ G) (hV : gVX G F) (a1 : Int32) (S : gSt) : gCt G F yX4_readWorth wsX4_readWorth 9 [.ref (gad G 31), .int a1] S ((fX4_readWorth a1 S).map (fun x => (some (.int x.1), x.2))) := g_met (by decide +kernel) rfl (Nat.le_of_ble_eq_true rfl) (tX4_readWorth_L hG hF hX hQ hV a1 S)
/-! X4_readItem -/
theorem hiX4_readItem_4 : ∀ w ∈ u_ws RX4 TX4 8, w ∈ wsX4_readItem := fun _ hw => List.mem_cons_of_mem _ (List.mem_append_left _ (List.mem_append_left _ (List.mem_append_right _ (hw))))
set_option maxRecDepth 100000 in
set_option maxHeartbeats 4000000 in
theorem tX4_readItem_L {G : gGG} {F : State → Heap → Prop} (hG : gOK G) (hF : gSb G F) (hX : gPX G) (hQ : gOQ G) (hV : gVX G F) (a1 : Int32) (S : gSt) : Gof G F RX4 cX4_readItem 2 wsX4_readItem (some .boolean) (gRm 10) 0 0 (gQ G (fun x => (some (.int x.1), x.2))) 0 [(0, .ref (gad G 31)), (1, .int a1)] [] S (fX4_readItem a1 S) := by
  unfold fX4_readItem
  refine g_aload_n 0 dX4_readItem_0 rfl ?_
  refine g_getI (ci := 4) (k0 := 3) (C0 := RX4) (T := TX4) (N := 8) (hX 31 (by decide)) rfl rfl hiX4_readItem_4 (by decide) (List.mem_of_getElem? (i := 1) rfl) rfl dX4_readItem_1 ?_
  refine g_ite (c0 := (gR S 31 3) = 0) (fun h_1 => ?_) (fun h_1 => ?_)
  · refine g_tin (tgt := 64) dX4_readItem_4 (by rw [h_1]; decide) (by rw [h_1]; decide) (by rw [h_1]; rfl) (by decide) ?_
    refine g_iload_n 1 dX4_readItem_64 rfl ?_
    refine g_if_eq (tgt := 79) dX4_readItem_65 (by decide) (fun h_2 => ?_) (fun h_2 => ?_)
    · refine g_iconst (v := 0) dX4_readItem_79 (by decide) ?_
      exact g_zret (by decide) dX4_readItem_80 rfl
    · refine g_aload_n 0 dX4_readItem_68 rfl ?_
      refine g_cVi (ci := 4) (C0 := RX4) (T := TX4) (N := 8) (n := 0) (As := []) (rest := []) hF (tX4_readGuests hG hF hX hQ hV S) gX4_readItem_X4_readGuests rfl (hX 31 (by decide)) rfl rfl ⟨rfl, by decide +kernel, by decide +kernel, by decide +kernel⟩ rfl (gRm_ok (by decide) (by decide)) rfl (Nat.le_of_ble_eq_true rfl) dX4_readItem_69 (fun v_1 S_2 => ?_)
      refine g_if_eq (tgt := 79) dX4_readItem_72 (by decide) (fun h_3 => ?_) (fun h_3 => ?_)
      · refine g_iconst (v := 0) dX4_readItem_79 (by decide) ?_
        exact g_zret (by decide) dX4_readItem_80 rfl
      · refine g_iconst (v := 1) dX4_readItem_75 (by decide) ?_
        refine g_goto (tgt := 80) dX4_readItem_76 (by decide) ?_
        exact g_zret (by decide) dX4_readItem_80 rfl
  refine g_ite (c0 := (gR S 31 3) = 1) (fun h_4 => ?_) (fun h_4 => ?_)
  · refine g_tin (tgt := 81) dX4_readItem_4 (by rw [h_4]; decide) (by rw [h_4]; decide) (by rw [h_4]; rfl) (by decide) ?_
    refine g_aload_n 0 dX4_readItem_81 rfl ?_
    refine g_cVi (ci := 4) (C0 := RX4) (T := TX4) (N := 8) (n := 0) (As := []) (rest := []) hF (tX4_readHat hG hF hX hQ hV S) gX4_readItem_X4_readHat rfl (hX 31 (by decide)) rfl rfl ⟨rfl, by decide +kernel, by decide +kernel, by decide +kernel⟩ rfl (gRm_ok (by decide) (by decide)) rfl (Nat.le_of_ble_eq_true rfl) dX4_readItem_82 (fun v_3 S_4 => ?_)
    refine g_gC (fun h_5 => ?_)
    exact g_zret (gBo_nar h_5) dX4_readItem_85 rfl
  refine g_ite (c0 := (gR S 31 3) = 2) (fun h_6 => ?_) (fun h_6 => ?_)
  · refine g_tin (tgt := 86) dX4_readItem_4 (by rw [h_6]; decide) (by rw [h_6]; decide) (by rw [h_6]; rfl) (by decide) ?_
    refine g_aload_n 0 dX4_readItem_86 rfl ?_
    refine g_iconst (v := 0) dX4_readItem_87 (by decide) ?_
    refine g_cVi (ci := 4) (C0 := RX4) (T := TX4) (N := 8) (n := 1) (As := [.int 0]) (rest := []) hF (tX4_readNumberLaw hG hF hX hQ hV 0 S) gX4_readItem_X4_readNumberLaw rfl (hX 31 (by decide)) rfl rfl ⟨rfl, by decide +kernel, by decide +kernel, by decide +kernel⟩ rfl (gRm_ok (by decide) (by decide)) rfl (Nat.le_of_ble_eq_true rfl) dX4_readItem_88 (fun v_5 S_6 => ?_)
    refine g_gC (fun h_7 => ?_)
    exact g_zret (gBo_nar h_7) dX4_readItem_91 rfl
  refine g_ite (c0 := (gR S 31 3) = 3) (fun h_8 => ?_) (fun h_8 => ?_)
  · refine g_tin (tgt := 92) dX4_readItem_4 (by rw [h_8]; decide) (by rw [h_8]; decide) (by rw [h_8]; rfl) (by decide) ?_
    refine g_aload_n 0 dX4_readItem_92 rfl ?_
    refine g_iconst (v := 1) dX4_readItem_93 (by decide) ?_
    refine g_cVi (ci := 4) (C0 := RX4) (T := TX4) (N := 8) (n := 1) (As := [.int 1]) (rest := []) hF (tX4_readNumberLaw hG hF hX hQ hV 1 S) gX4_readItem_X4_readNumberLaw rfl (hX 31 (by decide)) rfl rfl ⟨rfl, by decide +kernel, by decide +kernel, by decide +kernel⟩ rfl (gRm_ok (by decide) (by decide)) rfl (Nat.le_of_ble_eq_true rfl) dX4_readItem_94 (fun v_7 S_8 => ?_)
    refine g_gC (fun h_9 => ?_)
    exact g_zret (gBo_nar h_9) dX4_readItem_97 rfl
  refine g_ite (c0 := (gR S 31 3) = 4) (fun h_10 => ?_) (fun h_10 => ?_)
  · refine g_tin (tgt := 98) dX4_readItem_4 (by rw [h_10]; decide) (by rw [h_10]; decide) (by rw [h_10]; rfl) (by decide) ?_
    refine g_aload_n 0 dX4_readItem_98 rfl ?_
    refine g_iconst (v := 2) dX4_readItem_99 (by decide) ?_
    refine g_cVi (ci := 4) (C0 := RX4) (T := TX4) (N := 8) (n := 1) (As := [.int 2]) (rest := []) hF (tX4_readNumberLaw hG hF hX hQ hV 2 S) gX4_readItem_X4_readNumberLaw rfl (hX 31 (by decide)) rfl rfl ⟨rfl, by decide +kernel, by decide +kernel, by decide +kernel⟩ rfl (gRm_ok (by decide) (by decide)) rfl (Nat.le_of_ble_eq_true rfl) dX4_readItem_100 (fun v_9 S_10 => ?_)
    refine g_gC (fun h_11 => ?_)
    exact g_zret (gBo_nar h_11) dX4_readItem_103 rfl
  refine g_ite (c0 := (gR S 31 3) = 5) (fun h_12 => ?_) (fun h_12 => ?_)
  · refine g_tin (tgt := 104) dX4_readItem_4 (by rw [h_12]; decide) (by rw [h_12]; decide) (by rw [h_12]; rfl) (by decide) ?_
    refine g_aload_n 0 dX4_readItem_104 rfl ?_
    refine g_iconst (v := 3) dX4_readItem_105 (by decide) ?_
    refine g_cVi (ci := 4) (C0 := RX4) (T := TX4) (N := 8) (n := 1) (As := [.int 3]) (rest := []) hF (tX4_readPlainLaw hG hF hX hQ hV 3 S) gX4_readItem_X4_readPlainLaw rfl (hX 31 (by decide)) rfl rfl ⟨rfl, by decide +kernel, by decide +kernel, by decide +kernel⟩ rfl (gRm_ok (by decide) (by decide)) rfl (Nat.le_of_ble_eq_true rfl) dX4_readItem_106 (fun v_11 S_12 => ?_)
    refine g_gC (fun h_13 => ?_)
    exact g_zret (gBo_nar h_13) dX4_readItem_109 rfl
  refine g_ite (c0 := (gR S 31 3) = 6) (fun h_14 => ?_) (fun h_14 => ?_)
  · refine g_tin (tgt := 110) dX4_readItem_4 (by rw [h_14]; decide) (by rw [h_14]; decide) (by rw [h_14]; rfl) (by decide) ?_
    refine g_aload_n 0 dX4_readItem_110 rfl ?_
    refine g_iconst (v := 4) dX4_readItem_111 (by decide) ?_
    refine g_cVi (ci := 4) (C0 := RX4) (T := TX4) (N := 8) (n := 1) (As := [.int 4]) (rest := []) hF (tX4_readPlainLaw hG hF hX hQ hV 4 S) gX4_readItem_X4_readPlainLaw rfl (hX 31 (by decide)) rfl rfl ⟨rfl, by decide +kernel, by decide +kernel, by decide +kernel⟩ rfl (gRm_ok (by decide) (by decide)) rfl (Nat.le_of_ble_eq_true rfl) dX4_readItem_112 (fun v_13 S_14 => ?_)
    refine g_gC (fun h_15 => ?_)
    exact g_zret (gBo_nar h_15) dX4_readItem_115 rfl
  refine g_ite (c0 := (gR S 31 3) = 7) (fun h_16 => ?_) (fun h_16 => ?_)
  · refine g_tin (tgt := 116) dX4_readItem_4 (by rw [h_16]; decide) (by rw [h_16]; decide) (by rw [h_16]; rfl) (by decide) ?_
    refine g_aload_n 0 dX4_readItem_116 rfl ?_
    refine g_cVi (ci := 4) (C0 := RX4) (T := TX4) (N := 8) (n := 0) (As := []) (rest := []) hF (tX4_readTogether hG hF hX hQ hV S) gX4_readItem_X4_readTogether rfl (hX 31 (by decide)) rfl rfl ⟨rfl, by decide +kernel, by decide +kernel, by decide +kernel⟩ rfl (gRm_ok (by decide) (by decide)) rfl (Nat.le_of_ble_eq_true rfl) dX4_readItem_117 (fun v_15 S_16 => ?_)
    refine g_gC (fun h_17 => ?_)
    exact g_zret (gBo_nar h_17) dX4_readItem_120 rfl
  refine g_ite (c0 := (gR S 31 3) = 8) (fun h_18 => ?_) (fun h_18 => ?_)
  · refine g_tin (tgt := 121) dX4_readItem_4 (by rw [h_18]; decide) (by rw [h_18]; decide) (by rw [h_18]; rfl) (by decide) ?_
    refine g_aload_n 0 dX4_readItem_121 rfl ?_
    refine g_cVi (ci := 4) (C0 := RX4) (T := TX4) (N := 8) (n := 0) (As := []) (rest := []) hF (tX4_readApart hG hF hX hQ hV S) gX4_readItem_X4_readApart rfl (hX 31 (by decide)) rfl rfl ⟨rfl, by decide +kernel, by decide +kernel, by decide +kernel⟩ rfl (gRm_ok (by decide) (by decide)) rfl (Nat.le_of_ble_eq_true rfl) dX4_readItem_122 (fun v_17 S_18 => ?_)
    refine g_gC (fun h_19 => ?_)
    exact g_zret (gBo_nar h_19) dX4_readItem_125 rfl
  refine g_ite (c0 := (gR S 31 3) = 9) (fun h_20 => ?_) (fun h_20 => ?_)
  · refine g_tin (tgt := 126) dX4_readItem_4 (by rw [h_20]; decide) (by rw [h_20]; decide) (by rw [h_20]; rfl) (by decide) ?_
    refine g_aload_n 0 dX4_readItem_126 rfl ?_
    refine g_iconst (v := 1) dX4_readItem_127 (by decide) ?_
    refine g_cVi (ci := 4) (C0 := RX4) (T := TX4) (N := 8) (n := 1) (As := [.int 1]) (rest := []) hF (tX4_readWorth hG hF hX hQ hV 1 S) gX4_readItem_X4_readWorth rfl (hX 31 (by decide)) rfl rfl ⟨rfl, by decide +kernel, by decide +kernel, by decide +kernel⟩ rfl (gRm_ok (by decide) (by decide)) rfl (Nat.le_of_ble_eq_true rfl) dX4_readItem_128 (fun v_19 S_20 => ?_)
    refine g_gC (fun h_21 => ?_)
    exact g_zret (gBo_nar h_21) dX4_readItem_131 rfl
  refine g_ite (c0 := (gR S 31 3) = 10) (fun h_22 => ?_) (fun h_22 => ?_)
  · refine g_tin (tgt := 132) dX4_readItem_4 (by rw [h_22]; decide) (by rw [h_22]; decide) (by rw [h_22]; rfl) (by decide) ?_
    refine g_aload_n 0 dX4_readItem_132 rfl ?_
    refine g_iconst (v := (-1)) dX4_readItem_133 (by decide) ?_
    refine g_cVi (ci := 4) (C0 := RX4) (T := TX4) (N := 8) (n := 1) (As := [.int (-1)]) (rest := []) hF (tX4_readWorth hG hF hX hQ hV (-1) S) gX4_readItem_X4_readWorth rfl (hX 31 (by decide)) rfl rfl ⟨rfl, by decide +kernel, by decide +kernel, by decide +kernel⟩ rfl (gRm_ok (by decide) (by decide)) rfl (Nat.le_of_ble_eq_true rfl) dX4_readItem_134 (fun v_21 S_22 => ?_)
    refine g_gC (fun h_23 => ?_)
    exact g_zret (gBo_nar h_23) dX4_readItem_137 rfl
  refine g_tout (tgt := 138) dX4_readItem_4 (by have nh_1 := lv_neT (a := 0) h_1 (by decide); have nh_4 := lv_neT (a := 1) h_4 (by decide); have nh_6 := lv_neT (a := 2) h_6 (by decide); have nh_8 := lv_neT (a := 3) h_8 (by decide); have nh_10 := lv_neT (a := 4) h_10 (by decide); have nh_12 := lv_neT (a := 5) h_12 (by decide); have nh_14 := lv_neT (a := 6) h_14 (by decide); have nh_16 := lv_neT (a := 7) h_16 (by decide); have nh_18 := lv_neT (a := 8) h_18 (by decide); have nh_20 := lv_neT (a := 9) h_20 (by decide); have nh_22 := lv_neT (a := 10) h_22 (by decide); omega) (by decide) ?_
  refine g_iconst (v := 0) dX4_readItem_138 (by decide) ?_
  exact g_zret (by decide) dX4_readItem_139 rfl
set_option maxRecDepth 100000 in
set_option maxHeartbeats 4000000 in
theorem tX4_readItem {G : gGG} {F : State → Heap → Prop} (hG : gOK G) (hF : gSb G F) (hX : gPX G) (hQ : gOQ G) (hV : gVX G F) (a1 : Int32) (S : gSt) : gCt G F yX4_readItem wsX4_readItem 10 [.ref (gad G 31), .int a1] S ((fX4_readItem a1 S).map (fun x => (some (.int x.1), x.2))) := g_met (by decide +kernel) rfl (Nat.le_of_ble_eq_true rfl) (tX4_readItem_L hG hF hX hQ hV a1 S)
/-! X4_readInto -/
theorem hiX4_readInto_4 : ∀ w ∈ u_ws RX4 TX4 8, w ∈ wsX4_readInto := fun _ hw => List.mem_cons_of_mem _ (List.mem_append_left _ (List.mem_append_left _ (List.mem_append_right _ (hw))))
set_option maxRecDepth 100000 in
set_option maxHeartbeats 4000000 in
theorem tX4_readInto_L49 {G : gGG} {F : State → Heap → Prop} (hG : gOK G) (hF : gSb G F) (hX : gPX G) (hQ : gOQ G) (hV : gVX G F) {a1 : Nat} (h1 : gIsRu a1 = true) (k23 : Int32 → gSt → Option (Int32 × gSt)) (hk23 : ∀ (x2 : Int32) (S : gSt), Gof G F RX4 cX4_readInto 3 wsX4_readInto (some .int) (gRm 11) 0 0 (gQ G (fun x => (some (.int x.1), x.2))) 23 [(0, .ref (gad G 31)), (2, .int x2)] [] S (k23 x2 S)) (x2 : Int32) (s1 : Int32) (S : gSt) : Gof G F RX4 cX4_readInto 3 wsX4_readInto (some .int) (gRm 11) 0 0 (gQ G (fun x => (some (.int x.1), x.2))) 49 [(0, .ref (gad G 31)), (2, .int x2)] [.int s1, .ref (gad G 31)] S (fX4_readInto_L49 k23 a1 x2 s1 S) := by
  unfold fX4_readInto_L49
  refine g_cVi (ci := 4) (C0 := RX4) (T := TX4) (N := 8) (n := 1) (As := [.int s1]) (rest := []) hF (tX4_readItem hG hF hX hQ hV s1 S) gX4_readInto_X4_readItem rfl (hX 31 (by decide)) rfl rfl ⟨rfl, by decide +kernel, by decide +kernel, by decide +kernel⟩ rfl (gRm_ok (by decide) (by decide)) rfl (Nat.le_of_ble_eq_true rfl) dX4_readInto_49 (fun v_1 S_2 => ?_)
  refine g_if_ne (tgt := 63) dX4_readInto_52 (by decide) (fun h_1 => ?_) (fun h_1 => ?_)
  · refine g_iinc 1 (v := (x2 + 1)) (env' := [(2, .int (x2 + 1)), (0, .ref (gad G 31))]) dX4_readInto_63 rfl rfl (by decide) rfl ?_
    refine g_aload_n 1 dX4_readInto_66 rfl ?_
    refine g_cVv (ci := 4) (C0 := RX4) (T := TX4) (N := 8) (n := 0) (As := []) (rest := []) hF (tX4_advance hG hF hX hQ hV S_2) gX4_readInto_X4_advance rfl (hX 31 (by decide)) rfl rfl ⟨rfl, by decide +kernel, by decide +kernel, by decide +kernel⟩ rfl (gRm_ok (by decide) (by decide)) rfl (Nat.le_of_ble_eq_true rfl) dX4_readInto_67 (fun S_3 => ?_)
    refine g_goto (tgt := 23) dX4_readInto_70 (by decide) ?_
    refine g_env (env' := [(0, .ref (gad G 31)), (2, .int (x2 + 1))]) [1, 0] rfl ?_
    exact hk23 (x2 + 1) S_3
  · refine g_bipush (v := (-10)) dX4_readInto_55 (by decide) ?_
    refine g_aload_n 0 dX4_readInto_57 rfl ?_
    refine g_getI (ci := 4) (k0 := 4) (C0 := RX4) (T := TX4) (N := 8) (hX 31 (by decide)) rfl rfl hiX4_readInto_4 (by decide) (List.mem_of_getElem? (i := 4) rfl) rfl dX4_readInto_58 ?_
    refine g_isub dX4_readInto_61 ?_
    exact g_iret dX4_readInto_62 rfl
set_option maxRecDepth 100000 in
set_option maxHeartbeats 4000000 in
theorem tX4_readInto_L23 {G : gGG} {F : State → Heap → Prop} (hG : gOK G) (hF : gSb G F) (hX : gPX G) (hQ : gOQ G) (hV : gVX G F) {a1 : Nat} (h1 : gIsRu a1 = true) : ∀ (n : Nat) (x2 : Int32) (S : gSt), Gof G F RX4 cX4_readInto 3 wsX4_readInto (some .int) (gRm 11) 0 0 (gQ G (fun x => (some (.int x.1), x.2))) 23 [(0, .ref (gad G 31)), (2, .int x2)] [] S (fX4_readInto_L23 a1 n x2 S) := by
  intro n
  induction n with
  | zero => intro x2 S; exact g_none
  | succ n ih =>
    intro x2 S
    unfold fX4_readInto_L23
    refine g_aload_n 0 dX4_readInto_23 rfl ?_
    refine g_getI (ci := 4) (k0 := 3) (C0 := RX4) (T := TX4) (N := 8) (hX 31 (by decide)) rfl rfl hiX4_readInto_4 (by decide) (List.mem_of_getElem? (i := 3) rfl) rfl dX4_readInto_24 ?_
    refine g_bipush (v := 13) dX4_readInto_27 (by decide) ?_
    refine g_icmp_eq (tgt := 73) dX4_readInto_29 (by decide) (fun h_1 => ?_) (fun h_1 => ?_)
    · refine g_iload_n 1 dX4_readInto_73 rfl ?_
      exact g_iret dX4_readInto_74 rfl
    · refine g_iload_n 1 dX4_readInto_32 rfl ?_
      refine g_sipush (v := 300) dX4_readInto_33 (by decide) ?_
      refine g_icmp_ge (tgt := 73) dX4_readInto_36 (by decide) (fun h_2 => ?_) (fun h_2 => ?_)
      · refine g_iload_n 1 dX4_readInto_73 rfl ?_
        exact g_iret dX4_readInto_74 rfl
      · refine g_aload_n 0 dX4_readInto_39 rfl ?_
        refine g_iload_n 1 dX4_readInto_40 rfl ?_
        refine g_if_ne (tgt := 48) dX4_readInto_41 (by decide) (fun h_3 => ?_) (fun h_3 => ?_)
        · refine g_iconst (v := 0) dX4_readInto_48 (by decide) ?_
          exact tX4_readInto_L49 hG hF hX hQ hV h1 (fX4_readInto_L23 a1 n) ih x2 0 S
        · refine g_iconst (v := 1) dX4_readInto_44 (by decide) ?_
          refine g_goto (tgt := 49) dX4_readInto_45 (by decide) ?_
          exact tX4_readInto_L49 hG hF hX hQ hV h1 (fX4_readInto_L23 a1 n) ih x2 1 S
set_option maxRecDepth 100000 in
set_option maxHeartbeats 4000000 in
theorem tX4_readInto_L {G : gGG} {F : State → Heap → Prop} (hG : gOK G) (hF : gSb G F) (hX : gPX G) (hQ : gOQ G) (hV : gVX G F) {a1 : Nat} (h1 : gIsRu a1 = true) (S : gSt) : Gof G F RX4 cX4_readInto 3 wsX4_readInto (some .int) (gRm 11) 0 0 (gQ G (fun x => (some (.int x.1), x.2))) 0 [(0, .ref (gad G 31)), (1, .ref (gad G a1))] [] S (fX4_readInto a1 S) := by
  unfold fX4_readInto
  refine g_aload_n 0 dX4_readInto_0 rfl ?_
  refine g_aload_n 1 dX4_readInto_1 rfl ?_
  refine g_putM hG (ci := 4) (k0 := 1) (C0 := RX4) (T := TX4) (N := 8) (hX 31 (by decide)) rfl rfl hiX4_readInto_4 (by decide) (List.mem_of_getElem? (i := 1) rfl) tyX4 tyX4_ok nmX4 rfl (gRu_lt h1) rfl rfl rfl dX4_readInto_2 ?_
  refine g_nS (fun S_1 => ?_)
  refine g_aload_n 0 dX4_readInto_5 rfl ?_
  refine g_gC (fun h_1 => ?_)
  refine g_getM (ci := 4) (k0 := 1) (C0 := RX4) (T := TX4) (N := 8) (hX 31 (by decide)) rfl rfl hiX4_readInto_4 (by decide) (List.mem_of_getElem? (i := 1) rfl) rfl dX4_readInto_6 ?_
  refine g_cVv (ci := 5) (C0 := RX5) (T := TX5) (N := 6) (n := 0) (As := []) (rest := []) hF (tX5_reset hG hF hX hQ h_1 S_1) gX4_readInto_X5_reset rfl (gRu_m hX h_1) (gRu_l h_1) rfl ⟨rfl, by decide +kernel, by decide +kernel, by decide +kernel⟩ rfl (gRm_ok (by decide) (by decide)) rfl (Nat.le_of_ble_eq_true rfl) dX4_readInto_9 (fun S_2 => ?_)
  refine g_aload_n 0 dX4_readInto_12 rfl ?_
  refine g_iconst (v := 0) dX4_readInto_13 (by decide) ?_
  refine g_putI hG (ci := 4) (k0 := 2) (C0 := RX4) (T := TX4) (N := 8) (hX 31 (by decide)) rfl rfl hiX4_readInto_4 (by decide) (List.mem_of_getElem? (i := 2) rfl) tyX4 tyX4_ok nmX4 rfl rfl rfl rfl dX4_readInto_14 ?_
  refine g_nS (fun S_3 => ?_)
  refine g_iconst (v := 0) dX4_readInto_17 (by decide) ?_
  refine g_istore_n (i := 2) (env' := [(2, .int 0), (0, .ref (gad G 31)), (1, .ref (gad G a1))]) dX4_readInto_18 rfl (by decide) rfl ?_
  refine g_aload_n 1 dX4_readInto_19 rfl ?_
  refine g_cVv (ci := 4) (C0 := RX4) (T := TX4) (N := 8) (n := 0) (As := []) (rest := []) hF (tX4_advance hG hF hX hQ hV S_3) gX4_readInto_X4_advance rfl (hX 31 (by decide)) rfl rfl ⟨rfl, by decide +kernel, by decide +kernel, by decide +kernel⟩ rfl (gRm_ok (by decide) (by decide)) rfl (Nat.le_of_ble_eq_true rfl) dX4_readInto_20 (fun S_4 => ?_)
  refine g_env (env' := [(0, .ref (gad G 31)), (2, .int 0)]) [1, 0] rfl ?_
  exact tX4_readInto_L23 hG hF hX hQ hV h1 gFU 0 S_4
set_option maxRecDepth 100000 in
set_option maxHeartbeats 4000000 in
theorem tX4_readInto {G : gGG} {F : State → Heap → Prop} (hG : gOK G) (hF : gSb G F) (hX : gPX G) (hQ : gOQ G) (hV : gVX G F) {a1 : Nat} (h1 : gIsRu a1 = true) (S : gSt) : gCt G F yX4_readInto wsX4_readInto 11 [.ref (gad G 31), .ref (gad G a1)] S ((fX4_readInto a1 S).map (fun x => (some (.int x.1), x.2))) := g_met (by decide +kernel) rfl (Nat.le_of_ble_eq_true rfl) (tX4_readInto_L hG hF hX hQ hV h1 S)
