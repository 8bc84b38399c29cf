/-! J6_bitCount_0f7a4 -/
set_option maxRecDepth 100000 in
set_option maxHeartbeats 4000000 in
theorem tJ6_bitCount_0f7a4_L {G : gGG} {F : State → Heap → Prop}  (a0 : Int32) (S : gSt) : Gof G F RJ6 cJ6_bitCount_0f7a4 1 wsJ6_bitCount_0f7a4 (some .int) (gRm 0) 0 0 (gQ G (fun x => (some (.int x), S))) 0 [(0, .int a0)] [] S (fJ6_bitCount_0f7a4 a0 S) := by
  unfold fJ6_bitCount_0f7a4
  refine g_iload_n 0 dJ6_bitCount_0f7a4_0 rfl ?_
  refine g_iload_n 0 dJ6_bitCount_0f7a4_1 rfl ?_
  refine g_iconst (v := 1) dJ6_bitCount_0f7a4_2 (by decide) ?_
  refine g_iushr dJ6_bitCount_0f7a4_3 ?_
  refine g_ldcw (List.mem_of_getElem? (i := 1) rfl) dJ6_bitCount_0f7a4_4 ?_
  refine g_iand dJ6_bitCount_0f7a4_7 ?_
  refine g_isub dJ6_bitCount_0f7a4_8 ?_
  refine g_nI (fun v_1 => ?_)
  refine g_istore_n (i := 0) (env' := [(0, .int v_1)]) dJ6_bitCount_0f7a4_9 rfl (by decide) rfl ?_
  refine g_iload_n 0 dJ6_bitCount_0f7a4_10 rfl ?_
  refine g_ldcw (List.mem_of_getElem? (i := 2) rfl) dJ6_bitCount_0f7a4_11 ?_
  refine g_iand dJ6_bitCount_0f7a4_14 ?_
  refine g_iload_n 0 dJ6_bitCount_0f7a4_15 rfl ?_
  refine g_iconst (v := 2) dJ6_bitCount_0f7a4_16 (by decide) ?_
  refine g_iushr dJ6_bitCount_0f7a4_17 ?_
  refine g_ldcw (List.mem_of_getElem? (i := 2) rfl) dJ6_bitCount_0f7a4_18 ?_
  refine g_iand dJ6_bitCount_0f7a4_21 ?_
  refine g_iadd dJ6_bitCount_0f7a4_22 ?_
  refine g_nI (fun v_2 => ?_)
  refine g_istore_n (i := 0) (env' := [(0, .int v_2)]) dJ6_bitCount_0f7a4_23 rfl (by decide) rfl ?_
  refine g_iload_n 0 dJ6_bitCount_0f7a4_24 rfl ?_
  refine g_iload_n 0 dJ6_bitCount_0f7a4_25 rfl ?_
  refine g_iconst (v := 4) dJ6_bitCount_0f7a4_26 (by decide) ?_
  refine g_iushr dJ6_bitCount_0f7a4_27 ?_
  refine g_iadd dJ6_bitCount_0f7a4_28 ?_
  refine g_ldcw (List.mem_of_getElem? (i := 3) rfl) dJ6_bitCount_0f7a4_29 ?_
  refine g_iand dJ6_bitCount_0f7a4_32 ?_
  refine g_nI (fun v_3 => ?_)
  refine g_istore_n (i := 0) (env' := [(0, .int v_3)]) dJ6_bitCount_0f7a4_33 rfl (by decide) rfl ?_
  refine g_iload_n 0 dJ6_bitCount_0f7a4_34 rfl ?_
  refine g_iload_n 0 dJ6_bitCount_0f7a4_35 rfl ?_
  refine g_bipush (v := 8) dJ6_bitCount_0f7a4_36 (by decide) ?_
  refine g_iushr dJ6_bitCount_0f7a4_38 ?_
  refine g_iadd dJ6_bitCount_0f7a4_39 ?_
  refine g_nI (fun v_4 => ?_)
  refine g_istore_n (i := 0) (env' := [(0, .int v_4)]) dJ6_bitCount_0f7a4_40 rfl (by decide) rfl ?_
  refine g_iload_n 0 dJ6_bitCount_0f7a4_41 rfl ?_
  refine g_iload_n 0 dJ6_bitCount_0f7a4_42 rfl ?_
  refine g_bipush (v := 16) dJ6_bitCount_0f7a4_43 (by decide) ?_
  refine g_iushr dJ6_bitCount_0f7a4_45 ?_
  refine g_iadd dJ6_bitCount_0f7a4_46 ?_
  refine g_nI (fun v_5 => ?_)
  refine g_istore_n (i := 0) (env' := [(0, .int v_5)]) dJ6_bitCount_0f7a4_47 rfl (by decide) rfl ?_
  refine g_iload_n 0 dJ6_bitCount_0f7a4_48 rfl ?_
  refine g_bipush (v := 63) dJ6_bitCount_0f7a4_49 (by decide) ?_
  refine g_iand dJ6_bitCount_0f7a4_51 ?_
  exact g_iret dJ6_bitCount_0f7a4_52 rfl
set_option maxRecDepth 100000 in
set_option maxHeartbeats 4000000 in
theorem tJ6_bitCount_0f7a4 {G : gGG} {F : State → Heap → Prop}  (a0 : Int32) (S : gSt) : gCt G F yJ6_bitCount_0f7a4 wsJ6_bitCount_0f7a4 0 [.int a0] S ((fJ6_bitCount_0f7a4 a0 S).map (fun x => (some (.int x), S))) := g_met (by decide +kernel) rfl (Nat.le_of_ble_eq_true rfl) (tJ6_bitCount_0f7a4_L  a0 S)
/-! J6_numberOfTrailingZeros_0f7a4 -/
set_option maxRecDepth 100000 in
set_option maxHeartbeats 4000000 in
theorem tJ6_numberOfTrailingZeros_0f7a4_L62 {G : gGG} {F : State → Heap → Prop}  (S : gSt) (x0 : Int32) (x1 : Int32) : Gof G F RJ6 cJ6_numberOfTrailingZeros_0f7a4 2 wsJ6_numberOfTrailingZeros_0f7a4 (some .int) (gRm 0) 0 0 (gQ G (fun x => (some (.int x), S))) 62 [(0, .int x0), (1, .int x1)] [] S (fJ6_numberOfTrailingZeros_0f7a4_L62 S x0 x1) := by
  unfold fJ6_numberOfTrailingZeros_0f7a4_L62
  refine g_iload_n 0 dJ6_numberOfTrailingZeros_0f7a4_62 rfl ?_
  refine g_iconst (v := 4) dJ6_numberOfTrailingZeros_0f7a4_63 (by decide) ?_
  refine g_icmp_le (tgt := 74) dJ6_numberOfTrailingZeros_0f7a4_64 (by decide) (fun h_1 => ?_) (fun h_1 => ?_)
  · refine g_iload_n 1 dJ6_numberOfTrailingZeros_0f7a4_74 rfl ?_
    refine g_iload_n 0 dJ6_numberOfTrailingZeros_0f7a4_75 rfl ?_
    refine g_iconst (v := 1) dJ6_numberOfTrailingZeros_0f7a4_76 (by decide) ?_
    refine g_iushr dJ6_numberOfTrailingZeros_0f7a4_77 ?_
    refine g_iadd dJ6_numberOfTrailingZeros_0f7a4_78 ?_
    exact g_iret dJ6_numberOfTrailingZeros_0f7a4_79 rfl
  · refine g_iinc 1 (v := (x1 + 2)) (env' := [(1, .int (x1 + 2)), (0, .int x0)]) dJ6_numberOfTrailingZeros_0f7a4_67 rfl rfl (by decide) rfl ?_
    refine g_iload_n 1 dJ6_numberOfTrailingZeros_0f7a4_70 rfl ?_
    refine g_iconst (v := 2) dJ6_numberOfTrailingZeros_0f7a4_71 (by decide) ?_
    refine g_iushr dJ6_numberOfTrailingZeros_0f7a4_72 ?_
    refine g_nI (fun v_1 => ?_)
    refine g_istore_n (i := 0) (env' := [(0, .int v_1), (1, .int (x1 + 2))]) dJ6_numberOfTrailingZeros_0f7a4_73 rfl (by decide) rfl ?_
    refine g_iload_n 1 dJ6_numberOfTrailingZeros_0f7a4_74 rfl ?_
    refine g_iload_n 0 dJ6_numberOfTrailingZeros_0f7a4_75 rfl ?_
    refine g_iconst (v := 1) dJ6_numberOfTrailingZeros_0f7a4_76 (by decide) ?_
    refine g_iushr dJ6_numberOfTrailingZeros_0f7a4_77 ?_
    refine g_iadd dJ6_numberOfTrailingZeros_0f7a4_78 ?_
    exact g_iret dJ6_numberOfTrailingZeros_0f7a4_79 rfl
set_option maxRecDepth 100000 in
set_option maxHeartbeats 4000000 in
theorem tJ6_numberOfTrailingZeros_0f7a4_L49 {G : gGG} {F : State → Heap → Prop}  (S : gSt) (x0 : Int32) (x1 : Int32) : Gof G F RJ6 cJ6_numberOfTrailingZeros_0f7a4 2 wsJ6_numberOfTrailingZeros_0f7a4 (some .int) (gRm 0) 0 0 (gQ G (fun x => (some (.int x), S))) 49 [(0, .int x0), (1, .int x1)] [] S (fJ6_numberOfTrailingZeros_0f7a4_L49 S x0 x1) := by
  unfold fJ6_numberOfTrailingZeros_0f7a4_L49
  refine g_iload_n 0 dJ6_numberOfTrailingZeros_0f7a4_49 rfl ?_
  refine g_bipush (v := 16) dJ6_numberOfTrailingZeros_0f7a4_50 (by decide) ?_
  refine g_icmp_le (tgt := 62) dJ6_numberOfTrailingZeros_0f7a4_52 (by decide) (fun h_1 => ?_) (fun h_1 => ?_)
  · exact tJ6_numberOfTrailingZeros_0f7a4_L62  S x0 x1
  · refine g_iinc 1 (v := (x1 + 4)) (env' := [(1, .int (x1 + 4)), (0, .int x0)]) dJ6_numberOfTrailingZeros_0f7a4_55 rfl rfl (by decide) rfl ?_
    refine g_iload_n 1 dJ6_numberOfTrailingZeros_0f7a4_58 rfl ?_
    refine g_iconst (v := 4) dJ6_numberOfTrailingZeros_0f7a4_59 (by decide) ?_
    refine g_iushr dJ6_numberOfTrailingZeros_0f7a4_60 ?_
    refine g_nI (fun v_1 => ?_)
    refine g_istore_n (i := 0) (env' := [(0, .int v_1), (1, .int (x1 + 4))]) dJ6_numberOfTrailingZeros_0f7a4_61 rfl (by decide) rfl ?_
    exact tJ6_numberOfTrailingZeros_0f7a4_L62  S v_1 (x1 + 4)
set_option maxRecDepth 100000 in
set_option maxHeartbeats 4000000 in
theorem tJ6_numberOfTrailingZeros_0f7a4_L34 {G : gGG} {F : State → Heap → Prop}  (S : gSt) (x0 : Int32) (x1 : Int32) : Gof G F RJ6 cJ6_numberOfTrailingZeros_0f7a4 2 wsJ6_numberOfTrailingZeros_0f7a4 (some .int) (gRm 0) 0 0 (gQ G (fun x => (some (.int x), S))) 34 [(0, .int x0), (1, .int x1)] [] S (fJ6_numberOfTrailingZeros_0f7a4_L34 S x0 x1) := by
  unfold fJ6_numberOfTrailingZeros_0f7a4_L34
  refine g_iload_n 0 dJ6_numberOfTrailingZeros_0f7a4_34 rfl ?_
  refine g_sipush (v := 256) dJ6_numberOfTrailingZeros_0f7a4_35 (by decide) ?_
  refine g_icmp_le (tgt := 49) dJ6_numberOfTrailingZeros_0f7a4_38 (by decide) (fun h_1 => ?_) (fun h_1 => ?_)
  · exact tJ6_numberOfTrailingZeros_0f7a4_L49  S x0 x1
  · refine g_iinc 1 (v := (x1 + 8)) (env' := [(1, .int (x1 + 8)), (0, .int x0)]) dJ6_numberOfTrailingZeros_0f7a4_41 rfl rfl (by decide) rfl ?_
    refine g_iload_n 1 dJ6_numberOfTrailingZeros_0f7a4_44 rfl ?_
    refine g_bipush (v := 8) dJ6_numberOfTrailingZeros_0f7a4_45 (by decide) ?_
    refine g_iushr dJ6_numberOfTrailingZeros_0f7a4_47 ?_
    refine g_nI (fun v_1 => ?_)
    refine g_istore_n (i := 0) (env' := [(0, .int v_1), (1, .int (x1 + 8))]) dJ6_numberOfTrailingZeros_0f7a4_48 rfl (by decide) rfl ?_
    exact tJ6_numberOfTrailingZeros_0f7a4_L49  S v_1 (x1 + 8)
set_option maxRecDepth 100000 in
set_option maxHeartbeats 4000000 in
theorem tJ6_numberOfTrailingZeros_0f7a4_L {G : gGG} {F : State → Heap → Prop}  (a0 : Int32) (S : gSt) : Gof G F RJ6 cJ6_numberOfTrailingZeros_0f7a4 2 wsJ6_numberOfTrailingZeros_0f7a4 (some .int) (gRm 0) 0 0 (gQ G (fun x => (some (.int x), S))) 0 [(0, .int a0)] [] S (fJ6_numberOfTrailingZeros_0f7a4 a0 S) := by
  unfold fJ6_numberOfTrailingZeros_0f7a4
  refine g_iload_n 0 dJ6_numberOfTrailingZeros_0f7a4_0 rfl ?_
  refine g_iconst (v := (-1)) dJ6_numberOfTrailingZeros_0f7a4_1 (by decide) ?_
  refine g_ixor dJ6_numberOfTrailingZeros_0f7a4_2 ?_
  refine g_iload_n 0 dJ6_numberOfTrailingZeros_0f7a4_3 rfl ?_
  refine g_iconst (v := 1) dJ6_numberOfTrailingZeros_0f7a4_4 (by decide) ?_
  refine g_isub dJ6_numberOfTrailingZeros_0f7a4_5 ?_
  refine g_iand dJ6_numberOfTrailingZeros_0f7a4_6 ?_
  refine g_nI (fun v_1 => ?_)
  refine g_istore_n (i := 0) (env' := [(0, .int v_1)]) dJ6_numberOfTrailingZeros_0f7a4_7 rfl (by decide) rfl ?_
  refine g_iload_n 0 dJ6_numberOfTrailingZeros_0f7a4_8 rfl ?_
  refine g_if_gt (tgt := 17) dJ6_numberOfTrailingZeros_0f7a4_9 (by decide) (fun h_1 => ?_) (fun h_1 => ?_)
  · refine g_iconst (v := 1) dJ6_numberOfTrailingZeros_0f7a4_17 (by decide) ?_
    refine g_istore_n (i := 1) (env' := [(1, .int 1), (0, .int v_1)]) dJ6_numberOfTrailingZeros_0f7a4_18 rfl (by decide) rfl ?_
    refine g_iload_n 1 dJ6_numberOfTrailingZeros_0f7a4_19 rfl ?_
    refine g_ldcw (List.mem_of_getElem? (i := 1) rfl) dJ6_numberOfTrailingZeros_0f7a4_20 ?_
    refine g_icmp_le (tgt := 34) dJ6_numberOfTrailingZeros_0f7a4_23 (by decide) (fun h_2 => ?_) (fun h_2 => ?_)
    · refine g_env (env' := [(0, .int v_1), (1, .int 1)]) [1, 0] rfl ?_
      exact tJ6_numberOfTrailingZeros_0f7a4_L34  S v_1 1
    · refine g_iinc 0 (v := (1 + 16)) (env' := [(1, .int (1 + 16)), (0, .int v_1)]) dJ6_numberOfTrailingZeros_0f7a4_26 rfl rfl (by decide) rfl ?_
      refine g_iload_n 1 dJ6_numberOfTrailingZeros_0f7a4_29 rfl ?_
      refine g_bipush (v := 16) dJ6_numberOfTrailingZeros_0f7a4_30 (by decide) ?_
      refine g_iushr dJ6_numberOfTrailingZeros_0f7a4_32 ?_
      refine g_nI (fun v_2 => ?_)
      refine g_istore_n (i := 0) (env' := [(0, .int v_2), (1, .int (1 + 16))]) dJ6_numberOfTrailingZeros_0f7a4_33 rfl (by decide) rfl ?_
      exact tJ6_numberOfTrailingZeros_0f7a4_L34  S v_2 (1 + 16)
  · refine g_iload_n 0 dJ6_numberOfTrailingZeros_0f7a4_12 rfl ?_
    refine g_bipush (v := 32) dJ6_numberOfTrailingZeros_0f7a4_13 (by decide) ?_
    refine g_iand dJ6_numberOfTrailingZeros_0f7a4_15 ?_
    exact g_iret dJ6_numberOfTrailingZeros_0f7a4_16 rfl
set_option maxRecDepth 100000 in
set_option maxHeartbeats 4000000 in
theorem tJ6_numberOfTrailingZeros_0f7a4 {G : gGG} {F : State → Heap → Prop}  (a0 : Int32) (S : gSt) : gCt G F yJ6_numberOfTrailingZeros_0f7a4 wsJ6_numberOfTrailingZeros_0f7a4 0 [.int a0] S ((fJ6_numberOfTrailingZeros_0f7a4 a0 S).map (fun x => (some (.int x), S))) := g_met (by decide +kernel) rfl (Nat.le_of_ble_eq_true rfl) (tJ6_numberOfTrailingZeros_0f7a4_L  a0 S)
