/-! the methods of a text that the reader asks: its length, a sign of it -/
section GTB
variable {τ : Type} {G : gGG} {F : State → Heap → Prop} {own : String} {cc : ByteArray} {nL : Nat} {Ts : List Cond} {ret : Option FieldType} {R : Room} {cl sl : Nat} {Qf : Array Value → List Frame → State → τ → State → Prop} {pc : Nat} {env : List (Nat × Value)} {st : List Value} {S : gSt} {o : Option τ}
theorem g_br_eq {a : Int32} {off : Int} {tgt : Nat} (hd : decode cc pc = .ok (.ifCond .eq off, 3)) (ht : (pc : Int) + off = (tgt : Int)) (kt : a = 0 → Gof G F own cc nL Ts ret R cl sl Qf tgt env st S o) (kf : ¬ a = 0 → Gof G F own cc nL Ts ret R cl sl Qf (pc + 3) env st S o) : Gof G F own cc nL Ts ret R cl sl Qf pc env (.int a :: st) S o := fun p l e s m args below meth c H locs ls x hx C hr hk hK hF hP hS hl => lv_if_eq C.1 C.2.1 hd ht (fun h => kt h p l e s m args below meth c H locs ls x hx C hr hk hK hF hP hS hl) (fun h => kf h p l e s m args below meth c H locs ls x hx C hr hk hK hF hP hS hl)
theorem g_br_ne {a : Int32} {off : Int} {tgt : Nat} (hd : decode cc pc = .ok (.ifCond .ne off, 3)) (ht : (pc : Int) + off = (tgt : Int)) (kt : ¬ a = 0 → Gof G F own cc nL Ts ret R cl sl Qf tgt env st S o) (kf : a = 0 → Gof G F own cc nL Ts ret R cl sl Qf (pc + 3) env st S o) : Gof G F own cc nL Ts ret R cl sl Qf pc env (.int a :: st) S o := fun p l e s m args below meth c H locs ls x hx C hr hk hK hF hP hS hl => lv_if_ne C.1 C.2.1 hd ht (fun h => kt h p l e s m args below meth c H locs ls x hx C hr hk hK hF hP hS hl) (fun h => kf h p l e s m args below meth c H locs ls x hx C hr hk hK hF hP hS hl)
theorem g_br_lt {a : Int32} {off : Int} {tgt : Nat} (hd : decode cc pc = .ok (.ifCond .lt off, 3)) (ht : (pc : Int) + off = (tgt : Int)) (kt : a < 0 → Gof G F own cc nL Ts ret R cl sl Qf tgt env st S o) (kf : ¬ a < 0 → Gof G F own cc nL Ts ret R cl sl Qf (pc + 3) env st S o) : Gof G F own cc nL Ts ret R cl sl Qf pc env (.int a :: st) S o := fun p l e s m args below meth c H locs ls x hx C hr hk hK hF hP hS hl => lv_if_lt C.1 C.2.1 hd ht (fun h => kt h p l e s m args below meth c H locs ls x hx C hr hk hK hF hP hS hl) (fun h => kf h p l e s m args below meth c H locs ls x hx C hr hk hK hF hP hS hl)
theorem g_bc_lt {a b : Int32} {off : Int} {tgt : Nat} (hd : decode cc pc = .ok (.if_icmp .lt off, 3)) (ht : (pc : Int) + off = (tgt : Int)) (kt : a < b → Gof G F own cc nL Ts ret R cl sl Qf tgt env st S o) (kf : ¬ a < b → Gof G F own cc nL Ts ret R cl sl Qf (pc + 3) env st S o) : Gof G F own cc nL Ts ret R cl sl Qf pc env (.int b :: .int a :: st) S o := fun p l e s m args below meth c H locs ls x hx C hr hk hK hF hP hS hl => lv_icmp_lt C.1 C.2.1 hd ht (fun h => kt h p l e s m args below meth c H locs ls x hx C hr hk hK hF hP hS hl) (fun h => kf h p l e s m args below meth c H locs ls x hx C hr hk hK hF hP hS hl)
theorem g_i2c {a v : Int32} (hd : decode cc pc = .ok (.i2c, 1)) (hv : (a.toUInt32 % 65536).toInt32 = v) (k : Gof G F own cc nL Ts ret R cl sl Qf (pc + 1) env (.int v :: st) S o) : Gof G F own cc nL Ts ret R cl sl Qf pc env (.int a :: st) S o := fun p l e s m args below meth c H locs ls x hx C hr hk hK hF hP hS hl => lv_i2c C.1 C.2.1 hd hv (k p l e s m args below meth c H locs ls x hx C hr hk hK hF hP hS hl)
theorem g_tval (hV : gVX G F) {i index : Nat} (hi : i < 11) (hw : Cond.fieldLink own index "java/lang/String" "value" "[B" ∈ Ts) (hd : decode cc pc = .ok (.getfield index, 3)) (k : Gof G F own cc nL Ts ret R cl sl Qf (pc + 3) env (.ref (gad G (120 + i)) :: st) S o) : Gof G F own cc nL Ts ret R cl sl Qf pc env (.ref (gad G (100 + i)) :: st) S o := fun p l e s m args below meth c H locs ls x hx C hr hk hK hF hP hS hl => vk_getf C.1 C.2.1 ((hV s s.heap hF).2.1.1 i hi).2.2.1 hS C.2.2.2.1 (C.2.2.2.2 _ hw) (fun _ h => h) hd (k p l e s m args below meth c H locs ls x hx C hr hk hK hF hP hS hl)
theorem g_tcod (hV : gVX G F) {i index : Nat} (hi : i < 11) (hw : Cond.fieldLink own index "java/lang/String" "coder" "B" ∈ Ts) (hd : decode cc pc = .ok (.getfield index, 3)) (k : Gof G F own cc nL Ts ret R cl sl Qf (pc + 3) env (.int 0 :: st) S o) : Gof G F own cc nL Ts ret R cl sl Qf pc env (.ref (gad G (100 + i)) :: st) S o := fun p l e s m args below meth c H locs ls x hx C hr hk hK hF hP hS hl => vk_getf C.1 C.2.1 ((hV s s.heap hF).2.1.1 i hi).2.1 hS C.2.2.2.1 (C.2.2.2.2 _ hw) (fun _ h => h) hd (k p l e s m args below meth c H locs ls x hx C hr hk hK hF hP hS hl)
theorem g_tcom (hV : gVX G F) {index : Nat} (hw : Cond.fieldLink own index "java/lang/String" "COMPACT_STRINGS" "Z" ∈ Ts) (hd : decode cc pc = .ok (.getstatic index, 3)) (k : Gof G F own cc nL Ts ret R cl sl Qf (pc + 3) env (.int 1 :: st) S o) : Gof G F own cc nL Ts ret R cl sl Qf pc env st S o := fun p l e s m args below meth c H locs ls x hx C hr hk hK hF hP hS hl => va_gets C.1 C.2.1 (hV s s.heap hF).2.2.2.1 hS C.2.2.2.1 (C.2.2.2.2 _ hw) (fun _ h => h) hd (k p l e s m args below meth c H locs ls x hx C hr hk hK hF hP hS hl)
theorem g_tfor (hV : gVX G F) {index : Nat} (hw : Cond.fieldLink own index "jdk/internal/util/Preconditions" "SIOOBE_FORMATTER" "Ljava/util/function/BiFunction;" ∈ Ts) (hd : decode cc pc = .ok (.getstatic index, 3)) (k : ∀ v : Value, v = .null ∨ (∃ t, v = .ref t) → Gof G F own cc nL Ts ret R cl sl Qf (pc + 3) env (v :: st) S o) : Gof G F own cc nL Ts ret R cl sl Qf pc env st S o := fun p l e s m args below meth c H locs ls x hx C hr hk hK hF hP hS hl => by
  rcases (hV s s.heap hF).2.2.2.2 with h | ⟨t, h⟩
  · exact va_gets C.1 C.2.1 h hS C.2.2.2.1 (C.2.2.2.2 _ hw) (fun _ h => h) hd (k _ (Or.inl rfl) p l e s m args below meth c H locs ls x hx C hr hk hK hF hP hS hl)
  · exact va_gets C.1 C.2.1 h hS C.2.2.2.1 (C.2.2.2.2 _ hw) (fun _ h => h) hd (k _ (Or.inr ⟨t, rfl⟩) p l e s m args below meth c H locs ls x hx C hr hk hK hF hP hS hl)
theorem g_tlen (hV : gVX G F) {i : Nat} (hi : i < 11) (hd : decode cc pc = .ok (.arraylength, 1)) (k : Gof G F own cc nL Ts ret R cl sl Qf (pc + 1) env (.int (nI (gSlen.getD i 0)) :: st) S o) : Gof G F own cc nL Ts ret R cl sl Qf pc env (.ref (gad G (120 + i)) :: st) S o := fun p l e s m args below meth c H locs ls x hx C hr hk hK hF hP hS hl => va_tlen C.1 C.2.1 ((hV s s.heap hF).2.1.1 i hi).2.2.2 hS rfl hd (k p l e s m args below meth c H locs ls x hx C hr hk hK hF hP hS hl)
theorem g_tbal (hV : gVX G F) {i : Nat} {a : Int32} (hi : i < 11) (hb : gIn a (gSlen.getD i 0) = true) (hd : decode cc pc = .ok (.baload, 1)) (k : Gof G F own cc nL Ts ret R cl sl Qf (pc + 1) env (.int ((gSbyt.getD i []).getD (gN a) 0) :: st) S o) : Gof G F own cc nL Ts ret R cl sl Qf pc env (.int a :: .ref (gad G (120 + i)) :: st) S o := fun p l e s m args below meth c H locs ls x hx C hr hk hK hF hP hS hl => va_tb C.1 C.2.1 ((hV s s.heap hF).2.1.1 i hi).2.2.2 hS (gIn_in hb) rfl hd (k p l e s m args below meth c H locs ls x hx C hr hk hK hF hP hS hl)
end GTB
theorem g_tret {τ : Type} {G : gGG} {F : State → Heap → Prop} {own : String} {cc : ByteArray} {nL : Nat} {Ts : List Cond} {R : Room} {pc : Nat} {env : List (Nat × Value)} {S : gSt} {out : τ → Option Value × gSt} {z : τ} {v : Int32} {ty : FieldType} (hn : narrow ty (.int v) = .int v) (hd : decode cc pc = .ok (.ireturn, 1)) (hz : out z = (some (.int v), S)) : Gof G F own cc nL Ts (some ty) R 0 0 (gQ G out) pc env [.int v] S (some z) := fun p l e s m args below meth c H locs ls x hx C hr hk hK hF hP hS hl => by
  cases hx
  exact W.zret C.1 C.2.1 hr hn (fun t ht hW => ⟨by rw [hz], by rw [hz, ht]; exact hP, hS.F ht⟩) hS.2.2 hd hk
set_option maxRecDepth 100000 in
theorem tJ0_coder {G : gGG} {F : State → Heap → Prop} (hV : gVX G F) {i : Nat} (hi : i < 11) (S : gSt) : gCt G F yJ0_coder_7d493 wsJ0_coder_7d493 0 [.ref (gad G (100 + i))] S ((some (0 : Int32)).map (fun x => (some (.int x), S))) := by
  refine g_met (ret := some .byte) (by decide +kernel) rfl (Nat.le_of_ble_eq_true rfl) (show Gof G F RJ0 cJ0_coder_7d493 1 wsJ0_coder_7d493 (some .byte) (gRm 0) 0 0 (gQ G _) 0 [(0, .ref (gad G (100 + i)))] [] S _ from ?_)
  refine g_tcom hV (List.mem_of_getElem? (i := 1) rfl) dJ0_coder_7d493_0 ?_
  refine g_br_eq (tgt := 13) dJ0_coder_7d493_3 (by decide) (fun h => absurd h (by decide)) (fun _ => ?_)
  refine g_aload_n 0 dJ0_coder_7d493_6 rfl ?_
  refine g_tcod hV hi (List.mem_of_getElem? (i := 2) rfl) dJ0_coder_7d493_7 ?_
  refine g_goto (tgt := 14) dJ0_coder_7d493_10 (by decide) ?_
  exact g_tret (by decide) dJ0_coder_7d493_14 rfl
set_option maxRecDepth 100000 in
theorem tJ0_isLatin1 {G : gGG} {F : State → Heap → Prop} (hV : gVX G F) {i : Nat} (hi : i < 11) (S : gSt) : gCt G F yJ0_isLatin1_aae02 wsJ0_isLatin1_aae02 0 [.ref (gad G (100 + i))] S ((some (1 : Int32)).map (fun x => (some (.int x), S))) := by
  refine g_met (ret := some .boolean) (by decide +kernel) rfl (Nat.le_of_ble_eq_true rfl) (show Gof G F RJ0 cJ0_isLatin1_aae02 1 wsJ0_isLatin1_aae02 (some .boolean) (gRm 0) 0 0 (gQ G _) 0 [(0, .ref (gad G (100 + i)))] [] S _ from ?_)
  refine g_tcom hV (List.mem_of_getElem? (i := 1) rfl) dJ0_isLatin1_aae02_0 ?_
  refine g_br_eq (tgt := 17) dJ0_isLatin1_aae02_3 (by decide) (fun h => absurd h (by decide)) (fun _ => ?_)
  refine g_aload_n 0 dJ0_isLatin1_aae02_6 rfl ?_
  refine g_tcod hV hi (List.mem_of_getElem? (i := 2) rfl) dJ0_isLatin1_aae02_7 ?_
  refine g_br_ne (tgt := 17) dJ0_isLatin1_aae02_10 (by decide) (fun h => absurd rfl h) (fun _ => ?_)
  refine g_iconst (v := 1) dJ0_isLatin1_aae02_13 (by decide) ?_
  refine g_goto (tgt := 18) dJ0_isLatin1_aae02_14 (by decide) ?_
  exact g_tret (by decide) dJ0_isLatin1_aae02_18 rfl
set_option maxRecDepth 100000 in
theorem tJ0_length_8abf5 {G : gGG} {F : State → Heap → Prop} (_ : gOK G) (hF : gSb G F) (hV : gVX G F) {q : Nat} (h : gIsStr q = true) (S : gSt) : gCt G F yJ0_length_8abf5 wsJ0_length_8abf5 1 [.ref (gad G q)] S ((fJ0_length_8abf5 q S).map (fun x => (some (.int x), S))) := by
  obtain ⟨i, hi, rfl⟩ := gIsStr_lt h
  have e : fJ0_length_8abf5 (100 + i) S = gBp (some (0 : Int32)) (fun v => some (nI (gSlen.getD i 0) >>> (v &&& 31))) := by
    show some (nI (gSlen.getD (100 + i - 100) 0)) = some (nI (gSlen.getD i 0) >>> ((0 : Int32) &&& 31))
    rw [sb_shr0, Nat.add_sub_cancel_left]
  rw [e]
  refine g_met (ret := some .int) (by decide +kernel) rfl (Nat.le_of_ble_eq_true rfl) (show Gof G F RJ0 cJ0_length_8abf5 1 wsJ0_length_8abf5 (some .int) (gRm 1) 0 0 (gQ G _) 0 [(0, .ref (gad G (100 + i)))] [] S _ from ?_)
  refine g_aload_n 0 dJ0_length_8abf5_0 rfl ?_
  refine g_tval hV hi (List.mem_of_getElem? (i := 1) rfl) dJ0_length_8abf5_1 ?_
  refine g_tlen hV hi dJ0_length_8abf5_4 ?_
  refine g_aload_n 0 dJ0_length_8abf5_5 rfl ?_
  refine g_cTp (n := 0) (As := []) (rest := [.int (nI (gSlen.getD i 0))]) hV hF (tJ0_coder hV hi S) gJ0_length_8abf5_J0_coder_7d493 rfl h ⟨rfl, by decide +kernel, by decide +kernel, by decide +kernel⟩ rfl (gRm_ok (by decide) (by decide)) rfl (Nat.le_of_ble_eq_true rfl) dJ0_length_8abf5_6 (fun v => ?_)
  refine g_ishr dJ0_length_8abf5_9 ?_
  exact g_iret dJ0_length_8abf5_10 rfl
set_option maxRecDepth 100000 in
theorem tJ3_checkIndex {G : gGG} {F : State → Heap → Prop} {a b : Int32} {w : Value} (hw : w = .null ∨ ∃ t, w = .ref t) (h1 : ¬ a < 0) (h2 : a < b) (S : gSt) : gCt G F yJ3_checkIndex_8e157 wsJ3_checkIndex_8e157 0 [.int a, .int b, w] S ((some a).map (fun x => (some (.int x), S))) := by
  have hlen : (lg_sl [.int a, .int b, w]).length ≤ 3 := by
    rcases hw with rfl | ⟨t, rfl⟩ <;> exact Nat.le_of_ble_eq_true rfl
  have henv : lv_args 0 [.int a, .int b, w] = [(0, .int a), (1, .int b), (2, w)] := rfl
  refine g_met (ret := some .int) (by decide +kernel) rfl hlen (show Gof G F RJ3 cJ3_checkIndex_8e157 3 wsJ3_checkIndex_8e157 (some .int) (gRm 0) 0 0 (gQ G _) 0 [(0, .int a), (1, .int b), (2, w)] [] S _ from ?_)
  refine g_iload_n 0 dJ3_checkIndex_8e157_0 rfl ?_
  refine g_br_lt (tgt := 9) dJ3_checkIndex_8e157_1 (by decide) (fun h => absurd h h1) (fun _ => ?_)
  refine g_iload_n 0 dJ3_checkIndex_8e157_4 rfl ?_
  refine g_iload_n 1 dJ3_checkIndex_8e157_5 rfl ?_
  refine g_bc_lt (tgt := 16) dJ3_checkIndex_8e157_6 (by decide) (fun _ => ?_) (fun h => absurd h2 h)
  refine g_iload_n 0 dJ3_checkIndex_8e157_16 rfl ?_
  exact g_iret dJ3_checkIndex_8e157_17 rfl
set_option maxRecDepth 100000 in
theorem tJ0_checkIndex {G : gGG} {F : State → Heap → Prop} (hF : gSb G F) (hV : gVX G F) {a b : Int32} (h1 : ¬ a < 0) (h2 : a < b) (S : gSt) : gCt G F yJ0_checkIndex_df160 wsJ0_checkIndex_df160 1 [.int a, .int b] S ((some S).map (fun x => (none, x))) := by
  have e : (some S : Option gSt) = gBp (some a) (fun _ => some S) := rfl
  rw [e]
  refine g_met (ret := none) (by decide +kernel) rfl (Nat.le_of_ble_eq_true rfl) (show Gof G F RJ0 cJ0_checkIndex_df160 2 wsJ0_checkIndex_df160 none (gRm 1) 0 0 (gQ G _) 0 [(0, .int a), (1, .int b)] [] S _ from ?_)
  refine g_iload_n 0 dJ0_checkIndex_df160_0 rfl ?_
  refine g_iload_n 1 dJ0_checkIndex_df160_1 rfl ?_
  refine g_tfor hV (List.mem_of_getElem? (i := 1) rfl) dJ0_checkIndex_df160_2 (fun w hw => ?_)
  refine g_cSp (n := 3) (As := [.int a, .int b, w]) (rest := []) hF (tJ3_checkIndex hw h1 h2 S) gJ0_checkIndex_df160_J3_checkIndex_8e157 rfl ⟨by decide +kernel, by decide +kernel, by decide +kernel⟩ rfl (gRm_ok (by decide) (by decide)) rfl (Nat.le_of_ble_eq_true rfl) dJ0_checkIndex_df160_5 (fun v => ?_)
  refine g_pop dJ0_checkIndex_df160_8 rfl ?_
  exact g_vret dJ0_checkIndex_df160_9 rfl
theorem gByt_ok : ∀ i : Fin 11, ∀ j : Fin 8, j.val < gSlen.getD i.val 0 → ((((gSbyt.getD i.val []).getD j.val 0) &&& 255).toUInt32 % 65536).toInt32 = (gSbyt.getD i.val []).getD j.val 0 ∧ narrow .char (.int ((gSbyt.getD i.val []).getD j.val 0)) = .int ((gSbyt.getD i.val []).getD j.val 0) := by decide +kernel
theorem gSlen_le : ∀ i : Fin 11, gSlen.getD i.val 0 ≤ 8 := by decide
set_option maxRecDepth 100000 in
theorem tJ1_charAt {G : gGG} {F : State → Heap → Prop} (hF : gSb G F) (hV : gVX G F) {i : Nat} (hi : i < 11) {a : Int32} (ha : gIn a (gSlen.getD i 0) = true) (S : gSt) : gCt G F yJ1_charAt_3b067 wsJ1_charAt_3b067 2 [.ref (gad G (120 + i)), .int a] S ((some ((gSbyt.getD i []).getD (gN a) 0)).map (fun x => (some (.int x), S))) := by
  have hl := gIn_lt ha
  have h8 : gSlen.getD i 0 ≤ 8 := gSlen_le ⟨i, hi⟩
  have hb := gByt_ok ⟨i, hi⟩ ⟨gN a, Nat.lt_of_lt_of_le hl h8⟩ hl
  have h1 : ¬ a < 0 := fun z => gIn_in ha (Or.inl z)
  have h2 : a < nI (gSlen.getD i 0) := by
    obtain ⟨j, hj, rfl⟩ := vp_in_of (gIn_in ha) (by omega)
    exact nI_lt hj (by omega)
  have e : (some ((gSbyt.getD i []).getD (gN a) 0) : Option Int32) = gBp (some S) (fun _ => some ((gSbyt.getD i []).getD (gN a) 0)) := rfl
  rw [e]
  refine g_met (ret := some .char) (by decide +kernel) rfl (Nat.le_of_ble_eq_true rfl) (show Gof G F RJ1 cJ1_charAt_3b067 2 wsJ1_charAt_3b067 (some .char) (gRm 2) 0 0 (gQ G _) 0 [(0, .ref (gad G (120 + i))), (1, .int a)] [] S _ from ?_)
  refine g_iload_n 1 dJ1_charAt_3b067_0 rfl ?_
  refine g_aload_n 0 dJ1_charAt_3b067_1 rfl ?_
  refine g_tlen hV hi dJ1_charAt_3b067_2 ?_
  refine g_cS (cv := fun x => (none, x)) (k := fun _ => some ((gSbyt.getD i []).getD (gN a) 0)) (n := 2) (As := [.int a, .int (nI (gSlen.getD i 0))]) (rest := []) hF (tJ0_checkIndex hF hV h1 h2 S) gJ1_charAt_3b067_J0_checkIndex_df160 rfl ⟨by decide +kernel, by decide +kernel, by decide +kernel⟩ rfl (gRm_ok (by decide) (by decide)) rfl (Nat.le_of_ble_eq_true rfl) dJ1_charAt_3b067_3 (fun x hx => ?_)
  cases hx
  show Gof G F RJ1 cJ1_charAt_3b067 2 wsJ1_charAt_3b067 (some .char) (gRm 2) 0 0 (gQ G _) 6 [(0, .ref (gad G (120 + i))), (1, .int a)] [] S _
  refine g_aload_n 0 dJ1_charAt_3b067_6 rfl ?_
  refine g_iload_n 1 dJ1_charAt_3b067_7 rfl ?_
  refine g_tbal hV hi ha dJ1_charAt_3b067_8 ?_
  refine g_sipush (v := 255) dJ1_charAt_3b067_9 (by decide) ?_
  refine g_iand dJ1_charAt_3b067_12 ?_
  refine g_i2c dJ1_charAt_3b067_13 hb.1 ?_
  exact g_tret hb.2 dJ1_charAt_3b067_14 rfl
set_option maxRecDepth 100000 in
theorem tJ0_charAt_5068e {G : gGG} {F : State → Heap → Prop} (_ : gOK G) (hF : gSb G F) (hV : gVX G F) {q : Nat} (h : gIsStr q = true) (a : Int32) (S : gSt) : gCt G F yJ0_charAt_5068e wsJ0_charAt_5068e 3 [.ref (gad G q), .int a] S ((fJ0_charAt_5068e q a S).map (fun x => (some (.int x), S))) := by
  obtain ⟨i, hi, rfl⟩ := gIsStr_lt h
  unfold fJ0_charAt_5068e
  rw [Nat.add_sub_cancel_left]
  by_cases ha : gIn a (gSlen.getD i 0) = true
  · have hl := gIn_lt ha
    have h8 : gSlen.getD i 0 ≤ 8 := gSlen_le ⟨i, hi⟩
    have hb := gByt_ok ⟨i, hi⟩ ⟨gN a, Nat.lt_of_lt_of_le hl h8⟩ hl
    rw [ha]
    have e : (gC true (some ((gSbyt.getD i []).getD (gN a) 0)) : Option Int32) = gBp (some (1 : Int32)) (fun _ => gBp (some ((gSbyt.getD i []).getD (gN a) 0)) (fun v => gC (decide (v = (gSbyt.getD i []).getD (gN a) 0)) (some v))) := by
      show some _ = gC (decide (_ = _)) (some _)
      rw [decide_eq_true rfl]
      rfl
    rw [e]
    refine g_met (ret := some .char) (by decide +kernel) rfl (Nat.le_of_ble_eq_true rfl) (show Gof G F RJ0 cJ0_charAt_5068e 2 wsJ0_charAt_5068e (some .char) (gRm 3) 0 0 (gQ G _) 0 [(0, .ref (gad G (100 + i))), (1, .int a)] [] S _ from ?_)
    refine g_aload_n 0 dJ0_charAt_5068e_0 rfl ?_
    refine g_cT1 (n := 0) (As := []) (rest := []) hV hF (tJ0_isLatin1 hV hi S) gJ0_charAt_5068e_J0_isLatin1_aae02 rfl h ⟨rfl, by decide +kernel, by decide +kernel, by decide +kernel⟩ rfl (gRm_ok (by decide) (by decide)) rfl (Nat.le_of_ble_eq_true rfl) dJ0_charAt_5068e_1 ?_
    refine g_br_eq (tgt := 16) dJ0_charAt_5068e_4 (by decide) (fun h => absurd h (by decide)) (fun _ => ?_)
    refine g_aload_n 0 dJ0_charAt_5068e_7 rfl ?_
    refine g_tval hV hi (List.mem_of_getElem? (i := 1) rfl) dJ0_charAt_5068e_8 ?_
    refine g_iload_n 1 dJ0_charAt_5068e_11 rfl ?_
    refine g_cSp (n := 2) (As := [.ref (gad G (120 + i)), .int a]) (rest := []) hF (tJ1_charAt hF hV hi ha S) gJ0_charAt_5068e_J1_charAt_3b067 rfl ⟨by decide +kernel, by decide +kernel, by decide +kernel⟩ rfl (gRm_ok (by decide) (by decide)) rfl (Nat.le_of_ble_eq_true rfl) dJ0_charAt_5068e_12 (fun v => ?_)
    refine g_gC (fun hv => ?_)
    have hv := of_decide_eq_true hv
    subst hv
    exact g_tret hb.2 dJ0_charAt_5068e_15 rfl
  · have hf : gIn a (gSlen.getD i 0) = false := by cases hh : gIn a (gSlen.getD i 0) with | false => rfl | true => exact absurd hh ha
    rw [hf]
    intro l x hx
    cases hx
