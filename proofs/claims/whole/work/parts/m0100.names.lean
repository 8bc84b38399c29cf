/-! ===== BEGIN words of one list among another's, by their places ===== -/
theorem goodIn_r {big : List Cond} (ws : List Cond) (ps : List Nat) (hp : ws = ps.filterMap (fun i => big[i]?)) (h : ws.all goodWord = true) : GoodIn big ws := by
  intro w hw
  have h1 := List.all_eq_true.mp h w hw
  rw [hp] at hw
  obtain ⟨i, -, hi⟩ := List.mem_filterMap.mp hw
  have hm : w ∈ big := by first | exact List.mem_of_getElem? hi | exact List.getElem?_mem hi
  exact ⟨hm, good_of_word h1⟩
theorem goodIn_app {big a b : List Cond} (ha : GoodIn big a) (hb : GoodIn big b) : GoodIn big (a ++ b) := fun w h => (List.mem_append.mp h).elim (ha w) (hb w)
theorem goodIn_ca {big a b : List Cond} {c : Cond} (ha : GoodIn big (c :: a)) (hb : GoodIn big b) : GoodIn big (c :: (a ++ b)) := fun w h => (List.mem_cons.mp h).elim (fun e => ha w (List.mem_cons.mpr (Or.inl e))) (fun h => (List.mem_append.mp h).elim (fun h => ha w (List.mem_cons.mpr (Or.inr h))) (hb w))
theorem goodIn_sub {big ws : List Cond} (hm : ∀ w ∈ ws, w ∈ big) (h : ws.all goodWord = true) : GoodIn big ws := fun w hw => ⟨hm w hw, good_of_word (List.all_eq_true.mp h w hw)⟩
/-! ===== END ===== -/

/-! ===== BEGIN new T[n][m]: the outer array a place, the inner ones among the pooled ===== -/
/-- f, but v at every address of l -/
def vr_up {α : Type} (f : Nat → α) (l : List Nat) (v : α) : Nat → α := fun a => if a ∈ l then v else f a
theorem vr_up_in {α : Type} {f : Nat → α} {l : List Nat} {v : α} {a : Nat} (h : a ∈ l) : vr_up f l v a = v := if_pos h
theorem vr_up_ne {α : Type} {f : Nat → α} {l : List Nat} {v : α} {a : Nat} (h : a ∉ l) : vr_up f l v a = f a := if_neg h
theorem vr_rows {L l : List Nat} {f : Nat → va_E} {e : va_E} (h : ∀ a, a ∈ l → a ∉ L) : va_pl L f ++ l.map (fun a => (a, e)) = va_pl (L ++ l) (vr_up f l e) := by
  unfold va_pl
  rw [List.map_append]
  congr 1
  · apply List.map_congr_left
    intro a ha
    rw [vr_up_ne (fun q => h a q ha)]
  · apply List.map_congr_left
    intro a ha
    rw [vr_up_in ha]
theorem vr_lay {X rows : va_W} {x : Nat × va_E} {pl : va_W} {D : va_G} {cl : List vw_C} {H : Heap} (hP : va_P D cl (((X ++ pl) ++ [x]) ++ rows) H) : va_P D cl ((X ++ [x]) ++ (pl ++ rows)) H := by
  rw [List.append_assoc (X ++ pl)] at hP
  have h := va_P.swap hP
  rw [← List.append_assoc X] at h
  have h2 := va_P.swap h
  rw [List.append_assoc (X ++ [x])] at h2
  exact h2
theorem vr_layD {X rows : va_W} {x : Nat × va_E} {pl : va_W} {A : Nat → Prop} (hD : va_D A (((X ++ pl) ++ [x]) ++ rows)) : va_D A ((X ++ [x]) ++ (pl ++ rows)) := by
  rw [List.append_assoc (X ++ pl)] at hD
  have h := va_D.swap hD
  rw [← List.append_assoc X] at h
  have h2 := va_D.swap h
  rw [List.append_assoc (X ++ [x])] at h2
  exact h2
theorem vr_outer (c : ClassId) (N h0 : Nat) : ∀ i : Nat, Jvm.Free.Multi.outerC c N h0 i = arrV c N (fun j => va_rf (if j < i then some (h0 + 1 + j) else none))
  | 0 => by
    show ({ cls := c, slots := Array.replicate N .null, vm := .none } : Cell) = _
    rw [arrV_new]
    refine congrArg (arrV c N) (funext fun j => ?_)
    simp [va_rf]
  | i + 1 => by
    show (Jvm.Free.Multi.outerC c N h0 i).setSlot i (.ref (h0 + 1 + i)) = _
    rw [vr_outer c N h0 i, arrV_store]
    refine congrArg (arrV c N) (funext fun j => ?_)
    by_cases e : j = i
    · subst e
      simp [updV, va_rf]
    · by_cases h : j < i
      · simp [updV, e, h, Nat.lt_succ_of_lt h]
      · simp [updV, e, h, show ¬ j < i + 1 by omega]
section VGM
variable {p : Program} {l : Launch} {e : Env} {R : Room} {s : State} {m : MethodId} {args : Array Value} {below : List Frame} {meth : Method} {c : Code} {H : Heap} {locs : List Loc} {cells slots : Nat} {Q : State → Prop}
variable {cc : ByteArray} {pc : Nat} {ls : Array Slot} {rest : List Value} {D : va_G} {cl : List vw_C} {A : Nat → Prop} {a : Nat} {tys : List (ClassId × FieldType)} {ws : va_W} {H0 : Heap}
theorem va_mna {X : va_W} {L : List Nat} {f : Nat → va_E} {cc : ByteArray} (hexec : p.tables.exec = Jvm.exec) (hb : c.code = cc) {own : String} {index : Nat} {ty : FieldType} {cy : ClassId} (hown : s.vm.findClass own = some m.cls) (hclink : (Cond.classLink own index ("[" ++ (FieldType.array ty).toString)).before args s = true) (hover : va_AOA ty s) (harr : (Cond.arrayClass ty).before args s = true) (hcy : s.vm.findClass (FieldType.array ty).toString = some cy)
    (hK : va_K D cl tys s) (hP : va_P D cl (X ++ va_pl L f) H) (hD : va_D A (X ++ va_pl L f)) (hS : va_S A H0 H locs) (hA : ∀ q, H0.size ≤ q → A q) {n k : Int32} {N' K' : Nat} {z : vp_A} (hn : ¬ n < 0) (hk : ¬ k < 0) (hN : n.toNatClampNeg = N') (hM : k.toNatClampNeg = K')
    (hb1 : N' * 4 ≤ 536870912) (hb2 : K' * componentBytes ty ≤ 536870912) (hb3 : K' ≤ 536870912) (hdf : fits ty (defaultValue ty) = true) (hdd : (defaultValue ty).isDefault = true) (hcells : cells + (1 + N') ≤ R.cells) (hslots : slots + (N' + N' * K') ≤ R.slots) (hz : ∀ c : ClassId, Jvm.Free.Multi.innerC c K' (defaultValue ty) = vp_cell c z) (hdg : decode cc pc = .ok (.multianewarray index 2, 4))
    (kk : ∀ (q : Nat) (r : Nat → Nat) (cA : ClassId) (H1 : Heap), (∀ i j : Nat, i < N' → j < N' → r i = r j → i = j) → (∀ i : Nat, i < N' → r i ∉ L) → va_K D cl (tys ++ [(cA, .array ty)]) s →
      va_P D cl ((X ++ [(q, .inl (cA, N', .inr (.inr (.inr (.inr (fun i => if i < N' then some (r i) else none))))))]) ++ va_pl (L ++ (List.range N').map r) (vr_up f ((List.range N').map r) (.inl (cy, z)))) H1 → va_D A ((X ++ [(q, .inl (cA, N', .inr (.inr (.inr (.inr (fun i => if i < N' then some (r i) else none))))))]) ++ va_pl (L ++ (List.range N').map r) (vr_up f ((List.range N').map r) (.inl (cy, z)))) → va_S A H0 H1 locs →
      W p l e R s m args below meth c H1 locs (cells + 1 + N') (slots + N' + N' * K') Q (F0 m (pc + 4) ls (.ref q :: rest))) : W p l e R s m args below meth c H locs cells slots Q (F0 m pc ls (.int k :: .int n :: rest)) := by
  subst hN
  subst hM
  intro T hT Xs
  obtain ⟨vm₁, cA, comp, -, fA, fC, hO, -, X', step⟩ := Xs.multianewarray2F hexec hown hclink (va_AOA.use hover) harr (g := F0 m pc ls (.int k :: .int n :: rest)) rfl (by rw [hb]; exact hdg) rfl hn hk hb1 hb2 hb3 hdf hdd hcells hslots
  have ec : some cy = some comp := hcy.symm.trans fC
  cases ec
  generalize hF : Jvm.Free.Multi.fill (T.setVm vm₁) cA cy n.toNatClampNeg k.toNatClampNeg (defaultValue ty) n.toNatClampNeg = F at X' step
  have hTh : (T.setVm vm₁).heap = H := hT
  obtain ⟨f1, f2, -, -⟩ := Jvm.Free.Multi.fill_facts (T.setVm vm₁) cA cy n.toNatClampNeg k.toNatClampNeg (defaultValue ty) n.toNatClampNeg
  rw [hF, hTh] at f1 f2
  have hold : ∀ x : Nat, x < H.size → F.heap[x]? = H[x]? := fun x hx => by
    have := Jvm.Free.Multi.fill_old (T.setVm vm₁) cA cy n.toNatClampNeg k.toNatClampNeg (defaultValue ty) (a := x) (by rw [hTh]; exact hx) n.toNatClampNeg
    rw [hF, hTh] at this
    exact this
  have hrow : ∀ j : Nat, j < n.toNatClampNeg → F.heap[H.size + 1 + j]? = some (vp_cell cy z) := fun j hj => by
    have := Jvm.Free.Multi.fill_inner (T.setVm vm₁) cA cy n.toNatClampNeg k.toNatClampNeg (defaultValue ty) n.toNatClampNeg j hj
    rw [hF, hTh, hz] at this
    exact this
  have hout : Jvm.Free.Multi.outerC cA n.toNatClampNeg H.size n.toNatClampNeg = vp_cell cA (n.toNatClampNeg, .inr (.inr (.inr (.inr (fun i => if i < n.toNatClampNeg then some (H.size + 1 + i) else none))))) := by
    rw [vp_cell_q]
    exact vr_outer cA n.toNatClampNeg H.size n.toNatClampNeg
  rw [hout] at f2
  have hlt : ∀ a, a ∈ L → a < H.size := fun a ha => by
    obtain ⟨k9, hk9⟩ := va_pl_get (X := X) (f := f) ha
    exact (hP k9 _ hk9).lt
  have hnl : ∀ i : Nat, i < n.toNatClampNeg → H.size + 1 + i ∉ L := fun i _ h => by
    have := hlt _ h
    omega
  have hnm : ∀ a, a ∈ (List.range n.toNatClampNeg).map (fun i => H.size + 1 + i) → a ∉ L := fun a ha h => by
    obtain ⟨i, -, rfl⟩ := List.mem_map.mp ha
    have := hlt _ h
    omega
  have hP0 : va_P D cl (X ++ va_pl L f) F.heap := hP.kept (fun k9 x hx => hold x.1 ((hP k9 x hx).lt))
  have hP1 : va_P D cl ((X ++ va_pl L f) ++ [(H.size, .inl (cA, n.toNatClampNeg, .inr (.inr (.inr (.inr (fun i => if i < n.toNatClampNeg then some (H.size + 1 + i) else none))))))]) F.heap := hP0.app (fun k9 x hx => by
    have h0 : k9 < 1 := (List.getElem?_eq_some_iff.mp hx).1
    rw [show k9 = 0 by omega] at hx
    cases hx
    exact f2)
  have hP2 : va_P D cl (((X ++ va_pl L f) ++ [(H.size, .inl (cA, n.toNatClampNeg, .inr (.inr (.inr (.inr (fun i => if i < n.toNatClampNeg then some (H.size + 1 + i) else none))))))]) ++ ((List.range n.toNatClampNeg).map (fun i => H.size + 1 + i)).map (fun a => (a, .inl (cy, z)))) F.heap := hP1.app (fun k9 x hx => by
    obtain ⟨a, ha, rfl⟩ := List.mem_map.mp (List.mem_of_getElem? hx)
    obtain ⟨i, hi, rfl⟩ := List.mem_map.mp ha
    exact hrow i (List.mem_range.mp hi))
  have hD2 : va_D A (((X ++ va_pl L f) ++ [(H.size, .inl (cA, n.toNatClampNeg, .inr (.inr (.inr (.inr (fun i => if i < n.toNatClampNeg then some (H.size + 1 + i) else none))))))]) ++ ((List.range n.toNatClampNeg).map (fun i => H.size + 1 + i)).map (fun a => (a, .inl (cy, z)))) := by
    have hD1 := hD.push (e := .inl (cA, n.toNatClampNeg, .inr (.inr (.inr (.inr (fun i => if i < n.toNatClampNeg then some (H.size + 1 + i) else none)))))) hP rfl (hA _ hS.1)
    generalize hW1 : (X ++ va_pl L f) ++ [(H.size, .inl (cA, n.toNatClampNeg, .inr (.inr (.inr (.inr (fun i => if i < n.toNatClampNeg then some (H.size + 1 + i) else none))))))] = W1 at hD1 hP1 ⊢
    have hle : ∀ (k9 : Nat) (x : Nat × va_E), W1[k9]? = some x → x.1 ≤ H.size := fun k9 x hx => by
      rw [← hW1] at hx
      by_cases hl : k9 < (X ++ va_pl L f).length
      · rw [List.getElem?_append_left hl] at hx
        exact Nat.le_of_lt ((hP k9 x hx).lt)
      · rw [List.getElem?_append_right (by omega)] at hx
        have h0 : k9 - (X ++ va_pl L f).length < 1 := (List.getElem?_eq_some_iff.mp hx).1
        rw [show k9 - (X ++ va_pl L f).length = 0 by omega] at hx
        cases hx
        exact Nat.le_refl _
    have hr : ∀ (k9 : Nat) (x : Nat × va_E), (((List.range n.toNatClampNeg).map (fun i => H.size + 1 + i)).map (fun a => ((a, .inl (cy, z)) : Nat × va_E)))[k9]? = some x → x.1 = H.size + 1 + k9 := fun k9 x hx => by
      rw [List.getElem?_map, List.getElem?_map] at hx
      by_cases h9 : k9 < n.toNatClampNeg
      · rw [List.getElem?_range h9] at hx
        cases hx
        rfl
      · have hn0 : (List.range n.toNatClampNeg)[k9]? = none := List.getElem?_eq_none (by rw [List.length_range]; omega)
        rw [hn0] at hx
        cases hx
    refine ⟨fun i j x y hi hj hxy => ?_, fun k9 x hx => ?_⟩
    · by_cases h1 : i < W1.length <;> by_cases h2 : j < W1.length
      · rw [List.getElem?_append_left h1] at hi
        rw [List.getElem?_append_left h2] at hj
        exact hD1.1 i j x y hi hj hxy
      · rw [List.getElem?_append_left h1] at hi
        rw [List.getElem?_append_right (by omega)] at hj
        have := hle _ _ hi
        have := hr _ _ hj
        omega
      · rw [List.getElem?_append_right (by omega)] at hi
        rw [List.getElem?_append_left h2] at hj
        have := hle _ _ hj
        have := hr _ _ hi
        omega
      · rw [List.getElem?_append_right (by omega)] at hi hj
        have := hr _ _ hi
        have := hr _ _ hj
        omega
    · by_cases h1 : k9 < W1.length
      · rw [List.getElem?_append_left h1] at hx
        exact hD1.2 k9 x hx
      · rw [List.getElem?_append_right (by omega)] at hx
        have := hr _ _ hx
        exact hA _ (by have := hS.1; omega)
  have hAr : ArrOfT s cA (.array ty) := fun N9 z9 => by
    obtain ⟨-, k9, hk9, cm9, hkk9⟩ := (hO 0 0 0).1
    exact ⟨(fun q hq => by cases hq), k9, hk9, cm9, hkk9⟩
  have hK2 : va_K D cl (tys ++ [(cA, .array ty)]) s := ⟨hK.1, fun k9 x hx => by
    by_cases hl : k9 < tys.length
    · rw [List.getElem?_append_left hl] at hx
      exact hK.2 k9 x hx
    · rw [List.getElem?_append_right (by omega)] at hx
      have h0 : k9 - tys.length < 1 := (List.getElem?_eq_some_iff.mp hx).1
      rw [show k9 - tys.length = 0 by omega] at hx
      cases hx
      exact ⟨hAr, fA⟩⟩
  obtain ⟨t, a1, b1⟩ := kk H.size (fun i => H.size + 1 + i) cA F.heap (fun i j _ _ h => by have h9 : H.size + 1 + i = H.size + 1 + j := h; omega) hnl hK2 (by rw [← vr_rows hnm]; exact vr_lay hP2) (by rw [← vr_rows hnm]; exact vr_layD hD2) ⟨by rw [f1]; have := hS.1; omega, fun x h1 h2 => (hold x (Nat.lt_of_lt_of_le h1 hS.1)).trans (hS.2.1 x h1 h2), hS.2.2⟩ F rfl X'
  refine ⟨t, step t ?_, b1⟩
  have e : T.heap.size = H.size := by rw [hT]
  rw [e]
  exact a1
end VGM
/-! ===== END ===== -/

/-! ===== BEGIN printed: names, fields, word lists, decode rows ===== -/
def RX0 : String := "GuestParties$Departure"
def TX0 : u_T := fun k => match k with
  | 0 => ("GuestParties$Departure", "standing", "LGuestParties$Standing;", true)
  | _ => ("GuestParties$Departure", "goings", "I", false)
def tyX0 : Nat → FieldType := fun k => match k with
  | 0 => .object "GuestParties$Standing"
  | _ => .int
abbrev wsX00 : List Cond := u_ws RX0 TX0 2
theorem nmX0 : ∀ a, a < 2 → ∀ b, b < 2 → a ≠ b → (TX0 a).2.1 ≠ (TX0 b).2.1 := by decide +kernel
theorem tyX0_ok : ∀ k, k < 2 → parseFieldDescriptor (TX0 k).2.2.1 = some (tyX0 k) := by decide +kernel
abbrev cX0_init : ByteArray := prog_2_method_1_code
def yX0_init : MethodName := ⟨RX0, "<init>", "()V"⟩
abbrev cX0_standing : ByteArray := prog_2_method_2_code
def yX0_standing : MethodName := ⟨RX0, "standing", "()LGuestParties$Standing;"⟩
abbrev cX0_goings : ByteArray := prog_2_method_3_code
def yX0_goings : MethodName := ⟨RX0, "goings", "()I"⟩
abbrev cX0_hasStopped : ByteArray := prog_2_method_4_code
def yX0_hasStopped : MethodName := ⟨RX0, "hasStopped", "()Z"⟩
abbrev cX0_run : ByteArray := prog_2_method_5_code
def yX0_run : MethodName := ⟨RX0, "run", "(LGuestParties$Rules;LGuestParties$Standing;)V"⟩
abbrev cX0_takesTurn : ByteArray := prog_2_method_6_code
def yX0_takesTurn : MethodName := ⟨RX0, "takesTurn", "(LGuestParties$Rules;I)Z"⟩
def RX1 : String := "GuestParties$Image"
def TX1 : u_T := fun k => match k with
  | 0 => ("GuestParties$Image", "standing", "LGuestParties$Standing;", true)
  | 1 => ("GuestParties$Image", "sights", "LGuestParties$Sights;", true)
  | 2 => ("GuestParties$Image", "lotThen", "I", false)
  | _ => ("GuestParties$Image", "isKept", "Z", false)
def tyX1 : Nat → FieldType := fun k => match k with
  | 0 => .object "GuestParties$Standing"
  | 1 => .object "GuestParties$Sights"
  | 2 => .int
  | _ => .boolean
abbrev wsX10 : List Cond := u_ws RX1 TX1 4
theorem nmX1 : ∀ a, a < 4 → ∀ b, b < 4 → a ≠ b → (TX1 a).2.1 ≠ (TX1 b).2.1 := by decide +kernel
theorem tyX1_ok : ∀ k, k < 4 → parseFieldDescriptor (TX1 k).2.2.1 = some (tyX1 k) := by decide +kernel
abbrev cX1_init : ByteArray := prog_3_method_1_code
def yX1_init : MethodName := ⟨RX1, "<init>", "()V"⟩
abbrev cX1_isKept : ByteArray := prog_3_method_2_code
def yX1_isKept : MethodName := ⟨RX1, "isKept", "()Z"⟩
abbrev cX1_standing : ByteArray := prog_3_method_3_code
def yX1_standing : MethodName := ⟨RX1, "standing", "()LGuestParties$Standing;"⟩
abbrev cX1_drop : ByteArray := prog_3_method_4_code
def yX1_drop : MethodName := ⟨RX1, "drop", "()V"⟩
abbrev cX1_take : ByteArray := prog_3_method_5_code
def yX1_take : MethodName := ⟨RX1, "take", "(LGuestParties$Standing;LGuestParties$Sights;LGuestParties$Lot;)V"⟩
abbrev cX1_giveBack : ByteArray := prog_3_method_6_code
def yX1_giveBack : MethodName := ⟨RX1, "giveBack", "(LGuestParties$Standing;LGuestParties$Sights;LGuestParties$Lot;)V"⟩
def RX2 : String := "GuestParties$Lot"
def TX2 : u_T := fun k => match k with
  | _ => ("GuestParties$Lot", "value", "I", false)
def tyX2 : Nat → FieldType := fun k => match k with
  | _ => .int
abbrev wsX20 : List Cond := u_ws RX2 TX2 1
theorem nmX2 : ∀ a, a < 1 → ∀ b, b < 1 → a ≠ b → (TX2 a).2.1 ≠ (TX2 b).2.1 := by decide +kernel
theorem tyX2_ok : ∀ k, k < 1 → parseFieldDescriptor (TX2 k).2.2.1 = some (tyX2 k) := by decide +kernel
abbrev cX2_init : ByteArray := prog_4_method_1_code
def yX2_init : MethodName := ⟨RX2, "<init>", "()V"⟩
abbrev cX2_value : ByteArray := prog_4_method_2_code
def yX2_value : MethodName := ⟨RX2, "value", "()I"⟩
abbrev cX2_become : ByteArray := prog_4_method_3_code
def yX2_become : MethodName := ⟨RX2, "become", "(I)V"⟩
abbrev cX2_nextBelow : ByteArray := prog_4_method_4_code
def yX2_nextBelow : MethodName := ⟨RX2, "nextBelow", "(I)I"⟩
def RX3 : String := "GuestParties$Meeting"
def TX3 : u_T := fun k => match k with
  | 0 => ("GuestParties$Meeting", "finer", "LGuestParties$Standing;", true)
  | _ => ("GuestParties$Meeting", "coarser", "LGuestParties$Standing;", true)
def tyX3 : Nat → FieldType := fun k => match k with
  | 0 => .object "GuestParties$Standing"
  | _ => .object "GuestParties$Standing"
abbrev wsX30 : List Cond := u_ws RX3 TX3 2
theorem nmX3 : ∀ a, a < 2 → ∀ b, b < 2 → a ≠ b → (TX3 a).2.1 ≠ (TX3 b).2.1 := by decide +kernel
theorem tyX3_ok : ∀ k, k < 2 → parseFieldDescriptor (TX3 k).2.2.1 = some (tyX3 k) := by decide +kernel
abbrev cX3_init : ByteArray := prog_5_method_1_code
def yX3_init : MethodName := ⟨RX3, "<init>", "()V"⟩
abbrev cX3_finer : ByteArray := prog_5_method_2_code
def yX3_finer : MethodName := ⟨RX3, "finer", "()LGuestParties$Standing;"⟩
abbrev cX3_coarser : ByteArray := prog_5_method_3_code
def yX3_coarser : MethodName := ⟨RX3, "coarser", "()LGuestParties$Standing;"⟩
abbrev cX3_compare : ByteArray := prog_5_method_4_code
def yX3_compare : MethodName := ⟨RX3, "compare", "(LGuestParties$Standing;LGuestParties$Standing;)V"⟩
abbrev cX3_standingsWithin : ByteArray := prog_5_method_5_code
def yX3_standingsWithin : MethodName := ⟨RX3, "standingsWithin", "()I"⟩
abbrev cX3_piecesOf : ByteArray := prog_5_method_6_code
def yX3_piecesOf : MethodName := ⟨RX3, "piecesOf", "(I)I"⟩
abbrev cX3_fewestGoings : ByteArray := prog_5_method_7_code
def yX3_fewestGoings : MethodName := ⟨RX3, "fewestGoings", "(LGuestParties$Standing;LGuestParties$Standing;)I"⟩
abbrev cX3_stayers : ByteArray := prog_5_method_8_code
def yX3_stayers : MethodName := ⟨RX3, "stayers", "(LGuestParties$Standing;LGuestParties$Standing;II)I"⟩
def RX4 : String := "GuestParties$Reader"
def TX4 : u_T := fun k => match k with
  | 0 => ("GuestParties$Reader", "text", "LGuestParties$Text;", true)
  | 1 => ("GuestParties$Reader", "numbers", "[I", true)
  | 2 => ("GuestParties$Reader", "rules", "LGuestParties$Rules;", false)
  | 3 => ("GuestParties$Reader", "next", "I", false)
  | 4 => ("GuestParties$Reader", "token", "I", false)
  | 5 => ("GuestParties$Reader", "tokenStart", "I", false)
  | _ => ("GuestParties$Reader", "value", "I", false)
def tyX4 : Nat → FieldType := fun k => match k with
  | 0 => .object "GuestParties$Text"
  | 1 => .array .int
  | 2 => .object "GuestParties$Rules"
  | 3 => .int
  | 4 => .int
  | 5 => .int
  | _ => .int
abbrev wsX40 : List Cond := u_ws RX4 TX4 7
theorem nmX4 : ∀ a, a < 7 → ∀ b, b < 7 → a ≠ b → (TX4 a).2.1 ≠ (TX4 b).2.1 := by decide +kernel
theorem tyX4_ok : ∀ k, k < 7 → parseFieldDescriptor (TX4 k).2.2.1 = some (tyX4 k) := by decide +kernel
abbrev cX4_init : ByteArray := prog_6_method_1_code
def yX4_init : MethodName := ⟨RX4, "<init>", "(LGuestParties$Text;LGuestParties$Rules;)V"⟩
abbrev cX4_readInto : ByteArray := prog_6_method_2_code
def yX4_readInto : MethodName := ⟨RX4, "readInto", "(LGuestParties$Rules;)I"⟩
abbrev cX4_mayBegin : ByteArray := prog_6_method_3_code
def yX4_mayBegin : MethodName := ⟨RX4, "mayBegin", "(II)Z"⟩
abbrev cX4_readNumbers : ByteArray := prog_6_method_4_code
def yX4_readNumbers : MethodName := ⟨RX4, "readNumbers", "(I)Z"⟩
abbrev cX4_readSemicolon : ByteArray := prog_6_method_5_code
def yX4_readSemicolon : MethodName := ⟨RX4, "readSemicolon", "()Z"⟩
abbrev cX4_tell : ByteArray := prog_6_method_6_code
def yX4_tell : MethodName := ⟨RX4, "tell", "(I)V"⟩
abbrev cX4_numbersOf : ByteArray := prog_6_method_7_code
def yX4_numbersOf : MethodName := ⟨RX4, "numbersOf", "(I)I"⟩
abbrev cX4_lowest : ByteArray := prog_6_method_8_code
def yX4_lowest : MethodName := ⟨RX4, "lowest", "(I)I"⟩
abbrev cX4_highest : ByteArray := prog_6_method_9_code
def yX4_highest : MethodName := ⟨RX4, "highest", "(II)I"⟩
abbrev cX4_advance : ByteArray := prog_6_method_10_code
def yX4_advance : MethodName := ⟨RX4, "advance", "()V"⟩
abbrev cX4_scanWord : ByteArray := prog_6_method_11_code
def yX4_scanWord : MethodName := ⟨RX4, "scanWord", "()I"⟩
abbrev cX4_isSpelled : ByteArray := prog_6_method_12_code
def yX4_isSpelled : MethodName := ⟨RX4, "isSpelled", "(Ljava/lang/String;)Z"⟩
abbrev cX4_scanNumber : ByteArray := prog_6_method_13_code
def yX4_scanNumber : MethodName := ⟨RX4, "scanNumber", "()I"⟩
abbrev cX4_isLetter : ByteArray := prog_6_method_14_code
def yX4_isLetter : MethodName := ⟨RX4, "isLetter", "(I)Z"⟩
abbrev cX4_isDigit : ByteArray := prog_6_method_15_code
def yX4_isDigit : MethodName := ⟨RX4, "isDigit", "(I)Z"⟩
abbrev cX4_spelling : ByteArray := prog_6_method_16_code
def yX4_spelling : MethodName := ⟨RX4, "spelling", "(I)Ljava/lang/String;"⟩
def RX5 : String := "GuestParties$Rules"
def TX5 : u_T := fun k => match k with
  | 0 => ("GuestParties$Rules", "hats", "[I", true)
  | 1 => ("GuestParties$Rules", "laws", "[I", true)
  | 2 => ("GuestParties$Rules", "together", "[I", true)
  | 3 => ("GuestParties$Rules", "apart", "[I", true)
  | 4 => ("GuestParties$Rules", "worths", "[[I", true)
  | _ => ("GuestParties$Rules", "guests", "I", false)
def tyX5 : Nat → FieldType := fun k => match k with
  | 0 => .array .int
  | 1 => .array .int
  | 2 => .array .int
  | 3 => .array .int
  | 4 => .array (.array .int)
  | _ => .int
abbrev wsX50 : List Cond := u_ws RX5 TX5 6
theorem nmX5 : ∀ a, a < 6 → ∀ b, b < 6 → a ≠ b → (TX5 a).2.1 ≠ (TX5 b).2.1 := by decide +kernel
theorem tyX5_ok : ∀ k, k < 6 → parseFieldDescriptor (TX5 k).2.2.1 = some (tyX5 k) := by decide +kernel
abbrev cX5_init : ByteArray := prog_7_method_1_code
def yX5_init : MethodName := ⟨RX5, "<init>", "()V"⟩
abbrev cX5_reset : ByteArray := prog_7_method_2_code
def yX5_reset : MethodName := ⟨RX5, "reset", "()V"⟩
abbrev cX5_guests : ByteArray := prog_7_method_3_code
def yX5_guests : MethodName := ⟨RX5, "guests", "()I"⟩
abbrev cX5_setGuests : ByteArray := prog_7_method_4_code
def yX5_setGuests : MethodName := ⟨RX5, "setGuests", "(I)V"⟩
abbrev cX5_hatOf : ByteArray := prog_7_method_5_code
def yX5_hatOf : MethodName := ⟨RX5, "hatOf", "(I)I"⟩
abbrev cX5_setHat : ByteArray := prog_7_method_6_code
def yX5_setHat : MethodName := ⟨RX5, "setHat", "(II)V"⟩
abbrev cX5_lawOf : ByteArray := prog_7_method_7_code
def yX5_lawOf : MethodName := ⟨RX5, "lawOf", "(I)I"⟩
abbrev cX5_setLaw : ByteArray := prog_7_method_8_code
def yX5_setLaw : MethodName := ⟨RX5, "setLaw", "(II)V"⟩
abbrev cX5_areTogether : ByteArray := prog_7_method_9_code
def yX5_areTogether : MethodName := ⟨RX5, "areTogether", "(II)Z"⟩
abbrev cX5_putTogether : ByteArray := prog_7_method_10_code
def yX5_putTogether : MethodName := ⟨RX5, "putTogether", "(II)V"⟩
abbrev cX5_areApart : ByteArray := prog_7_method_11_code
def yX5_areApart : MethodName := ⟨RX5, "areApart", "(II)Z"⟩
abbrev cX5_putApart : ByteArray := prog_7_method_12_code
def yX5_putApart : MethodName := ⟨RX5, "putApart", "(II)V"⟩
abbrev cX5_worthOf : ByteArray := prog_7_method_13_code
def yX5_worthOf : MethodName := ⟨RX5, "worthOf", "(II)I"⟩
abbrev cX5_setWorth : ByteArray := prog_7_method_14_code
def yX5_setWorth : MethodName := ⟨RX5, "setWorth", "(III)V"⟩
abbrev cX5_worthWith : ByteArray := prog_7_method_15_code
def yX5_worthWith : MethodName := ⟨RX5, "worthWith", "(II)I"⟩
abbrev cX5_worthOfAll : ByteArray := prog_7_method_16_code
def yX5_worthOfAll : MethodName := ⟨RX5, "worthOfAll", "(LGuestParties$Standing;)I"⟩
abbrev cX5_pairsTogether : ByteArray := prog_7_method_17_code
def yX5_pairsTogether : MethodName := ⟨RX5, "pairsTogether", "()I"⟩
abbrev cX5_pairsApart : ByteArray := prog_7_method_18_code
def yX5_pairsApart : MethodName := ⟨RX5, "pairsApart", "()I"⟩
abbrev cX5_mayCome : ByteArray := prog_7_method_19_code
def yX5_mayCome : MethodName := ⟨RX5, "mayCome", "(II)Z"⟩
abbrev cX5_meetsItsHat : ByteArray := prog_7_method_20_code
def yX5_meetsItsHat : MethodName := ⟨RX5, "meetsItsHat", "(II)Z"⟩
abbrev cX5_pairsIn : ByteArray := prog_7_method_21_code
def yX5_pairsIn : MethodName := ⟨RX5, "pairsIn", "([I)I"⟩
abbrev cX5_isOne : ByteArray := prog_7_method_22_code
def yX5_isOne : MethodName := ⟨RX5, "isOne", "(I)Z"⟩
def RX6 : String := "GuestParties$Sights"
def TX6 : u_T := fun k => match k with
  | 0 => ("GuestParties$Sights", "ones", "[I", true)
  | 1 => ("GuestParties$Sights", "others", "[I", true)
  | 2 => ("GuestParties$Sights", "together", "[Z", true)
  | _ => ("GuestParties$Sights", "size", "I", false)
def tyX6 : Nat → FieldType := fun k => match k with
  | 0 => .array .int
  | 1 => .array .int
  | 2 => .array .boolean
  | _ => .int
abbrev wsX60 : List Cond := u_ws RX6 TX6 4
theorem nmX6 : ∀ a, a < 4 → ∀ b, b < 4 → a ≠ b → (TX6 a).2.1 ≠ (TX6 b).2.1 := by decide +kernel
theorem tyX6_ok : ∀ k, k < 4 → parseFieldDescriptor (TX6 k).2.2.1 = some (tyX6 k) := by decide +kernel
abbrev cX6_init : ByteArray := prog_8_method_1_code
def yX6_init : MethodName := ⟨RX6, "<init>", "()V"⟩
abbrev cX6_size : ByteArray := prog_8_method_2_code
def yX6_size : MethodName := ⟨RX6, "size", "()I"⟩
abbrev cX6_areFull : ByteArray := prog_8_method_3_code
def yX6_areFull : MethodName := ⟨RX6, "areFull", "()Z"⟩
abbrev cX6_empty : ByteArray := prog_8_method_4_code
def yX6_empty : MethodName := ⟨RX6, "empty", "()V"⟩
abbrev cX6_add : ByteArray := prog_8_method_5_code
def yX6_add : MethodName := ⟨RX6, "add", "(IIZ)V"⟩
abbrev cX6_copy : ByteArray := prog_8_method_6_code
def yX6_copy : MethodName := ⟨RX6, "copy", "(LGuestParties$Sights;)V"⟩
abbrev cX6_fit : ByteArray := prog_8_method_7_code
def yX6_fit : MethodName := ⟨RX6, "fit", "(I)Z"⟩
def RX7 : String := "GuestParties$Standing"
def TX7 : u_T := fun k => match k with
  | 0 => ("GuestParties$Standing", "row", "[I", true)
  | 1 => ("GuestParties$Standing", "sets", "[I", true)
  | 2 => ("GuestParties$Standing", "labels", "[I", true)
  | 3 => ("GuestParties$Standing", "guests", "I", false)
  | _ => ("GuestParties$Standing", "parties", "I", false)
def tyX7 : Nat → FieldType := fun k => match k with
  | 0 => .array .int
  | 1 => .array .int
  | 2 => .array .int
  | 3 => .int
  | _ => .int
abbrev wsX70 : List Cond := u_ws RX7 TX7 5
theorem nmX7 : ∀ a, a < 5 → ∀ b, b < 5 → a ≠ b → (TX7 a).2.1 ≠ (TX7 b).2.1 := by decide +kernel
theorem tyX7_ok : ∀ k, k < 5 → parseFieldDescriptor (TX7 k).2.2.1 = some (tyX7 k) := by decide +kernel
abbrev cX7_init : ByteArray := prog_9_method_1_code
def yX7_init : MethodName := ⟨RX7, "<init>", "()V"⟩
abbrev cX7_partyIn : ByteArray := prog_9_method_2_code
def yX7_partyIn : MethodName := ⟨RX7, "partyIn", "(II)I"⟩
abbrev cX7_shiftOf : ByteArray := prog_9_method_3_code
def yX7_shiftOf : MethodName := ⟨RX7, "shiftOf", "(I)I"⟩
abbrev cX7_guests : ByteArray := prog_9_method_4_code
def yX7_guests : MethodName := ⟨RX7, "guests", "()I"⟩
abbrev cX7_parties : ByteArray := prog_9_method_5_code
def yX7_parties : MethodName := ⟨RX7, "parties", "()I"⟩
abbrev cX7_partyOf : ByteArray := prog_9_method_6_code
def yX7_partyOf : MethodName := ⟨RX7, "partyOf", "(I)I"⟩
abbrev cX7_setOf : ByteArray := prog_9_method_7_code
def yX7_setOf : MethodName := ⟨RX7, "setOf", "(I)I"⟩
abbrev cX7_isAlone : ByteArray := prog_9_method_8_code
def yX7_isAlone : MethodName := ⟨RX7, "isAlone", "(I)Z"⟩
abbrev cX7_loners : ByteArray := prog_9_method_9_code
def yX7_loners : MethodName := ⟨RX7, "loners", "()I"⟩
abbrev cX7_code : ByteArray := prog_9_method_10_code
def yX7_code : MethodName := ⟨RX7, "code", "()I"⟩
abbrev cX7_scatter : ByteArray := prog_9_method_11_code
def yX7_scatter : MethodName := ⟨RX7, "scatter", "(I)V"⟩
abbrev cX7_standAs : ByteArray := prog_9_method_12_code
def yX7_standAs : MethodName := ⟨RX7, "standAs", "(I)V"⟩
abbrev cX7_standLike : ByteArray := prog_9_method_13_code
def yX7_standLike : MethodName := ⟨RX7, "standLike", "(LGuestParties$Standing;)V"⟩
abbrev cX7_sendTo : ByteArray := prog_9_method_14_code
def yX7_sendTo : MethodName := ⟨RX7, "sendTo", "(II)V"⟩
abbrev cX7_sendAlone : ByteArray := prog_9_method_15_code
def yX7_sendAlone : MethodName := ⟨RX7, "sendAlone", "(I)V"⟩
abbrev cX7_sendToParty : ByteArray := prog_9_method_16_code
def yX7_sendToParty : MethodName := ⟨RX7, "sendToParty", "(II)V"⟩
abbrev cX7_merge : ByteArray := prog_9_method_17_code
def yX7_merge : MethodName := ⟨RX7, "merge", "(II)V"⟩
abbrev cX7_splitOff : ByteArray := prog_9_method_18_code
def yX7_splitOff : MethodName := ⟨RX7, "splitOff", "(I)V"⟩
abbrev cX7_meet : ByteArray := prog_9_method_19_code
def yX7_meet : MethodName := ⟨RX7, "meet", "(LGuestParties$Standing;LGuestParties$Standing;)V"⟩
abbrev cX7_mergeAlong : ByteArray := prog_9_method_20_code
def yX7_mergeAlong : MethodName := ⟨RX7, "mergeAlong", "(LGuestParties$Standing;)V"⟩
abbrev cX7_relabel : ByteArray := prog_9_method_21_code
def yX7_relabel : MethodName := ⟨RX7, "relabel", "()V"⟩
abbrev cX7_settle : ByteArray := prog_9_method_22_code
def yX7_settle : MethodName := ⟨RX7, "settle", "()V"⟩
abbrev cX7_firstLabelledLike : ByteArray := prog_9_method_23_code
def yX7_firstLabelledLike : MethodName := ⟨RX7, "firstLabelledLike", "(I)I"⟩
def RX8 : String := "GuestParties$Text"
def TX8 : u_T := fun k => match k with
  | 0 => ("GuestParties$Text", "bytes", "[I", true)
  | _ => ("GuestParties$Text", "length", "I", false)
def tyX8 : Nat → FieldType := fun k => match k with
  | 0 => .array .int
  | _ => .int
abbrev wsX80 : List Cond := u_ws RX8 TX8 2
theorem nmX8 : ∀ a, a < 2 → ∀ b, b < 2 → a ≠ b → (TX8 a).2.1 ≠ (TX8 b).2.1 := by decide +kernel
theorem tyX8_ok : ∀ k, k < 2 → parseFieldDescriptor (TX8 k).2.2.1 = some (tyX8 k) := by decide +kernel
abbrev cX8_init : ByteArray := prog_10_method_1_code
def yX8_init : MethodName := ⟨RX8, "<init>", "()V"⟩
abbrev cX8_length : ByteArray := prog_10_method_2_code
def yX8_length : MethodName := ⟨RX8, "length", "()I"⟩
abbrev cX8_hasSpaceFor : ByteArray := prog_10_method_3_code
def yX8_hasSpaceFor : MethodName := ⟨RX8, "hasSpaceFor", "(I)Z"⟩
abbrev cX8_append : ByteArray := prog_10_method_4_code
def yX8_append : MethodName := ⟨RX8, "append", "(I)V"⟩
abbrev cX8_byteAt : ByteArray := prog_10_method_5_code
def yX8_byteAt : MethodName := ⟨RX8, "byteAt", "(I)I"⟩
abbrev cX8_empty : ByteArray := prog_10_method_6_code
def yX8_empty : MethodName := ⟨RX8, "empty", "()V"⟩
def RX9 : String := "GuestParties$Ways"
def TX9 : u_T := fun k => match k with
  | 0 => ("GuestParties$Ways", "codes", "[I", true)
  | 1 => ("GuestParties$Ways", "totals", "[I", true)
  | 2 => ("GuestParties$Ways", "sets", "[I", true)
  | 3 => ("GuestParties$Ways", "rules", "LGuestParties$Rules;", false)
  | 4 => ("GuestParties$Ways", "areGathered", "Z", false)
  | 5 => ("GuestParties$Ways", "total", "I", false)
  | 6 => ("GuestParties$Ways", "greatestWorth", "I", false)
  | _ => ("GuestParties$Ways", "worthiest", "I", false)
def tyX9 : Nat → FieldType := fun k => match k with
  | 0 => .array .int
  | 1 => .array .int
  | 2 => .array .int
  | 3 => .object "GuestParties$Rules"
  | 4 => .boolean
  | 5 => .int
  | 6 => .int
  | _ => .int
abbrev wsX90 : List Cond := u_ws RX9 TX9 8
theorem nmX9 : ∀ a, a < 8 → ∀ b, b < 8 → a ≠ b → (TX9 a).2.1 ≠ (TX9 b).2.1 := by decide +kernel
theorem tyX9_ok : ∀ k, k < 8 → parseFieldDescriptor (TX9 k).2.2.1 = some (tyX9 k) := by decide +kernel
abbrev cX9_init : ByteArray := prog_11_method_1_code
def yX9_init : MethodName := ⟨RX9, "<init>", "(LGuestParties$Rules;)V"⟩
abbrev cX9_obey : ByteArray := prog_11_method_2_code
def yX9_obey : MethodName := ⟨RX9, "obey", "(LGuestParties$Rules;)V"⟩
abbrev cX9_total : ByteArray := prog_11_method_3_code
def yX9_total : MethodName := ⟨RX9, "total", "()I"⟩
abbrev cX9_totalWith : ByteArray := prog_11_method_4_code
def yX9_totalWith : MethodName := ⟨RX9, "totalWith", "(I)I"⟩
abbrev cX9_codeAt : ByteArray := prog_11_method_5_code
def yX9_codeAt : MethodName := ⟨RX9, "codeAt", "(I)I"⟩
abbrev cX9_greatestWorth : ByteArray := prog_11_method_6_code
def yX9_greatestWorth : MethodName := ⟨RX9, "greatestWorth", "()I"⟩
abbrev cX9_worthiestCode : ByteArray := prog_11_method_7_code
def yX9_worthiestCode : MethodName := ⟨RX9, "worthiestCode", "()I"⟩
abbrev cX9_placeOf : ByteArray := prog_11_method_8_code
def yX9_placeOf : MethodName := ⟨RX9, "placeOf", "(I)I"⟩
abbrev cX9_fitting : ByteArray := prog_11_method_9_code
def yX9_fitting : MethodName := ⟨RX9, "fitting", "(LGuestParties$Sights;)I"⟩
abbrev cX9_certain : ByteArray := prog_11_method_10_code
def yX9_certain : MethodName := ⟨RX9, "certain", "(LGuestParties$Sights;II)I"⟩
abbrev cX9_gather : ByteArray := prog_11_method_11_code
def yX9_gather : MethodName := ⟨RX9, "gather", "()V"⟩
abbrev cX9_placeFrom : ByteArray := prog_11_method_12_code
def yX9_placeFrom : MethodName := ⟨RX9, "placeFrom", "(IIII)V"⟩
abbrev cX9_place : ByteArray := prog_11_method_13_code
def yX9_place : MethodName := ⟨RX9, "place", "(IIIII)V"⟩
abbrev cX9_mayStand : ByteArray := prog_11_method_14_code
def yX9_mayStand : MethodName := ⟨RX9, "mayStand", "(III)Z"⟩
abbrev cX9_comesAcross : ByteArray := prog_11_method_15_code
def yX9_comesAcross : MethodName := ⟨RX9, "comesAcross", "(II)Z"⟩
abbrev cX9_isSurrounded : ByteArray := prog_11_method_16_code
def yX9_isSurrounded : MethodName := ⟨RX9, "isSurrounded", "(III)Z"⟩
abbrev cX9_accept : ByteArray := prog_11_method_17_code
def yX9_accept : MethodName := ⟨RX9, "accept", "(III)V"⟩
abbrev cX9_areLawful : ByteArray := prog_11_method_18_code
def yX9_areLawful : MethodName := ⟨RX9, "areLawful", "(I)Z"⟩
def RX10 : String := "GuestParties"
def TX10 : u_T := fun k => match k with
  | 0 => ("GuestParties", "rules", "LGuestParties$Rules;", false)
  | 1 => ("GuestParties", "spareRules", "LGuestParties$Rules;", false)
  | 2 => ("GuestParties", "text", "LGuestParties$Text;", true)
  | 3 => ("GuestParties", "reader", "LGuestParties$Reader;", true)
  | 4 => ("GuestParties", "ways", "LGuestParties$Ways;", true)
  | 5 => ("GuestParties", "standing", "LGuestParties$Standing;", true)
  | 6 => ("GuestParties", "sights", "LGuestParties$Sights;", true)
  | 7 => ("GuestParties", "chance", "LGuestParties$Lot;", true)
  | 8 => ("GuestParties", "imageZero", "LGuestParties$Image;", true)
  | 9 => ("GuestParties", "imageOne", "LGuestParties$Image;", true)
  | 10 => ("GuestParties", "meeting", "LGuestParties$Meeting;", true)
  | 11 => ("GuestParties", "departure", "LGuestParties$Departure;", true)
  | _ => ("GuestParties", "traced", "J", false)
def tyX10 : Nat → FieldType := fun k => match k with
  | 0 => .object "GuestParties$Rules"
  | 1 => .object "GuestParties$Rules"
  | 2 => .object "GuestParties$Text"
  | 3 => .object "GuestParties$Reader"
  | 4 => .object "GuestParties$Ways"
  | 5 => .object "GuestParties$Standing"
  | 6 => .object "GuestParties$Sights"
  | 7 => .object "GuestParties$Lot"
  | 8 => .object "GuestParties$Image"
  | 9 => .object "GuestParties$Image"
  | 10 => .object "GuestParties$Meeting"
  | 11 => .object "GuestParties$Departure"
  | _ => .long
abbrev wsX100 : List Cond := u_ws RX10 TX10 13
theorem nmX10 : ∀ a, a < 13 → ∀ b, b < 13 → a ≠ b → (TX10 a).2.1 ≠ (TX10 b).2.1 := by decide +kernel
theorem tyX10_ok : ∀ k, k < 13 → parseFieldDescriptor (TX10 k).2.2.1 = some (tyX10 k) := by decide +kernel
abbrev cX10_init : ByteArray := prog_1_method_1_code
def yX10_init : MethodName := ⟨RX10, "<init>", "()V"⟩
abbrev cX10_type : ByteArray := prog_1_method_2_code
def yX10_type : MethodName := ⟨RX10, "type", "(JI)I"⟩
abbrev cX10_clear : ByteArray := prog_1_method_3_code
def yX10_clear : MethodName := ⟨RX10, "clear", "()I"⟩
abbrev cX10_room : ByteArray := prog_1_method_4_code
def yX10_room : MethodName := ⟨RX10, "room", "()I"⟩
abbrev cX10_law : ByteArray := prog_1_method_5_code
def yX10_law : MethodName := ⟨RX10, "law", "(I)I"⟩
abbrev cX10_pair : ByteArray := prog_1_method_6_code
def yX10_pair : MethodName := ⟨RX10, "pair", "(III)I"⟩
abbrev cX10_party : ByteArray := prog_1_method_7_code
def yX10_party : MethodName := ⟨RX10, "party", "(I)I"⟩
abbrev cX10_goes : ByteArray := prog_1_method_8_code
def yX10_goes : MethodName := ⟨RX10, "goes", "(II)I"⟩
abbrev cX10_join : ByteArray := prog_1_method_9_code
def yX10_join : MethodName := ⟨RX10, "join", "(II)I"⟩
abbrev cX10_part : ByteArray := prog_1_method_10_code
def yX10_part : MethodName := ⟨RX10, "part", "(II)I"⟩
abbrev cX10_now : ByteArray := prog_1_method_11_code
def yX10_now : MethodName := ⟨RX10, "now", "(I)I"⟩
abbrev cX10_many : ByteArray := prog_1_method_12_code
def yX10_many : MethodName := ⟨RX10, "many", "(I)I"⟩
abbrev cX10_rank : ByteArray := prog_1_method_13_code
def yX10_rank : MethodName := ⟨RX10, "rank", "()I"⟩
abbrev cX10_nth : ByteArray := prog_1_method_14_code
def yX10_nth : MethodName := ⟨RX10, "nth", "(II)I"⟩
abbrev cX10_draw : ByteArray := prog_1_method_15_code
def yX10_draw : MethodName := ⟨RX10, "draw", "()I"⟩
abbrev cX10_lot : ByteArray := prog_1_method_16_code
def yX10_lot : MethodName := ⟨RX10, "lot", "(I)I"⟩
abbrev cX10_saw : ByteArray := prog_1_method_17_code
def yX10_saw : MethodName := ⟨RX10, "saw", "(III)I"⟩
abbrev cX10_forget : ByteArray := prog_1_method_18_code
def yX10_forget : MethodName := ⟨RX10, "forget", "()I"⟩
abbrev cX10_left : ByteArray := prog_1_method_19_code
def yX10_left : MethodName := ⟨RX10, "left", "()I"⟩
abbrev cX10_sure : ByteArray := prog_1_method_20_code
def yX10_sure : MethodName := ⟨RX10, "sure", "(II)I"⟩
abbrev cX10_two : ByteArray := prog_1_method_21_code
def yX10_two : MethodName := ⟨RX10, "two", "(III)I"⟩
abbrev cX10_between : ByteArray := prog_1_method_22_code
def yX10_between : MethodName := ⟨RX10, "between", "(I)I"⟩
abbrev cX10_fewest : ByteArray := prog_1_method_23_code
def yX10_fewest : MethodName := ⟨RX10, "fewest", "(I)I"⟩
abbrev cX10_best : ByteArray := prog_1_method_24_code
def yX10_best : MethodName := ⟨RX10, "best", "(I)I"⟩
abbrev cX10_leaving : ByteArray := prog_1_method_25_code
def yX10_leaving : MethodName := ⟨RX10, "leaving", "(I)I"⟩
abbrev cX10_evening : ByteArray := prog_1_method_26_code
def yX10_evening : MethodName := ⟨RX10, "evening", "(I)I"⟩
abbrev cX10_rate : ByteArray := prog_1_method_27_code
def yX10_rate : MethodName := ⟨RX10, "rate", "(II)I"⟩
abbrev cX10_keep : ByteArray := prog_1_method_28_code
def yX10_keep : MethodName := ⟨RX10, "keep", "(I)I"⟩
abbrev cX10_back : ByteArray := prog_1_method_29_code
def yX10_back : MethodName := ⟨RX10, "back", "(I)I"⟩
abbrev cX10_count : ByteArray := prog_1_method_30_code
def yX10_count : MethodName := ⟨RX10, "count", "(I)I"⟩
abbrev cX10_trace : ByteArray := prog_1_method_31_code
def yX10_trace : MethodName := ⟨RX10, "trace", "()J"⟩
abbrev cX10_isGuest : ByteArray := prog_1_method_32_code
def yX10_isGuest : MethodName := ⟨RX10, "isGuest", "(I)Z"⟩
abbrev cX10_areTwoGuests : ByteArray := prog_1_method_33_code
def yX10_areTwoGuests : MethodName := ⟨RX10, "areTwoGuests", "(II)Z"⟩
abbrev cX10_isParty : ByteArray := prog_1_method_34_code
def yX10_isParty : MethodName := ⟨RX10, "isParty", "(I)Z"⟩
abbrev cX10_isImage : ByteArray := prog_1_method_35_code
def yX10_isImage : MethodName := ⟨RX10, "isImage", "(I)Z"⟩
abbrev cX10_imageOf : ByteArray := prog_1_method_36_code
def yX10_imageOf : MethodName := ⟨RX10, "imageOf", "(I)LGuestParties$Image;"⟩
abbrev cX10_rateAsGuest : ByteArray := prog_1_method_37_code
def yX10_rateAsGuest : MethodName := ⟨RX10, "rateAsGuest", "(I)I"⟩
abbrev cX10_rateAsTalker : ByteArray := prog_1_method_38_code
def yX10_rateAsTalker : MethodName := ⟨RX10, "rateAsTalker", "(I)I"⟩
abbrev cX10_rateAsListener : ByteArray := prog_1_method_39_code
def yX10_rateAsListener : MethodName := ⟨RX10, "rateAsListener", "(I)I"⟩
abbrev cX10_rateAsSinger : ByteArray := prog_1_method_40_code
def yX10_rateAsSinger : MethodName := ⟨RX10, "rateAsSinger", "(I)I"⟩
abbrev cX10_rateAsDog : ByteArray := prog_1_method_41_code
def yX10_rateAsDog : MethodName := ⟨RX10, "rateAsDog", "(I)I"⟩
abbrev cX10_rateAsHostess : ByteArray := prog_1_method_42_code
def yX10_rateAsHostess : MethodName := ⟨RX10, "rateAsHostess", "(I)I"⟩
def RX11 : String := "GuestPartiesModel"
def TX11 : u_T := fun k => match k with
  | 0 => ("GuestPartiesModel", "thrown", "I", false)
  | 1 => ("GuestPartiesModel", "trace", "J", false)
  | 2 => ("GuestPartiesModel", "text", "[I", true)
  | 3 => ("GuestPartiesModel", "typed", "I", false)
  | 4 => ("GuestPartiesModel", "next", "I", false)
  | 5 => ("GuestPartiesModel", "token", "I", false)
  | 6 => ("GuestPartiesModel", "place", "I", false)
  | 7 => ("GuestPartiesModel", "value", "I", false)
  | 8 => ("GuestPartiesModel", "fault", "I", false)
  | 9 => ("GuestPartiesModel", "told", "[I", true)
  | 10 => ("GuestPartiesModel", "s", "[I", true)
  | 11 => ("GuestPartiesModel", "kept", "[I", true)
  | 12 => ("GuestPartiesModel", "isKept", "[Z", true)
  | 13 => ("GuestPartiesModel", "row", "[I", true)
  | 14 => ("GuestPartiesModel", "other", "[I", true)
  | 15 => ("GuestPartiesModel", "sums", "[I", true)
  | _ => ("GuestPartiesModel", "stays", "[I", true)
def tyX11 : Nat → FieldType := fun k => match k with
  | 0 => .int
  | 1 => .long
  | 2 => .array .int
  | 3 => .int
  | 4 => .int
  | 5 => .int
  | 6 => .int
  | 7 => .int
  | 8 => .int
  | 9 => .array .int
  | 10 => .array .int
  | 11 => .array .int
  | 12 => .array .boolean
  | 13 => .array .int
  | 14 => .array .int
  | 15 => .array .int
  | _ => .array .int
abbrev wsX110 : List Cond := u_ws RX11 TX11 17
theorem nmX11 : ∀ a, a < 17 → ∀ b, b < 17 → a ≠ b → (TX11 a).2.1 ≠ (TX11 b).2.1 := by decide +kernel
theorem tyX11_ok : ∀ k, k < 17 → parseFieldDescriptor (TX11 k).2.2.1 = some (tyX11 k) := by decide +kernel
abbrev cX11_init : ByteArray := prog_13_method_1_code
def yX11_init : MethodName := ⟨RX11, "<init>", "()V"⟩
abbrev cX11_in : ByteArray := prog_13_method_3_code
def yX11_in : MethodName := ⟨RX11, "in", "(III)Z"⟩
abbrev cX11_type : ByteArray := prog_13_method_4_code
def yX11_type : MethodName := ⟨RX11, "type", "(JI)I"⟩
abbrev cX11_clear : ByteArray := prog_13_method_5_code
def yX11_clear : MethodName := ⟨RX11, "clear", "()I"⟩
abbrev cX11_byteAt : ByteArray := prog_13_method_6_code
def yX11_byteAt : MethodName := ⟨RX11, "byteAt", "(I)I"⟩
abbrev cX11_add : ByteArray := prog_13_method_7_code
def yX11_add : MethodName := ⟨RX11, "add", "(JI)J"⟩
abbrev cX11_named : ByteArray := prog_13_method_8_code
def yX11_named : MethodName := ⟨RX11, "named", "(IIIIII)J"⟩
abbrev cX11_wordOf : ByteArray := prog_13_method_9_code
def yX11_wordOf : MethodName := ⟨RX11, "wordOf", "(J)I"⟩
abbrev cX11_advances : ByteArray := prog_13_method_10_code
def yX11_advances : MethodName := ⟨RX11, "advances", "()V"⟩
abbrev cX11_isWell : ByteArray := prog_13_method_11_code
def yX11_isWell : MethodName := ⟨RX11, "isWell", "()Z"⟩
abbrev cX11_takes : ByteArray := prog_13_method_12_code
def yX11_takes : MethodName := ⟨RX11, "takes", "(Z)I"⟩
abbrev cX11_number : ByteArray := prog_13_method_13_code
def yX11_number : MethodName := ⟨RX11, "number", "(II)I"⟩
abbrev cX11_drafts : ByteArray := prog_13_method_14_code
def yX11_drafts : MethodName := ⟨RX11, "drafts", "(I)V"⟩
abbrev cX11_readsTwo : ByteArray := prog_13_method_15_code
def yX11_readsTwo : MethodName := ⟨RX11, "readsTwo", "(I)V"⟩
abbrev cX11_readsItem : ByteArray := prog_13_method_16_code
def yX11_readsItem : MethodName := ⟨RX11, "readsItem", "(I)V"⟩
abbrev cX11_room : ByteArray := prog_13_method_17_code
def yX11_room : MethodName := ⟨RX11, "room", "()I"⟩
abbrev cX11_adopts : ByteArray := prog_13_method_18_code
def yX11_adopts : MethodName := ⟨RX11, "adopts", "()V"⟩
abbrev cX11_guests : ByteArray := prog_13_method_19_code
def yX11_guests : MethodName := ⟨RX11, "guests", "()I"⟩
abbrev cX11_isGuest : ByteArray := prog_13_method_20_code
def yX11_isGuest : MethodName := ⟨RX11, "isGuest", "(I)Z"⟩
abbrev cX11_areTwo : ByteArray := prog_13_method_21_code
def yX11_areTwo : MethodName := ⟨RX11, "areTwo", "(II)Z"⟩
abbrev cX11_law : ByteArray := prog_13_method_22_code
def yX11_law : MethodName := ⟨RX11, "law", "(I)I"⟩
abbrev cX11_pair : ByteArray := prog_13_method_23_code
def yX11_pair : MethodName := ⟨RX11, "pair", "(III)I"⟩
abbrev cX11_numbers : ByteArray := prog_13_method_24_code
def yX11_numbers : MethodName := ⟨RX11, "numbers", "([I)V"⟩
abbrev cX11_partiesOf : ByteArray := prog_13_method_25_code
def yX11_partiesOf : MethodName := ⟨RX11, "partiesOf", "([I)I"⟩
abbrev cX11_sizeOf : ByteArray := prog_13_method_26_code
def yX11_sizeOf : MethodName := ⟨RX11, "sizeOf", "([II)I"⟩
abbrev cX11_worthOf : ByteArray := prog_13_method_27_code
def yX11_worthOf : MethodName := ⟨RX11, "worthOf", "([I)I"⟩
abbrev cX11_isCrossed : ByteArray := prog_13_method_28_code
def yX11_isCrossed : MethodName := ⟨RX11, "isCrossed", "([I)Z"⟩
abbrev cX11_arePairsWell : ByteArray := prog_13_method_29_code
def yX11_arePairsWell : MethodName := ⟨RX11, "arePairsWell", "([I)Z"⟩
abbrev cX11_isLawful : ByteArray := prog_13_method_30_code
def yX11_isLawful : MethodName := ⟨RX11, "isLawful", "([I)Z"⟩
abbrev cX11_party : ByteArray := prog_13_method_31_code
def yX11_party : MethodName := ⟨RX11, "party", "(I)I"⟩
abbrev cX11_moves : ByteArray := prog_13_method_32_code
def yX11_moves : MethodName := ⟨RX11, "moves", "([III)Z"⟩
abbrev cX11_goes : ByteArray := prog_13_method_33_code
def yX11_goes : MethodName := ⟨RX11, "goes", "(II)I"⟩
abbrev cX11_join : ByteArray := prog_13_method_34_code
def yX11_join : MethodName := ⟨RX11, "join", "(II)I"⟩
abbrev cX11_part : ByteArray := prog_13_method_35_code
def yX11_part : MethodName := ⟨RX11, "part", "(II)I"⟩
abbrev cX11_alone : ByteArray := prog_13_method_36_code
def yX11_alone : MethodName := ⟨RX11, "alone", "()I"⟩
abbrev cX11_now : ByteArray := prog_13_method_37_code
def yX11_now : MethodName := ⟨RX11, "now", "(I)I"⟩
abbrev cX11_firstRow : ByteArray := prog_13_method_38_code
def yX11_firstRow : MethodName := ⟨RX11, "firstRow", "()V"⟩
abbrev cX11_nextRow : ByteArray := prog_13_method_39_code
def yX11_nextRow : MethodName := ⟨RX11, "nextRow", "()Z"⟩
abbrev cX11_manyOf : ByteArray := prog_13_method_40_code
def yX11_manyOf : MethodName := ⟨RX11, "manyOf", "(I)I"⟩
abbrev cX11_many : ByteArray := prog_13_method_41_code
def yX11_many : MethodName := ⟨RX11, "many", "(I)I"⟩
abbrev cX11_rank : ByteArray := prog_13_method_42_code
def yX11_rank : MethodName := ⟨RX11, "rank", "()I"⟩
abbrev cX11_finds : ByteArray := prog_13_method_43_code
def yX11_finds : MethodName := ⟨RX11, "finds", "(I)Z"⟩
abbrev cX11_nth : ByteArray := prog_13_method_44_code
def yX11_nth : MethodName := ⟨RX11, "nth", "(II)I"⟩
abbrev cX11_draws : ByteArray := prog_13_method_45_code
def yX11_draws : MethodName := ⟨RX11, "draws", "(I)I"⟩
abbrev cX11_draw : ByteArray := prog_13_method_46_code
def yX11_draw : MethodName := ⟨RX11, "draw", "()I"⟩
abbrev cX11_lot : ByteArray := prog_13_method_47_code
def yX11_lot : MethodName := ⟨RX11, "lot", "(I)I"⟩
abbrev cX11_saw : ByteArray := prog_13_method_48_code
def yX11_saw : MethodName := ⟨RX11, "saw", "(III)I"⟩
abbrev cX11_forget : ByteArray := prog_13_method_49_code
def yX11_forget : MethodName := ⟨RX11, "forget", "()I"⟩
abbrev cX11_fits : ByteArray := prog_13_method_50_code
def yX11_fits : MethodName := ⟨RX11, "fits", "()Z"⟩
abbrev cX11_leftWith : ByteArray := prog_13_method_51_code
def yX11_leftWith : MethodName := ⟨RX11, "leftWith", "(II)I"⟩
abbrev cX11_left : ByteArray := prog_13_method_52_code
def yX11_left : MethodName := ⟨RX11, "left", "()I"⟩
abbrev cX11_sure : ByteArray := prog_13_method_53_code
def yX11_sure : MethodName := ⟨RX11, "sure", "(II)I"⟩
abbrev cX11_isImage : ByteArray := prog_13_method_54_code
def yX11_isImage : MethodName := ⟨RX11, "isImage", "(I)Z"⟩
abbrev cX11_finer : ByteArray := prog_13_method_55_code
def yX11_finer : MethodName := ⟨RX11, "finer", "(I)V"⟩
abbrev cX11_coarser : ByteArray := prog_13_method_56_code
def yX11_coarser : MethodName := ⟨RX11, "coarser", "(I)V"⟩
abbrev cX11_two : ByteArray := prog_13_method_57_code
def yX11_two : MethodName := ⟨RX11, "two", "(III)I"⟩
abbrev cX11_bell : ByteArray := prog_13_method_58_code
def yX11_bell : MethodName := ⟨RX11, "bell", "(I)I"⟩
abbrev cX11_between : ByteArray := prog_13_method_59_code
def yX11_between : MethodName := ⟨RX11, "between", "(I)I"⟩
abbrev cX11_ones : ByteArray := prog_13_method_60_code
def yX11_ones : MethodName := ⟨RX11, "ones", "(I)I"⟩
abbrev cX11_fewest : ByteArray := prog_13_method_61_code
def yX11_fewest : MethodName := ⟨RX11, "fewest", "(I)I"⟩
abbrev cX11_best : ByteArray := prog_13_method_62_code
def yX11_best : MethodName := ⟨RX11, "best", "(I)I"⟩
abbrev cX11_ratherAt : ByteArray := prog_13_method_63_code
def yX11_ratherAt : MethodName := ⟨RX11, "ratherAt", "(I)I"⟩
abbrev cX11_leaving : ByteArray := prog_13_method_64_code
def yX11_leaving : MethodName := ⟨RX11, "leaving", "(I)I"⟩
abbrev cX11_evening : ByteArray := prog_13_method_65_code
def yX11_evening : MethodName := ⟨RX11, "evening", "(I)I"⟩
abbrev cX11_rate : ByteArray := prog_13_method_66_code
def yX11_rate : MethodName := ⟨RX11, "rate", "(II)I"⟩
abbrev cX11_keep : ByteArray := prog_13_method_67_code
def yX11_keep : MethodName := ⟨RX11, "keep", "(I)I"⟩
abbrev cX11_back : ByteArray := prog_13_method_68_code
def yX11_back : MethodName := ⟨RX11, "back", "(I)I"⟩
abbrev cX11_count : ByteArray := prog_13_method_69_code
def yX11_count : MethodName := ⟨RX11, "count", "(I)I"⟩
abbrev cX11_trace : ByteArray := prog_13_method_70_code
def yX11_trace : MethodName := ⟨RX11, "trace", "()J"⟩
def RJ6 : String := "java/lang/Integer"
def TJ6 : u_T := fun k => match k with
  | _ => ("", "", "", false)
def tyJ6 : Nat → FieldType := fun k => match k with
  | _ => .int
abbrev wsJ60 : List Cond := u_ws RJ6 TJ6 0
theorem nmJ6 : ∀ a, a < 0 → ∀ b, b < 0 → a ≠ b → (TJ6 a).2.1 ≠ (TJ6 b).2.1 := by decide +kernel
theorem tyJ6_ok : ∀ k, k < 0 → parseFieldDescriptor (TJ6 k).2.2.1 = some (tyJ6 k) := by decide +kernel
abbrev cJ6_numberOfTrailingZeros_0f7a4 : ByteArray := prog_14_method_48_code
def yJ6_numberOfTrailingZeros_0f7a4 : MethodName := ⟨RJ6, "numberOfTrailingZeros", "(I)I"⟩
abbrev cJ6_bitCount_0f7a4 : ByteArray := prog_14_method_49_code
def yJ6_bitCount_0f7a4 : MethodName := ⟨RJ6, "bitCount", "(I)I"⟩
def RJ9 : String := "java/lang/Math"
def TJ9 : u_T := fun k => match k with
  | _ => ("", "", "", false)
def tyJ9 : Nat → FieldType := fun k => match k with
  | _ => .int
abbrev wsJ90 : List Cond := u_ws RJ9 TJ9 0
theorem nmJ9 : ∀ a, a < 0 → ∀ b, b < 0 → a ≠ b → (TJ9 a).2.1 ≠ (TJ9 b).2.1 := by decide +kernel
theorem tyJ9_ok : ∀ k, k < 0 → parseFieldDescriptor (TJ9 k).2.2.1 = some (tyJ9 k) := by decide +kernel
abbrev cJ9_max_7cf53 : ByteArray := prog_15_method_65_code
def yJ9_max_7cf53 : MethodName := ⟨RJ9, "max", "(II)I"⟩
abbrev cJ9_min_7cf53 : ByteArray := prog_15_method_69_code
def yJ9_min_7cf53 : MethodName := ⟨RJ9, "min", "(II)I"⟩
def RJ0 : String := "java/lang/String"
def TJ0 : u_T := fun k => match k with
  | _ => ("", "", "", false)
def tyJ0 : Nat → FieldType := fun k => match k with
  | _ => .int
abbrev wsJ00 : List Cond := u_ws RJ0 TJ0 0
theorem nmJ0 : ∀ a, a < 0 → ∀ b, b < 0 → a ≠ b → (TJ0 a).2.1 ≠ (TJ0 b).2.1 := by decide +kernel
theorem tyJ0_ok : ∀ k, k < 0 → parseFieldDescriptor (TJ0 k).2.2.1 = some (tyJ0 k) := by decide +kernel
abbrev cJ0_length_8abf5 : ByteArray := prog_16_method_54_code
def yJ0_length_8abf5 : MethodName := ⟨RJ0, "length", "()I"⟩
abbrev cJ0_charAt_5068e : ByteArray := prog_16_method_56_code
def yJ0_charAt_5068e : MethodName := ⟨RJ0, "charAt", "(I)C"⟩
abbrev cJ0_coder_7d493 : ByteArray := prog_16_method_152_code
def yJ0_coder_7d493 : MethodName := ⟨RJ0, "coder", "()B"⟩
abbrev cJ0_isLatin1_aae02 : ByteArray := prog_16_method_154_code
def yJ0_isLatin1_aae02 : MethodName := ⟨RJ0, "isLatin1", "()Z"⟩
abbrev cJ0_checkIndex_df160 : ByteArray := prog_16_method_155_code
def yJ0_checkIndex_df160 : MethodName := ⟨RJ0, "checkIndex", "(II)V"⟩
def RJ1 : String := "java/lang/StringLatin1"
def TJ1 : u_T := fun k => match k with
  | _ => ("", "", "", false)
def tyJ1 : Nat → FieldType := fun k => match k with
  | _ => .int
abbrev wsJ10 : List Cond := u_ws RJ1 TJ1 0
theorem nmJ1 : ∀ a, a < 0 → ∀ b, b < 0 → a ≠ b → (TJ1 a).2.1 ≠ (TJ1 b).2.1 := by decide +kernel
theorem tyJ1_ok : ∀ k, k < 0 → parseFieldDescriptor (TJ1 k).2.2.1 = some (tyJ1 k) := by decide +kernel
abbrev cJ1_charAt_3b067 : ByteArray := prog_17_method_2_code
def yJ1_charAt_3b067 : MethodName := ⟨RJ1, "charAt", "([BI)C"⟩
def RJ2 : String := "java/lang/StringUTF16"
def TJ2 : u_T := fun k => match k with
  | _ => ("", "", "", false)
def tyJ2 : Nat → FieldType := fun k => match k with
  | _ => .int
abbrev wsJ20 : List Cond := u_ws RJ2 TJ2 0
theorem nmJ2 : ∀ a, a < 0 → ∀ b, b < 0 → a ≠ b → (TJ2 a).2.1 ≠ (TJ2 b).2.1 := by decide +kernel
theorem tyJ2_ok : ∀ k, k < 0 → parseFieldDescriptor (TJ2 k).2.2.1 = some (tyJ2 k) := by decide +kernel
abbrev cJ2_getChar_3b067 : ByteArray := prog_18_method_5_code
def yJ2_getChar_3b067 : MethodName := ⟨RJ2, "getChar", "([BI)C"⟩
abbrev cJ2_length_9d52b : ByteArray := prog_18_method_6_code
def yJ2_length_9d52b : MethodName := ⟨RJ2, "length", "([B)I"⟩
abbrev cJ2_charAt_3b067 : ByteArray := prog_18_method_83_code
def yJ2_charAt_3b067 : MethodName := ⟨RJ2, "charAt", "([BI)C"⟩
abbrev cJ2_checkIndex_2214a : ByteArray := prog_18_method_91_code
def yJ2_checkIndex_2214a : MethodName := ⟨RJ2, "checkIndex", "(I[B)V"⟩
def RJ3 : String := "jdk/internal/util/Preconditions"
def TJ3 : u_T := fun k => match k with
  | _ => ("", "", "", false)
def tyJ3 : Nat → FieldType := fun k => match k with
  | _ => .int
abbrev wsJ30 : List Cond := u_ws RJ3 TJ3 0
theorem nmJ3 : ∀ a, a < 0 → ∀ b, b < 0 → a ≠ b → (TJ3 a).2.1 ≠ (TJ3 b).2.1 := by decide +kernel
theorem tyJ3_ok : ∀ k, k < 0 → parseFieldDescriptor (TJ3 k).2.2.1 = some (tyJ3 k) := by decide +kernel
abbrev cJ3_checkIndex_8e157 : ByteArray := prog_19_method_11_code
def yJ3_checkIndex_8e157 : MethodName := ⟨RJ3, "checkIndex", "(IILjava/util/function/BiFunction;)I"⟩
def RL : String := "GuestPartiesLaw"
abbrev cL_law : ByteArray := code
def yL_law : MethodName := ⟨RL, "law", "([I)Z"⟩
def wsX7_init : List Cond := .code yX7_init cX7_init 1 none :: ([.methodLink RX7 3 objectInit, .instanceMethod objectInit, .code objectInit ⟨#[0xb1]⟩ 1 none, .arrayClass .int, .fieldLink RX7 9 "GuestParties$Standing" "row" "[I", .fieldLink RX7 15 "GuestParties$Standing" "sets" "[I", .fieldLink RX7 18 "GuestParties$Standing" "labels" "[I", .fieldLink RX7 21 "GuestParties$Standing" "guests" "I", .fieldLink RX7 25 "GuestParties$Standing" "parties" "I"] ++ wsX70)
def wsX0_init : List Cond := .code yX0_init cX0_init 1 none :: ([.methodLink RX0 5 objectInit, .instanceMethod objectInit, .code objectInit ⟨#[0xb1]⟩ 1 none, .classLink RX0 11 RX7, .instantiable RX7 5, .initialized RX7, .fieldLink RX0 14 "GuestParties$Departure" "standing" "LGuestParties$Standing;", .fieldLink RX0 18 "GuestParties$Departure" "goings" "I", .instanceMethod yX7_init, .code yX7_init cX7_init 1 none, .methodLink RX7 3 objectInit, .arrayClass .int, .fieldLink RX7 9 "GuestParties$Standing" "row" "[I", .fieldLink RX7 15 "GuestParties$Standing" "sets" "[I", .fieldLink RX7 18 "GuestParties$Standing" "labels" "[I", .fieldLink RX7 21 "GuestParties$Standing" "guests" "I", .fieldLink RX7 25 "GuestParties$Standing" "parties" "I"] ++ wsX70 ++ wsX00)
def wsX0_standing : List Cond := .code yX0_standing cX0_standing 1 (some (.object "GuestParties$Standing")) :: ([.fieldLink RX0 14 "GuestParties$Departure" "standing" "LGuestParties$Standing;"] ++ wsX00)
def wsX0_goings : List Cond := .code yX0_goings cX0_goings 1 (some .int) :: ([.fieldLink RX0 18 "GuestParties$Departure" "goings" "I"] ++ wsX00)
def wsX0_hasStopped : List Cond := .code yX0_hasStopped cX0_hasStopped 1 (some .boolean) :: ([.fieldLink RX0 18 "GuestParties$Departure" "goings" "I"] ++ wsX00)
def wsX7_guests : List Cond := .code yX7_guests cX7_guests 1 (some .int) :: ([.fieldLink RX7 21 "GuestParties$Standing" "guests" "I"] ++ wsX70)
def wsX7_partyOf : List Cond := .code yX7_partyOf cX7_partyOf 2 (some .int) :: ([.fieldLink RX7 21 "GuestParties$Standing" "guests" "I", .fieldLink RX7 9 "GuestParties$Standing" "row" "[I"] ++ wsX70)
def wsX7_shiftOf : List Cond := .code yX7_shiftOf cX7_shiftOf 1 (some .int) :: ([])
def wsX7_code : List Cond := .code yX7_code cX7_code 3 (some .int) :: ([.fieldLink RX7 21 "GuestParties$Standing" "guests" "I", .methodLink RX7 32 yX7_partyOf, .instanceMethod yX7_partyOf, .selects RX7 yX7_partyOf yX7_partyOf, .initialized RX7, .code yX7_partyOf cX7_partyOf 2 (some .int), .fieldLink RX7 9 "GuestParties$Standing" "row" "[I", .methodLink RX7 28 yX7_shiftOf, .static yX7_shiftOf, .code yX7_shiftOf cX7_shiftOf 1 (some .int)] ++ wsX70)
def wsX7_partyIn : List Cond := .code yX7_partyIn cX7_partyIn 2 (some .int) :: ([.methodLink RX7 28 yX7_shiftOf, .static yX7_shiftOf, .initialized RX7, .code yX7_shiftOf cX7_shiftOf 1 (some .int)])
def wsX7_firstLabelledLike : List Cond := .code yX7_firstLabelledLike cX7_firstLabelledLike 3 (some .int) :: ([.fieldLink RX7 18 "GuestParties$Standing" "labels" "[I"] ++ wsX70)
def wsX7_settle : List Cond := .code yX7_settle cX7_settle 3 none :: ([.fieldLink RX7 25 "GuestParties$Standing" "parties" "I", .fieldLink RX7 21 "GuestParties$Standing" "guests" "I", .fieldLink RX7 15 "GuestParties$Standing" "sets" "[I", .fieldLink RX7 9 "GuestParties$Standing" "row" "[I", .methodLink RX7 81 yX7_firstLabelledLike, .instanceMethod yX7_firstLabelledLike, .selects RX7 yX7_firstLabelledLike yX7_firstLabelledLike, .initialized RX7, .code yX7_firstLabelledLike cX7_firstLabelledLike 3 (some .int), .fieldLink RX7 18 "GuestParties$Standing" "labels" "[I"] ++ wsX70)
def wsX7_standAs : List Cond := .code yX7_standAs cX7_standAs 3 none :: ([.fieldLink RX7 21 "GuestParties$Standing" "guests" "I", .fieldLink RX7 18 "GuestParties$Standing" "labels" "[I", .methodLink RX7 55 yX7_partyIn, .static yX7_partyIn, .initialized RX7, .code yX7_partyIn cX7_partyIn 2 (some .int), .methodLink RX7 28 yX7_shiftOf, .static yX7_shiftOf, .code yX7_shiftOf cX7_shiftOf 1 (some .int), .methodLink RX7 52 yX7_settle, .instanceMethod yX7_settle, .selects RX7 yX7_settle yX7_settle, .code yX7_settle cX7_settle 3 none, .fieldLink RX7 25 "GuestParties$Standing" "parties" "I", .fieldLink RX7 15 "GuestParties$Standing" "sets" "[I", .fieldLink RX7 9 "GuestParties$Standing" "row" "[I", .methodLink RX7 81 yX7_firstLabelledLike, .instanceMethod yX7_firstLabelledLike, .selects RX7 yX7_firstLabelledLike yX7_firstLabelledLike, .code yX7_firstLabelledLike cX7_firstLabelledLike 3 (some .int)] ++ wsX70)
def wsX7_standLike_r1 : List Cond := [Cond.fieldLink RX7 21 "GuestParties$Standing" "guests" "I", Cond.methodLink RX7 58 yX7_guests, Cond.instanceMethod yX7_guests, Cond.selects RX7 yX7_guests yX7_guests, Cond.initialized RX7, Cond.code yX7_guests cX7_guests 1 (some .int), Cond.methodLink RX7 61 yX7_code, Cond.instanceMethod yX7_code, Cond.selects RX7 yX7_code yX7_code, Cond.code yX7_code cX7_code 3 (some .int), Cond.methodLink RX7 32 yX7_partyOf, Cond.instanceMethod yX7_partyOf, Cond.selects RX7 yX7_partyOf yX7_partyOf, Cond.code yX7_partyOf cX7_partyOf 2 (some .int), Cond.fieldLink RX7 9 "GuestParties$Standing" "row" "[I", Cond.methodLink RX7 28 yX7_shiftOf, Cond.static yX7_shiftOf, Cond.code yX7_shiftOf cX7_shiftOf 1 (some .int), Cond.methodLink RX7 64 yX7_standAs, Cond.instanceMethod yX7_standAs, Cond.selects RX7 yX7_standAs yX7_standAs, Cond.code yX7_standAs cX7_standAs 3 none, Cond.fieldLink RX7 18 "GuestParties$Standing" "labels" "[I", Cond.methodLink RX7 55 yX7_partyIn]
def wsX7_standLike_r2 : List Cond := [Cond.static yX7_partyIn, Cond.code yX7_partyIn cX7_partyIn 2 (some .int), Cond.methodLink RX7 52 yX7_settle, Cond.instanceMethod yX7_settle, Cond.selects RX7 yX7_settle yX7_settle, Cond.code yX7_settle cX7_settle 3 none, Cond.fieldLink RX7 25 "GuestParties$Standing" "parties" "I", Cond.fieldLink RX7 15 "GuestParties$Standing" "sets" "[I", Cond.methodLink RX7 81 yX7_firstLabelledLike, Cond.instanceMethod yX7_firstLabelledLike, Cond.selects RX7 yX7_firstLabelledLike yX7_firstLabelledLike, Cond.code yX7_firstLabelledLike cX7_firstLabelledLike 3 (some .int)]
def wsX7_standLike : List Cond := .code yX7_standLike cX7_standLike 2 none :: ((wsX7_standLike_r1 ++ wsX7_standLike_r2) ++ wsX70)
def wsX5_guests : List Cond := .code yX5_guests cX5_guests 1 (some .int) :: ([.fieldLink RX5 29 "GuestParties$Rules" "guests" "I"] ++ wsX50)
def wsX7_parties : List Cond := .code yX7_parties cX7_parties 1 (some .int) :: ([.fieldLink RX7 25 "GuestParties$Standing" "parties" "I"] ++ wsX70)
def wsX7_setOf : List Cond := .code yX7_setOf cX7_setOf 2 (some .int) :: ([.fieldLink RX7 25 "GuestParties$Standing" "parties" "I", .fieldLink RX7 15 "GuestParties$Standing" "sets" "[I"] ++ wsX70)
def wsX5_isOne : List Cond := .code yX5_isOne cX5_isOne 1 (some .boolean) :: ([])
def wsX5_worthWith : List Cond := .code yX5_worthWith cX5_worthWith 5 (some .int) :: ([.fieldLink RX5 29 "GuestParties$Rules" "guests" "I", .fieldLink RX5 26 "GuestParties$Rules" "worths" "[[I", .methodLink RX5 33 yX5_isOne, .static yX5_isOne, .initialized RX5, .code yX5_isOne cX5_isOne 1 (some .boolean)] ++ wsX50)
def wsX7_relabel : List Cond := .code yX7_relabel cX7_relabel 2 none :: ([.fieldLink RX7 21 "GuestParties$Standing" "guests" "I", .fieldLink RX7 18 "GuestParties$Standing" "labels" "[I", .fieldLink RX7 9 "GuestParties$Standing" "row" "[I"] ++ wsX70)
def wsX7_sendToParty : List Cond := .code yX7_sendToParty cX7_sendToParty 3 none :: ([.fieldLink RX7 21 "GuestParties$Standing" "guests" "I", .fieldLink RX7 18 "GuestParties$Standing" "labels" "[I", .methodLink RX7 72 yX7_relabel, .instanceMethod yX7_relabel, .selects RX7 yX7_relabel yX7_relabel, .initialized RX7, .code yX7_relabel cX7_relabel 2 none, .fieldLink RX7 9 "GuestParties$Standing" "row" "[I", .methodLink RX7 52 yX7_settle, .instanceMethod yX7_settle, .selects RX7 yX7_settle yX7_settle, .code yX7_settle cX7_settle 3 none, .fieldLink RX7 25 "GuestParties$Standing" "parties" "I", .fieldLink RX7 15 "GuestParties$Standing" "sets" "[I", .methodLink RX7 81 yX7_firstLabelledLike, .instanceMethod yX7_firstLabelledLike, .selects RX7 yX7_firstLabelledLike yX7_firstLabelledLike, .code yX7_firstLabelledLike cX7_firstLabelledLike 3 (some .int)] ++ wsX70)
def wsX7_sendAlone : List Cond := .code yX7_sendAlone cX7_sendAlone 2 none :: ([.methodLink RX7 68 yX7_sendToParty, .instanceMethod yX7_sendToParty, .selects RX7 yX7_sendToParty yX7_sendToParty, .initialized RX7, .code yX7_sendToParty cX7_sendToParty 3 none, .fieldLink RX7 21 "GuestParties$Standing" "guests" "I", .fieldLink RX7 18 "GuestParties$Standing" "labels" "[I", .methodLink RX7 72 yX7_relabel, .instanceMethod yX7_relabel, .selects RX7 yX7_relabel yX7_relabel, .code yX7_relabel cX7_relabel 2 none, .fieldLink RX7 9 "GuestParties$Standing" "row" "[I", .methodLink RX7 52 yX7_settle, .instanceMethod yX7_settle, .selects RX7 yX7_settle yX7_settle, .code yX7_settle cX7_settle 3 none, .fieldLink RX7 25 "GuestParties$Standing" "parties" "I", .fieldLink RX7 15 "GuestParties$Standing" "sets" "[I", .methodLink RX7 81 yX7_firstLabelledLike, .instanceMethod yX7_firstLabelledLike, .selects RX7 yX7_firstLabelledLike yX7_firstLabelledLike, .code yX7_firstLabelledLike cX7_firstLabelledLike 3 (some .int)] ++ wsX70)
def wsX0_takesTurn_r1 : List Cond := [Cond.fieldLink RX0 14 "GuestParties$Departure" "standing" "LGuestParties$Standing;", Cond.methodLink RX0 36 yX7_partyOf, Cond.instanceMethod yX7_partyOf, Cond.selects RX7 yX7_partyOf yX7_partyOf, Cond.initialized RX7, Cond.code yX7_partyOf cX7_partyOf 2 (some .int), Cond.fieldLink RX7 21 "GuestParties$Standing" "guests" "I", Cond.fieldLink RX7 9 "GuestParties$Standing" "row" "[I", Cond.methodLink RX0 40 yX7_parties, Cond.instanceMethod yX7_parties, Cond.selects RX7 yX7_parties yX7_parties, Cond.code yX7_parties cX7_parties 1 (some .int), Cond.fieldLink RX7 25 "GuestParties$Standing" "parties" "I", Cond.methodLink RX0 43 yX7_setOf, Cond.instanceMethod yX7_setOf, Cond.selects RX7 yX7_setOf yX7_setOf, Cond.code yX7_setOf cX7_setOf 2 (some .int), Cond.fieldLink RX7 15 "GuestParties$Standing" "sets" "[I", Cond.methodLink RX0 46 yX5_worthWith, Cond.instanceMethod yX5_worthWith, Cond.selects RX5 yX5_worthWith yX5_worthWith, Cond.initialized RX5, Cond.code yX5_worthWith cX5_worthWith 5 (some .int), Cond.fieldLink RX5 29 "GuestParties$Rules" "guests" "I"]
def wsX0_takesTurn_r2 : List Cond := [Cond.fieldLink RX5 26 "GuestParties$Rules" "worths" "[[I", Cond.methodLink RX5 33 yX5_isOne, Cond.static yX5_isOne, Cond.code yX5_isOne cX5_isOne 1 (some .boolean), Cond.methodLink RX0 50 yX7_sendAlone, Cond.instanceMethod yX7_sendAlone, Cond.selects RX7 yX7_sendAlone yX7_sendAlone, Cond.code yX7_sendAlone cX7_sendAlone 2 none, Cond.methodLink RX7 68 yX7_sendToParty, Cond.instanceMethod yX7_sendToParty, Cond.selects RX7 yX7_sendToParty yX7_sendToParty, Cond.code yX7_sendToParty cX7_sendToParty 3 none, Cond.fieldLink RX7 18 "GuestParties$Standing" "labels" "[I", Cond.methodLink RX7 72 yX7_relabel, Cond.instanceMethod yX7_relabel, Cond.selects RX7 yX7_relabel yX7_relabel, Cond.code yX7_relabel cX7_relabel 2 none, Cond.methodLink RX7 52 yX7_settle, Cond.instanceMethod yX7_settle, Cond.selects RX7 yX7_settle yX7_settle, Cond.code yX7_settle cX7_settle 3 none, Cond.methodLink RX7 81 yX7_firstLabelledLike, Cond.instanceMethod yX7_firstLabelledLike, Cond.selects RX7 yX7_firstLabelledLike yX7_firstLabelledLike]
def wsX0_takesTurn_r3 : List Cond := [Cond.code yX7_firstLabelledLike cX7_firstLabelledLike 3 (some .int), Cond.methodLink RX0 54 yX7_sendToParty]
def wsX0_takesTurn : List Cond := .code yX0_takesTurn cX0_takesTurn 8 (some .boolean) :: ((wsX0_takesTurn_r1 ++ (wsX0_takesTurn_r2 ++ wsX0_takesTurn_r3)) ++ wsX00 ++ wsX70 ++ wsX50)
def wsX0_run_r1 : List Cond := [Cond.fieldLink RX0 14 "GuestParties$Departure" "standing" "LGuestParties$Standing;", Cond.fieldLink RX0 18 "GuestParties$Departure" "goings" "I", Cond.methodLink RX0 22 yX7_standLike, Cond.instanceMethod yX7_standLike, Cond.selects RX7 yX7_standLike yX7_standLike, Cond.initialized RX7, Cond.code yX7_standLike cX7_standLike 2 none, Cond.fieldLink RX7 21 "GuestParties$Standing" "guests" "I", Cond.methodLink RX7 58 yX7_guests, Cond.instanceMethod yX7_guests, Cond.selects RX7 yX7_guests yX7_guests, Cond.code yX7_guests cX7_guests 1 (some .int), Cond.methodLink RX7 61 yX7_code, Cond.instanceMethod yX7_code, Cond.selects RX7 yX7_code yX7_code, Cond.code yX7_code cX7_code 3 (some .int), Cond.methodLink RX7 32 yX7_partyOf, Cond.instanceMethod yX7_partyOf, Cond.selects RX7 yX7_partyOf yX7_partyOf, Cond.code yX7_partyOf cX7_partyOf 2 (some .int), Cond.fieldLink RX7 9 "GuestParties$Standing" "row" "[I", Cond.methodLink RX7 28 yX7_shiftOf, Cond.static yX7_shiftOf, Cond.code yX7_shiftOf cX7_shiftOf 1 (some .int)]
def wsX0_run_r2 : List Cond := [Cond.methodLink RX7 64 yX7_standAs, Cond.instanceMethod yX7_standAs, Cond.selects RX7 yX7_standAs yX7_standAs, Cond.code yX7_standAs cX7_standAs 3 none, Cond.fieldLink RX7 18 "GuestParties$Standing" "labels" "[I", Cond.methodLink RX7 55 yX7_partyIn, Cond.static yX7_partyIn, Cond.code yX7_partyIn cX7_partyIn 2 (some .int), Cond.methodLink RX7 52 yX7_settle, Cond.instanceMethod yX7_settle, Cond.selects RX7 yX7_settle yX7_settle, Cond.code yX7_settle cX7_settle 3 none, Cond.fieldLink RX7 25 "GuestParties$Standing" "parties" "I", Cond.fieldLink RX7 15 "GuestParties$Standing" "sets" "[I", Cond.methodLink RX7 81 yX7_firstLabelledLike, Cond.instanceMethod yX7_firstLabelledLike, Cond.selects RX7 yX7_firstLabelledLike yX7_firstLabelledLike, Cond.code yX7_firstLabelledLike cX7_firstLabelledLike 3 (some .int), Cond.methodLink RX0 26 yX5_guests, Cond.instanceMethod yX5_guests, Cond.selects RX5 yX5_guests yX5_guests, Cond.initialized RX5, Cond.code yX5_guests cX5_guests 1 (some .int), Cond.fieldLink RX5 29 "GuestParties$Rules" "guests" "I"]
def wsX0_run_r3 : List Cond := [Cond.methodLink RX0 32 yX0_takesTurn, Cond.instanceMethod yX0_takesTurn, Cond.selects RX0 yX0_takesTurn yX0_takesTurn, Cond.initialized RX0, Cond.code yX0_takesTurn cX0_takesTurn 8 (some .boolean), Cond.methodLink RX0 36 yX7_partyOf, Cond.methodLink RX0 40 yX7_parties, Cond.instanceMethod yX7_parties, Cond.selects RX7 yX7_parties yX7_parties, Cond.code yX7_parties cX7_parties 1 (some .int), Cond.methodLink RX0 43 yX7_setOf, Cond.instanceMethod yX7_setOf, Cond.selects RX7 yX7_setOf yX7_setOf, Cond.code yX7_setOf cX7_setOf 2 (some .int), Cond.methodLink RX0 46 yX5_worthWith, Cond.instanceMethod yX5_worthWith, Cond.selects RX5 yX5_worthWith yX5_worthWith, Cond.code yX5_worthWith cX5_worthWith 5 (some .int), Cond.fieldLink RX5 26 "GuestParties$Rules" "worths" "[[I", Cond.methodLink RX5 33 yX5_isOne, Cond.static yX5_isOne, Cond.code yX5_isOne cX5_isOne 1 (some .boolean), Cond.methodLink RX0 50 yX7_sendAlone, Cond.instanceMethod yX7_sendAlone]
def wsX0_run_r4 : List Cond := [Cond.selects RX7 yX7_sendAlone yX7_sendAlone, Cond.code yX7_sendAlone cX7_sendAlone 2 none, Cond.methodLink RX7 68 yX7_sendToParty, Cond.instanceMethod yX7_sendToParty, Cond.selects RX7 yX7_sendToParty yX7_sendToParty, Cond.code yX7_sendToParty cX7_sendToParty 3 none, Cond.methodLink RX7 72 yX7_relabel, Cond.instanceMethod yX7_relabel, Cond.selects RX7 yX7_relabel yX7_relabel, Cond.code yX7_relabel cX7_relabel 2 none, Cond.methodLink RX0 54 yX7_sendToParty]
def wsX0_run : List Cond := .code yX0_run cX0_run 6 none :: ((wsX0_run_r1 ++ (wsX0_run_r2 ++ (wsX0_run_r3 ++ wsX0_run_r4))) ++ wsX00 ++ wsX70 ++ wsX50)
def wsX6_init : List Cond := .code yX6_init cX6_init 1 none :: ([.methodLink RX6 1 objectInit, .instanceMethod objectInit, .code objectInit ⟨#[0xb1]⟩ 1 none, .arrayClass .int, .fieldLink RX6 9 "GuestParties$Sights" "ones" "[I", .fieldLink RX6 13 "GuestParties$Sights" "others" "[I", .arrayClass .boolean, .fieldLink RX6 16 "GuestParties$Sights" "together" "[Z", .fieldLink RX6 20 "GuestParties$Sights" "size" "I"] ++ wsX60)
def wsX1_init_r1 : List Cond := [Cond.methodLink RX1 1 objectInit, Cond.instanceMethod objectInit, Cond.code objectInit ⟨#[0xb1]⟩ 1 none, Cond.classLink RX1 7 RX7, Cond.instantiable RX7 5, Cond.initialized RX7, Cond.fieldLink RX1 10 "GuestParties$Image" "standing" "LGuestParties$Standing;", Cond.classLink RX1 16 RX6, Cond.instantiable RX6 4, Cond.initialized RX6, Cond.fieldLink RX1 19 "GuestParties$Image" "sights" "LGuestParties$Sights;", Cond.fieldLink RX1 23 "GuestParties$Image" "lotThen" "I", Cond.fieldLink RX1 27 "GuestParties$Image" "isKept" "Z", Cond.instanceMethod yX7_init, Cond.code yX7_init cX7_init 1 none, Cond.methodLink RX7 3 objectInit, Cond.arrayClass .int, Cond.fieldLink RX7 9 "GuestParties$Standing" "row" "[I", Cond.fieldLink RX7 15 "GuestParties$Standing" "sets" "[I", Cond.fieldLink RX7 18 "GuestParties$Standing" "labels" "[I", Cond.fieldLink RX7 21 "GuestParties$Standing" "guests" "I", Cond.fieldLink RX7 25 "GuestParties$Standing" "parties" "I", Cond.instanceMethod yX6_init, Cond.code yX6_init cX6_init 1 none]
def wsX1_init_r2 : List Cond := [Cond.methodLink RX6 1 objectInit, Cond.fieldLink RX6 9 "GuestParties$Sights" "ones" "[I", Cond.fieldLink RX6 13 "GuestParties$Sights" "others" "[I", Cond.arrayClass .boolean, Cond.fieldLink RX6 16 "GuestParties$Sights" "together" "[Z", Cond.fieldLink RX6 20 "GuestParties$Sights" "size" "I"]
def wsX1_init : List Cond := .code yX1_init cX1_init 1 none :: ((wsX1_init_r1 ++ wsX1_init_r2) ++ wsX70 ++ wsX10 ++ wsX60)
def wsX1_isKept : List Cond := .code yX1_isKept cX1_isKept 1 (some .boolean) :: ([.fieldLink RX1 27 "GuestParties$Image" "isKept" "Z"] ++ wsX10)
def wsX1_standing : List Cond := .code yX1_standing cX1_standing 1 (some (.object "GuestParties$Standing")) :: ([.fieldLink RX1 10 "GuestParties$Image" "standing" "LGuestParties$Standing;"] ++ wsX10)
def wsX1_drop : List Cond := .code yX1_drop cX1_drop 1 none :: ([.fieldLink RX1 27 "GuestParties$Image" "isKept" "Z"] ++ wsX10)
def wsX6_empty : List Cond := .code yX6_empty cX6_empty 1 none :: ([.fieldLink RX6 20 "GuestParties$Sights" "size" "I"] ++ wsX60)
def wsX6_add : List Cond := .code yX6_add cX6_add 4 none :: ([.fieldLink RX6 20 "GuestParties$Sights" "size" "I", .fieldLink RX6 9 "GuestParties$Sights" "ones" "[I", .fieldLink RX6 13 "GuestParties$Sights" "others" "[I", .fieldLink RX6 16 "GuestParties$Sights" "together" "[Z"] ++ wsX60)
def wsX6_copy : List Cond := .code yX6_copy cX6_copy 3 none :: ([.fieldLink RX6 20 "GuestParties$Sights" "size" "I", .fieldLink RX6 9 "GuestParties$Sights" "ones" "[I", .fieldLink RX6 13 "GuestParties$Sights" "others" "[I", .fieldLink RX6 16 "GuestParties$Sights" "together" "[Z", .methodLink RX6 24 yX6_empty, .instanceMethod yX6_empty, .selects RX6 yX6_empty yX6_empty, .initialized RX6, .code yX6_empty cX6_empty 1 none, .methodLink RX6 27 yX6_add, .instanceMethod yX6_add, .selects RX6 yX6_add yX6_add, .code yX6_add cX6_add 4 none] ++ wsX60)
def wsX2_value : List Cond := .code yX2_value cX2_value 1 (some .int) :: ([.fieldLink RX2 7 "GuestParties$Lot" "value" "I"] ++ wsX20)
def wsX1_take_r1 : List Cond := [Cond.fieldLink RX1 10 "GuestParties$Image" "standing" "LGuestParties$Standing;", Cond.fieldLink RX1 19 "GuestParties$Image" "sights" "LGuestParties$Sights;", Cond.fieldLink RX1 23 "GuestParties$Image" "lotThen" "I", Cond.fieldLink RX1 27 "GuestParties$Image" "isKept" "Z", Cond.methodLink RX1 31 yX7_standLike, Cond.instanceMethod yX7_standLike, Cond.selects RX7 yX7_standLike yX7_standLike, Cond.initialized RX7, Cond.code yX7_standLike cX7_standLike 2 none, Cond.fieldLink RX7 21 "GuestParties$Standing" "guests" "I", Cond.methodLink RX7 58 yX7_guests, Cond.instanceMethod yX7_guests, Cond.selects RX7 yX7_guests yX7_guests, Cond.code yX7_guests cX7_guests 1 (some .int), Cond.methodLink RX7 61 yX7_code, Cond.instanceMethod yX7_code, Cond.selects RX7 yX7_code yX7_code, Cond.code yX7_code cX7_code 3 (some .int), Cond.methodLink RX7 32 yX7_partyOf, Cond.instanceMethod yX7_partyOf, Cond.selects RX7 yX7_partyOf yX7_partyOf, Cond.code yX7_partyOf cX7_partyOf 2 (some .int), Cond.fieldLink RX7 9 "GuestParties$Standing" "row" "[I", Cond.methodLink RX7 28 yX7_shiftOf]
def wsX1_take_r2 : List Cond := [Cond.static yX7_shiftOf, Cond.code yX7_shiftOf cX7_shiftOf 1 (some .int), Cond.methodLink RX7 64 yX7_standAs, Cond.instanceMethod yX7_standAs, Cond.selects RX7 yX7_standAs yX7_standAs, Cond.code yX7_standAs cX7_standAs 3 none, Cond.fieldLink RX7 18 "GuestParties$Standing" "labels" "[I", Cond.methodLink RX7 55 yX7_partyIn, Cond.static yX7_partyIn, Cond.code yX7_partyIn cX7_partyIn 2 (some .int), Cond.methodLink RX7 52 yX7_settle, Cond.instanceMethod yX7_settle, Cond.selects RX7 yX7_settle yX7_settle, Cond.code yX7_settle cX7_settle 3 none, Cond.fieldLink RX7 25 "GuestParties$Standing" "parties" "I", Cond.fieldLink RX7 15 "GuestParties$Standing" "sets" "[I", Cond.methodLink RX7 81 yX7_firstLabelledLike, Cond.instanceMethod yX7_firstLabelledLike, Cond.selects RX7 yX7_firstLabelledLike yX7_firstLabelledLike, Cond.code yX7_firstLabelledLike cX7_firstLabelledLike 3 (some .int), Cond.methodLink RX1 35 yX6_copy, Cond.instanceMethod yX6_copy, Cond.selects RX6 yX6_copy yX6_copy, Cond.initialized RX6]
def wsX1_take_r3 : List Cond := [Cond.code yX6_copy cX6_copy 3 none, Cond.fieldLink RX6 20 "GuestParties$Sights" "size" "I", Cond.fieldLink RX6 9 "GuestParties$Sights" "ones" "[I", Cond.fieldLink RX6 13 "GuestParties$Sights" "others" "[I", Cond.fieldLink RX6 16 "GuestParties$Sights" "together" "[Z", Cond.methodLink RX6 24 yX6_empty, Cond.instanceMethod yX6_empty, Cond.selects RX6 yX6_empty yX6_empty, Cond.code yX6_empty cX6_empty 1 none, Cond.methodLink RX6 27 yX6_add, Cond.instanceMethod yX6_add, Cond.selects RX6 yX6_add yX6_add, Cond.code yX6_add cX6_add 4 none, Cond.methodLink RX1 39 yX2_value, Cond.instanceMethod yX2_value, Cond.selects RX2 yX2_value yX2_value, Cond.initialized RX2, Cond.code yX2_value cX2_value 1 (some .int), Cond.fieldLink RX2 7 "GuestParties$Lot" "value" "I"]
def wsX1_take : List Cond := .code yX1_take cX1_take 4 none :: ((wsX1_take_r1 ++ (wsX1_take_r2 ++ wsX1_take_r3)) ++ wsX10 ++ wsX70 ++ wsX60 ++ wsX20)
def wsX2_become : List Cond := .code yX2_become cX2_become 2 none :: ([.fieldLink RX2 7 "GuestParties$Lot" "value" "I"] ++ wsX20)
def wsX1_giveBack_r1 : List Cond := [Cond.fieldLink RX1 10 "GuestParties$Image" "standing" "LGuestParties$Standing;", Cond.fieldLink RX1 19 "GuestParties$Image" "sights" "LGuestParties$Sights;", Cond.fieldLink RX1 23 "GuestParties$Image" "lotThen" "I", Cond.methodLink RX1 31 yX7_standLike, Cond.instanceMethod yX7_standLike, Cond.selects RX7 yX7_standLike yX7_standLike, Cond.initialized RX7, Cond.code yX7_standLike cX7_standLike 2 none, Cond.fieldLink RX7 21 "GuestParties$Standing" "guests" "I", Cond.methodLink RX7 58 yX7_guests, Cond.instanceMethod yX7_guests, Cond.selects RX7 yX7_guests yX7_guests, Cond.code yX7_guests cX7_guests 1 (some .int), Cond.methodLink RX7 61 yX7_code, Cond.instanceMethod yX7_code, Cond.selects RX7 yX7_code yX7_code, Cond.code yX7_code cX7_code 3 (some .int), Cond.methodLink RX7 32 yX7_partyOf, Cond.instanceMethod yX7_partyOf, Cond.selects RX7 yX7_partyOf yX7_partyOf, Cond.code yX7_partyOf cX7_partyOf 2 (some .int), Cond.fieldLink RX7 9 "GuestParties$Standing" "row" "[I", Cond.methodLink RX7 28 yX7_shiftOf, Cond.static yX7_shiftOf]
def wsX1_giveBack_r2 : List Cond := [Cond.code yX7_shiftOf cX7_shiftOf 1 (some .int), Cond.methodLink RX7 64 yX7_standAs, Cond.instanceMethod yX7_standAs, Cond.selects RX7 yX7_standAs yX7_standAs, Cond.code yX7_standAs cX7_standAs 3 none, Cond.fieldLink RX7 18 "GuestParties$Standing" "labels" "[I", Cond.methodLink RX7 55 yX7_partyIn, Cond.static yX7_partyIn, Cond.code yX7_partyIn cX7_partyIn 2 (some .int), Cond.methodLink RX7 52 yX7_settle, Cond.instanceMethod yX7_settle, Cond.selects RX7 yX7_settle yX7_settle, Cond.code yX7_settle cX7_settle 3 none, Cond.fieldLink RX7 25 "GuestParties$Standing" "parties" "I", Cond.fieldLink RX7 15 "GuestParties$Standing" "sets" "[I", Cond.methodLink RX7 81 yX7_firstLabelledLike, Cond.instanceMethod yX7_firstLabelledLike, Cond.selects RX7 yX7_firstLabelledLike yX7_firstLabelledLike, Cond.code yX7_firstLabelledLike cX7_firstLabelledLike 3 (some .int), Cond.methodLink RX1 35 yX6_copy, Cond.instanceMethod yX6_copy, Cond.selects RX6 yX6_copy yX6_copy, Cond.initialized RX6, Cond.code yX6_copy cX6_copy 3 none]
def wsX1_giveBack_r3 : List Cond := [Cond.fieldLink RX6 20 "GuestParties$Sights" "size" "I", Cond.fieldLink RX6 9 "GuestParties$Sights" "ones" "[I", Cond.fieldLink RX6 13 "GuestParties$Sights" "others" "[I", Cond.fieldLink RX6 16 "GuestParties$Sights" "together" "[Z", Cond.methodLink RX6 24 yX6_empty, Cond.instanceMethod yX6_empty, Cond.selects RX6 yX6_empty yX6_empty, Cond.code yX6_empty cX6_empty 1 none, Cond.methodLink RX6 27 yX6_add, Cond.instanceMethod yX6_add, Cond.selects RX6 yX6_add yX6_add, Cond.code yX6_add cX6_add 4 none, Cond.methodLink RX1 45 yX2_become, Cond.instanceMethod yX2_become, Cond.selects RX2 yX2_become yX2_become, Cond.initialized RX2, Cond.code yX2_become cX2_become 2 none, Cond.fieldLink RX2 7 "GuestParties$Lot" "value" "I"]
def wsX1_giveBack : List Cond := .code yX1_giveBack cX1_giveBack 4 none :: ((wsX1_giveBack_r1 ++ (wsX1_giveBack_r2 ++ wsX1_giveBack_r3)) ++ wsX10 ++ wsX70 ++ wsX60 ++ wsX20)
def wsX2_init : List Cond := .code yX2_init cX2_init 1 none :: ([.methodLink RX2 1 objectInit, .instanceMethod objectInit, .code objectInit ⟨#[0xb1]⟩ 1 none, .fieldLink RX2 7 "GuestParties$Lot" "value" "I"] ++ wsX20)
def wsX2_nextBelow : List Cond := .code yX2_nextBelow cX2_nextBelow 2 (some .int) :: ([.fieldLink RX2 7 "GuestParties$Lot" "value" "I", .constant RX2 13 (1103515245)] ++ wsX20)
def wsX3_init : List Cond := .code yX3_init cX3_init 1 none :: ([.methodLink RX3 3 objectInit, .instanceMethod objectInit, .code objectInit ⟨#[0xb1]⟩ 1 none, .classLink RX3 9 RX7, .instantiable RX7 5, .initialized RX7, .fieldLink RX3 12 "GuestParties$Meeting" "finer" "LGuestParties$Standing;", .fieldLink RX3 18 "GuestParties$Meeting" "coarser" "LGuestParties$Standing;", .instanceMethod yX7_init, .code yX7_init cX7_init 1 none, .methodLink RX7 3 objectInit, .arrayClass .int, .fieldLink RX7 9 "GuestParties$Standing" "row" "[I", .fieldLink RX7 15 "GuestParties$Standing" "sets" "[I", .fieldLink RX7 18 "GuestParties$Standing" "labels" "[I", .fieldLink RX7 21 "GuestParties$Standing" "guests" "I", .fieldLink RX7 25 "GuestParties$Standing" "parties" "I"] ++ wsX70 ++ wsX30)
def wsX3_finer : List Cond := .code yX3_finer cX3_finer 1 (some (.object "GuestParties$Standing")) :: ([.fieldLink RX3 12 "GuestParties$Meeting" "finer" "LGuestParties$Standing;"] ++ wsX30)
def wsX3_coarser : List Cond := .code yX3_coarser cX3_coarser 1 (some (.object "GuestParties$Standing")) :: ([.fieldLink RX3 18 "GuestParties$Meeting" "coarser" "LGuestParties$Standing;"] ++ wsX30)
def wsX7_meet : List Cond := .code yX7_meet cX7_meet 4 none :: ([.fieldLink RX7 21 "GuestParties$Standing" "guests" "I", .fieldLink RX7 18 "GuestParties$Standing" "labels" "[I", .methodLink RX7 58 yX7_guests, .instanceMethod yX7_guests, .selects RX7 yX7_guests yX7_guests, .initialized RX7, .code yX7_guests cX7_guests 1 (some .int), .methodLink RX7 32 yX7_partyOf, .instanceMethod yX7_partyOf, .selects RX7 yX7_partyOf yX7_partyOf, .code yX7_partyOf cX7_partyOf 2 (some .int), .fieldLink RX7 9 "GuestParties$Standing" "row" "[I", .methodLink RX7 52 yX7_settle, .instanceMethod yX7_settle, .selects RX7 yX7_settle yX7_settle, .code yX7_settle cX7_settle 3 none, .fieldLink RX7 25 "GuestParties$Standing" "parties" "I", .fieldLink RX7 15 "GuestParties$Standing" "sets" "[I", .methodLink RX7 81 yX7_firstLabelledLike, .instanceMethod yX7_firstLabelledLike, .selects RX7 yX7_firstLabelledLike yX7_firstLabelledLike, .code yX7_firstLabelledLike cX7_firstLabelledLike 3 (some .int)] ++ wsX70)
def wsJ6_numberOfTrailingZeros_0f7a4 : List Cond := .code yJ6_numberOfTrailingZeros_0f7a4 cJ6_numberOfTrailingZeros_0f7a4 2 (some .int) :: ([.constant RJ6 264 (65536)])
def wsX7_merge : List Cond := .code yX7_merge cX7_merge 4 none :: ([.fieldLink RX7 21 "GuestParties$Standing" "guests" "I", .fieldLink RX7 18 "GuestParties$Standing" "labels" "[I", .fieldLink RX7 9 "GuestParties$Standing" "row" "[I", .methodLink RX7 52 yX7_settle, .instanceMethod yX7_settle, .selects RX7 yX7_settle yX7_settle, .initialized RX7, .code yX7_settle cX7_settle 3 none, .fieldLink RX7 25 "GuestParties$Standing" "parties" "I", .fieldLink RX7 15 "GuestParties$Standing" "sets" "[I", .methodLink RX7 81 yX7_firstLabelledLike, .instanceMethod yX7_firstLabelledLike, .selects RX7 yX7_firstLabelledLike yX7_firstLabelledLike, .code yX7_firstLabelledLike cX7_firstLabelledLike 3 (some .int)] ++ wsX70)
def wsX7_mergeAlong_r1 : List Cond := [Cond.fieldLink RX7 21 "GuestParties$Standing" "guests" "I", Cond.methodLink RX7 32 yX7_partyOf, Cond.instanceMethod yX7_partyOf, Cond.selects RX7 yX7_partyOf yX7_partyOf, Cond.initialized RX7, Cond.code yX7_partyOf cX7_partyOf 2 (some .int), Cond.fieldLink RX7 9 "GuestParties$Standing" "row" "[I", Cond.methodLink RX7 35 yX7_setOf, Cond.instanceMethod yX7_setOf, Cond.selects RX7 yX7_setOf yX7_setOf, Cond.code yX7_setOf cX7_setOf 2 (some .int), Cond.fieldLink RX7 25 "GuestParties$Standing" "parties" "I", Cond.fieldLink RX7 15 "GuestParties$Standing" "sets" "[I", Cond.methodLink RX7 75 yJ6_numberOfTrailingZeros_0f7a4, Cond.static yJ6_numberOfTrailingZeros_0f7a4, Cond.initialized RJ6, Cond.code yJ6_numberOfTrailingZeros_0f7a4 cJ6_numberOfTrailingZeros_0f7a4 2 (some .int), Cond.constant RJ6 264 (65536), Cond.methodLink RX7 78 yX7_merge, Cond.instanceMethod yX7_merge, Cond.selects RX7 yX7_merge yX7_merge, Cond.code yX7_merge cX7_merge 4 none, Cond.fieldLink RX7 18 "GuestParties$Standing" "labels" "[I", Cond.methodLink RX7 52 yX7_settle]
def wsX7_mergeAlong_r2 : List Cond := [Cond.instanceMethod yX7_settle, Cond.selects RX7 yX7_settle yX7_settle, Cond.code yX7_settle cX7_settle 3 none, Cond.methodLink RX7 81 yX7_firstLabelledLike, Cond.instanceMethod yX7_firstLabelledLike, Cond.selects RX7 yX7_firstLabelledLike yX7_firstLabelledLike, Cond.code yX7_firstLabelledLike cX7_firstLabelledLike 3 (some .int)]
def wsX7_mergeAlong : List Cond := .code yX7_mergeAlong cX7_mergeAlong 4 none :: ((wsX7_mergeAlong_r1 ++ wsX7_mergeAlong_r2) ++ wsX70)
def wsX3_compare_r1 : List Cond := [Cond.fieldLink RX3 12 "GuestParties$Meeting" "finer" "LGuestParties$Standing;", Cond.fieldLink RX3 18 "GuestParties$Meeting" "coarser" "LGuestParties$Standing;", Cond.methodLink RX3 21 yX7_meet, Cond.instanceMethod yX7_meet, Cond.selects RX7 yX7_meet yX7_meet, Cond.initialized RX7, Cond.code yX7_meet cX7_meet 4 none, Cond.fieldLink RX7 21 "GuestParties$Standing" "guests" "I", Cond.fieldLink RX7 18 "GuestParties$Standing" "labels" "[I", Cond.methodLink RX7 58 yX7_guests, Cond.instanceMethod yX7_guests, Cond.selects RX7 yX7_guests yX7_guests, Cond.code yX7_guests cX7_guests 1 (some .int), Cond.methodLink RX7 32 yX7_partyOf, Cond.instanceMethod yX7_partyOf, Cond.selects RX7 yX7_partyOf yX7_partyOf, Cond.code yX7_partyOf cX7_partyOf 2 (some .int), Cond.fieldLink RX7 9 "GuestParties$Standing" "row" "[I", Cond.methodLink RX7 52 yX7_settle, Cond.instanceMethod yX7_settle, Cond.selects RX7 yX7_settle yX7_settle, Cond.code yX7_settle cX7_settle 3 none, Cond.fieldLink RX7 25 "GuestParties$Standing" "parties" "I", Cond.fieldLink RX7 15 "GuestParties$Standing" "sets" "[I"]
def wsX3_compare_r2 : List Cond := [Cond.methodLink RX7 81 yX7_firstLabelledLike, Cond.instanceMethod yX7_firstLabelledLike, Cond.selects RX7 yX7_firstLabelledLike yX7_firstLabelledLike, Cond.code yX7_firstLabelledLike cX7_firstLabelledLike 3 (some .int), Cond.methodLink RX3 25 yX7_standLike, Cond.instanceMethod yX7_standLike, Cond.selects RX7 yX7_standLike yX7_standLike, Cond.code yX7_standLike cX7_standLike 2 none, Cond.methodLink RX7 61 yX7_code, Cond.instanceMethod yX7_code, Cond.selects RX7 yX7_code yX7_code, Cond.code yX7_code cX7_code 3 (some .int), Cond.methodLink RX7 28 yX7_shiftOf, Cond.static yX7_shiftOf, Cond.code yX7_shiftOf cX7_shiftOf 1 (some .int), Cond.methodLink RX7 64 yX7_standAs, Cond.instanceMethod yX7_standAs, Cond.selects RX7 yX7_standAs yX7_standAs, Cond.code yX7_standAs cX7_standAs 3 none, Cond.methodLink RX7 55 yX7_partyIn, Cond.static yX7_partyIn, Cond.code yX7_partyIn cX7_partyIn 2 (some .int), Cond.methodLink RX3 29 yX7_mergeAlong, Cond.instanceMethod yX7_mergeAlong]
def wsX3_compare_r3 : List Cond := [Cond.selects RX7 yX7_mergeAlong yX7_mergeAlong, Cond.code yX7_mergeAlong cX7_mergeAlong 4 none, Cond.methodLink RX7 35 yX7_setOf, Cond.instanceMethod yX7_setOf, Cond.selects RX7 yX7_setOf yX7_setOf, Cond.code yX7_setOf cX7_setOf 2 (some .int), Cond.methodLink RX7 75 yJ6_numberOfTrailingZeros_0f7a4, Cond.static yJ6_numberOfTrailingZeros_0f7a4, Cond.initialized RJ6, Cond.code yJ6_numberOfTrailingZeros_0f7a4 cJ6_numberOfTrailingZeros_0f7a4 2 (some .int), Cond.constant RJ6 264 (65536), Cond.methodLink RX7 78 yX7_merge, Cond.instanceMethod yX7_merge, Cond.selects RX7 yX7_merge yX7_merge, Cond.code yX7_merge cX7_merge 4 none]
def wsX3_compare : List Cond := .code yX3_compare cX3_compare 3 none :: ((wsX3_compare_r1 ++ (wsX3_compare_r2 ++ wsX3_compare_r3)) ++ wsX30 ++ wsX70)
def wsX3_piecesOf : List Cond := .code yX3_piecesOf cX3_piecesOf 4 (some .int) :: ([.fieldLink RX3 12 "GuestParties$Meeting" "finer" "LGuestParties$Standing;", .methodLink RX3 32 yX7_parties, .instanceMethod yX7_parties, .selects RX7 yX7_parties yX7_parties, .initialized RX7, .code yX7_parties cX7_parties 1 (some .int), .fieldLink RX7 25 "GuestParties$Standing" "parties" "I", .methodLink RX3 36 yX7_setOf, .instanceMethod yX7_setOf, .selects RX7 yX7_setOf yX7_setOf, .code yX7_setOf cX7_setOf 2 (some .int), .fieldLink RX7 15 "GuestParties$Standing" "sets" "[I"] ++ wsX30 ++ wsX70)
def wsX3_standingsWithin : List Cond := .code yX3_standingsWithin cX3_standingsWithin 4 (some .int) :: ([.fieldLink RX3 18 "GuestParties$Meeting" "coarser" "LGuestParties$Standing;", .fieldLink RX3 43 "GuestParties$Meeting" "FALLS" "[I", .methodLink RX3 32 yX7_parties, .instanceMethod yX7_parties, .selects RX7 yX7_parties yX7_parties, .initialized RX7, .code yX7_parties cX7_parties 1 (some .int), .fieldLink RX7 25 "GuestParties$Standing" "parties" "I", .methodLink RX3 36 yX7_setOf, .instanceMethod yX7_setOf, .selects RX7 yX7_setOf yX7_setOf, .code yX7_setOf cX7_setOf 2 (some .int), .fieldLink RX7 15 "GuestParties$Standing" "sets" "[I", .methodLink RX3 40 yX3_piecesOf, .instanceMethod yX3_piecesOf, .selects RX3 yX3_piecesOf yX3_piecesOf, .initialized RX3, .code yX3_piecesOf cX3_piecesOf 4 (some .int), .fieldLink RX3 12 "GuestParties$Meeting" "finer" "LGuestParties$Standing;"] ++ wsX30 ++ wsX70)
def wsJ6_bitCount_0f7a4 : List Cond := .code yJ6_bitCount_0f7a4 cJ6_bitCount_0f7a4 1 (some .int) :: ([.constant RJ6 265 (1431655765), .constant RJ6 266 (858993459), .constant RJ6 267 (252645135)])
def wsX3_stayers_r1 : List Cond := [Cond.methodLink RX3 59 Lib.Math.max.name, Cond.static Lib.Math.max.name, Cond.initialized "java/lang/Math", Cond.code Lib.Math.max.name Lib.Math.max.code 2 (some .int), Cond.methodLink RX3 32 yX7_parties, Cond.instanceMethod yX7_parties, Cond.selects RX7 yX7_parties yX7_parties, Cond.initialized RX7, Cond.code yX7_parties cX7_parties 1 (some .int), Cond.fieldLink RX7 25 "GuestParties$Standing" "parties" "I", Cond.methodLink RX3 50 yX3_stayers, Cond.static yX3_stayers, Cond.initialized RX3, Cond.methodLink RX3 36 yX7_setOf, Cond.instanceMethod yX7_setOf, Cond.selects RX7 yX7_setOf yX7_setOf, Cond.code yX7_setOf cX7_setOf 2 (some .int), Cond.fieldLink RX7 15 "GuestParties$Standing" "sets" "[I", Cond.methodLink RX3 54 yJ6_bitCount_0f7a4, Cond.static yJ6_bitCount_0f7a4, Cond.initialized RJ6, Cond.code yJ6_bitCount_0f7a4 cJ6_bitCount_0f7a4 1 (some .int), Cond.constant RJ6 265 (1431655765), Cond.constant RJ6 266 (858993459)]
def wsX3_stayers_r2 : List Cond := [Cond.constant RJ6 267 (252645135)]
def wsX3_stayers : List Cond := .code yX3_stayers cX3_stayers 7 (some .int) :: ((wsX3_stayers_r1 ++ wsX3_stayers_r2) ++ wsX70)
def wsX3_fewestGoings_r1 : List Cond := [Cond.methodLink RX3 47 yX7_guests, Cond.instanceMethod yX7_guests, Cond.selects RX7 yX7_guests yX7_guests, Cond.initialized RX7, Cond.code yX7_guests cX7_guests 1 (some .int), Cond.fieldLink RX7 21 "GuestParties$Standing" "guests" "I", Cond.methodLink RX3 50 yX3_stayers, Cond.static yX3_stayers, Cond.initialized RX3, Cond.code yX3_stayers cX3_stayers 7 (some .int), Cond.methodLink RX3 59 Lib.Math.max.name, Cond.static Lib.Math.max.name, Cond.initialized "java/lang/Math", Cond.code Lib.Math.max.name Lib.Math.max.code 2 (some .int), Cond.methodLink RX3 32 yX7_parties, Cond.instanceMethod yX7_parties, Cond.selects RX7 yX7_parties yX7_parties, Cond.code yX7_parties cX7_parties 1 (some .int), Cond.fieldLink RX7 25 "GuestParties$Standing" "parties" "I", Cond.methodLink RX3 36 yX7_setOf, Cond.instanceMethod yX7_setOf, Cond.selects RX7 yX7_setOf yX7_setOf, Cond.code yX7_setOf cX7_setOf 2 (some .int), Cond.fieldLink RX7 15 "GuestParties$Standing" "sets" "[I"]
def wsX3_fewestGoings_r2 : List Cond := [Cond.methodLink RX3 54 yJ6_bitCount_0f7a4, Cond.static yJ6_bitCount_0f7a4, Cond.initialized RJ6, Cond.code yJ6_bitCount_0f7a4 cJ6_bitCount_0f7a4 1 (some .int), Cond.constant RJ6 265 (1431655765), Cond.constant RJ6 266 (858993459), Cond.constant RJ6 267 (252645135)]
def wsX3_fewestGoings : List Cond := .code yX3_fewestGoings cX3_fewestGoings 2 (some .int) :: ((wsX3_fewestGoings_r1 ++ wsX3_fewestGoings_r2) ++ wsX70)
def wsX4_init : List Cond := .code yX4_init cX4_init 3 none :: ([.methodLink RX4 3 objectInit, .instanceMethod objectInit, .code objectInit ⟨#[0xb1]⟩ 1 none, .arrayClass .int, .fieldLink RX4 11 "GuestParties$Reader" "numbers" "[I", .fieldLink RX4 15 "GuestParties$Reader" "next" "I", .fieldLink RX4 19 "GuestParties$Reader" "token" "I", .fieldLink RX4 22 "GuestParties$Reader" "tokenStart" "I", .fieldLink RX4 25 "GuestParties$Reader" "value" "I", .fieldLink RX4 28 "GuestParties$Reader" "text" "LGuestParties$Text;", .fieldLink RX4 32 "GuestParties$Reader" "rules" "LGuestParties$Rules;"] ++ wsX40)
def wsX5_reset : List Cond := .code yX5_reset cX5_reset 3 none :: ([.fieldLink RX5 29 "GuestParties$Rules" "guests" "I", .fieldLink RX5 15 "GuestParties$Rules" "laws" "[I", .fieldLink RX5 9 "GuestParties$Rules" "hats" "[I", .fieldLink RX5 18 "GuestParties$Rules" "together" "[I", .fieldLink RX5 21 "GuestParties$Rules" "apart" "[I", .fieldLink RX5 26 "GuestParties$Rules" "worths" "[[I"] ++ wsX50)
def wsX8_byteAt : List Cond := .code yX8_byteAt cX8_byteAt 2 (some .int) :: ([.fieldLink RX8 13 "GuestParties$Text" "length" "I", .fieldLink RX8 9 "GuestParties$Text" "bytes" "[I"] ++ wsX80)
def wsX4_isLetter : List Cond := .code yX4_isLetter cX4_isLetter 1 (some .boolean) :: ([])
def wsX4_spelling : List Cond := .code yX4_spelling cX4_spelling 1 (some (.object "java/lang/String")) :: ([])
def wsJ0_coder_7d493 : List Cond := .code yJ0_coder_7d493 cJ0_coder_7d493 1 (some .byte) :: ([.fieldLink RJ0 38 "java/lang/String" "COMPACT_STRINGS" "Z", .fieldLink RJ0 15 "java/lang/String" "coder" "B"])
def wsJ0_length_8abf5 : List Cond := .code yJ0_length_8abf5 cJ0_length_8abf5 1 (some .int) :: ([.fieldLink RJ0 9 "java/lang/String" "value" "[B", .methodLink RJ0 335 yJ0_coder_7d493, .instanceMethod yJ0_coder_7d493, .selects RJ0 yJ0_coder_7d493 yJ0_coder_7d493, .initialized RJ0, .code yJ0_coder_7d493 cJ0_coder_7d493 1 (some .byte), .fieldLink RJ0 38 "java/lang/String" "COMPACT_STRINGS" "Z", .fieldLink RJ0 15 "java/lang/String" "coder" "B"])
def wsJ0_isLatin1_aae02 : List Cond := .code yJ0_isLatin1_aae02 cJ0_isLatin1_aae02 1 (some .boolean) :: ([.fieldLink RJ0 38 "java/lang/String" "COMPACT_STRINGS" "Z", .fieldLink RJ0 15 "java/lang/String" "coder" "B"])
def wsJ3_checkIndex_8e157 : List Cond := .code yJ3_checkIndex_8e157 cJ3_checkIndex_8e157 3 (some .int) :: ([])
def wsJ0_checkIndex_df160 : List Cond := .code yJ0_checkIndex_df160 cJ0_checkIndex_df160 2 none :: ([.fieldLink RJ0 1053 "jdk/internal/util/Preconditions" "SIOOBE_FORMATTER" "Ljava/util/function/BiFunction;", .methodLink RJ0 1059 yJ3_checkIndex_8e157, .static yJ3_checkIndex_8e157, .initialized RJ3, .code yJ3_checkIndex_8e157 cJ3_checkIndex_8e157 3 (some .int)])
def wsJ1_charAt_3b067 : List Cond := .code yJ1_charAt_3b067 cJ1_charAt_3b067 2 (some .char) :: ([.methodLink RJ1 9 yJ0_checkIndex_df160, .static yJ0_checkIndex_df160, .initialized RJ0, .code yJ0_checkIndex_df160 cJ0_checkIndex_df160 2 none, .fieldLink RJ0 1053 "jdk/internal/util/Preconditions" "SIOOBE_FORMATTER" "Ljava/util/function/BiFunction;", .methodLink RJ0 1059 yJ3_checkIndex_8e157, .static yJ3_checkIndex_8e157, .initialized RJ3, .code yJ3_checkIndex_8e157 cJ3_checkIndex_8e157 3 (some .int)])
def wsJ2_length_9d52b : List Cond := .code yJ2_length_9d52b cJ2_length_9d52b 1 (some .int) :: ([])
def wsJ2_checkIndex_2214a : List Cond := .code yJ2_checkIndex_2214a cJ2_checkIndex_2214a 2 none :: ([.methodLink RJ2 48 yJ2_length_9d52b, .static yJ2_length_9d52b, .initialized RJ2, .code yJ2_length_9d52b cJ2_length_9d52b 1 (some .int), .methodLink RJ2 414 yJ0_checkIndex_df160, .static yJ0_checkIndex_df160, .initialized RJ0, .code yJ0_checkIndex_df160 cJ0_checkIndex_df160 2 none, .fieldLink RJ0 1053 "jdk/internal/util/Preconditions" "SIOOBE_FORMATTER" "Ljava/util/function/BiFunction;", .methodLink RJ0 1059 yJ3_checkIndex_8e157, .static yJ3_checkIndex_8e157, .initialized RJ3, .code yJ3_checkIndex_8e157 cJ3_checkIndex_8e157 3 (some .int)])
def wsJ2_getChar_3b067 : List Cond := .code yJ2_getChar_3b067 cJ2_getChar_3b067 2 (some .char) :: ([.fieldLink RJ2 44 "java/lang/StringUTF16" "$assertionsDisabled" "Z", .fieldLink RJ2 59 "java/lang/StringUTF16" "HI_BYTE_SHIFT" "I", .fieldLink RJ2 63 "java/lang/StringUTF16" "LO_BYTE_SHIFT" "I", .methodLink RJ2 48 yJ2_length_9d52b, .static yJ2_length_9d52b, .initialized RJ2, .code yJ2_length_9d52b cJ2_length_9d52b 1 (some .int)])
def wsJ2_charAt_3b067 : List Cond := .code yJ2_charAt_3b067 cJ2_charAt_3b067 2 (some .char) :: ([.methodLink RJ2 67 yJ2_checkIndex_2214a, .static yJ2_checkIndex_2214a, .initialized RJ2, .code yJ2_checkIndex_2214a cJ2_checkIndex_2214a 2 none, .methodLink RJ2 48 yJ2_length_9d52b, .static yJ2_length_9d52b, .code yJ2_length_9d52b cJ2_length_9d52b 1 (some .int), .methodLink RJ2 414 yJ0_checkIndex_df160, .static yJ0_checkIndex_df160, .initialized RJ0, .code yJ0_checkIndex_df160 cJ0_checkIndex_df160 2 none, .fieldLink RJ0 1053 "jdk/internal/util/Preconditions" "SIOOBE_FORMATTER" "Ljava/util/function/BiFunction;", .methodLink RJ0 1059 yJ3_checkIndex_8e157, .static yJ3_checkIndex_8e157, .initialized RJ3, .code yJ3_checkIndex_8e157 cJ3_checkIndex_8e157 3 (some .int), .methodLink RJ2 71 yJ2_getChar_3b067, .static yJ2_getChar_3b067, .code yJ2_getChar_3b067 cJ2_getChar_3b067 2 (some .char), .fieldLink RJ2 44 "java/lang/StringUTF16" "$assertionsDisabled" "Z", .fieldLink RJ2 59 "java/lang/StringUTF16" "HI_BYTE_SHIFT" "I", .fieldLink RJ2 63 "java/lang/StringUTF16" "LO_BYTE_SHIFT" "I"])
def wsJ0_charAt_5068e_r1 : List Cond := [Cond.fieldLink RJ0 9 "java/lang/String" "value" "[B", Cond.methodLink RJ0 492 yJ0_isLatin1_aae02, Cond.instanceMethod yJ0_isLatin1_aae02, Cond.selects RJ0 yJ0_isLatin1_aae02 yJ0_isLatin1_aae02, Cond.initialized RJ0, Cond.code yJ0_isLatin1_aae02 cJ0_isLatin1_aae02 1 (some .boolean), Cond.fieldLink RJ0 38 "java/lang/String" "COMPACT_STRINGS" "Z", Cond.fieldLink RJ0 15 "java/lang/String" "coder" "B", Cond.methodLink RJ0 495 yJ1_charAt_3b067, Cond.static yJ1_charAt_3b067, Cond.initialized RJ1, Cond.code yJ1_charAt_3b067 cJ1_charAt_3b067 2 (some .char), Cond.methodLink RJ1 9 yJ0_checkIndex_df160, Cond.static yJ0_checkIndex_df160, Cond.code yJ0_checkIndex_df160 cJ0_checkIndex_df160 2 none, Cond.fieldLink RJ0 1053 "jdk/internal/util/Preconditions" "SIOOBE_FORMATTER" "Ljava/util/function/BiFunction;", Cond.methodLink RJ0 1059 yJ3_checkIndex_8e157, Cond.static yJ3_checkIndex_8e157, Cond.initialized RJ3, Cond.code yJ3_checkIndex_8e157 cJ3_checkIndex_8e157 3 (some .int), Cond.methodLink RJ0 498 yJ2_charAt_3b067, Cond.static yJ2_charAt_3b067, Cond.initialized RJ2, Cond.code yJ2_charAt_3b067 cJ2_charAt_3b067 2 (some .char)]
def wsJ0_charAt_5068e_r2 : List Cond := [Cond.methodLink RJ2 67 yJ2_checkIndex_2214a, Cond.static yJ2_checkIndex_2214a, Cond.code yJ2_checkIndex_2214a cJ2_checkIndex_2214a 2 none, Cond.methodLink RJ2 48 yJ2_length_9d52b, Cond.static yJ2_length_9d52b, Cond.code yJ2_length_9d52b cJ2_length_9d52b 1 (some .int), Cond.methodLink RJ2 414 yJ0_checkIndex_df160, Cond.methodLink RJ2 71 yJ2_getChar_3b067, Cond.static yJ2_getChar_3b067, Cond.code yJ2_getChar_3b067 cJ2_getChar_3b067 2 (some .char), Cond.fieldLink RJ2 44 "java/lang/StringUTF16" "$assertionsDisabled" "Z", Cond.fieldLink RJ2 59 "java/lang/StringUTF16" "HI_BYTE_SHIFT" "I", Cond.fieldLink RJ2 63 "java/lang/StringUTF16" "LO_BYTE_SHIFT" "I"]
def wsJ0_charAt_5068e : List Cond := .code yJ0_charAt_5068e cJ0_charAt_5068e 2 (some .char) :: ((wsJ0_charAt_5068e_r1 ++ wsJ0_charAt_5068e_r2))
def wsX4_isSpelled_r1 : List Cond := [Cond.fieldLink RX4 15 "GuestParties$Reader" "next" "I", Cond.fieldLink RX4 22 "GuestParties$Reader" "tokenStart" "I", Cond.fieldLink RX4 28 "GuestParties$Reader" "text" "LGuestParties$Text;", Cond.methodLink RX4 123 yJ0_length_8abf5, Cond.instanceMethod yJ0_length_8abf5, Cond.selects RJ0 yJ0_length_8abf5 yJ0_length_8abf5, Cond.initialized RJ0, Cond.code yJ0_length_8abf5 cJ0_length_8abf5 1 (some .int), Cond.fieldLink RJ0 9 "java/lang/String" "value" "[B", Cond.methodLink RJ0 335 yJ0_coder_7d493, Cond.instanceMethod yJ0_coder_7d493, Cond.selects RJ0 yJ0_coder_7d493 yJ0_coder_7d493, Cond.code yJ0_coder_7d493 cJ0_coder_7d493 1 (some .byte), Cond.fieldLink RJ0 38 "java/lang/String" "COMPACT_STRINGS" "Z", Cond.fieldLink RJ0 15 "java/lang/String" "coder" "B", Cond.methodLink RX4 128 yJ0_charAt_5068e, Cond.instanceMethod yJ0_charAt_5068e, Cond.selects RJ0 yJ0_charAt_5068e yJ0_charAt_5068e, Cond.code yJ0_charAt_5068e cJ0_charAt_5068e 2 (some .char), Cond.methodLink RJ0 492 yJ0_isLatin1_aae02, Cond.instanceMethod yJ0_isLatin1_aae02, Cond.selects RJ0 yJ0_isLatin1_aae02 yJ0_isLatin1_aae02, Cond.code yJ0_isLatin1_aae02 cJ0_isLatin1_aae02 1 (some .boolean), Cond.methodLink RJ0 495 yJ1_charAt_3b067]
def wsX4_isSpelled_r2 : List Cond := [Cond.static yJ1_charAt_3b067, Cond.initialized RJ1, Cond.code yJ1_charAt_3b067 cJ1_charAt_3b067 2 (some .char), Cond.methodLink RJ1 9 yJ0_checkIndex_df160, Cond.static yJ0_checkIndex_df160, Cond.code yJ0_checkIndex_df160 cJ0_checkIndex_df160 2 none, Cond.fieldLink RJ0 1053 "jdk/internal/util/Preconditions" "SIOOBE_FORMATTER" "Ljava/util/function/BiFunction;", Cond.methodLink RJ0 1059 yJ3_checkIndex_8e157, Cond.static yJ3_checkIndex_8e157, Cond.initialized RJ3, Cond.code yJ3_checkIndex_8e157 cJ3_checkIndex_8e157 3 (some .int), Cond.methodLink RJ0 498 yJ2_charAt_3b067, Cond.static yJ2_charAt_3b067, Cond.initialized RJ2, Cond.code yJ2_charAt_3b067 cJ2_charAt_3b067 2 (some .char), Cond.methodLink RJ2 67 yJ2_checkIndex_2214a, Cond.static yJ2_checkIndex_2214a, Cond.code yJ2_checkIndex_2214a cJ2_checkIndex_2214a 2 none, Cond.methodLink RJ2 48 yJ2_length_9d52b, Cond.static yJ2_length_9d52b, Cond.code yJ2_length_9d52b cJ2_length_9d52b 1 (some .int), Cond.methodLink RJ2 414 yJ0_checkIndex_df160, Cond.methodLink RJ2 71 yJ2_getChar_3b067, Cond.static yJ2_getChar_3b067]
def wsX4_isSpelled_r3 : List Cond := [Cond.code yJ2_getChar_3b067 cJ2_getChar_3b067 2 (some .char), Cond.fieldLink RJ2 44 "java/lang/StringUTF16" "$assertionsDisabled" "Z", Cond.fieldLink RJ2 59 "java/lang/StringUTF16" "HI_BYTE_SHIFT" "I", Cond.fieldLink RJ2 63 "java/lang/StringUTF16" "LO_BYTE_SHIFT" "I", Cond.methodLink RX4 100 yX8_byteAt, Cond.instanceMethod yX8_byteAt, Cond.selects RX8 yX8_byteAt yX8_byteAt, Cond.initialized RX8, Cond.code yX8_byteAt cX8_byteAt 2 (some .int), Cond.fieldLink RX8 13 "GuestParties$Text" "length" "I", Cond.fieldLink RX8 9 "GuestParties$Text" "bytes" "[I"]
def wsX4_isSpelled : List Cond := .code yX4_isSpelled cX4_isSpelled 3 (some .boolean) :: ((wsX4_isSpelled_r1 ++ (wsX4_isSpelled_r2 ++ wsX4_isSpelled_r3)) ++ wsX40 ++ wsX80)
def wsX4_scanWord_r1 : List Cond := [Cond.fieldLink RX4 15 "GuestParties$Reader" "next" "I", Cond.fieldLink RX4 28 "GuestParties$Reader" "text" "LGuestParties$Text;", Cond.methodLink RX4 100 yX8_byteAt, Cond.instanceMethod yX8_byteAt, Cond.selects RX8 yX8_byteAt yX8_byteAt, Cond.initialized RX8, Cond.code yX8_byteAt cX8_byteAt 2 (some .int), Cond.fieldLink RX8 13 "GuestParties$Text" "length" "I", Cond.fieldLink RX8 9 "GuestParties$Text" "bytes" "[I", Cond.methodLink RX4 103 yX4_isLetter, Cond.static yX4_isLetter, Cond.initialized RX4, Cond.code yX4_isLetter cX4_isLetter 1 (some .boolean), Cond.methodLink RX4 115 yX4_spelling, Cond.static yX4_spelling, Cond.code yX4_spelling cX4_spelling 1 (some (.object "java/lang/String")), Cond.methodLink RX4 119 yX4_isSpelled, Cond.instanceMethod yX4_isSpelled, Cond.selects RX4 yX4_isSpelled yX4_isSpelled, Cond.code yX4_isSpelled cX4_isSpelled 3 (some .boolean), Cond.fieldLink RX4 22 "GuestParties$Reader" "tokenStart" "I", Cond.methodLink RX4 123 yJ0_length_8abf5, Cond.instanceMethod yJ0_length_8abf5, Cond.selects RJ0 yJ0_length_8abf5 yJ0_length_8abf5]
def wsX4_scanWord_r2 : List Cond := [Cond.initialized RJ0, Cond.code yJ0_length_8abf5 cJ0_length_8abf5 1 (some .int), Cond.fieldLink RJ0 9 "java/lang/String" "value" "[B", Cond.methodLink RJ0 335 yJ0_coder_7d493, Cond.instanceMethod yJ0_coder_7d493, Cond.selects RJ0 yJ0_coder_7d493 yJ0_coder_7d493, Cond.code yJ0_coder_7d493 cJ0_coder_7d493 1 (some .byte), Cond.fieldLink RJ0 38 "java/lang/String" "COMPACT_STRINGS" "Z", Cond.fieldLink RJ0 15 "java/lang/String" "coder" "B", Cond.methodLink RX4 128 yJ0_charAt_5068e, Cond.instanceMethod yJ0_charAt_5068e, Cond.selects RJ0 yJ0_charAt_5068e yJ0_charAt_5068e, Cond.code yJ0_charAt_5068e cJ0_charAt_5068e 2 (some .char), Cond.methodLink RJ0 492 yJ0_isLatin1_aae02, Cond.instanceMethod yJ0_isLatin1_aae02, Cond.selects RJ0 yJ0_isLatin1_aae02 yJ0_isLatin1_aae02, Cond.code yJ0_isLatin1_aae02 cJ0_isLatin1_aae02 1 (some .boolean), Cond.methodLink RJ0 495 yJ1_charAt_3b067, Cond.static yJ1_charAt_3b067, Cond.initialized RJ1, Cond.code yJ1_charAt_3b067 cJ1_charAt_3b067 2 (some .char), Cond.methodLink RJ1 9 yJ0_checkIndex_df160, Cond.static yJ0_checkIndex_df160, Cond.code yJ0_checkIndex_df160 cJ0_checkIndex_df160 2 none]
def wsX4_scanWord_r3 : List Cond := [Cond.fieldLink RJ0 1053 "jdk/internal/util/Preconditions" "SIOOBE_FORMATTER" "Ljava/util/function/BiFunction;", Cond.methodLink RJ0 1059 yJ3_checkIndex_8e157, Cond.static yJ3_checkIndex_8e157, Cond.initialized RJ3, Cond.code yJ3_checkIndex_8e157 cJ3_checkIndex_8e157 3 (some .int), Cond.methodLink RJ0 498 yJ2_charAt_3b067, Cond.static yJ2_charAt_3b067, Cond.initialized RJ2, Cond.code yJ2_charAt_3b067 cJ2_charAt_3b067 2 (some .char), Cond.methodLink RJ2 67 yJ2_checkIndex_2214a, Cond.static yJ2_checkIndex_2214a, Cond.code yJ2_checkIndex_2214a cJ2_checkIndex_2214a 2 none, Cond.methodLink RJ2 48 yJ2_length_9d52b, Cond.static yJ2_length_9d52b, Cond.code yJ2_length_9d52b cJ2_length_9d52b 1 (some .int), Cond.methodLink RJ2 414 yJ0_checkIndex_df160, Cond.methodLink RJ2 71 yJ2_getChar_3b067, Cond.static yJ2_getChar_3b067, Cond.code yJ2_getChar_3b067 cJ2_getChar_3b067 2 (some .char), Cond.fieldLink RJ2 44 "java/lang/StringUTF16" "$assertionsDisabled" "Z", Cond.fieldLink RJ2 59 "java/lang/StringUTF16" "HI_BYTE_SHIFT" "I", Cond.fieldLink RJ2 63 "java/lang/StringUTF16" "LO_BYTE_SHIFT" "I"]
def wsX4_scanWord : List Cond := .code yX4_scanWord cX4_scanWord 2 (some .int) :: ((wsX4_scanWord_r1 ++ (wsX4_scanWord_r2 ++ wsX4_scanWord_r3)) ++ wsX40 ++ wsX80)
def wsX4_isDigit : List Cond := .code yX4_isDigit cX4_isDigit 1 (some .boolean) :: ([])
def wsX4_scanNumber : List Cond := .code yX4_scanNumber cX4_scanNumber 2 (some .int) :: ([.fieldLink RX4 25 "GuestParties$Reader" "value" "I", .fieldLink RX4 15 "GuestParties$Reader" "next" "I", .fieldLink RX4 28 "GuestParties$Reader" "text" "LGuestParties$Text;", .fieldLink RX4 22 "GuestParties$Reader" "tokenStart" "I", .methodLink RX4 100 yX8_byteAt, .instanceMethod yX8_byteAt, .selects RX8 yX8_byteAt yX8_byteAt, .initialized RX8, .code yX8_byteAt cX8_byteAt 2 (some .int), .fieldLink RX8 13 "GuestParties$Text" "length" "I", .fieldLink RX8 9 "GuestParties$Text" "bytes" "[I", .methodLink RX4 109 yX4_isDigit, .static yX4_isDigit, .initialized RX4, .code yX4_isDigit cX4_isDigit 1 (some .boolean)] ++ wsX40 ++ wsX80)
def wsX4_advance_r1 : List Cond := [Cond.fieldLink RX4 15 "GuestParties$Reader" "next" "I", Cond.fieldLink RX4 28 "GuestParties$Reader" "text" "LGuestParties$Text;", Cond.fieldLink RX4 22 "GuestParties$Reader" "tokenStart" "I", Cond.fieldLink RX4 19 "GuestParties$Reader" "token" "I", Cond.methodLink RX4 100 yX8_byteAt, Cond.instanceMethod yX8_byteAt, Cond.selects RX8 yX8_byteAt yX8_byteAt, Cond.initialized RX8, Cond.code yX8_byteAt cX8_byteAt 2 (some .int), Cond.fieldLink RX8 13 "GuestParties$Text" "length" "I", Cond.fieldLink RX8 9 "GuestParties$Text" "bytes" "[I", Cond.methodLink RX4 103 yX4_isLetter, Cond.static yX4_isLetter, Cond.initialized RX4, Cond.code yX4_isLetter cX4_isLetter 1 (some .boolean), Cond.methodLink RX4 106 yX4_scanWord, Cond.instanceMethod yX4_scanWord, Cond.selects RX4 yX4_scanWord yX4_scanWord, Cond.code yX4_scanWord cX4_scanWord 2 (some .int), Cond.methodLink RX4 115 yX4_spelling, Cond.static yX4_spelling, Cond.code yX4_spelling cX4_spelling 1 (some (.object "java/lang/String")), Cond.methodLink RX4 119 yX4_isSpelled, Cond.instanceMethod yX4_isSpelled]
def wsX4_advance_r2 : List Cond := [Cond.selects RX4 yX4_isSpelled yX4_isSpelled, Cond.code yX4_isSpelled cX4_isSpelled 3 (some .boolean), Cond.methodLink RX4 123 yJ0_length_8abf5, Cond.instanceMethod yJ0_length_8abf5, Cond.selects RJ0 yJ0_length_8abf5 yJ0_length_8abf5, Cond.initialized RJ0, Cond.code yJ0_length_8abf5 cJ0_length_8abf5 1 (some .int), Cond.fieldLink RJ0 9 "java/lang/String" "value" "[B", Cond.methodLink RJ0 335 yJ0_coder_7d493, Cond.instanceMethod yJ0_coder_7d493, Cond.selects RJ0 yJ0_coder_7d493 yJ0_coder_7d493, Cond.code yJ0_coder_7d493 cJ0_coder_7d493 1 (some .byte), Cond.fieldLink RJ0 38 "java/lang/String" "COMPACT_STRINGS" "Z", Cond.fieldLink RJ0 15 "java/lang/String" "coder" "B", Cond.methodLink RX4 128 yJ0_charAt_5068e, Cond.instanceMethod yJ0_charAt_5068e, Cond.selects RJ0 yJ0_charAt_5068e yJ0_charAt_5068e, Cond.code yJ0_charAt_5068e cJ0_charAt_5068e 2 (some .char), Cond.methodLink RJ0 492 yJ0_isLatin1_aae02, Cond.instanceMethod yJ0_isLatin1_aae02, Cond.selects RJ0 yJ0_isLatin1_aae02 yJ0_isLatin1_aae02, Cond.code yJ0_isLatin1_aae02 cJ0_isLatin1_aae02 1 (some .boolean), Cond.methodLink RJ0 495 yJ1_charAt_3b067, Cond.static yJ1_charAt_3b067]
def wsX4_advance_r3 : List Cond := [Cond.initialized RJ1, Cond.code yJ1_charAt_3b067 cJ1_charAt_3b067 2 (some .char), Cond.methodLink RJ1 9 yJ0_checkIndex_df160, Cond.static yJ0_checkIndex_df160, Cond.code yJ0_checkIndex_df160 cJ0_checkIndex_df160 2 none, Cond.fieldLink RJ0 1053 "jdk/internal/util/Preconditions" "SIOOBE_FORMATTER" "Ljava/util/function/BiFunction;", Cond.methodLink RJ0 1059 yJ3_checkIndex_8e157, Cond.static yJ3_checkIndex_8e157, Cond.initialized RJ3, Cond.code yJ3_checkIndex_8e157 cJ3_checkIndex_8e157 3 (some .int), Cond.methodLink RJ0 498 yJ2_charAt_3b067, Cond.static yJ2_charAt_3b067, Cond.initialized RJ2, Cond.code yJ2_charAt_3b067 cJ2_charAt_3b067 2 (some .char), Cond.methodLink RJ2 67 yJ2_checkIndex_2214a, Cond.static yJ2_checkIndex_2214a, Cond.code yJ2_checkIndex_2214a cJ2_checkIndex_2214a 2 none, Cond.methodLink RJ2 48 yJ2_length_9d52b, Cond.static yJ2_length_9d52b, Cond.code yJ2_length_9d52b cJ2_length_9d52b 1 (some .int), Cond.methodLink RJ2 414 yJ0_checkIndex_df160, Cond.methodLink RJ2 71 yJ2_getChar_3b067, Cond.static yJ2_getChar_3b067, Cond.code yJ2_getChar_3b067 cJ2_getChar_3b067 2 (some .char)]
def wsX4_advance_r4 : List Cond := [Cond.fieldLink RJ2 44 "java/lang/StringUTF16" "$assertionsDisabled" "Z", Cond.fieldLink RJ2 59 "java/lang/StringUTF16" "HI_BYTE_SHIFT" "I", Cond.fieldLink RJ2 63 "java/lang/StringUTF16" "LO_BYTE_SHIFT" "I", Cond.methodLink RX4 109 yX4_isDigit, Cond.static yX4_isDigit, Cond.code yX4_isDigit cX4_isDigit 1 (some .boolean), Cond.methodLink RX4 112 yX4_scanNumber, Cond.instanceMethod yX4_scanNumber, Cond.selects RX4 yX4_scanNumber yX4_scanNumber, Cond.code yX4_scanNumber cX4_scanNumber 2 (some .int), Cond.fieldLink RX4 25 "GuestParties$Reader" "value" "I"]
def wsX4_advance : List Cond := .code yX4_advance cX4_advance 2 none :: ((wsX4_advance_r1 ++ (wsX4_advance_r2 ++ (wsX4_advance_r3 ++ wsX4_advance_r4))) ++ wsX40 ++ wsX80)
def wsX5_lawOf : List Cond := .code yX5_lawOf cX5_lawOf 2 (some .int) :: ([.fieldLink RX5 15 "GuestParties$Rules" "laws" "[I"] ++ wsX50)
def wsX4_mayBegin : List Cond := .code yX4_mayBegin cX4_mayBegin 3 (some .boolean) :: ([.fieldLink RX4 32 "GuestParties$Reader" "rules" "LGuestParties$Rules;", .methodLink RX4 62 yX5_lawOf, .instanceMethod yX5_lawOf, .selects RX5 yX5_lawOf yX5_lawOf, .initialized RX5, .code yX5_lawOf cX5_lawOf 2 (some .int), .fieldLink RX5 15 "GuestParties$Rules" "laws" "[I"] ++ wsX40 ++ wsX50)
def wsX4_numbersOf : List Cond := .code yX4_numbersOf cX4_numbersOf 1 (some .int) :: ([])
def wsX4_lowest : List Cond := .code yX4_lowest cX4_lowest 1 (some .int) :: ([])
def wsX4_highest : List Cond := .code yX4_highest cX4_highest 4 (some .int) :: ([.fieldLink RX4 32 "GuestParties$Reader" "rules" "LGuestParties$Rules;", .methodLink RX4 96 yX5_guests, .instanceMethod yX5_guests, .selects RX5 yX5_guests yX5_guests, .initialized RX5, .code yX5_guests cX5_guests 1 (some .int), .fieldLink RX5 29 "GuestParties$Rules" "guests" "I"] ++ wsX40 ++ wsX50)
def wsX4_readNumbers_r1 : List Cond := [Cond.fieldLink RX4 19 "GuestParties$Reader" "token" "I", Cond.fieldLink RX4 25 "GuestParties$Reader" "value" "I", Cond.fieldLink RX4 11 "GuestParties$Reader" "numbers" "[I", Cond.methodLink RX4 66 yX4_numbersOf, Cond.static yX4_numbersOf, Cond.initialized RX4, Cond.code yX4_numbersOf cX4_numbersOf 1 (some .int), Cond.methodLink RX4 41 yX4_advance, Cond.instanceMethod yX4_advance, Cond.selects RX4 yX4_advance yX4_advance, Cond.code yX4_advance cX4_advance 2 none, Cond.fieldLink RX4 15 "GuestParties$Reader" "next" "I", Cond.fieldLink RX4 28 "GuestParties$Reader" "text" "LGuestParties$Text;", Cond.fieldLink RX4 22 "GuestParties$Reader" "tokenStart" "I", Cond.methodLink RX4 100 yX8_byteAt, Cond.instanceMethod yX8_byteAt, Cond.selects RX8 yX8_byteAt yX8_byteAt, Cond.initialized RX8, Cond.code yX8_byteAt cX8_byteAt 2 (some .int), Cond.fieldLink RX8 13 "GuestParties$Text" "length" "I", Cond.fieldLink RX8 9 "GuestParties$Text" "bytes" "[I", Cond.methodLink RX4 103 yX4_isLetter, Cond.static yX4_isLetter, Cond.code yX4_isLetter cX4_isLetter 1 (some .boolean)]
def wsX4_readNumbers_r2 : List Cond := [Cond.methodLink RX4 106 yX4_scanWord, Cond.instanceMethod yX4_scanWord, Cond.selects RX4 yX4_scanWord yX4_scanWord, Cond.code yX4_scanWord cX4_scanWord 2 (some .int), Cond.methodLink RX4 115 yX4_spelling, Cond.static yX4_spelling, Cond.code yX4_spelling cX4_spelling 1 (some (.object "java/lang/String")), Cond.methodLink RX4 119 yX4_isSpelled, Cond.instanceMethod yX4_isSpelled, Cond.selects RX4 yX4_isSpelled yX4_isSpelled, Cond.code yX4_isSpelled cX4_isSpelled 3 (some .boolean), Cond.methodLink RX4 123 yJ0_length_8abf5, Cond.instanceMethod yJ0_length_8abf5, Cond.selects RJ0 yJ0_length_8abf5 yJ0_length_8abf5, Cond.initialized RJ0, Cond.code yJ0_length_8abf5 cJ0_length_8abf5 1 (some .int), Cond.fieldLink RJ0 9 "java/lang/String" "value" "[B", Cond.methodLink RJ0 335 yJ0_coder_7d493, Cond.instanceMethod yJ0_coder_7d493, Cond.selects RJ0 yJ0_coder_7d493 yJ0_coder_7d493, Cond.code yJ0_coder_7d493 cJ0_coder_7d493 1 (some .byte), Cond.fieldLink RJ0 38 "java/lang/String" "COMPACT_STRINGS" "Z", Cond.fieldLink RJ0 15 "java/lang/String" "coder" "B", Cond.methodLink RX4 128 yJ0_charAt_5068e]
def wsX4_readNumbers_r3 : List Cond := [Cond.instanceMethod yJ0_charAt_5068e, Cond.selects RJ0 yJ0_charAt_5068e yJ0_charAt_5068e, Cond.code yJ0_charAt_5068e cJ0_charAt_5068e 2 (some .char), Cond.methodLink RJ0 492 yJ0_isLatin1_aae02, Cond.instanceMethod yJ0_isLatin1_aae02, Cond.selects RJ0 yJ0_isLatin1_aae02 yJ0_isLatin1_aae02, Cond.code yJ0_isLatin1_aae02 cJ0_isLatin1_aae02 1 (some .boolean), Cond.methodLink RJ0 495 yJ1_charAt_3b067, Cond.static yJ1_charAt_3b067, Cond.initialized RJ1, Cond.code yJ1_charAt_3b067 cJ1_charAt_3b067 2 (some .char), Cond.methodLink RJ1 9 yJ0_checkIndex_df160, Cond.static yJ0_checkIndex_df160, Cond.code yJ0_checkIndex_df160 cJ0_checkIndex_df160 2 none, Cond.fieldLink RJ0 1053 "jdk/internal/util/Preconditions" "SIOOBE_FORMATTER" "Ljava/util/function/BiFunction;", Cond.methodLink RJ0 1059 yJ3_checkIndex_8e157, Cond.static yJ3_checkIndex_8e157, Cond.initialized RJ3, Cond.code yJ3_checkIndex_8e157 cJ3_checkIndex_8e157 3 (some .int), Cond.methodLink RJ0 498 yJ2_charAt_3b067, Cond.static yJ2_charAt_3b067, Cond.initialized RJ2, Cond.code yJ2_charAt_3b067 cJ2_charAt_3b067 2 (some .char), Cond.methodLink RJ2 67 yJ2_checkIndex_2214a]
def wsX4_readNumbers_r4 : List Cond := [Cond.static yJ2_checkIndex_2214a, Cond.code yJ2_checkIndex_2214a cJ2_checkIndex_2214a 2 none, Cond.methodLink RJ2 48 yJ2_length_9d52b, Cond.static yJ2_length_9d52b, Cond.code yJ2_length_9d52b cJ2_length_9d52b 1 (some .int), Cond.methodLink RJ2 414 yJ0_checkIndex_df160, Cond.methodLink RJ2 71 yJ2_getChar_3b067, Cond.static yJ2_getChar_3b067, Cond.code yJ2_getChar_3b067 cJ2_getChar_3b067 2 (some .char), Cond.fieldLink RJ2 44 "java/lang/StringUTF16" "$assertionsDisabled" "Z", Cond.fieldLink RJ2 59 "java/lang/StringUTF16" "HI_BYTE_SHIFT" "I", Cond.fieldLink RJ2 63 "java/lang/StringUTF16" "LO_BYTE_SHIFT" "I", Cond.methodLink RX4 109 yX4_isDigit, Cond.static yX4_isDigit, Cond.code yX4_isDigit cX4_isDigit 1 (some .boolean), Cond.methodLink RX4 112 yX4_scanNumber, Cond.instanceMethod yX4_scanNumber, Cond.selects RX4 yX4_scanNumber yX4_scanNumber, Cond.code yX4_scanNumber cX4_scanNumber 2 (some .int), Cond.methodLink RX4 69 yX4_lowest, Cond.static yX4_lowest, Cond.code yX4_lowest cX4_lowest 1 (some .int), Cond.methodLink RX4 72 yX4_highest, Cond.instanceMethod yX4_highest]
def wsX4_readNumbers_r5 : List Cond := [Cond.selects RX4 yX4_highest yX4_highest, Cond.code yX4_highest cX4_highest 4 (some .int), Cond.fieldLink RX4 32 "GuestParties$Reader" "rules" "LGuestParties$Rules;", Cond.methodLink RX4 96 yX5_guests, Cond.instanceMethod yX5_guests, Cond.selects RX5 yX5_guests yX5_guests, Cond.initialized RX5, Cond.code yX5_guests cX5_guests 1 (some .int), Cond.fieldLink RX5 29 "GuestParties$Rules" "guests" "I"]
def wsX4_readNumbers : List Cond := .code yX4_readNumbers cX4_readNumbers 5 (some .boolean) :: ((wsX4_readNumbers_r1 ++ (wsX4_readNumbers_r2 ++ (wsX4_readNumbers_r3 ++ (wsX4_readNumbers_r4 ++ wsX4_readNumbers_r5)))) ++ wsX40 ++ wsX80 ++ wsX50)
def wsX4_readSemicolon_r1 : List Cond := [Cond.fieldLink RX4 19 "GuestParties$Reader" "token" "I", Cond.methodLink RX4 41 yX4_advance, Cond.instanceMethod yX4_advance, Cond.selects RX4 yX4_advance yX4_advance, Cond.initialized RX4, Cond.code yX4_advance cX4_advance 2 none, Cond.fieldLink RX4 15 "GuestParties$Reader" "next" "I", Cond.fieldLink RX4 28 "GuestParties$Reader" "text" "LGuestParties$Text;", Cond.fieldLink RX4 22 "GuestParties$Reader" "tokenStart" "I", Cond.methodLink RX4 100 yX8_byteAt, Cond.instanceMethod yX8_byteAt, Cond.selects RX8 yX8_byteAt yX8_byteAt, Cond.initialized RX8, Cond.code yX8_byteAt cX8_byteAt 2 (some .int), Cond.fieldLink RX8 13 "GuestParties$Text" "length" "I", Cond.fieldLink RX8 9 "GuestParties$Text" "bytes" "[I", Cond.methodLink RX4 103 yX4_isLetter, Cond.static yX4_isLetter, Cond.code yX4_isLetter cX4_isLetter 1 (some .boolean), Cond.methodLink RX4 106 yX4_scanWord, Cond.instanceMethod yX4_scanWord, Cond.selects RX4 yX4_scanWord yX4_scanWord, Cond.code yX4_scanWord cX4_scanWord 2 (some .int), Cond.methodLink RX4 115 yX4_spelling]
def wsX4_readSemicolon_r2 : List Cond := [Cond.static yX4_spelling, Cond.code yX4_spelling cX4_spelling 1 (some (.object "java/lang/String")), Cond.methodLink RX4 119 yX4_isSpelled, Cond.instanceMethod yX4_isSpelled, Cond.selects RX4 yX4_isSpelled yX4_isSpelled, Cond.code yX4_isSpelled cX4_isSpelled 3 (some .boolean), Cond.methodLink RX4 123 yJ0_length_8abf5, Cond.instanceMethod yJ0_length_8abf5, Cond.selects RJ0 yJ0_length_8abf5 yJ0_length_8abf5, Cond.initialized RJ0, Cond.code yJ0_length_8abf5 cJ0_length_8abf5 1 (some .int), Cond.fieldLink RJ0 9 "java/lang/String" "value" "[B", Cond.methodLink RJ0 335 yJ0_coder_7d493, Cond.instanceMethod yJ0_coder_7d493, Cond.selects RJ0 yJ0_coder_7d493 yJ0_coder_7d493, Cond.code yJ0_coder_7d493 cJ0_coder_7d493 1 (some .byte), Cond.fieldLink RJ0 38 "java/lang/String" "COMPACT_STRINGS" "Z", Cond.fieldLink RJ0 15 "java/lang/String" "coder" "B", Cond.methodLink RX4 128 yJ0_charAt_5068e, Cond.instanceMethod yJ0_charAt_5068e, Cond.selects RJ0 yJ0_charAt_5068e yJ0_charAt_5068e, Cond.code yJ0_charAt_5068e cJ0_charAt_5068e 2 (some .char), Cond.methodLink RJ0 492 yJ0_isLatin1_aae02, Cond.instanceMethod yJ0_isLatin1_aae02]
def wsX4_readSemicolon_r3 : List Cond := [Cond.selects RJ0 yJ0_isLatin1_aae02 yJ0_isLatin1_aae02, Cond.code yJ0_isLatin1_aae02 cJ0_isLatin1_aae02 1 (some .boolean), Cond.methodLink RJ0 495 yJ1_charAt_3b067, Cond.static yJ1_charAt_3b067, Cond.initialized RJ1, Cond.code yJ1_charAt_3b067 cJ1_charAt_3b067 2 (some .char), Cond.methodLink RJ1 9 yJ0_checkIndex_df160, Cond.static yJ0_checkIndex_df160, Cond.code yJ0_checkIndex_df160 cJ0_checkIndex_df160 2 none, Cond.fieldLink RJ0 1053 "jdk/internal/util/Preconditions" "SIOOBE_FORMATTER" "Ljava/util/function/BiFunction;", Cond.methodLink RJ0 1059 yJ3_checkIndex_8e157, Cond.static yJ3_checkIndex_8e157, Cond.initialized RJ3, Cond.code yJ3_checkIndex_8e157 cJ3_checkIndex_8e157 3 (some .int), Cond.methodLink RJ0 498 yJ2_charAt_3b067, Cond.static yJ2_charAt_3b067, Cond.initialized RJ2, Cond.code yJ2_charAt_3b067 cJ2_charAt_3b067 2 (some .char), Cond.methodLink RJ2 67 yJ2_checkIndex_2214a, Cond.static yJ2_checkIndex_2214a, Cond.code yJ2_checkIndex_2214a cJ2_checkIndex_2214a 2 none, Cond.methodLink RJ2 48 yJ2_length_9d52b, Cond.static yJ2_length_9d52b, Cond.code yJ2_length_9d52b cJ2_length_9d52b 1 (some .int)]
def wsX4_readSemicolon_r4 : List Cond := [Cond.methodLink RJ2 414 yJ0_checkIndex_df160, Cond.methodLink RJ2 71 yJ2_getChar_3b067, Cond.static yJ2_getChar_3b067, Cond.code yJ2_getChar_3b067 cJ2_getChar_3b067 2 (some .char), Cond.fieldLink RJ2 44 "java/lang/StringUTF16" "$assertionsDisabled" "Z", Cond.fieldLink RJ2 59 "java/lang/StringUTF16" "HI_BYTE_SHIFT" "I", Cond.fieldLink RJ2 63 "java/lang/StringUTF16" "LO_BYTE_SHIFT" "I", Cond.methodLink RX4 109 yX4_isDigit, Cond.static yX4_isDigit, Cond.code yX4_isDigit cX4_isDigit 1 (some .boolean), Cond.methodLink RX4 112 yX4_scanNumber, Cond.instanceMethod yX4_scanNumber, Cond.selects RX4 yX4_scanNumber yX4_scanNumber, Cond.code yX4_scanNumber cX4_scanNumber 2 (some .int), Cond.fieldLink RX4 25 "GuestParties$Reader" "value" "I"]
def wsX4_readSemicolon : List Cond := .code yX4_readSemicolon cX4_readSemicolon 1 (some .boolean) :: ((wsX4_readSemicolon_r1 ++ (wsX4_readSemicolon_r2 ++ (wsX4_readSemicolon_r3 ++ wsX4_readSemicolon_r4))) ++ wsX40 ++ wsX80)
def wsX5_setGuests : List Cond := .code yX5_setGuests cX5_setGuests 2 none :: ([.fieldLink RX5 29 "GuestParties$Rules" "guests" "I"] ++ wsX50)
def wsX5_setHat : List Cond := .code yX5_setHat cX5_setHat 3 none :: ([.fieldLink RX5 9 "GuestParties$Rules" "hats" "[I", .methodLink RX5 33 yX5_isOne, .static yX5_isOne, .initialized RX5, .code yX5_isOne cX5_isOne 1 (some .boolean)] ++ wsX50)
def wsX5_setLaw : List Cond := .code yX5_setLaw cX5_setLaw 3 none :: ([.fieldLink RX5 15 "GuestParties$Rules" "laws" "[I"] ++ wsX50)
def wsX5_putTogether : List Cond := .code yX5_putTogether cX5_putTogether 3 none :: ([.fieldLink RX5 18 "GuestParties$Rules" "together" "[I", .methodLink RX5 33 yX5_isOne, .static yX5_isOne, .initialized RX5, .code yX5_isOne cX5_isOne 1 (some .boolean)] ++ wsX50)
def wsX5_putApart : List Cond := .code yX5_putApart cX5_putApart 3 none :: ([.fieldLink RX5 21 "GuestParties$Rules" "apart" "[I", .methodLink RX5 33 yX5_isOne, .static yX5_isOne, .initialized RX5, .code yX5_isOne cX5_isOne 1 (some .boolean)] ++ wsX50)
def wsX5_setWorth : List Cond := .code yX5_setWorth cX5_setWorth 4 none :: ([.fieldLink RX5 26 "GuestParties$Rules" "worths" "[[I", .methodLink RX5 33 yX5_isOne, .static yX5_isOne, .initialized RX5, .code yX5_isOne cX5_isOne 1 (some .boolean)] ++ wsX50)
def wsX4_tell_r1 : List Cond := [Cond.fieldLink RX4 32 "GuestParties$Reader" "rules" "LGuestParties$Rules;", Cond.fieldLink RX4 11 "GuestParties$Reader" "numbers" "[I", Cond.methodLink RX4 76 yX5_setGuests, Cond.instanceMethod yX5_setGuests, Cond.selects RX5 yX5_setGuests yX5_setGuests, Cond.initialized RX5, Cond.code yX5_setGuests cX5_setGuests 2 none, Cond.fieldLink RX5 29 "GuestParties$Rules" "guests" "I", Cond.methodLink RX4 79 yX5_setHat, Cond.instanceMethod yX5_setHat, Cond.selects RX5 yX5_setHat yX5_setHat, Cond.code yX5_setHat cX5_setHat 3 none, Cond.fieldLink RX5 9 "GuestParties$Rules" "hats" "[I", Cond.methodLink RX5 33 yX5_isOne, Cond.static yX5_isOne, Cond.code yX5_isOne cX5_isOne 1 (some .boolean), Cond.methodLink RX4 83 yX5_setLaw, Cond.instanceMethod yX5_setLaw, Cond.selects RX5 yX5_setLaw yX5_setLaw, Cond.code yX5_setLaw cX5_setLaw 3 none, Cond.fieldLink RX5 15 "GuestParties$Rules" "laws" "[I", Cond.methodLink RX4 86 yX5_putTogether, Cond.instanceMethod yX5_putTogether, Cond.selects RX5 yX5_putTogether yX5_putTogether]
def wsX4_tell_r2 : List Cond := [Cond.code yX5_putTogether cX5_putTogether 3 none, Cond.fieldLink RX5 18 "GuestParties$Rules" "together" "[I", Cond.methodLink RX4 89 yX5_putApart, Cond.instanceMethod yX5_putApart, Cond.selects RX5 yX5_putApart yX5_putApart, Cond.code yX5_putApart cX5_putApart 3 none, Cond.fieldLink RX5 21 "GuestParties$Rules" "apart" "[I", Cond.methodLink RX4 92 yX5_setWorth, Cond.instanceMethod yX5_setWorth, Cond.selects RX5 yX5_setWorth yX5_setWorth, Cond.code yX5_setWorth cX5_setWorth 4 none, Cond.fieldLink RX5 26 "GuestParties$Rules" "worths" "[[I"]
def wsX4_tell : List Cond := .code yX4_tell cX4_tell 2 none :: ((wsX4_tell_r1 ++ wsX4_tell_r2) ++ wsX40 ++ wsX50)
def wsX4_readInto_r1 : List Cond := [Cond.fieldLink RX4 32 "GuestParties$Reader" "rules" "LGuestParties$Rules;", Cond.fieldLink RX4 15 "GuestParties$Reader" "next" "I", Cond.fieldLink RX4 19 "GuestParties$Reader" "token" "I", Cond.fieldLink RX4 22 "GuestParties$Reader" "tokenStart" "I", Cond.methodLink RX4 36 yX5_reset, Cond.instanceMethod yX5_reset, Cond.selects RX5 yX5_reset yX5_reset, Cond.initialized RX5, Cond.code yX5_reset cX5_reset 3 none, Cond.fieldLink RX5 29 "GuestParties$Rules" "guests" "I", Cond.fieldLink RX5 15 "GuestParties$Rules" "laws" "[I", Cond.fieldLink RX5 9 "GuestParties$Rules" "hats" "[I", Cond.fieldLink RX5 18 "GuestParties$Rules" "together" "[I", Cond.fieldLink RX5 21 "GuestParties$Rules" "apart" "[I", Cond.fieldLink RX5 26 "GuestParties$Rules" "worths" "[[I", Cond.methodLink RX4 41 yX4_advance, Cond.instanceMethod yX4_advance, Cond.selects RX4 yX4_advance yX4_advance, Cond.initialized RX4, Cond.code yX4_advance cX4_advance 2 none, Cond.fieldLink RX4 28 "GuestParties$Reader" "text" "LGuestParties$Text;", Cond.methodLink RX4 100 yX8_byteAt, Cond.instanceMethod yX8_byteAt, Cond.selects RX8 yX8_byteAt yX8_byteAt]
def wsX4_readInto_r2 : List Cond := [Cond.initialized RX8, Cond.code yX8_byteAt cX8_byteAt 2 (some .int), Cond.fieldLink RX8 13 "GuestParties$Text" "length" "I", Cond.fieldLink RX8 9 "GuestParties$Text" "bytes" "[I", Cond.methodLink RX4 103 yX4_isLetter, Cond.static yX4_isLetter, Cond.code yX4_isLetter cX4_isLetter 1 (some .boolean), Cond.methodLink RX4 106 yX4_scanWord, Cond.instanceMethod yX4_scanWord, Cond.selects RX4 yX4_scanWord yX4_scanWord, Cond.code yX4_scanWord cX4_scanWord 2 (some .int), Cond.methodLink RX4 115 yX4_spelling, Cond.static yX4_spelling, Cond.code yX4_spelling cX4_spelling 1 (some (.object "java/lang/String")), Cond.methodLink RX4 119 yX4_isSpelled, Cond.instanceMethod yX4_isSpelled, Cond.selects RX4 yX4_isSpelled yX4_isSpelled, Cond.code yX4_isSpelled cX4_isSpelled 3 (some .boolean), Cond.methodLink RX4 123 yJ0_length_8abf5, Cond.instanceMethod yJ0_length_8abf5, Cond.selects RJ0 yJ0_length_8abf5 yJ0_length_8abf5, Cond.initialized RJ0, Cond.code yJ0_length_8abf5 cJ0_length_8abf5 1 (some .int), Cond.fieldLink RJ0 9 "java/lang/String" "value" "[B"]
def wsX4_readInto_r3 : List Cond := [Cond.methodLink RJ0 335 yJ0_coder_7d493, Cond.instanceMethod yJ0_coder_7d493, Cond.selects RJ0 yJ0_coder_7d493 yJ0_coder_7d493, Cond.code yJ0_coder_7d493 cJ0_coder_7d493 1 (some .byte), Cond.fieldLink RJ0 38 "java/lang/String" "COMPACT_STRINGS" "Z", Cond.fieldLink RJ0 15 "java/lang/String" "coder" "B", Cond.methodLink RX4 128 yJ0_charAt_5068e, Cond.instanceMethod yJ0_charAt_5068e, Cond.selects RJ0 yJ0_charAt_5068e yJ0_charAt_5068e, Cond.code yJ0_charAt_5068e cJ0_charAt_5068e 2 (some .char), Cond.methodLink RJ0 492 yJ0_isLatin1_aae02, Cond.instanceMethod yJ0_isLatin1_aae02, Cond.selects RJ0 yJ0_isLatin1_aae02 yJ0_isLatin1_aae02, Cond.code yJ0_isLatin1_aae02 cJ0_isLatin1_aae02 1 (some .boolean), Cond.methodLink RJ0 495 yJ1_charAt_3b067, Cond.static yJ1_charAt_3b067, Cond.initialized RJ1, Cond.code yJ1_charAt_3b067 cJ1_charAt_3b067 2 (some .char), Cond.methodLink RJ1 9 yJ0_checkIndex_df160, Cond.static yJ0_checkIndex_df160, Cond.code yJ0_checkIndex_df160 cJ0_checkIndex_df160 2 none, Cond.fieldLink RJ0 1053 "jdk/internal/util/Preconditions" "SIOOBE_FORMATTER" "Ljava/util/function/BiFunction;", Cond.methodLink RJ0 1059 yJ3_checkIndex_8e157, Cond.static yJ3_checkIndex_8e157]
def wsX4_readInto_r4 : List Cond := [Cond.initialized RJ3, Cond.code yJ3_checkIndex_8e157 cJ3_checkIndex_8e157 3 (some .int), Cond.methodLink RJ0 498 yJ2_charAt_3b067, Cond.static yJ2_charAt_3b067, Cond.initialized RJ2, Cond.code yJ2_charAt_3b067 cJ2_charAt_3b067 2 (some .char), Cond.methodLink RJ2 67 yJ2_checkIndex_2214a, Cond.static yJ2_checkIndex_2214a, Cond.code yJ2_checkIndex_2214a cJ2_checkIndex_2214a 2 none, Cond.methodLink RJ2 48 yJ2_length_9d52b, Cond.static yJ2_length_9d52b, Cond.code yJ2_length_9d52b cJ2_length_9d52b 1 (some .int), Cond.methodLink RJ2 414 yJ0_checkIndex_df160, Cond.methodLink RJ2 71 yJ2_getChar_3b067, Cond.static yJ2_getChar_3b067, Cond.code yJ2_getChar_3b067 cJ2_getChar_3b067 2 (some .char), Cond.fieldLink RJ2 44 "java/lang/StringUTF16" "$assertionsDisabled" "Z", Cond.fieldLink RJ2 59 "java/lang/StringUTF16" "HI_BYTE_SHIFT" "I", Cond.fieldLink RJ2 63 "java/lang/StringUTF16" "LO_BYTE_SHIFT" "I", Cond.methodLink RX4 109 yX4_isDigit, Cond.static yX4_isDigit, Cond.code yX4_isDigit cX4_isDigit 1 (some .boolean), Cond.methodLink RX4 112 yX4_scanNumber, Cond.instanceMethod yX4_scanNumber]
def wsX4_readInto_r5 : List Cond := [Cond.selects RX4 yX4_scanNumber yX4_scanNumber, Cond.code yX4_scanNumber cX4_scanNumber 2 (some .int), Cond.fieldLink RX4 25 "GuestParties$Reader" "value" "I", Cond.methodLink RX4 46 yX4_mayBegin, Cond.instanceMethod yX4_mayBegin, Cond.selects RX4 yX4_mayBegin yX4_mayBegin, Cond.code yX4_mayBegin cX4_mayBegin 3 (some .boolean), Cond.methodLink RX4 62 yX5_lawOf, Cond.instanceMethod yX5_lawOf, Cond.selects RX5 yX5_lawOf yX5_lawOf, Cond.code yX5_lawOf cX5_lawOf 2 (some .int), Cond.methodLink RX4 50 yX4_readNumbers, Cond.instanceMethod yX4_readNumbers, Cond.selects RX4 yX4_readNumbers yX4_readNumbers, Cond.code yX4_readNumbers cX4_readNumbers 5 (some .boolean), Cond.fieldLink RX4 11 "GuestParties$Reader" "numbers" "[I", Cond.methodLink RX4 66 yX4_numbersOf, Cond.static yX4_numbersOf, Cond.code yX4_numbersOf cX4_numbersOf 1 (some .int), Cond.methodLink RX4 69 yX4_lowest, Cond.static yX4_lowest, Cond.code yX4_lowest cX4_lowest 1 (some .int), Cond.methodLink RX4 72 yX4_highest, Cond.instanceMethod yX4_highest]
def wsX4_readInto_r6 : List Cond := [Cond.selects RX4 yX4_highest yX4_highest, Cond.code yX4_highest cX4_highest 4 (some .int), Cond.methodLink RX4 96 yX5_guests, Cond.instanceMethod yX5_guests, Cond.selects RX5 yX5_guests yX5_guests, Cond.code yX5_guests cX5_guests 1 (some .int), Cond.methodLink RX4 54 yX4_readSemicolon, Cond.instanceMethod yX4_readSemicolon, Cond.selects RX4 yX4_readSemicolon yX4_readSemicolon, Cond.code yX4_readSemicolon cX4_readSemicolon 1 (some .boolean), Cond.methodLink RX4 58 yX4_tell, Cond.instanceMethod yX4_tell, Cond.selects RX4 yX4_tell yX4_tell, Cond.code yX4_tell cX4_tell 2 none, Cond.methodLink RX4 76 yX5_setGuests, Cond.instanceMethod yX5_setGuests, Cond.selects RX5 yX5_setGuests yX5_setGuests, Cond.code yX5_setGuests cX5_setGuests 2 none, Cond.methodLink RX4 79 yX5_setHat, Cond.instanceMethod yX5_setHat, Cond.selects RX5 yX5_setHat yX5_setHat, Cond.code yX5_setHat cX5_setHat 3 none, Cond.methodLink RX5 33 yX5_isOne, Cond.static yX5_isOne]
def wsX4_readInto_r7 : List Cond := [Cond.code yX5_isOne cX5_isOne 1 (some .boolean), Cond.methodLink RX4 83 yX5_setLaw, Cond.instanceMethod yX5_setLaw, Cond.selects RX5 yX5_setLaw yX5_setLaw, Cond.code yX5_setLaw cX5_setLaw 3 none, Cond.methodLink RX4 86 yX5_putTogether, Cond.instanceMethod yX5_putTogether, Cond.selects RX5 yX5_putTogether yX5_putTogether, Cond.code yX5_putTogether cX5_putTogether 3 none, Cond.methodLink RX4 89 yX5_putApart, Cond.instanceMethod yX5_putApart, Cond.selects RX5 yX5_putApart yX5_putApart, Cond.code yX5_putApart cX5_putApart 3 none, Cond.methodLink RX4 92 yX5_setWorth, Cond.instanceMethod yX5_setWorth, Cond.selects RX5 yX5_setWorth yX5_setWorth, Cond.code yX5_setWorth cX5_setWorth 4 none]
def wsX4_readInto : List Cond := .code yX4_readInto cX4_readInto 4 (some .int) :: ((wsX4_readInto_r1 ++ (wsX4_readInto_r2 ++ (wsX4_readInto_r3 ++ (wsX4_readInto_r4 ++ (wsX4_readInto_r5 ++ (wsX4_readInto_r6 ++ wsX4_readInto_r7)))))) ++ wsX40 ++ wsX50 ++ wsX80)
def wsX5_init : List Cond := .code yX5_init cX5_init 1 none :: ([.methodLink RX5 3 objectInit, .instanceMethod objectInit, .code objectInit ⟨#[0xb1]⟩ 1 none, .arrayClass .int, .fieldLink RX5 9 "GuestParties$Rules" "hats" "[I", .fieldLink RX5 15 "GuestParties$Rules" "laws" "[I", .fieldLink RX5 18 "GuestParties$Rules" "together" "[I", .fieldLink RX5 21 "GuestParties$Rules" "apart" "[I", .classLink RX5 24 "[[I", .fieldLink RX5 26 "GuestParties$Rules" "worths" "[[I", .fieldLink RX5 29 "GuestParties$Rules" "guests" "I"] ++ wsX50)
def wsX5_hatOf : List Cond := .code yX5_hatOf cX5_hatOf 2 (some .int) :: ([.fieldLink RX5 9 "GuestParties$Rules" "hats" "[I", .methodLink RX5 33 yX5_isOne, .static yX5_isOne, .initialized RX5, .code yX5_isOne cX5_isOne 1 (some .boolean)] ++ wsX50)
def wsX5_areTogether : List Cond := .code yX5_areTogether cX5_areTogether 3 (some .boolean) :: ([.fieldLink RX5 18 "GuestParties$Rules" "together" "[I", .methodLink RX5 33 yX5_isOne, .static yX5_isOne, .initialized RX5, .code yX5_isOne cX5_isOne 1 (some .boolean)] ++ wsX50)
def wsX5_areApart : List Cond := .code yX5_areApart cX5_areApart 3 (some .boolean) :: ([.fieldLink RX5 21 "GuestParties$Rules" "apart" "[I", .methodLink RX5 33 yX5_isOne, .static yX5_isOne, .initialized RX5, .code yX5_isOne cX5_isOne 1 (some .boolean)] ++ wsX50)
def wsX5_worthOf : List Cond := .code yX5_worthOf cX5_worthOf 3 (some .int) :: ([.fieldLink RX5 26 "GuestParties$Rules" "worths" "[[I", .methodLink RX5 33 yX5_isOne, .static yX5_isOne, .initialized RX5, .code yX5_isOne cX5_isOne 1 (some .boolean)] ++ wsX50)
def wsX5_worthOfAll : List Cond := .code yX5_worthOfAll cX5_worthOfAll 4 (some .int) :: ([.fieldLink RX5 29 "GuestParties$Rules" "guests" "I", .methodLink RX5 37 yX7_partyOf, .instanceMethod yX7_partyOf, .selects RX7 yX7_partyOf yX7_partyOf, .initialized RX7, .code yX7_partyOf cX7_partyOf 2 (some .int), .fieldLink RX7 21 "GuestParties$Standing" "guests" "I", .fieldLink RX7 9 "GuestParties$Standing" "row" "[I", .methodLink RX5 43 yX7_setOf, .instanceMethod yX7_setOf, .selects RX7 yX7_setOf yX7_setOf, .code yX7_setOf cX7_setOf 2 (some .int), .fieldLink RX7 25 "GuestParties$Standing" "parties" "I", .fieldLink RX7 15 "GuestParties$Standing" "sets" "[I", .methodLink RX5 46 yX5_worthWith, .instanceMethod yX5_worthWith, .selects RX5 yX5_worthWith yX5_worthWith, .initialized RX5, .code yX5_worthWith cX5_worthWith 5 (some .int), .fieldLink RX5 26 "GuestParties$Rules" "worths" "[[I", .methodLink RX5 33 yX5_isOne, .static yX5_isOne, .code yX5_isOne cX5_isOne 1 (some .boolean)] ++ wsX50 ++ wsX70)
def wsX5_pairsIn : List Cond := .code yX5_pairsIn cX5_pairsIn 6 (some .int) :: ([.methodLink RX5 58 yJ6_bitCount_0f7a4, .static yJ6_bitCount_0f7a4, .initialized RJ6, .code yJ6_bitCount_0f7a4 cJ6_bitCount_0f7a4 1 (some .int), .constant RJ6 265 (1431655765), .constant RJ6 266 (858993459), .constant RJ6 267 (252645135)])
def wsX5_pairsTogether : List Cond := .code yX5_pairsTogether cX5_pairsTogether 1 (some .int) :: ([.fieldLink RX5 18 "GuestParties$Rules" "together" "[I", .methodLink RX5 50 yX5_pairsIn, .static yX5_pairsIn, .initialized RX5, .code yX5_pairsIn cX5_pairsIn 6 (some .int), .methodLink RX5 58 yJ6_bitCount_0f7a4, .static yJ6_bitCount_0f7a4, .initialized RJ6, .code yJ6_bitCount_0f7a4 cJ6_bitCount_0f7a4 1 (some .int), .constant RJ6 265 (1431655765), .constant RJ6 266 (858993459), .constant RJ6 267 (252645135)] ++ wsX50)
def wsX5_pairsApart : List Cond := .code yX5_pairsApart cX5_pairsApart 1 (some .int) :: ([.fieldLink RX5 21 "GuestParties$Rules" "apart" "[I", .methodLink RX5 50 yX5_pairsIn, .static yX5_pairsIn, .initialized RX5, .code yX5_pairsIn cX5_pairsIn 6 (some .int), .methodLink RX5 58 yJ6_bitCount_0f7a4, .static yJ6_bitCount_0f7a4, .initialized RJ6, .code yJ6_bitCount_0f7a4 cJ6_bitCount_0f7a4 1 (some .int), .constant RJ6 265 (1431655765), .constant RJ6 266 (858993459), .constant RJ6 267 (252645135)] ++ wsX50)
def wsX5_meetsItsHat : List Cond := .code yX5_meetsItsHat cX5_meetsItsHat 4 (some .boolean) :: ([.fieldLink RX5 15 "GuestParties$Rules" "laws" "[I", .fieldLink RX5 9 "GuestParties$Rules" "hats" "[I"] ++ wsX50)
def wsX5_mayCome : List Cond := .code yX5_mayCome cX5_mayCome 5 (some .boolean) :: ([.fieldLink RX5 18 "GuestParties$Rules" "together" "[I", .fieldLink RX5 21 "GuestParties$Rules" "apart" "[I", .methodLink RX5 33 yX5_isOne, .static yX5_isOne, .initialized RX5, .code yX5_isOne cX5_isOne 1 (some .boolean), .methodLink RX5 54 yX5_meetsItsHat, .instanceMethod yX5_meetsItsHat, .selects RX5 yX5_meetsItsHat yX5_meetsItsHat, .code yX5_meetsItsHat cX5_meetsItsHat 4 (some .boolean), .fieldLink RX5 15 "GuestParties$Rules" "laws" "[I", .fieldLink RX5 9 "GuestParties$Rules" "hats" "[I"] ++ wsX50)
def wsX6_size : List Cond := .code yX6_size cX6_size 1 (some .int) :: ([.fieldLink RX6 20 "GuestParties$Sights" "size" "I"] ++ wsX60)
def wsX6_areFull : List Cond := .code yX6_areFull cX6_areFull 1 (some .boolean) :: ([.fieldLink RX6 20 "GuestParties$Sights" "size" "I"] ++ wsX60)
def wsX6_fit : List Cond := .code yX6_fit cX6_fit 4 (some .boolean) :: ([.fieldLink RX6 20 "GuestParties$Sights" "size" "I", .fieldLink RX6 9 "GuestParties$Sights" "ones" "[I", .fieldLink RX6 13 "GuestParties$Sights" "others" "[I", .fieldLink RX6 16 "GuestParties$Sights" "together" "[Z", .methodLink RX6 31 yX7_partyIn, .static yX7_partyIn, .initialized RX7, .code yX7_partyIn cX7_partyIn 2 (some .int), .methodLink RX7 28 yX7_shiftOf, .static yX7_shiftOf, .code yX7_shiftOf cX7_shiftOf 1 (some .int)] ++ wsX60)
def wsX7_isAlone : List Cond := .code yX7_isAlone cX7_isAlone 2 (some .boolean) :: ([.methodLink RX7 32 yX7_partyOf, .instanceMethod yX7_partyOf, .selects RX7 yX7_partyOf yX7_partyOf, .initialized RX7, .code yX7_partyOf cX7_partyOf 2 (some .int), .fieldLink RX7 21 "GuestParties$Standing" "guests" "I", .fieldLink RX7 9 "GuestParties$Standing" "row" "[I", .methodLink RX7 35 yX7_setOf, .instanceMethod yX7_setOf, .selects RX7 yX7_setOf yX7_setOf, .code yX7_setOf cX7_setOf 2 (some .int), .fieldLink RX7 25 "GuestParties$Standing" "parties" "I", .fieldLink RX7 15 "GuestParties$Standing" "sets" "[I", .methodLink RX7 38 yJ6_bitCount_0f7a4, .static yJ6_bitCount_0f7a4, .initialized RJ6, .code yJ6_bitCount_0f7a4 cJ6_bitCount_0f7a4 1 (some .int), .constant RJ6 265 (1431655765), .constant RJ6 266 (858993459), .constant RJ6 267 (252645135)] ++ wsX70)
def wsX7_loners : List Cond := .code yX7_loners cX7_loners 3 (some .int) :: ([.fieldLink RX7 25 "GuestParties$Standing" "parties" "I", .methodLink RX7 35 yX7_setOf, .instanceMethod yX7_setOf, .selects RX7 yX7_setOf yX7_setOf, .initialized RX7, .code yX7_setOf cX7_setOf 2 (some .int), .fieldLink RX7 15 "GuestParties$Standing" "sets" "[I", .methodLink RX7 38 yJ6_bitCount_0f7a4, .static yJ6_bitCount_0f7a4, .initialized RJ6, .code yJ6_bitCount_0f7a4 cJ6_bitCount_0f7a4 1 (some .int), .constant RJ6 265 (1431655765), .constant RJ6 266 (858993459), .constant RJ6 267 (252645135)] ++ wsX70)
def wsX7_scatter : List Cond := .code yX7_scatter cX7_scatter 3 none :: ([.methodLink RX7 43 Lib.Math.min.name, .static Lib.Math.min.name, .initialized "java/lang/Math", .code Lib.Math.min.name Lib.Math.min.code 2 (some .int), .methodLink RX7 49 Lib.Math.max.name, .static Lib.Math.max.name, .code Lib.Math.max.name Lib.Math.max.code 2 (some .int), .fieldLink RX7 21 "GuestParties$Standing" "guests" "I", .fieldLink RX7 18 "GuestParties$Standing" "labels" "[I", .methodLink RX7 52 yX7_settle, .instanceMethod yX7_settle, .selects RX7 yX7_settle yX7_settle, .initialized RX7, .code yX7_settle cX7_settle 3 none, .fieldLink RX7 25 "GuestParties$Standing" "parties" "I", .fieldLink RX7 15 "GuestParties$Standing" "sets" "[I", .fieldLink RX7 9 "GuestParties$Standing" "row" "[I", .methodLink RX7 81 yX7_firstLabelledLike, .instanceMethod yX7_firstLabelledLike, .selects RX7 yX7_firstLabelledLike yX7_firstLabelledLike, .code yX7_firstLabelledLike cX7_firstLabelledLike 3 (some .int)] ++ wsX70)
def wsX7_sendTo_r1 : List Cond := [Cond.methodLink RX7 32 yX7_partyOf, Cond.instanceMethod yX7_partyOf, Cond.selects RX7 yX7_partyOf yX7_partyOf, Cond.initialized RX7, Cond.code yX7_partyOf cX7_partyOf 2 (some .int), Cond.fieldLink RX7 21 "GuestParties$Standing" "guests" "I", Cond.fieldLink RX7 9 "GuestParties$Standing" "row" "[I", Cond.methodLink RX7 68 yX7_sendToParty, Cond.instanceMethod yX7_sendToParty, Cond.selects RX7 yX7_sendToParty yX7_sendToParty, Cond.code yX7_sendToParty cX7_sendToParty 3 none, Cond.fieldLink RX7 18 "GuestParties$Standing" "labels" "[I", Cond.methodLink RX7 72 yX7_relabel, Cond.instanceMethod yX7_relabel, Cond.selects RX7 yX7_relabel yX7_relabel, Cond.code yX7_relabel cX7_relabel 2 none, Cond.methodLink RX7 52 yX7_settle, Cond.instanceMethod yX7_settle, Cond.selects RX7 yX7_settle yX7_settle, Cond.code yX7_settle cX7_settle 3 none, Cond.fieldLink RX7 25 "GuestParties$Standing" "parties" "I", Cond.fieldLink RX7 15 "GuestParties$Standing" "sets" "[I", Cond.methodLink RX7 81 yX7_firstLabelledLike, Cond.instanceMethod yX7_firstLabelledLike]
def wsX7_sendTo_r2 : List Cond := [Cond.selects RX7 yX7_firstLabelledLike yX7_firstLabelledLike, Cond.code yX7_firstLabelledLike cX7_firstLabelledLike 3 (some .int)]
def wsX7_sendTo : List Cond := .code yX7_sendTo cX7_sendTo 3 none :: ((wsX7_sendTo_r1 ++ wsX7_sendTo_r2) ++ wsX70)
def wsX7_splitOff : List Cond := .code yX7_splitOff cX7_splitOff 3 none :: ([.fieldLink RX7 21 "GuestParties$Standing" "guests" "I", .fieldLink RX7 18 "GuestParties$Standing" "labels" "[I", .fieldLink RX7 9 "GuestParties$Standing" "row" "[I", .methodLink RX7 52 yX7_settle, .instanceMethod yX7_settle, .selects RX7 yX7_settle yX7_settle, .initialized RX7, .code yX7_settle cX7_settle 3 none, .fieldLink RX7 25 "GuestParties$Standing" "parties" "I", .fieldLink RX7 15 "GuestParties$Standing" "sets" "[I", .methodLink RX7 81 yX7_firstLabelledLike, .instanceMethod yX7_firstLabelledLike, .selects RX7 yX7_firstLabelledLike yX7_firstLabelledLike, .code yX7_firstLabelledLike cX7_firstLabelledLike 3 (some .int)] ++ wsX70)
def wsX8_init : List Cond := .code yX8_init cX8_init 1 none :: ([.methodLink RX8 1 objectInit, .instanceMethod objectInit, .code objectInit ⟨#[0xb1]⟩ 1 none, .arrayClass .int, .fieldLink RX8 9 "GuestParties$Text" "bytes" "[I", .fieldLink RX8 13 "GuestParties$Text" "length" "I"] ++ wsX80)
def wsX8_length : List Cond := .code yX8_length cX8_length 1 (some .int) :: ([.fieldLink RX8 13 "GuestParties$Text" "length" "I"] ++ wsX80)
def wsX8_hasSpaceFor : List Cond := .code yX8_hasSpaceFor cX8_hasSpaceFor 2 (some .boolean) :: ([.fieldLink RX8 13 "GuestParties$Text" "length" "I"] ++ wsX80)
def wsX8_append : List Cond := .code yX8_append cX8_append 2 none :: ([.fieldLink RX8 13 "GuestParties$Text" "length" "I", .fieldLink RX8 9 "GuestParties$Text" "bytes" "[I"] ++ wsX80)
def wsX8_empty : List Cond := .code yX8_empty cX8_empty 1 none :: ([.fieldLink RX8 13 "GuestParties$Text" "length" "I"] ++ wsX80)
def wsX9_init : List Cond := .code yX9_init cX9_init 2 none :: ([.methodLink RX9 3 objectInit, .instanceMethod objectInit, .code objectInit ⟨#[0xb1]⟩ 1 none, .arrayClass .int, .fieldLink RX9 11 "GuestParties$Ways" "codes" "[I", .fieldLink RX9 15 "GuestParties$Ways" "totals" "[I", .fieldLink RX9 18 "GuestParties$Ways" "sets" "[I", .fieldLink RX9 21 "GuestParties$Ways" "areGathered" "Z", .fieldLink RX9 25 "GuestParties$Ways" "total" "I", .fieldLink RX9 29 "GuestParties$Ways" "greatestWorth" "I", .fieldLink RX9 32 "GuestParties$Ways" "worthiest" "I", .fieldLink RX9 35 "GuestParties$Ways" "rules" "LGuestParties$Rules;"] ++ wsX90)
def wsX9_obey : List Cond := .code yX9_obey cX9_obey 2 none :: ([.fieldLink RX9 35 "GuestParties$Ways" "rules" "LGuestParties$Rules;", .fieldLink RX9 21 "GuestParties$Ways" "areGathered" "Z"] ++ wsX90)
def wsX9_areLawful : List Cond := .code yX9_areLawful cX9_areLawful 4 (some .boolean) :: ([.fieldLink RX9 35 "GuestParties$Ways" "rules" "LGuestParties$Rules;", .fieldLink RX9 18 "GuestParties$Ways" "sets" "[I", .methodLink RX9 88 yX5_lawOf, .instanceMethod yX5_lawOf, .selects RX5 yX5_lawOf yX5_lawOf, .initialized RX5, .code yX5_lawOf cX5_lawOf 2 (some .int), .fieldLink RX5 15 "GuestParties$Rules" "laws" "[I", .methodLink RX9 91 yJ6_bitCount_0f7a4, .static yJ6_bitCount_0f7a4, .initialized RJ6, .code yJ6_bitCount_0f7a4 cJ6_bitCount_0f7a4 1 (some .int), .constant RJ6 265 (1431655765), .constant RJ6 266 (858993459), .constant RJ6 267 (252645135)] ++ wsX90 ++ wsX50)
def wsX9_accept_r1 : List Cond := [Cond.fieldLink RX9 25 "GuestParties$Ways" "total" "I", Cond.fieldLink RX9 29 "GuestParties$Ways" "greatestWorth" "I", Cond.fieldLink RX9 32 "GuestParties$Ways" "worthiest" "I", Cond.fieldLink RX9 11 "GuestParties$Ways" "codes" "[I", Cond.fieldLink RX9 15 "GuestParties$Ways" "totals" "[I", Cond.methodLink RX9 106 yX9_areLawful, Cond.instanceMethod yX9_areLawful, Cond.selects RX9 yX9_areLawful yX9_areLawful, Cond.initialized RX9, Cond.code yX9_areLawful cX9_areLawful 4 (some .boolean), Cond.fieldLink RX9 35 "GuestParties$Ways" "rules" "LGuestParties$Rules;", Cond.fieldLink RX9 18 "GuestParties$Ways" "sets" "[I", Cond.methodLink RX9 88 yX5_lawOf, Cond.instanceMethod yX5_lawOf, Cond.selects RX5 yX5_lawOf yX5_lawOf, Cond.initialized RX5, Cond.code yX5_lawOf cX5_lawOf 2 (some .int), Cond.fieldLink RX5 15 "GuestParties$Rules" "laws" "[I", Cond.methodLink RX9 91 yJ6_bitCount_0f7a4, Cond.static yJ6_bitCount_0f7a4, Cond.initialized RJ6, Cond.code yJ6_bitCount_0f7a4 cJ6_bitCount_0f7a4 1 (some .int), Cond.constant RJ6 265 (1431655765), Cond.constant RJ6 266 (858993459)]
def wsX9_accept_r2 : List Cond := [Cond.constant RJ6 267 (252645135)]
def wsX9_accept : List Cond := .code yX9_accept cX9_accept 4 none :: ((wsX9_accept_r1 ++ wsX9_accept_r2) ++ wsX90 ++ wsX50)
def wsX9_isSurrounded : List Cond := .code yX9_isSurrounded cX9_isSurrounded 6 (some .boolean) :: ([.fieldLink RX9 18 "GuestParties$Ways" "sets" "[I"] ++ wsX90)
def wsX9_comesAcross : List Cond := .code yX9_comesAcross cX9_comesAcross 4 (some .boolean) :: ([.fieldLink RX9 18 "GuestParties$Ways" "sets" "[I", .methodLink RX9 103 yX9_isSurrounded, .instanceMethod yX9_isSurrounded, .selects RX9 yX9_isSurrounded yX9_isSurrounded, .initialized RX9, .code yX9_isSurrounded cX9_isSurrounded 6 (some .boolean)] ++ wsX90)
def wsX9_mayStand_r1 : List Cond := [Cond.fieldLink RX9 35 "GuestParties$Ways" "rules" "LGuestParties$Rules;", Cond.fieldLink RX9 18 "GuestParties$Ways" "sets" "[I", Cond.methodLink RX9 88 yX5_lawOf, Cond.instanceMethod yX5_lawOf, Cond.selects RX5 yX5_lawOf yX5_lawOf, Cond.initialized RX5, Cond.code yX5_lawOf cX5_lawOf 2 (some .int), Cond.fieldLink RX5 15 "GuestParties$Rules" "laws" "[I", Cond.methodLink RX9 91 yJ6_bitCount_0f7a4, Cond.static yJ6_bitCount_0f7a4, Cond.initialized RJ6, Cond.code yJ6_bitCount_0f7a4 cJ6_bitCount_0f7a4 1 (some .int), Cond.constant RJ6 265 (1431655765), Cond.constant RJ6 266 (858993459), Cond.constant RJ6 267 (252645135), Cond.methodLink RX9 96 yX5_mayCome, Cond.instanceMethod yX5_mayCome, Cond.selects RX5 yX5_mayCome yX5_mayCome, Cond.code yX5_mayCome cX5_mayCome 5 (some .boolean), Cond.fieldLink RX5 18 "GuestParties$Rules" "together" "[I", Cond.fieldLink RX5 21 "GuestParties$Rules" "apart" "[I", Cond.methodLink RX5 33 yX5_isOne, Cond.static yX5_isOne, Cond.code yX5_isOne cX5_isOne 1 (some .boolean)]
def wsX9_mayStand_r2 : List Cond := [Cond.methodLink RX5 54 yX5_meetsItsHat, Cond.instanceMethod yX5_meetsItsHat, Cond.selects RX5 yX5_meetsItsHat yX5_meetsItsHat, Cond.code yX5_meetsItsHat cX5_meetsItsHat 4 (some .boolean), Cond.fieldLink RX5 9 "GuestParties$Rules" "hats" "[I", Cond.methodLink RX9 100 yX9_comesAcross, Cond.instanceMethod yX9_comesAcross, Cond.selects RX9 yX9_comesAcross yX9_comesAcross, Cond.initialized RX9, Cond.code yX9_comesAcross cX9_comesAcross 4 (some .boolean), Cond.methodLink RX9 103 yX9_isSurrounded, Cond.instanceMethod yX9_isSurrounded, Cond.selects RX9 yX9_isSurrounded yX9_isSurrounded, Cond.code yX9_isSurrounded cX9_isSurrounded 6 (some .boolean)]
def wsX9_mayStand : List Cond := .code yX9_mayStand cX9_mayStand 5 (some .boolean) :: ((wsX9_mayStand_r1 ++ wsX9_mayStand_r2) ++ wsX90 ++ wsX50)
def wsX9_place_r1 : List Cond := [Cond.fieldLink RX9 18 "GuestParties$Ways" "sets" "[I", Cond.fieldLink RX9 35 "GuestParties$Ways" "rules" "LGuestParties$Rules;", Cond.methodLink RX9 83 Lib.Math.max.name, Cond.static Lib.Math.max.name, Cond.initialized "java/lang/Math", Cond.code Lib.Math.max.name Lib.Math.max.code 2 (some .int), Cond.methodLink RX9 76 yX5_worthWith, Cond.instanceMethod yX5_worthWith, Cond.selects RX5 yX5_worthWith yX5_worthWith, Cond.initialized RX5, Cond.code yX5_worthWith cX5_worthWith 5 (some .int), Cond.fieldLink RX5 29 "GuestParties$Rules" "guests" "I", Cond.fieldLink RX5 26 "GuestParties$Rules" "worths" "[[I", Cond.methodLink RX5 33 yX5_isOne, Cond.static yX5_isOne, Cond.code yX5_isOne cX5_isOne 1 (some .boolean), Cond.methodLink RX9 79 yX7_shiftOf, Cond.static yX7_shiftOf, Cond.initialized RX7, Cond.code yX7_shiftOf cX7_shiftOf 1 (some .int), Cond.methodLink RX9 54 yX9_placeFrom, Cond.instanceMethod yX9_placeFrom, Cond.selects RX9 yX9_placeFrom yX9_placeFrom, Cond.initialized RX9]
def wsX9_place_r2 : List Cond := [Cond.code yX9_placeFrom cX9_placeFrom 6 none, Cond.methodLink RX9 58 yX5_guests, Cond.instanceMethod yX5_guests, Cond.selects RX5 yX5_guests yX5_guests, Cond.code yX5_guests cX5_guests 1 (some .int), Cond.methodLink RX9 64 yX9_accept, Cond.instanceMethod yX9_accept, Cond.selects RX9 yX9_accept yX9_accept, Cond.code yX9_accept cX9_accept 4 none, Cond.fieldLink RX9 25 "GuestParties$Ways" "total" "I", Cond.fieldLink RX9 29 "GuestParties$Ways" "greatestWorth" "I", Cond.fieldLink RX9 32 "GuestParties$Ways" "worthiest" "I", Cond.fieldLink RX9 11 "GuestParties$Ways" "codes" "[I", Cond.fieldLink RX9 15 "GuestParties$Ways" "totals" "[I", Cond.methodLink RX9 106 yX9_areLawful, Cond.instanceMethod yX9_areLawful, Cond.selects RX9 yX9_areLawful yX9_areLawful, Cond.code yX9_areLawful cX9_areLawful 4 (some .boolean), Cond.methodLink RX9 88 yX5_lawOf, Cond.instanceMethod yX5_lawOf, Cond.selects RX5 yX5_lawOf yX5_lawOf, Cond.code yX5_lawOf cX5_lawOf 2 (some .int), Cond.fieldLink RX5 15 "GuestParties$Rules" "laws" "[I", Cond.methodLink RX9 91 yJ6_bitCount_0f7a4]
def wsX9_place_r3 : List Cond := [Cond.static yJ6_bitCount_0f7a4, Cond.initialized RJ6, Cond.code yJ6_bitCount_0f7a4 cJ6_bitCount_0f7a4 1 (some .int), Cond.constant RJ6 265 (1431655765), Cond.constant RJ6 266 (858993459), Cond.constant RJ6 267 (252645135), Cond.methodLink RX9 68 yX9_mayStand, Cond.instanceMethod yX9_mayStand, Cond.selects RX9 yX9_mayStand yX9_mayStand, Cond.code yX9_mayStand cX9_mayStand 5 (some .boolean), Cond.methodLink RX9 96 yX5_mayCome, Cond.instanceMethod yX5_mayCome, Cond.selects RX5 yX5_mayCome yX5_mayCome, Cond.code yX5_mayCome cX5_mayCome 5 (some .boolean), Cond.fieldLink RX5 18 "GuestParties$Rules" "together" "[I", Cond.fieldLink RX5 21 "GuestParties$Rules" "apart" "[I", Cond.methodLink RX5 54 yX5_meetsItsHat, Cond.instanceMethod yX5_meetsItsHat, Cond.selects RX5 yX5_meetsItsHat yX5_meetsItsHat, Cond.code yX5_meetsItsHat cX5_meetsItsHat 4 (some .boolean), Cond.fieldLink RX5 9 "GuestParties$Rules" "hats" "[I", Cond.methodLink RX9 100 yX9_comesAcross, Cond.instanceMethod yX9_comesAcross, Cond.selects RX9 yX9_comesAcross yX9_comesAcross]
def wsX9_place_r4 : List Cond := [Cond.code yX9_comesAcross cX9_comesAcross 4 (some .boolean), Cond.methodLink RX9 103 yX9_isSurrounded, Cond.instanceMethod yX9_isSurrounded, Cond.selects RX9 yX9_isSurrounded yX9_isSurrounded, Cond.code yX9_isSurrounded cX9_isSurrounded 6 (some .boolean), Cond.methodLink RX9 72 yX9_place, Cond.instanceMethod yX9_place, Cond.selects RX9 yX9_place yX9_place]
def wsX9_place : List Cond := .code yX9_place cX9_place 9 none :: ((wsX9_place_r1 ++ (wsX9_place_r2 ++ (wsX9_place_r3 ++ wsX9_place_r4))) ++ wsX90 ++ wsX50)
def wsX9_placeFrom_r1 : List Cond := [Cond.fieldLink RX9 35 "GuestParties$Ways" "rules" "LGuestParties$Rules;", Cond.methodLink RX9 58 yX5_guests, Cond.instanceMethod yX5_guests, Cond.selects RX5 yX5_guests yX5_guests, Cond.initialized RX5, Cond.code yX5_guests cX5_guests 1 (some .int), Cond.fieldLink RX5 29 "GuestParties$Rules" "guests" "I", Cond.methodLink RX9 64 yX9_accept, Cond.instanceMethod yX9_accept, Cond.selects RX9 yX9_accept yX9_accept, Cond.initialized RX9, Cond.code yX9_accept cX9_accept 4 none, Cond.fieldLink RX9 25 "GuestParties$Ways" "total" "I", Cond.fieldLink RX9 29 "GuestParties$Ways" "greatestWorth" "I", Cond.fieldLink RX9 32 "GuestParties$Ways" "worthiest" "I", Cond.fieldLink RX9 11 "GuestParties$Ways" "codes" "[I", Cond.fieldLink RX9 15 "GuestParties$Ways" "totals" "[I", Cond.methodLink RX9 106 yX9_areLawful, Cond.instanceMethod yX9_areLawful, Cond.selects RX9 yX9_areLawful yX9_areLawful, Cond.code yX9_areLawful cX9_areLawful 4 (some .boolean), Cond.fieldLink RX9 18 "GuestParties$Ways" "sets" "[I", Cond.methodLink RX9 88 yX5_lawOf, Cond.instanceMethod yX5_lawOf]
def wsX9_placeFrom_r2 : List Cond := [Cond.selects RX5 yX5_lawOf yX5_lawOf, Cond.code yX5_lawOf cX5_lawOf 2 (some .int), Cond.fieldLink RX5 15 "GuestParties$Rules" "laws" "[I", Cond.methodLink RX9 91 yJ6_bitCount_0f7a4, Cond.static yJ6_bitCount_0f7a4, Cond.initialized RJ6, Cond.code yJ6_bitCount_0f7a4 cJ6_bitCount_0f7a4 1 (some .int), Cond.constant RJ6 265 (1431655765), Cond.constant RJ6 266 (858993459), Cond.constant RJ6 267 (252645135), Cond.methodLink RX9 68 yX9_mayStand, Cond.instanceMethod yX9_mayStand, Cond.selects RX9 yX9_mayStand yX9_mayStand, Cond.code yX9_mayStand cX9_mayStand 5 (some .boolean), Cond.methodLink RX9 96 yX5_mayCome, Cond.instanceMethod yX5_mayCome, Cond.selects RX5 yX5_mayCome yX5_mayCome, Cond.code yX5_mayCome cX5_mayCome 5 (some .boolean), Cond.fieldLink RX5 18 "GuestParties$Rules" "together" "[I", Cond.fieldLink RX5 21 "GuestParties$Rules" "apart" "[I", Cond.methodLink RX5 33 yX5_isOne, Cond.static yX5_isOne, Cond.code yX5_isOne cX5_isOne 1 (some .boolean), Cond.methodLink RX5 54 yX5_meetsItsHat]
def wsX9_placeFrom_r3 : List Cond := [Cond.instanceMethod yX5_meetsItsHat, Cond.selects RX5 yX5_meetsItsHat yX5_meetsItsHat, Cond.code yX5_meetsItsHat cX5_meetsItsHat 4 (some .boolean), Cond.fieldLink RX5 9 "GuestParties$Rules" "hats" "[I", Cond.methodLink RX9 100 yX9_comesAcross, Cond.instanceMethod yX9_comesAcross, Cond.selects RX9 yX9_comesAcross yX9_comesAcross, Cond.code yX9_comesAcross cX9_comesAcross 4 (some .boolean), Cond.methodLink RX9 103 yX9_isSurrounded, Cond.instanceMethod yX9_isSurrounded, Cond.selects RX9 yX9_isSurrounded yX9_isSurrounded, Cond.code yX9_isSurrounded cX9_isSurrounded 6 (some .boolean), Cond.methodLink RX9 72 yX9_place, Cond.instanceMethod yX9_place, Cond.selects RX9 yX9_place yX9_place, Cond.code yX9_place cX9_place 9 none, Cond.methodLink RX9 83 Lib.Math.max.name, Cond.static Lib.Math.max.name, Cond.initialized "java/lang/Math", Cond.code Lib.Math.max.name Lib.Math.max.code 2 (some .int), Cond.methodLink RX9 76 yX5_worthWith, Cond.instanceMethod yX5_worthWith, Cond.selects RX5 yX5_worthWith yX5_worthWith, Cond.code yX5_worthWith cX5_worthWith 5 (some .int)]
def wsX9_placeFrom_r4 : List Cond := [Cond.fieldLink RX5 26 "GuestParties$Rules" "worths" "[[I", Cond.methodLink RX9 79 yX7_shiftOf, Cond.static yX7_shiftOf, Cond.initialized RX7, Cond.code yX7_shiftOf cX7_shiftOf 1 (some .int), Cond.methodLink RX9 54 yX9_placeFrom, Cond.instanceMethod yX9_placeFrom, Cond.selects RX9 yX9_placeFrom yX9_placeFrom]
def wsX9_placeFrom : List Cond := .code yX9_placeFrom cX9_placeFrom 6 none :: ((wsX9_placeFrom_r1 ++ (wsX9_placeFrom_r2 ++ (wsX9_placeFrom_r3 ++ wsX9_placeFrom_r4))) ++ wsX90 ++ wsX50)
def wsX9_gather_r1 : List Cond := [Cond.fieldLink RX9 21 "GuestParties$Ways" "areGathered" "Z", Cond.fieldLink RX9 25 "GuestParties$Ways" "total" "I", Cond.fieldLink RX9 15 "GuestParties$Ways" "totals" "[I", Cond.fieldLink RX9 18 "GuestParties$Ways" "sets" "[I", Cond.methodLink RX9 54 yX9_placeFrom, Cond.instanceMethod yX9_placeFrom, Cond.selects RX9 yX9_placeFrom yX9_placeFrom, Cond.initialized RX9, Cond.code yX9_placeFrom cX9_placeFrom 6 none, Cond.fieldLink RX9 35 "GuestParties$Ways" "rules" "LGuestParties$Rules;", Cond.methodLink RX9 58 yX5_guests, Cond.instanceMethod yX5_guests, Cond.selects RX5 yX5_guests yX5_guests, Cond.initialized RX5, Cond.code yX5_guests cX5_guests 1 (some .int), Cond.fieldLink RX5 29 "GuestParties$Rules" "guests" "I", Cond.methodLink RX9 64 yX9_accept, Cond.instanceMethod yX9_accept, Cond.selects RX9 yX9_accept yX9_accept, Cond.code yX9_accept cX9_accept 4 none, Cond.fieldLink RX9 29 "GuestParties$Ways" "greatestWorth" "I", Cond.fieldLink RX9 32 "GuestParties$Ways" "worthiest" "I", Cond.fieldLink RX9 11 "GuestParties$Ways" "codes" "[I", Cond.methodLink RX9 106 yX9_areLawful]
def wsX9_gather_r2 : List Cond := [Cond.instanceMethod yX9_areLawful, Cond.selects RX9 yX9_areLawful yX9_areLawful, Cond.code yX9_areLawful cX9_areLawful 4 (some .boolean), Cond.methodLink RX9 88 yX5_lawOf, Cond.instanceMethod yX5_lawOf, Cond.selects RX5 yX5_lawOf yX5_lawOf, Cond.code yX5_lawOf cX5_lawOf 2 (some .int), Cond.fieldLink RX5 15 "GuestParties$Rules" "laws" "[I", Cond.methodLink RX9 91 yJ6_bitCount_0f7a4, Cond.static yJ6_bitCount_0f7a4, Cond.initialized RJ6, Cond.code yJ6_bitCount_0f7a4 cJ6_bitCount_0f7a4 1 (some .int), Cond.constant RJ6 265 (1431655765), Cond.constant RJ6 266 (858993459), Cond.constant RJ6 267 (252645135), Cond.methodLink RX9 68 yX9_mayStand, Cond.instanceMethod yX9_mayStand, Cond.selects RX9 yX9_mayStand yX9_mayStand, Cond.code yX9_mayStand cX9_mayStand 5 (some .boolean), Cond.methodLink RX9 96 yX5_mayCome, Cond.instanceMethod yX5_mayCome, Cond.selects RX5 yX5_mayCome yX5_mayCome, Cond.code yX5_mayCome cX5_mayCome 5 (some .boolean), Cond.fieldLink RX5 18 "GuestParties$Rules" "together" "[I"]
def wsX9_gather_r3 : List Cond := [Cond.fieldLink RX5 21 "GuestParties$Rules" "apart" "[I", Cond.methodLink RX5 33 yX5_isOne, Cond.static yX5_isOne, Cond.code yX5_isOne cX5_isOne 1 (some .boolean), Cond.methodLink RX5 54 yX5_meetsItsHat, Cond.instanceMethod yX5_meetsItsHat, Cond.selects RX5 yX5_meetsItsHat yX5_meetsItsHat, Cond.code yX5_meetsItsHat cX5_meetsItsHat 4 (some .boolean), Cond.fieldLink RX5 9 "GuestParties$Rules" "hats" "[I", Cond.methodLink RX9 100 yX9_comesAcross, Cond.instanceMethod yX9_comesAcross, Cond.selects RX9 yX9_comesAcross yX9_comesAcross, Cond.code yX9_comesAcross cX9_comesAcross 4 (some .boolean), Cond.methodLink RX9 103 yX9_isSurrounded, Cond.instanceMethod yX9_isSurrounded, Cond.selects RX9 yX9_isSurrounded yX9_isSurrounded, Cond.code yX9_isSurrounded cX9_isSurrounded 6 (some .boolean), Cond.methodLink RX9 72 yX9_place, Cond.instanceMethod yX9_place, Cond.selects RX9 yX9_place yX9_place, Cond.code yX9_place cX9_place 9 none, Cond.methodLink RX9 83 Lib.Math.max.name, Cond.static Lib.Math.max.name, Cond.initialized "java/lang/Math"]
def wsX9_gather_r4 : List Cond := [Cond.code Lib.Math.max.name Lib.Math.max.code 2 (some .int), Cond.methodLink RX9 76 yX5_worthWith, Cond.instanceMethod yX5_worthWith, Cond.selects RX5 yX5_worthWith yX5_worthWith, Cond.code yX5_worthWith cX5_worthWith 5 (some .int), Cond.fieldLink RX5 26 "GuestParties$Rules" "worths" "[[I", Cond.methodLink RX9 79 yX7_shiftOf, Cond.static yX7_shiftOf, Cond.initialized RX7, Cond.code yX7_shiftOf cX7_shiftOf 1 (some .int)]
def wsX9_gather : List Cond := .code yX9_gather cX9_gather 2 none :: ((wsX9_gather_r1 ++ (wsX9_gather_r2 ++ (wsX9_gather_r3 ++ wsX9_gather_r4))) ++ wsX90 ++ wsX50)
def wsX9_total_r1 : List Cond := [Cond.fieldLink RX9 25 "GuestParties$Ways" "total" "I", Cond.methodLink RX9 39 yX9_gather, Cond.instanceMethod yX9_gather, Cond.selects RX9 yX9_gather yX9_gather, Cond.initialized RX9, Cond.code yX9_gather cX9_gather 2 none, Cond.fieldLink RX9 21 "GuestParties$Ways" "areGathered" "Z", Cond.fieldLink RX9 15 "GuestParties$Ways" "totals" "[I", Cond.fieldLink RX9 18 "GuestParties$Ways" "sets" "[I", Cond.methodLink RX9 54 yX9_placeFrom, Cond.instanceMethod yX9_placeFrom, Cond.selects RX9 yX9_placeFrom yX9_placeFrom, Cond.code yX9_placeFrom cX9_placeFrom 6 none, Cond.fieldLink RX9 35 "GuestParties$Ways" "rules" "LGuestParties$Rules;", Cond.methodLink RX9 58 yX5_guests, Cond.instanceMethod yX5_guests, Cond.selects RX5 yX5_guests yX5_guests, Cond.initialized RX5, Cond.code yX5_guests cX5_guests 1 (some .int), Cond.fieldLink RX5 29 "GuestParties$Rules" "guests" "I", Cond.methodLink RX9 64 yX9_accept, Cond.instanceMethod yX9_accept, Cond.selects RX9 yX9_accept yX9_accept, Cond.code yX9_accept cX9_accept 4 none]
def wsX9_total_r2 : List Cond := [Cond.fieldLink RX9 29 "GuestParties$Ways" "greatestWorth" "I", Cond.fieldLink RX9 32 "GuestParties$Ways" "worthiest" "I", Cond.fieldLink RX9 11 "GuestParties$Ways" "codes" "[I", Cond.methodLink RX9 106 yX9_areLawful, Cond.instanceMethod yX9_areLawful, Cond.selects RX9 yX9_areLawful yX9_areLawful, Cond.code yX9_areLawful cX9_areLawful 4 (some .boolean), Cond.methodLink RX9 88 yX5_lawOf, Cond.instanceMethod yX5_lawOf, Cond.selects RX5 yX5_lawOf yX5_lawOf, Cond.code yX5_lawOf cX5_lawOf 2 (some .int), Cond.fieldLink RX5 15 "GuestParties$Rules" "laws" "[I", Cond.methodLink RX9 91 yJ6_bitCount_0f7a4, Cond.static yJ6_bitCount_0f7a4, Cond.initialized RJ6, Cond.code yJ6_bitCount_0f7a4 cJ6_bitCount_0f7a4 1 (some .int), Cond.constant RJ6 265 (1431655765), Cond.constant RJ6 266 (858993459), Cond.constant RJ6 267 (252645135), Cond.methodLink RX9 68 yX9_mayStand, Cond.instanceMethod yX9_mayStand, Cond.selects RX9 yX9_mayStand yX9_mayStand, Cond.code yX9_mayStand cX9_mayStand 5 (some .boolean), Cond.methodLink RX9 96 yX5_mayCome]
def wsX9_total_r3 : List Cond := [Cond.instanceMethod yX5_mayCome, Cond.selects RX5 yX5_mayCome yX5_mayCome, Cond.code yX5_mayCome cX5_mayCome 5 (some .boolean), Cond.fieldLink RX5 18 "GuestParties$Rules" "together" "[I", Cond.fieldLink RX5 21 "GuestParties$Rules" "apart" "[I", Cond.methodLink RX5 33 yX5_isOne, Cond.static yX5_isOne, Cond.code yX5_isOne cX5_isOne 1 (some .boolean), Cond.methodLink RX5 54 yX5_meetsItsHat, Cond.instanceMethod yX5_meetsItsHat, Cond.selects RX5 yX5_meetsItsHat yX5_meetsItsHat, Cond.code yX5_meetsItsHat cX5_meetsItsHat 4 (some .boolean), Cond.fieldLink RX5 9 "GuestParties$Rules" "hats" "[I", Cond.methodLink RX9 100 yX9_comesAcross, Cond.instanceMethod yX9_comesAcross, Cond.selects RX9 yX9_comesAcross yX9_comesAcross, Cond.code yX9_comesAcross cX9_comesAcross 4 (some .boolean), Cond.methodLink RX9 103 yX9_isSurrounded, Cond.instanceMethod yX9_isSurrounded, Cond.selects RX9 yX9_isSurrounded yX9_isSurrounded, Cond.code yX9_isSurrounded cX9_isSurrounded 6 (some .boolean), Cond.methodLink RX9 72 yX9_place, Cond.instanceMethod yX9_place, Cond.selects RX9 yX9_place yX9_place]
def wsX9_total_r4 : List Cond := [Cond.code yX9_place cX9_place 9 none, Cond.methodLink RX9 83 Lib.Math.max.name, Cond.static Lib.Math.max.name, Cond.initialized "java/lang/Math", Cond.code Lib.Math.max.name Lib.Math.max.code 2 (some .int), Cond.methodLink RX9 76 yX5_worthWith, Cond.instanceMethod yX5_worthWith, Cond.selects RX5 yX5_worthWith yX5_worthWith, Cond.code yX5_worthWith cX5_worthWith 5 (some .int), Cond.fieldLink RX5 26 "GuestParties$Rules" "worths" "[[I", Cond.methodLink RX9 79 yX7_shiftOf, Cond.static yX7_shiftOf, Cond.initialized RX7, Cond.code yX7_shiftOf cX7_shiftOf 1 (some .int)]
def wsX9_total : List Cond := .code yX9_total cX9_total 1 (some .int) :: ((wsX9_total_r1 ++ (wsX9_total_r2 ++ (wsX9_total_r3 ++ wsX9_total_r4))) ++ wsX90 ++ wsX50)
def wsX9_totalWith_r1 : List Cond := [Cond.fieldLink RX9 15 "GuestParties$Ways" "totals" "[I", Cond.methodLink RX9 39 yX9_gather, Cond.instanceMethod yX9_gather, Cond.selects RX9 yX9_gather yX9_gather, Cond.initialized RX9, Cond.code yX9_gather cX9_gather 2 none, Cond.fieldLink RX9 21 "GuestParties$Ways" "areGathered" "Z", Cond.fieldLink RX9 25 "GuestParties$Ways" "total" "I", Cond.fieldLink RX9 18 "GuestParties$Ways" "sets" "[I", Cond.methodLink RX9 54 yX9_placeFrom, Cond.instanceMethod yX9_placeFrom, Cond.selects RX9 yX9_placeFrom yX9_placeFrom, Cond.code yX9_placeFrom cX9_placeFrom 6 none, Cond.fieldLink RX9 35 "GuestParties$Ways" "rules" "LGuestParties$Rules;", Cond.methodLink RX9 58 yX5_guests, Cond.instanceMethod yX5_guests, Cond.selects RX5 yX5_guests yX5_guests, Cond.initialized RX5, Cond.code yX5_guests cX5_guests 1 (some .int), Cond.fieldLink RX5 29 "GuestParties$Rules" "guests" "I", Cond.methodLink RX9 64 yX9_accept, Cond.instanceMethod yX9_accept, Cond.selects RX9 yX9_accept yX9_accept, Cond.code yX9_accept cX9_accept 4 none]
def wsX9_totalWith_r2 : List Cond := [Cond.fieldLink RX9 29 "GuestParties$Ways" "greatestWorth" "I", Cond.fieldLink RX9 32 "GuestParties$Ways" "worthiest" "I", Cond.fieldLink RX9 11 "GuestParties$Ways" "codes" "[I", Cond.methodLink RX9 106 yX9_areLawful, Cond.instanceMethod yX9_areLawful, Cond.selects RX9 yX9_areLawful yX9_areLawful, Cond.code yX9_areLawful cX9_areLawful 4 (some .boolean), Cond.methodLink RX9 88 yX5_lawOf, Cond.instanceMethod yX5_lawOf, Cond.selects RX5 yX5_lawOf yX5_lawOf, Cond.code yX5_lawOf cX5_lawOf 2 (some .int), Cond.fieldLink RX5 15 "GuestParties$Rules" "laws" "[I", Cond.methodLink RX9 91 yJ6_bitCount_0f7a4, Cond.static yJ6_bitCount_0f7a4, Cond.initialized RJ6, Cond.code yJ6_bitCount_0f7a4 cJ6_bitCount_0f7a4 1 (some .int), Cond.constant RJ6 265 (1431655765), Cond.constant RJ6 266 (858993459), Cond.constant RJ6 267 (252645135), Cond.methodLink RX9 68 yX9_mayStand, Cond.instanceMethod yX9_mayStand, Cond.selects RX9 yX9_mayStand yX9_mayStand, Cond.code yX9_mayStand cX9_mayStand 5 (some .boolean), Cond.methodLink RX9 96 yX5_mayCome]
def wsX9_totalWith_r3 : List Cond := [Cond.instanceMethod yX5_mayCome, Cond.selects RX5 yX5_mayCome yX5_mayCome, Cond.code yX5_mayCome cX5_mayCome 5 (some .boolean), Cond.fieldLink RX5 18 "GuestParties$Rules" "together" "[I", Cond.fieldLink RX5 21 "GuestParties$Rules" "apart" "[I", Cond.methodLink RX5 33 yX5_isOne, Cond.static yX5_isOne, Cond.code yX5_isOne cX5_isOne 1 (some .boolean), Cond.methodLink RX5 54 yX5_meetsItsHat, Cond.instanceMethod yX5_meetsItsHat, Cond.selects RX5 yX5_meetsItsHat yX5_meetsItsHat, Cond.code yX5_meetsItsHat cX5_meetsItsHat 4 (some .boolean), Cond.fieldLink RX5 9 "GuestParties$Rules" "hats" "[I", Cond.methodLink RX9 100 yX9_comesAcross, Cond.instanceMethod yX9_comesAcross, Cond.selects RX9 yX9_comesAcross yX9_comesAcross, Cond.code yX9_comesAcross cX9_comesAcross 4 (some .boolean), Cond.methodLink RX9 103 yX9_isSurrounded, Cond.instanceMethod yX9_isSurrounded, Cond.selects RX9 yX9_isSurrounded yX9_isSurrounded, Cond.code yX9_isSurrounded cX9_isSurrounded 6 (some .boolean), Cond.methodLink RX9 72 yX9_place, Cond.instanceMethod yX9_place, Cond.selects RX9 yX9_place yX9_place]
def wsX9_totalWith_r4 : List Cond := [Cond.code yX9_place cX9_place 9 none, Cond.methodLink RX9 83 Lib.Math.max.name, Cond.static Lib.Math.max.name, Cond.initialized "java/lang/Math", Cond.code Lib.Math.max.name Lib.Math.max.code 2 (some .int), Cond.methodLink RX9 76 yX5_worthWith, Cond.instanceMethod yX5_worthWith, Cond.selects RX5 yX5_worthWith yX5_worthWith, Cond.code yX5_worthWith cX5_worthWith 5 (some .int), Cond.fieldLink RX5 26 "GuestParties$Rules" "worths" "[[I", Cond.methodLink RX9 79 yX7_shiftOf, Cond.static yX7_shiftOf, Cond.initialized RX7, Cond.code yX7_shiftOf cX7_shiftOf 1 (some .int)]
def wsX9_totalWith : List Cond := .code yX9_totalWith cX9_totalWith 2 (some .int) :: ((wsX9_totalWith_r1 ++ (wsX9_totalWith_r2 ++ (wsX9_totalWith_r3 ++ wsX9_totalWith_r4))) ++ wsX90 ++ wsX50)
def wsX9_codeAt_r1 : List Cond := [Cond.fieldLink RX9 25 "GuestParties$Ways" "total" "I", Cond.fieldLink RX9 11 "GuestParties$Ways" "codes" "[I", Cond.methodLink RX9 39 yX9_gather, Cond.instanceMethod yX9_gather, Cond.selects RX9 yX9_gather yX9_gather, Cond.initialized RX9, Cond.code yX9_gather cX9_gather 2 none, Cond.fieldLink RX9 21 "GuestParties$Ways" "areGathered" "Z", Cond.fieldLink RX9 15 "GuestParties$Ways" "totals" "[I", Cond.fieldLink RX9 18 "GuestParties$Ways" "sets" "[I", Cond.methodLink RX9 54 yX9_placeFrom, Cond.instanceMethod yX9_placeFrom, Cond.selects RX9 yX9_placeFrom yX9_placeFrom, Cond.code yX9_placeFrom cX9_placeFrom 6 none, Cond.fieldLink RX9 35 "GuestParties$Ways" "rules" "LGuestParties$Rules;", Cond.methodLink RX9 58 yX5_guests, Cond.instanceMethod yX5_guests, Cond.selects RX5 yX5_guests yX5_guests, Cond.initialized RX5, Cond.code yX5_guests cX5_guests 1 (some .int), Cond.fieldLink RX5 29 "GuestParties$Rules" "guests" "I", Cond.methodLink RX9 64 yX9_accept, Cond.instanceMethod yX9_accept, Cond.selects RX9 yX9_accept yX9_accept]
def wsX9_codeAt_r2 : List Cond := [Cond.code yX9_accept cX9_accept 4 none, Cond.fieldLink RX9 29 "GuestParties$Ways" "greatestWorth" "I", Cond.fieldLink RX9 32 "GuestParties$Ways" "worthiest" "I", Cond.methodLink RX9 106 yX9_areLawful, Cond.instanceMethod yX9_areLawful, Cond.selects RX9 yX9_areLawful yX9_areLawful, Cond.code yX9_areLawful cX9_areLawful 4 (some .boolean), Cond.methodLink RX9 88 yX5_lawOf, Cond.instanceMethod yX5_lawOf, Cond.selects RX5 yX5_lawOf yX5_lawOf, Cond.code yX5_lawOf cX5_lawOf 2 (some .int), Cond.fieldLink RX5 15 "GuestParties$Rules" "laws" "[I", Cond.methodLink RX9 91 yJ6_bitCount_0f7a4, Cond.static yJ6_bitCount_0f7a4, Cond.initialized RJ6, Cond.code yJ6_bitCount_0f7a4 cJ6_bitCount_0f7a4 1 (some .int), Cond.constant RJ6 265 (1431655765), Cond.constant RJ6 266 (858993459), Cond.constant RJ6 267 (252645135), Cond.methodLink RX9 68 yX9_mayStand, Cond.instanceMethod yX9_mayStand, Cond.selects RX9 yX9_mayStand yX9_mayStand, Cond.code yX9_mayStand cX9_mayStand 5 (some .boolean), Cond.methodLink RX9 96 yX5_mayCome]
def wsX9_codeAt_r3 : List Cond := [Cond.instanceMethod yX5_mayCome, Cond.selects RX5 yX5_mayCome yX5_mayCome, Cond.code yX5_mayCome cX5_mayCome 5 (some .boolean), Cond.fieldLink RX5 18 "GuestParties$Rules" "together" "[I", Cond.fieldLink RX5 21 "GuestParties$Rules" "apart" "[I", Cond.methodLink RX5 33 yX5_isOne, Cond.static yX5_isOne, Cond.code yX5_isOne cX5_isOne 1 (some .boolean), Cond.methodLink RX5 54 yX5_meetsItsHat, Cond.instanceMethod yX5_meetsItsHat, Cond.selects RX5 yX5_meetsItsHat yX5_meetsItsHat, Cond.code yX5_meetsItsHat cX5_meetsItsHat 4 (some .boolean), Cond.fieldLink RX5 9 "GuestParties$Rules" "hats" "[I", Cond.methodLink RX9 100 yX9_comesAcross, Cond.instanceMethod yX9_comesAcross, Cond.selects RX9 yX9_comesAcross yX9_comesAcross, Cond.code yX9_comesAcross cX9_comesAcross 4 (some .boolean), Cond.methodLink RX9 103 yX9_isSurrounded, Cond.instanceMethod yX9_isSurrounded, Cond.selects RX9 yX9_isSurrounded yX9_isSurrounded, Cond.code yX9_isSurrounded cX9_isSurrounded 6 (some .boolean), Cond.methodLink RX9 72 yX9_place, Cond.instanceMethod yX9_place, Cond.selects RX9 yX9_place yX9_place]
def wsX9_codeAt_r4 : List Cond := [Cond.code yX9_place cX9_place 9 none, Cond.methodLink RX9 83 Lib.Math.max.name, Cond.static Lib.Math.max.name, Cond.initialized "java/lang/Math", Cond.code Lib.Math.max.name Lib.Math.max.code 2 (some .int), Cond.methodLink RX9 76 yX5_worthWith, Cond.instanceMethod yX5_worthWith, Cond.selects RX5 yX5_worthWith yX5_worthWith, Cond.code yX5_worthWith cX5_worthWith 5 (some .int), Cond.fieldLink RX5 26 "GuestParties$Rules" "worths" "[[I", Cond.methodLink RX9 79 yX7_shiftOf, Cond.static yX7_shiftOf, Cond.initialized RX7, Cond.code yX7_shiftOf cX7_shiftOf 1 (some .int)]
def wsX9_codeAt : List Cond := .code yX9_codeAt cX9_codeAt 2 (some .int) :: ((wsX9_codeAt_r1 ++ (wsX9_codeAt_r2 ++ (wsX9_codeAt_r3 ++ wsX9_codeAt_r4))) ++ wsX90 ++ wsX50)
def wsX9_greatestWorth_r1 : List Cond := [Cond.fieldLink RX9 29 "GuestParties$Ways" "greatestWorth" "I", Cond.methodLink RX9 39 yX9_gather, Cond.instanceMethod yX9_gather, Cond.selects RX9 yX9_gather yX9_gather, Cond.initialized RX9, Cond.code yX9_gather cX9_gather 2 none, Cond.fieldLink RX9 21 "GuestParties$Ways" "areGathered" "Z", Cond.fieldLink RX9 25 "GuestParties$Ways" "total" "I", Cond.fieldLink RX9 15 "GuestParties$Ways" "totals" "[I", Cond.fieldLink RX9 18 "GuestParties$Ways" "sets" "[I", Cond.methodLink RX9 54 yX9_placeFrom, Cond.instanceMethod yX9_placeFrom, Cond.selects RX9 yX9_placeFrom yX9_placeFrom, Cond.code yX9_placeFrom cX9_placeFrom 6 none, Cond.fieldLink RX9 35 "GuestParties$Ways" "rules" "LGuestParties$Rules;", Cond.methodLink RX9 58 yX5_guests, Cond.instanceMethod yX5_guests, Cond.selects RX5 yX5_guests yX5_guests, Cond.initialized RX5, Cond.code yX5_guests cX5_guests 1 (some .int), Cond.fieldLink RX5 29 "GuestParties$Rules" "guests" "I", Cond.methodLink RX9 64 yX9_accept, Cond.instanceMethod yX9_accept, Cond.selects RX9 yX9_accept yX9_accept]
def wsX9_greatestWorth_r2 : List Cond := [Cond.code yX9_accept cX9_accept 4 none, Cond.fieldLink RX9 32 "GuestParties$Ways" "worthiest" "I", Cond.fieldLink RX9 11 "GuestParties$Ways" "codes" "[I", Cond.methodLink RX9 106 yX9_areLawful, Cond.instanceMethod yX9_areLawful, Cond.selects RX9 yX9_areLawful yX9_areLawful, Cond.code yX9_areLawful cX9_areLawful 4 (some .boolean), Cond.methodLink RX9 88 yX5_lawOf, Cond.instanceMethod yX5_lawOf, Cond.selects RX5 yX5_lawOf yX5_lawOf, Cond.code yX5_lawOf cX5_lawOf 2 (some .int), Cond.fieldLink RX5 15 "GuestParties$Rules" "laws" "[I", Cond.methodLink RX9 91 yJ6_bitCount_0f7a4, Cond.static yJ6_bitCount_0f7a4, Cond.initialized RJ6, Cond.code yJ6_bitCount_0f7a4 cJ6_bitCount_0f7a4 1 (some .int), Cond.constant RJ6 265 (1431655765), Cond.constant RJ6 266 (858993459), Cond.constant RJ6 267 (252645135), Cond.methodLink RX9 68 yX9_mayStand, Cond.instanceMethod yX9_mayStand, Cond.selects RX9 yX9_mayStand yX9_mayStand, Cond.code yX9_mayStand cX9_mayStand 5 (some .boolean), Cond.methodLink RX9 96 yX5_mayCome]
def wsX9_greatestWorth_r3 : List Cond := [Cond.instanceMethod yX5_mayCome, Cond.selects RX5 yX5_mayCome yX5_mayCome, Cond.code yX5_mayCome cX5_mayCome 5 (some .boolean), Cond.fieldLink RX5 18 "GuestParties$Rules" "together" "[I", Cond.fieldLink RX5 21 "GuestParties$Rules" "apart" "[I", Cond.methodLink RX5 33 yX5_isOne, Cond.static yX5_isOne, Cond.code yX5_isOne cX5_isOne 1 (some .boolean), Cond.methodLink RX5 54 yX5_meetsItsHat, Cond.instanceMethod yX5_meetsItsHat, Cond.selects RX5 yX5_meetsItsHat yX5_meetsItsHat, Cond.code yX5_meetsItsHat cX5_meetsItsHat 4 (some .boolean), Cond.fieldLink RX5 9 "GuestParties$Rules" "hats" "[I", Cond.methodLink RX9 100 yX9_comesAcross, Cond.instanceMethod yX9_comesAcross, Cond.selects RX9 yX9_comesAcross yX9_comesAcross, Cond.code yX9_comesAcross cX9_comesAcross 4 (some .boolean), Cond.methodLink RX9 103 yX9_isSurrounded, Cond.instanceMethod yX9_isSurrounded, Cond.selects RX9 yX9_isSurrounded yX9_isSurrounded, Cond.code yX9_isSurrounded cX9_isSurrounded 6 (some .boolean), Cond.methodLink RX9 72 yX9_place, Cond.instanceMethod yX9_place, Cond.selects RX9 yX9_place yX9_place]
def wsX9_greatestWorth_r4 : List Cond := [Cond.code yX9_place cX9_place 9 none, Cond.methodLink RX9 83 Lib.Math.max.name, Cond.static Lib.Math.max.name, Cond.initialized "java/lang/Math", Cond.code Lib.Math.max.name Lib.Math.max.code 2 (some .int), Cond.methodLink RX9 76 yX5_worthWith, Cond.instanceMethod yX5_worthWith, Cond.selects RX5 yX5_worthWith yX5_worthWith, Cond.code yX5_worthWith cX5_worthWith 5 (some .int), Cond.fieldLink RX5 26 "GuestParties$Rules" "worths" "[[I", Cond.methodLink RX9 79 yX7_shiftOf, Cond.static yX7_shiftOf, Cond.initialized RX7, Cond.code yX7_shiftOf cX7_shiftOf 1 (some .int)]
def wsX9_greatestWorth : List Cond := .code yX9_greatestWorth cX9_greatestWorth 1 (some .int) :: ((wsX9_greatestWorth_r1 ++ (wsX9_greatestWorth_r2 ++ (wsX9_greatestWorth_r3 ++ wsX9_greatestWorth_r4))) ++ wsX90 ++ wsX50)
def wsX9_worthiestCode_r1 : List Cond := [Cond.fieldLink RX9 32 "GuestParties$Ways" "worthiest" "I", Cond.methodLink RX9 39 yX9_gather, Cond.instanceMethod yX9_gather, Cond.selects RX9 yX9_gather yX9_gather, Cond.initialized RX9, Cond.code yX9_gather cX9_gather 2 none, Cond.fieldLink RX9 21 "GuestParties$Ways" "areGathered" "Z", Cond.fieldLink RX9 25 "GuestParties$Ways" "total" "I", Cond.fieldLink RX9 15 "GuestParties$Ways" "totals" "[I", Cond.fieldLink RX9 18 "GuestParties$Ways" "sets" "[I", Cond.methodLink RX9 54 yX9_placeFrom, Cond.instanceMethod yX9_placeFrom, Cond.selects RX9 yX9_placeFrom yX9_placeFrom, Cond.code yX9_placeFrom cX9_placeFrom 6 none, Cond.fieldLink RX9 35 "GuestParties$Ways" "rules" "LGuestParties$Rules;", Cond.methodLink RX9 58 yX5_guests, Cond.instanceMethod yX5_guests, Cond.selects RX5 yX5_guests yX5_guests, Cond.initialized RX5, Cond.code yX5_guests cX5_guests 1 (some .int), Cond.fieldLink RX5 29 "GuestParties$Rules" "guests" "I", Cond.methodLink RX9 64 yX9_accept, Cond.instanceMethod yX9_accept, Cond.selects RX9 yX9_accept yX9_accept]
def wsX9_worthiestCode_r2 : List Cond := [Cond.code yX9_accept cX9_accept 4 none, Cond.fieldLink RX9 29 "GuestParties$Ways" "greatestWorth" "I", Cond.fieldLink RX9 11 "GuestParties$Ways" "codes" "[I", Cond.methodLink RX9 106 yX9_areLawful, Cond.instanceMethod yX9_areLawful, Cond.selects RX9 yX9_areLawful yX9_areLawful, Cond.code yX9_areLawful cX9_areLawful 4 (some .boolean), Cond.methodLink RX9 88 yX5_lawOf, Cond.instanceMethod yX5_lawOf, Cond.selects RX5 yX5_lawOf yX5_lawOf, Cond.code yX5_lawOf cX5_lawOf 2 (some .int), Cond.fieldLink RX5 15 "GuestParties$Rules" "laws" "[I", Cond.methodLink RX9 91 yJ6_bitCount_0f7a4, Cond.static yJ6_bitCount_0f7a4, Cond.initialized RJ6, Cond.code yJ6_bitCount_0f7a4 cJ6_bitCount_0f7a4 1 (some .int), Cond.constant RJ6 265 (1431655765), Cond.constant RJ6 266 (858993459), Cond.constant RJ6 267 (252645135), Cond.methodLink RX9 68 yX9_mayStand, Cond.instanceMethod yX9_mayStand, Cond.selects RX9 yX9_mayStand yX9_mayStand, Cond.code yX9_mayStand cX9_mayStand 5 (some .boolean), Cond.methodLink RX9 96 yX5_mayCome]
def wsX9_worthiestCode_r3 : List Cond := [Cond.instanceMethod yX5_mayCome, Cond.selects RX5 yX5_mayCome yX5_mayCome, Cond.code yX5_mayCome cX5_mayCome 5 (some .boolean), Cond.fieldLink RX5 18 "GuestParties$Rules" "together" "[I", Cond.fieldLink RX5 21 "GuestParties$Rules" "apart" "[I", Cond.methodLink RX5 33 yX5_isOne, Cond.static yX5_isOne, Cond.code yX5_isOne cX5_isOne 1 (some .boolean), Cond.methodLink RX5 54 yX5_meetsItsHat, Cond.instanceMethod yX5_meetsItsHat, Cond.selects RX5 yX5_meetsItsHat yX5_meetsItsHat, Cond.code yX5_meetsItsHat cX5_meetsItsHat 4 (some .boolean), Cond.fieldLink RX5 9 "GuestParties$Rules" "hats" "[I", Cond.methodLink RX9 100 yX9_comesAcross, Cond.instanceMethod yX9_comesAcross, Cond.selects RX9 yX9_comesAcross yX9_comesAcross, Cond.code yX9_comesAcross cX9_comesAcross 4 (some .boolean), Cond.methodLink RX9 103 yX9_isSurrounded, Cond.instanceMethod yX9_isSurrounded, Cond.selects RX9 yX9_isSurrounded yX9_isSurrounded, Cond.code yX9_isSurrounded cX9_isSurrounded 6 (some .boolean), Cond.methodLink RX9 72 yX9_place, Cond.instanceMethod yX9_place, Cond.selects RX9 yX9_place yX9_place]
def wsX9_worthiestCode_r4 : List Cond := [Cond.code yX9_place cX9_place 9 none, Cond.methodLink RX9 83 Lib.Math.max.name, Cond.static Lib.Math.max.name, Cond.initialized "java/lang/Math", Cond.code Lib.Math.max.name Lib.Math.max.code 2 (some .int), Cond.methodLink RX9 76 yX5_worthWith, Cond.instanceMethod yX5_worthWith, Cond.selects RX5 yX5_worthWith yX5_worthWith, Cond.code yX5_worthWith cX5_worthWith 5 (some .int), Cond.fieldLink RX5 26 "GuestParties$Rules" "worths" "[[I", Cond.methodLink RX9 79 yX7_shiftOf, Cond.static yX7_shiftOf, Cond.initialized RX7, Cond.code yX7_shiftOf cX7_shiftOf 1 (some .int)]
def wsX9_worthiestCode : List Cond := .code yX9_worthiestCode cX9_worthiestCode 1 (some .int) :: ((wsX9_worthiestCode_r1 ++ (wsX9_worthiestCode_r2 ++ (wsX9_worthiestCode_r3 ++ wsX9_worthiestCode_r4))) ++ wsX90 ++ wsX50)
def wsX9_placeOf_r1 : List Cond := [Cond.fieldLink RX9 25 "GuestParties$Ways" "total" "I", Cond.fieldLink RX9 11 "GuestParties$Ways" "codes" "[I", Cond.methodLink RX9 39 yX9_gather, Cond.instanceMethod yX9_gather, Cond.selects RX9 yX9_gather yX9_gather, Cond.initialized RX9, Cond.code yX9_gather cX9_gather 2 none, Cond.fieldLink RX9 21 "GuestParties$Ways" "areGathered" "Z", Cond.fieldLink RX9 15 "GuestParties$Ways" "totals" "[I", Cond.fieldLink RX9 18 "GuestParties$Ways" "sets" "[I", Cond.methodLink RX9 54 yX9_placeFrom, Cond.instanceMethod yX9_placeFrom, Cond.selects RX9 yX9_placeFrom yX9_placeFrom, Cond.code yX9_placeFrom cX9_placeFrom 6 none, Cond.fieldLink RX9 35 "GuestParties$Ways" "rules" "LGuestParties$Rules;", Cond.methodLink RX9 58 yX5_guests, Cond.instanceMethod yX5_guests, Cond.selects RX5 yX5_guests yX5_guests, Cond.initialized RX5, Cond.code yX5_guests cX5_guests 1 (some .int), Cond.fieldLink RX5 29 "GuestParties$Rules" "guests" "I", Cond.methodLink RX9 64 yX9_accept, Cond.instanceMethod yX9_accept, Cond.selects RX9 yX9_accept yX9_accept]
def wsX9_placeOf_r2 : List Cond := [Cond.code yX9_accept cX9_accept 4 none, Cond.fieldLink RX9 29 "GuestParties$Ways" "greatestWorth" "I", Cond.fieldLink RX9 32 "GuestParties$Ways" "worthiest" "I", Cond.methodLink RX9 106 yX9_areLawful, Cond.instanceMethod yX9_areLawful, Cond.selects RX9 yX9_areLawful yX9_areLawful, Cond.code yX9_areLawful cX9_areLawful 4 (some .boolean), Cond.methodLink RX9 88 yX5_lawOf, Cond.instanceMethod yX5_lawOf, Cond.selects RX5 yX5_lawOf yX5_lawOf, Cond.code yX5_lawOf cX5_lawOf 2 (some .int), Cond.fieldLink RX5 15 "GuestParties$Rules" "laws" "[I", Cond.methodLink RX9 91 yJ6_bitCount_0f7a4, Cond.static yJ6_bitCount_0f7a4, Cond.initialized RJ6, Cond.code yJ6_bitCount_0f7a4 cJ6_bitCount_0f7a4 1 (some .int), Cond.constant RJ6 265 (1431655765), Cond.constant RJ6 266 (858993459), Cond.constant RJ6 267 (252645135), Cond.methodLink RX9 68 yX9_mayStand, Cond.instanceMethod yX9_mayStand, Cond.selects RX9 yX9_mayStand yX9_mayStand, Cond.code yX9_mayStand cX9_mayStand 5 (some .boolean), Cond.methodLink RX9 96 yX5_mayCome]
def wsX9_placeOf_r3 : List Cond := [Cond.instanceMethod yX5_mayCome, Cond.selects RX5 yX5_mayCome yX5_mayCome, Cond.code yX5_mayCome cX5_mayCome 5 (some .boolean), Cond.fieldLink RX5 18 "GuestParties$Rules" "together" "[I", Cond.fieldLink RX5 21 "GuestParties$Rules" "apart" "[I", Cond.methodLink RX5 33 yX5_isOne, Cond.static yX5_isOne, Cond.code yX5_isOne cX5_isOne 1 (some .boolean), Cond.methodLink RX5 54 yX5_meetsItsHat, Cond.instanceMethod yX5_meetsItsHat, Cond.selects RX5 yX5_meetsItsHat yX5_meetsItsHat, Cond.code yX5_meetsItsHat cX5_meetsItsHat 4 (some .boolean), Cond.fieldLink RX5 9 "GuestParties$Rules" "hats" "[I", Cond.methodLink RX9 100 yX9_comesAcross, Cond.instanceMethod yX9_comesAcross, Cond.selects RX9 yX9_comesAcross yX9_comesAcross, Cond.code yX9_comesAcross cX9_comesAcross 4 (some .boolean), Cond.methodLink RX9 103 yX9_isSurrounded, Cond.instanceMethod yX9_isSurrounded, Cond.selects RX9 yX9_isSurrounded yX9_isSurrounded, Cond.code yX9_isSurrounded cX9_isSurrounded 6 (some .boolean), Cond.methodLink RX9 72 yX9_place, Cond.instanceMethod yX9_place, Cond.selects RX9 yX9_place yX9_place]
def wsX9_placeOf_r4 : List Cond := [Cond.code yX9_place cX9_place 9 none, Cond.methodLink RX9 83 Lib.Math.max.name, Cond.static Lib.Math.max.name, Cond.initialized "java/lang/Math", Cond.code Lib.Math.max.name Lib.Math.max.code 2 (some .int), Cond.methodLink RX9 76 yX5_worthWith, Cond.instanceMethod yX5_worthWith, Cond.selects RX5 yX5_worthWith yX5_worthWith, Cond.code yX5_worthWith cX5_worthWith 5 (some .int), Cond.fieldLink RX5 26 "GuestParties$Rules" "worths" "[[I", Cond.methodLink RX9 79 yX7_shiftOf, Cond.static yX7_shiftOf, Cond.initialized RX7, Cond.code yX7_shiftOf cX7_shiftOf 1 (some .int)]
