/-! the law from its entry to its loop: both objects are made; one store for both -/
def gAd (ad1 ad2 adK adV : Nat → Nat) (t : Nat) : Nat → Nat := fun p => if p < 77 ∨ p = 87 then ad1 p else if p < 87 then ad2 p else if p = 90 then t else if p < 111 then adK (p - 100) else adV (p - 120)
def gRefOK (lo hi y : Nat) (S : gSt) (p : Nat) : Bool := if (gLay p).1 = 2 then decide (lo ≤ p + 1 ∧ p + 1 + (gLay p).2 ≤ hi) else if 3 ≤ (gLay p).1 then ((gFk ((gLay p).1 - 3)).mapIdx (fun k t => if t.1 = 0 then true else if t.1 = 1 then true else if t.1 = 2 then decide ((lo ≤ p + t.2 ∧ p + t.2 < hi) ∨ p + t.2 = y) else if t.1 = 3 then decide ((lo ≤ t.2 ∧ t.2 < hi) ∨ t.2 = y) else decide ((lo ≤ (S.1 p k).toNatClampNeg ∧ (S.1 p k).toNatClampNeg < hi) ∨ (S.1 p k).toNatClampNeg = y))).all id else true
theorem gEnt_ref {D D1 : va_G} {ad ad1 : Nat → Nat} {ps ps1 : List Nat} {cl : ClassId × ClassId × ClassId} {tys tys1 : List (ClassId × FieldType)} {A A1 : Nat → Prop} {S S1 : gSt} {p lo hi y : Nat} (h1 : S.1 p = S1.1 p) (h2 : S.2 p = S1.2 p) (hr : gRefOK lo hi y S1 p = true) (hd : ∀ q, ((lo ≤ q ∧ q < hi) ∨ q = y) → ad q = ad1 q) : gEnt (D, ad, ps, cl, tys, A) S p = gEnt (D1, ad1, ps1, cl, tys1, A1) S1 p := by
  unfold gEnt
  by_cases c0 : (gLay p).1 = 0
  · rw [if_pos c0, if_pos c0, h1]
  rw [if_neg c0, if_neg c0]
  by_cases c1 : (gLay p).1 = 1
  · rw [if_pos c1, if_pos c1, h1]
  rw [if_neg c1, if_neg c1]
  unfold gRefOK at hr
  by_cases c2 : (gLay p).1 = 2
  · rw [if_pos c2, if_pos c2]
    rw [if_pos c2] at hr
    have hb := of_decide_eq_true hr
    have e : (fun i => if i < (gLay p).2 then some (ad (p + 1 + i)) else none) = (fun i => if i < (gLay p).2 then some (ad1 (p + 1 + i)) else none) := by
      funext i
      by_cases hi : i < (gLay p).2
      · rw [if_pos hi, if_pos hi, hd (p + 1 + i) (Or.inl ⟨by omega, by omega⟩)]
      · rw [if_neg hi, if_neg hi]
    show Sum.inl (cl.2.2, (gLay p).2, Sum.inr (Sum.inr (Sum.inr (Sum.inr (fun i => if i < (gLay p).2 then some (ad (p + 1 + i)) else none))))) = _
    rw [e]
  rw [if_neg c2, if_neg c2]
  rw [if_neg c2, if_pos (by omega)] at hr
  have e : gFl ad S ((gLay p).1 - 3) p = gFl ad1 S1 ((gLay p).1 - 3) p := by
    unfold gFl
    apply List.ext_getElem?
    intro k
    rw [List.getElem?_mapIdx, List.getElem?_mapIdx]
    cases ht : (gFk ((gLay p).1 - 3))[k]? with
    | none => rfl
    | some t =>
      have hk := List.all_eq_true.mp hr _ (List.mem_of_getElem? (i := k) (by rw [List.getElem?_mapIdx, ht]; rfl))
      show some (gV ad S p k t) = some (gV ad1 S1 p k t)
      unfold gV
      by_cases t0 : t.1 = 0
      · rw [if_pos t0, if_pos t0, h1]
      rw [if_neg t0, if_neg t0]
      by_cases t1 : t.1 = 1
      · rw [if_pos t1, if_pos t1, h2]
      rw [if_neg t1, if_neg t1]
      simp only [if_neg t0, if_neg t1, id] at hk
      by_cases t2 : t.1 = 2
      · rw [if_pos t2] at hk
        have hb := of_decide_eq_true hk
        rw [if_pos t2, if_pos t2, hd _ hb]
      rw [if_neg t2] at hk
      rw [if_neg t2, if_neg t2]
      by_cases t3 : t.1 = 3
      · rw [if_pos t3] at hk
        have hb := of_decide_eq_true hk
        rw [if_pos t3, if_pos t3, hd _ hb]
      rw [if_neg t3] at hk
      have hb := of_decide_eq_true hk
      rw [if_neg t3, if_neg t3, h1, hd _ hb]
  show Sum.inr ((gLay p).1 - 3, gFl ad S ((gLay p).1 - 3) p) = _
  rw [e]
theorem gRef_X : ∀ p ∈ gPSX, gRefOK 0 77 87 gS1 p = true := by decide +kernel
theorem gRef_M : ∀ p ∈ gPSM, gRefOK 77 87 77 gM1 p = true := by decide +kernel
theorem gPSM_b : ∀ p ∈ gPSM, 77 ≤ p ∧ p < 87 := by decide
theorem gAppCong {α : Type} {a b c d : List α} (h : a = c) (h2 : b = d) : a ++ b = c ++ d := by rw [h, h2]
theorem gCells_two {D : va_G} {ad1 ad2 adK adV : Nat → Nat} {t : Nat} {cl : ClassId × ClassId × ClassId} {tys : List (ClassId × FieldType)} {A A1 A2 : Nat → Prop} : gCells (D, gAd ad1 ad2 adK adV t, gPSX ++ gPSM, cl, tys, A) gI = gCells (D, ad1, gPSX, cl, [], A1) gS1 ++ gCells (D, ad2, gPSM, cl, [], A2) gM1 := by
  unfold gCells
  show List.map _ (gPSX ++ gPSM) = List.map _ gPSX ++ List.map _ gPSM
  rw [List.map_append]
  refine gAppCong ?_ ?_
  · apply List.map_congr_left
    intro p hp
    have hb := gPSX_b hp
    have ha : gAd ad1 ad2 adK adV t p = ad1 p := if_pos hb
    show (gAd ad1 ad2 adK adV t p, _) = (ad1 p, _)
    have hE : gEnt (D, gAd ad1 ad2 adK adV t, gPSX ++ gPSM, cl, tys, A) gI p = gEnt (D, ad1, gPSX, cl, [], A1) gS1 p := gEnt_ref (lo := 0) (hi := 77) (y := 87) (show (fun k => if p < 77 ∨ p = 87 then gS1.1 p k else gM1.1 p k) = gS1.1 p from funext fun k => if_pos hb) (show (if p < 77 ∨ p = 87 then gS1.2 p else gM1.2 p) = gS1.2 p from if_pos hb) (gRef_X p hp) (fun q hq => if_pos (hq.elim (fun h => Or.inl h.2) Or.inr))
    rw [ha, hE]
  · apply List.map_congr_left
    intro p hp
    have hb := gPSM_b p hp
    have ha : gAd ad1 ad2 adK adV t p = ad2 p := by unfold gAd; rw [if_neg (by omega), if_pos hb.2]
    show (gAd ad1 ad2 adK adV t p, _) = (ad2 p, _)
    have hE : gEnt (D, gAd ad1 ad2 adK adV t, gPSX ++ gPSM, cl, tys, A) gI p = gEnt (D, ad2, gPSM, cl, [], A2) gM1 p := gEnt_ref (lo := 77) (hi := 87) (y := 77) (show (fun k => if p < 77 ∨ p = 87 then gS1.1 p k else gM1.1 p k) = gM1.1 p from funext fun k => if_neg (by omega)) (show (if p < 77 ∨ p = 87 then gS1.2 p else gM1.2 p) = gM1.2 p from if_neg (by omega)) (gRef_M p hp) (fun q h1 => by unfold gAd; rw [if_neg (by omega), if_pos (by omega)])
    rw [ha, hE]
theorem gRangeMap {α : Type} (l l2 : List α) : (List.range l.length).map (fun i => (l ++ l2)[i]?) = l.map some := by
  apply List.ext_getElem?
  intro i
  rw [List.getElem?_map, List.getElem?_map]
  by_cases hi : i < l.length
  · rw [gRangeAt hi]
    show some ((l ++ l2)[i]?) = _
    rw [List.getElem?_append_left hi, List.getElem?_eq_getElem hi]
    rfl
  · rw [List.getElem?_eq_none (by rw [List.length_range]; omega), List.getElem?_eq_none (by omega)]
    rfl
theorem gLen_X {D : va_G} {ad : Nat → Nat} {cl : ClassId × ClassId × ClassId} {tys : List (ClassId × FieldType)} {A : Nat → Prop} {S : gSt} : (gCells (D, ad, gPSX, cl, tys, A) S).length = 78 := by
  unfold gCells
  rw [List.length_map]
  rfl
def gAi (p : Nat) : Nat := if p = 87 then 77 else if p < 77 then p else p + 1
theorem gPSA_at : ∀ p ∈ gPSX ++ gPSM, (gPSX ++ gPSM)[gAi p]? = some p := by decide +kernel
theorem gAllOK {D : va_G} {ad1 ad2 adK adV : Nat → Nat} {t : Nat} {cI cZ cQ : ClassId} {A : Nat → Prop} {S : gSt} (hD : va_D A (gCells (D, gAd ad1 ad2 adK adV t, gPSX ++ gPSM, (cI, cZ, cQ), [(cI, .int), (cZ, .boolean), (cQ, .array .int)], A) S)) : gOK (D, gAd ad1 ad2 adK adV t, gPSX ++ gPSM, (cI, cZ, cQ), [(cI, .int), (cZ, .boolean), (cQ, .array .int)], A) := by
  have hat : ∀ p, p ∈ gPSX ++ gPSM → (gCells (D, gAd ad1 ad2 adK adV t, gPSX ++ gPSM, (cI, cZ, cQ), [(cI, .int), (cZ, .boolean), (cQ, .array .int)], A) S)[gAi p]? = some (gAd ad1 ad2 adK adV t p, gEnt (D, gAd ad1 ad2 adK adV t, gPSX ++ gPSM, (cI, cZ, cQ), [(cI, .int), (cZ, .boolean), (cQ, .array .int)], A) S p) := fun p hp => by
    unfold gCells
    rw [List.getElem?_map, show (gps (D, gAd ad1 ad2 adK adV t, gPSX ++ gPSM, (cI, cZ, cQ), [(cI, FieldType.int), (cZ, FieldType.boolean), (cQ, FieldType.array FieldType.int)], A))[gAi p]? = some p from gPSA_at p hp]
    rfl
  refine ⟨show va_nd (gPSX ++ gPSM) = true by decide +kernel, fun p q hp hq e => ?_, rfl, rfl, fun p hp => hD.2 (gAi p) _ (hat p hp)⟩
  have h := hD.1 (gAi p) (gAi q) _ _ (hat p hp) (hat q hq) e
  have h2 := gPSA_at p hp
  rw [h, gPSA_at q hq] at h2
  exact (Option.some.inj h2).symm
set_option maxHeartbeats 8000000 in
set_option maxRecDepth 100000 in
/-- THE LAW, from its entry, once its pure loop is known to answer -/
theorem whole_start_open {p : Program} {e : Env} {s : State} {m : MethodId} {below : List Frame} {meth : Method} {c : Code} (l : Launch) {b L : Nat} {xs : Nat → Int32} (hpure : fL_law_L18 L xs gFU 0 gI = some ()) (C0 : lw_At p s m meth c b L xs) : W p l e room_1 s m #[Value.ref b] below meth c s.heap [] 0 0 (lw_Z below #[Value.ref b] s) (entryFrame m ([Value.ref b] : List Value).toArray 4) := by
  obtain ⟨hx, hb, hr, hml, hown, hts0, hX, hbl, hlocks, hgv⟩ := id C0
  have hts : ∀ w ∈ wsL_law, w.before #[Value.ref b] s = true := fun w h => hts0 w (wsL_law_in w h)
  have hown : s.vm.findClass RL = some m.cls := hown
  obtain ⟨D, cI, cZ, cQ, hK⟩ := law_classes hts0
  have hN := law_nest hts0
  obtain ⟨A, hAe⟩ : ∃ A : Nat → Prop, A = fun q => s.heap.size ≤ q := ⟨_, rfl⟩
  have hA : ∀ q : Nat, s.heap.size ≤ q → A q := fun q h => by rw [hAe]; exact h
  have hA2 : ∀ q : Nat, A q → s.heap.size ≤ q := fun q h => by rw [hAe] at h; exact h
  obtain ⟨tf, adK, adV, hst⟩ := law_static hts0 hgv A (fun a h z => absurd (hA2 a z) (Nat.not_le.mpr h))
  have hbA : ¬ A b := fun z => absurd (hA2 b z) (Nat.not_le.mpr hbl)
  have hS : va_S A s.heap s.heap [] := va_S.rf
  have hP : va_P D vwCl [] s.heap := fun k q h => by simp at h
  have hD : va_D A [] := ⟨fun i j p q h => by simp at h, fun k q h => by simp at h⟩
  have hl := lv_entry ([.ref b]) (n := 4) (Nat.le_of_ble_eq_true rfl)
  rw [lg_entry_eq]
  generalize (lg_sl ([.ref b]) ++ List.replicate (4 - (lg_sl ([.ref b])).length) Slot.unset).toArray = ls at hl ⊢
  have hl : lv_has ls 4 [(0, .ref b)] := hl
  refine va_new (ci := 10) (fs := [.null, .null, .null, .null, .null, .null, .null, .null, .null, .null, .null, .null, .long 0]) (C := RX10) (T := TX10) (N := 13) hx hb hts inlX10 tyX10 tyX10_ok hown (hts (.classLink RL 7 RX10) (List.mem_of_getElem? (i := 0) rfl)) (hts (.instantiable RX10 13) (List.mem_of_getElem? (i := 1) rfl)) (hts (.initialized RX10) (List.mem_of_getElem? (i := 2) rfl)) hK hP hD hS hA rfl (fun j hj => by rcases (show j = 0 ∨ j = 1 ∨ j = 2 ∨ j = 3 ∨ j = 4 ∨ j = 5 ∨ j = 6 ∨ j = 7 ∨ j = 8 ∨ j = 9 ∨ j = 10 ∨ j = 11 ∨ j = 12 by omega) with rfl | rfl | rfl | rfl | rfl | rfl | rfl | rfl | rfl | rfl | rfl | rfl | rfl <;> rfl) (Nat.le_of_ble_eq_true rfl) (Nat.le_of_ble_eq_true rfl) dL_law_0 (fun q0 H hP hD hS => ?_)
  have hP : va_P D vwCl [(q0, .inr (10, [.null, .null, .null, .null, .null, .null, .null, .null, .null, .null, .null, .null, .long 0]))] H := hP
  have hD : va_D A [(q0, .inr (10, [.null, .null, .null, .null, .null, .null, .null, .null, .null, .null, .null, .null, .long 0]))] := hD
  refine W.widen (k := 1) (n := 13) (by omega) (by omega) ?_
  refine lv_dup hx hb dL_law_3 rfl ?_
  have hFc := va_free (wc := [(q0, .inr (10, [.null, .null, .null, .null, .null, .null, .null, .null, .null, .null, .null, .null, .long 0]))]) hD hS hA [0] rfl
  refine va_callv (va_runI (As := []) (rest := [.ref q0]) ⟨hx, hb, hml, hown, hts⟩ (kX10_init l D cI cZ cQ q0 H.size) (cwI 0 hts gL_law_X10_init rfl rfl rfl (hts (.initialized RX10) (List.mem_of_getElem? (i := 2) rfl)) (hts (.methodLink RL 9 yX10_init) (List.mem_of_getElem? (i := 7) rfl)) (hts (.instanceMethod yX10_init) (List.mem_of_getElem? (i := 8) rfl)) rfl (by decide +kernel) ⟨Nat.le_of_ble_eq_true rfl, Nat.le_of_ble_eq_true rfl⟩) ⟨fun a U g mk q => by obtain ⟨q0, q1, qP, qK, qD, qO⟩ := q; exact ⟨q0, q1, qP, va_K.moved (u := U) (U := U.calling g mk a) (Vm.Alike.refl U.vm) qK, qD, gNx.same rfl qO⟩, fun U hU hW => ⟨rfl, by rw [hU], by rw [hU]; exact hP, va_K.moved hW.alike hK, hD.weaken (fun _ _ _ _ => trivial), hN.warm hW⟩⟩ rfl rfl hl.1 rfl (lv_room (Nat.le_of_ble_eq_true rfl)) dL_law_4 ⟨Nat.le_of_ble_eq_true rfl, Nat.le_of_ble_eq_true rfl⟩) hS (fun q _ h => hFc q h) hFc (fun u t H1 locs ht hvm hw hB hz1 hk1 hS => ?_)
  obtain ⟨ad1, h0e, hP1, hK1, hD1⟩ := hB
  rw [ht] at hP1
  obtain ⟨hP, hD⟩ := va_join (wr := []) hP hD [0] [] rfl rfl (by decide) (by decide) hk1 hFc hP1 hD1
  clear hP1 hD1 hK1 hFc hk1 hz1 ht hvm
  generalize H1 = H at hP hS ⊢
  obtain ⟨w1, hw1⟩ : ∃ w : va_W, w = gCells (D, ad1, gPSX, (cI, cZ, cQ), [], fun _ => True) gS1 := ⟨_, rfl⟩
  have hlen : w1.length = 78 := by rw [hw1]; exact gLen_X
  have hP : va_P D vwCl w1 H := by rw [hw1]; exact hP
  have hD : va_D A w1 := by rw [hw1]; exact hD
  refine W.widen (k := 78) (n := 4993) (by omega) (by omega) ?_
  refine lv_astore_n (lv' := [(1, .ref q0), (0, .ref b)]) hx hb dL_law_7 rfl hl (by decide) rfl (fun ls hl => ?_)
  refine va_new (ci := 11) (fs := [.int 0, .long 0, .null, .int 0, .int 0, .int 0, .int 0, .int 0, .int 0, .null, .null, .null, .null, .null, .null, .null, .null]) (C := RX11) (T := TX11) (N := 17) hx hb hts inlX11 tyX11 tyX11_ok hown (hts (.classLink RL 10 RX11) (List.mem_of_getElem? (i := 3) rfl)) (hts (.instantiable RX11 17) (List.mem_of_getElem? (i := 4) rfl)) (hts (.initialized RX11) (List.mem_of_getElem? (i := 5) rfl)) hK hP hD hS hA rfl (fun j hj => by rcases (show j = 0 ∨ j = 1 ∨ j = 2 ∨ j = 3 ∨ j = 4 ∨ j = 5 ∨ j = 6 ∨ j = 7 ∨ j = 8 ∨ j = 9 ∨ j = 10 ∨ j = 11 ∨ j = 12 ∨ j = 13 ∨ j = 14 ∨ j = 15 ∨ j = 16 by omega) with rfl | rfl | rfl | rfl | rfl | rfl | rfl | rfl | rfl | rfl | rfl | rfl | rfl | rfl | rfl | rfl | rfl <;> rfl) (Nat.le_of_ble_eq_true rfl) (Nat.le_of_ble_eq_true rfl) dL_law_8 (fun q1 H hP hD hS => ?_)
  refine W.widen (k := 79) (n := 5010) (by omega) (by omega) ?_
  refine lv_dup hx hb dL_law_11 rfl ?_
  obtain ⟨e1, he1⟩ : ∃ e1 : va_E, e1 = .inr (11, [.int 0, .long 0, .null, .int 0, .int 0, .int 0, .int 0, .int 0, .int 0, .null, .null, .null, .null, .null, .null, .null, .null]) := ⟨_, rfl⟩
  rw [← he1] at hP hD
  have h77 : (w1 ++ [(q1, e1)])[78]? = some (q1, e1) := by
    rw [List.getElem?_append_right (by omega), hlen]
    rfl
  have hPc : va_P D vwCl [(q1, e1)] H := hP.sub [78] (by simp only [List.filterMap_cons, h77, List.filterMap_nil])
  have hDc : va_D A [(q1, e1)] := hD.sub [78] (by decide) (by simp only [List.map_cons, h77, List.map_nil])
  have hFc := va_free (wc := [(q1, e1)]) hD hS hA [78] (by simp only [List.map_cons, h77, List.map_nil])
  have hkX := kX11_init l D cI cZ cQ q1 H.size
  rw [← he1] at hkX
  refine va_callv (va_runI (As := []) (rest := [.ref q1]) ⟨hx, hb, hml, hown, hts⟩ hkX (cwI 0 hts gL_law_X11_init rfl rfl rfl (hts (.initialized RX11) (List.mem_of_getElem? (i := 5) rfl)) (hts (.methodLink RL 12 yX11_init) (List.mem_of_getElem? (i := 159) rfl)) (hts (.instanceMethod yX11_init) (List.mem_of_getElem? (i := 160) rfl)) rfl (by decide +kernel) ⟨Nat.le_of_ble_eq_true rfl, Nat.le_of_ble_eq_true rfl⟩) ⟨fun a U g mk q => by obtain ⟨q0, q1, qP, qK, qD, qO⟩ := q; exact ⟨q0, q1, qP, va_K.moved (u := U) (U := U.calling g mk a) (Vm.Alike.refl U.vm) qK, qD, gNx.same rfl qO⟩, fun U hU hW => ⟨rfl, by rw [hU], by rw [hU]; exact hPc, va_K.moved hW.alike hK, hDc.weaken (fun _ _ _ _ => trivial), hN.warm hW⟩⟩ rfl rfl hl.1 rfl (lv_room (Nat.le_of_ble_eq_true rfl)) dL_law_12 ⟨Nat.le_of_ble_eq_true rfl, Nat.le_of_ble_eq_true rfl⟩) hS (fun q _ h => hFc q h) hFc (fun u t1 H1 locs ht hvm hw hB hz1 hk1 hS => ?_)
  obtain ⟨ad2, h1e, hP1, hK1, hD1⟩ := hB
  rw [ht] at hP1
  have hRm := gRangeMap w1 [(q1, e1)]
  rw [hlen] at hRm
  obtain ⟨hP, hD⟩ := va_join (wr := w1) hP hD [78] (List.range 78) (by simp only [List.map_cons, h77, List.map_nil]) hRm (by decide +kernel) (fun i hi h => by rw [List.mem_singleton.mp h] at hi; exact absurd (List.mem_range.mp hi) (by decide)) hk1 hFc hP1 hD1
  clear hP1 hD1 hK1 hFc hk1 hz1 ht hvm hPc hDc hkX
  generalize H1 = H at hP hS ⊢
  rw [hw1, ← gCells_two (adK := adK) (adV := adV) (t := tf) (tys := [(cI, .int), (cZ, .boolean), (cQ, .array .int)]) (A := A)] at hP hD
  refine W.widen (k := 88) (n := 5900) (by omega) (by omega) ?_
  refine lv_astore_n (lv' := [(2, .ref q1), (1, .ref q0), (0, .ref b)]) hx hb dL_law_15 rfl hl (by decide) rfl (fun ls hl => ?_)
  refine lv_iconst (v := 0) hx hb dL_law_16 (by decide) ?_
  refine lv_istore_n (lv' := [(3, .int 0), (2, .ref q1), (1, .ref q0), (0, .ref b)]) hx hb dL_law_17 rfl hl (by decide) rfl (fun ls hl => ?_)
  obtain ⟨G, hGe⟩ : ∃ G : gGG, G = (D, gAd ad1 ad2 adK adV tf, gPSX ++ gPSM, (cI, cZ, cQ), [(cI, .int), (cZ, .boolean), (cQ, .array .int)], A) := ⟨_, rfl⟩
  have hOK := gAllOK hD
  rw [← hGe] at hP hOK
  have ga : gA G = A := by rw [hGe]
  have gd : gad G = gAd ad1 ad2 adK adV tf := by rw [hGe]
  have hPX : gPX G := fun p hp => by rw [hGe]; exact List.mem_append_left _ (gPSX_m hp)
  have hPM : gPM G := fun p hp => by
    rw [hGe]
    apply List.mem_append_right
    have : p = 77 ∨ p = 78 ∨ p = 79 ∨ p = 80 ∨ p = 81 ∨ p = 82 ∨ p = 83 ∨ p = 84 ∨ p = 85 ∨ p = 86 := by omega
    rcases this with rfl | rfl | rfl | rfl | rfl | rfl | rfl | rfl | rfl | rfl <;> decide
  have hOQ : gOQ G := by rw [hGe]; rfl
  have e0 : gad G 0 = q0 := by rw [gd]; exact h0e
  have e77 : gad G 77 = q1 := by rw [gd]; exact h1e
  have eK : ∀ i : Nat, i < 11 → gad G (100 + i) = adK i := fun i hi => by
    rw [gd]; unfold gAd
    rw [if_neg (by omega), if_neg (by omega), if_neg (by omega), if_pos (by omega), Nat.add_sub_cancel_left]
  have eV : ∀ i : Nat, i < 11 → gad G (120 + i) = adV i := fun i hi => by
    rw [gd]; unfold gAd
    rw [if_neg (by omega), if_neg (by omega), if_neg (by omega), if_neg (by omega), Nat.add_sub_cancel_left]
  have e90 : gad G 90 = tf := by rw [gd]; rfl
  have hFs : gFLaw G b L xs s s.heap := by
    refine ⟨⟨?_, ⟨fun i hi => ?_, fun i j hi hj h => ?_⟩, fun i hi => ?_, ?_, ?_⟩, hX, hbl, ?_⟩
    · unfold gVF; rw [e90, ga]; exact hst.1
    · rw [ga]
      show va_O "java/lang/String" (gad G (100 + i)) A s s.heap ∧ va_OF "java/lang/String" "coder" "B" (.int 0) (gad G (100 + i)) A s s.heap ∧ va_OF "java/lang/String" "value" "[B" (.ref (gad G (120 + i))) (gad G (100 + i)) A s s.heap ∧ va_T .byte (gad G (120 + i)) (gSlen.getD i 0) (fun j => .int ((gSbyt.getD i []).getD j 0)) A s s.heap
      rw [eK i hi, eV i hi]; exact hst.2.1.1 i hi
    · have h : gad G (100 + i) = gad G (100 + j) := h
      rw [eK i hi, eK j hj] at h
      exact hst.2.1.2 i j hi hj h
    · rw [eK i hi]; exact hst.2.2.1 i hi
    · rw [ga]; exact hst.2.2.2.1
    · rw [ga]; exact hst.2.2.2.2
    · rw [ga]; exact hbA
  have KL := tL_law_L18 hOK (gFLaw_sb G b L xs) hPX hOQ hPM (gFLaw_V G b L xs) (gFLaw_S G b L xs) (cl := 88) (sl := 5900) ⟨by decide, by decide⟩ gFU 0 gI
  have hKs : va_K (gD G) vwCl (gty G) s := by rw [hGe]; exact hK
  have hPs : va_P (gD G) vwCl (gCells G gI) H := by rw [hGe] at hP ⊢; exact hP
  have hSs : va_S (gA G) s.heap H locs := by rw [ga]; exact hS
  have K := KL p l e s m #[Value.ref b] below meth c H locs ls () hpure ⟨hx, hb, hml, hown, hts⟩ hr hlocks hKs hFs hPs hSs (by rw [e0, e77]; exact lv_sub hl [3, 2, 1, 0] rfl)
  intro T hT X
  obtain ⟨t9, a9, b9⟩ := K T hT X
  exact ⟨t9, a9, b9 rfl (fun q hq => hA2 q (by rw [← ga]; exact hq))⟩
