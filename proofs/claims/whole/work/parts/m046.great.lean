/-! the two great constructors -/
theorem gRangeAt {n p : Nat} (h : p < n) : (List.range n)[p]? = some p := by
  rw [List.getElem?_range h]
theorem gPSX_m {p : Nat} (h : p < 77 ∨ p = 87) : p ∈ gPSX := List.mem_append.mpr (h.elim (fun h => Or.inl (List.mem_range.mpr h)) (fun h => Or.inr (List.mem_singleton.mpr h)))
theorem gPSX_b {p : Nat} (h : p ∈ gPSX) : p < 77 ∨ p = 87 := (List.mem_append.mp h).elim (fun h => Or.inl (List.mem_range.mp h)) (fun h => Or.inr (List.mem_singleton.mp h))
def gXi (p : Nat) : Nat := if p = 87 then 77 else p
theorem gPSX_at : ∀ p ∈ gPSX, gPSX[gXi p]? = some p := by decide +kernel
theorem gXOK {D : va_G} {ad : Nat → Nat} {cI cZ cQ : ClassId} {A : Nat → Prop} {S : gSt} (hD : va_D A (gCells (D, ad, gPSX, (cI, cZ, cQ), [(cI, .int), (cZ, .boolean), (cQ, .array .int)], A) S)) : gOK (D, ad, gPSX, (cI, cZ, cQ), [(cI, .int), (cZ, .boolean), (cQ, .array .int)], A) := by
  have hat : ∀ p, p ∈ gPSX → (gCells (D, ad, gPSX, (cI, cZ, cQ), [(cI, .int), (cZ, .boolean), (cQ, .array .int)], A) S)[gXi p]? = some (ad p, gEnt (D, ad, gPSX, (cI, cZ, cQ), [(cI, .int), (cZ, .boolean), (cQ, .array .int)], A) S p) := fun p hp => by
    unfold gCells
    rw [List.getElem?_map, show (gps (D, ad, gPSX, (cI, cZ, cQ), [(cI, FieldType.int), (cZ, FieldType.boolean), (cQ, FieldType.array FieldType.int)], A))[gXi p]? = some p from gPSX_at p hp]
    rfl
  refine ⟨show va_nd gPSX = true by decide +kernel, fun p q hp hq e => ?_, rfl, rfl, fun p hp => hD.2 (gXi p) _ (hat p hp)⟩
  have h := hD.1 (gXi p) (gXi q) _ _ (hat p hp) (hat q hq) e
  have h2 := gPSX_at p hp
  rw [h, gPSX_at q hq] at h2
  exact (Option.some.inj h2).symm
theorem gMOK {D : va_G} {ad : Nat → Nat} {cI cZ cQ : ClassId} {A : Nat → Prop} {S : gSt} (hD : va_D A (gCells (D, ad, gPSM, (cI, cZ, cQ), [(cI, .int), (cZ, .boolean), (cQ, .array .int)], A) S)) : gOK (D, ad, gPSM, (cI, cZ, cQ), [(cI, .int), (cZ, .boolean), (cQ, .array .int)], A) := by
  have hps : ∀ p, p ∈ gPSM → 77 ≤ p ∧ p < 87 ∧ gPSM[p - 77]? = some p := by decide
  have hat : ∀ p, p ∈ gPSM → (gCells (D, ad, gPSM, (cI, cZ, cQ), [(cI, .int), (cZ, .boolean), (cQ, .array .int)], A) S)[p - 77]? = some (ad p, gEnt (D, ad, gPSM, (cI, cZ, cQ), [(cI, .int), (cZ, .boolean), (cQ, .array .int)], A) S p) := fun p hp => by
    unfold gCells
    rw [List.getElem?_map, show (gps (D, ad, gPSM, (cI, cZ, cQ), [(cI, FieldType.int), (cZ, FieldType.boolean), (cQ, FieldType.array FieldType.int)], A))[p - 77]? = some p from (hps p hp).2.2]
    rfl
  refine ⟨show va_nd gPSM = true by decide +kernel, fun p q hp hq e => ?_, rfl, rfl, fun p hp => hD.2 (p - 77) _ (hat p hp)⟩
  have h := hD.1 (p - 77) (q - 77) _ _ (hat p hp) (hat q hq) e
  have := hps p hp
  have := hps q hq
  omega
theorem gSb_True (G : gGG) : gSb G (fun _ _ => True) := ⟨fun _ _ _ _ _ => trivial, fun _ _ _ _ _ => trivial, fun _ _ _ _ _ => trivial⟩
theorem hiX10_init_0 : ∀ w ∈ u_ws RX0 TX0 2, w ∈ wsX10_init := fun _ hw => List.mem_cons_of_mem _ (List.mem_append_right _ (hw))
theorem hiX10_init_1 : ∀ w ∈ u_ws RX1 TX1 4, w ∈ wsX10_init := fun _ hw => List.mem_cons_of_mem _ (List.mem_append_left _ (List.mem_append_left _ (List.mem_append_right _ (hw))))
theorem hiX10_init_2 : ∀ w ∈ u_ws RX2 TX2 1, w ∈ wsX10_init := fun _ hw => List.mem_cons_of_mem _ (List.mem_append_left _ (List.mem_append_left _ (List.mem_append_left _ (List.mem_append_right _ (hw)))))
theorem hiX10_init_3 : ∀ w ∈ u_ws RX3 TX3 2, w ∈ wsX10_init := fun _ hw => List.mem_cons_of_mem _ (List.mem_append_left _ (List.mem_append_right _ (hw)))
theorem hiX10_init_4 : ∀ w ∈ u_ws RX4 TX4 7, w ∈ wsX10_init := fun _ hw => List.mem_cons_of_mem _ (List.mem_append_left _ (List.mem_append_left _ (List.mem_append_left _ (List.mem_append_left _ (List.mem_append_left _ (List.mem_append_left _ (List.mem_append_left _ (List.mem_append_right _ (hw)))))))))
theorem hiX10_init_5 : ∀ w ∈ u_ws RX5 TX5 6, w ∈ wsX10_init := fun _ hw => List.mem_cons_of_mem _ (List.mem_append_left _ (List.mem_append_left _ (List.mem_append_left _ (List.mem_append_left _ (List.mem_append_left _ (List.mem_append_left _ (List.mem_append_left _ (List.mem_append_left _ (List.mem_append_left _ (List.mem_append_left _ (List.mem_append_right _ (hw))))))))))))
theorem hiX10_init_6 : ∀ w ∈ u_ws RX6 TX6 4, w ∈ wsX10_init := fun _ hw => List.mem_cons_of_mem _ (List.mem_append_left _ (List.mem_append_left _ (List.mem_append_left _ (List.mem_append_left _ (List.mem_append_right _ (hw))))))
theorem hiX10_init_7 : ∀ w ∈ u_ws RX7 TX7 5, w ∈ wsX10_init := fun _ hw => List.mem_cons_of_mem _ (List.mem_append_left _ (List.mem_append_left _ (List.mem_append_left _ (List.mem_append_left _ (List.mem_append_left _ (List.mem_append_right _ (hw)))))))
theorem hiX10_init_8 : ∀ w ∈ u_ws RX8 TX8 2, w ∈ wsX10_init := fun _ hw => List.mem_cons_of_mem _ (List.mem_append_left _ (List.mem_append_left _ (List.mem_append_left _ (List.mem_append_left _ (List.mem_append_left _ (List.mem_append_left _ (List.mem_append_left _ (List.mem_append_left _ (List.mem_append_right _ (hw))))))))))
theorem hiX10_init_9 : ∀ w ∈ u_ws RX9 TX9 8, w ∈ wsX10_init := fun _ hw => List.mem_cons_of_mem _ (List.mem_append_left _ (List.mem_append_left _ (List.mem_append_left _ (List.mem_append_left _ (List.mem_append_left _ (List.mem_append_left _ (List.mem_append_right _ (hw))))))))
theorem hiX10_init_10 : ∀ w ∈ u_ws RX10 TX10 13, w ∈ wsX10_init := fun _ hw => List.mem_cons_of_mem _ (List.mem_append_left _ (List.mem_append_left _ (List.mem_append_left _ (List.mem_append_left _ (List.mem_append_left _ (List.mem_append_left _ (List.mem_append_left _ (List.mem_append_left _ (List.mem_append_left _ (List.mem_append_right _ (hw)))))))))))
theorem hiX11_init_11 : ∀ w ∈ u_ws RX11 TX11 17, w ∈ wsX11_init := fun _ hw => List.mem_cons_of_mem _ (List.mem_append_right _ (hw))
set_option maxRecDepth 100000 in
set_option maxHeartbeats 4000000 in
theorem gX10tail {D : va_G} {ad : Nat → Nat} {cI cZ cQ : ClassId} {A : Nat → Prop} {Q : Array Value → List Frame → State → Unit → State → Prop} (hG : gOK (D, ad, gPSX, (cI, cZ, cQ), [(cI, .int), (cZ, .boolean), (cQ, .array .int)], A)) (hEnd : ∀ (pc : Nat) (env : List (Nat × Value)), decode cX10_init pc = .ok (.return_, 1) → Gof (D, ad, gPSX, (cI, cZ, cQ), [(cI, .int), (cZ, .boolean), (cQ, .array .int)], A) (fun _ _ => True) RX10 cX10_init 1 wsX10_init none { frames := 10, cells := 77, slots := 4980, locals := 400 } 77 4980 Q pc env [] gS1 (some ())) : Gof (D, ad, gPSX, (cI, cZ, cQ), [(cI, .int), (cZ, .boolean), (cQ, .array .int)], A) (fun _ _ => True) RX10 cX10_init 1 wsX10_init none { frames := 10, cells := 77, slots := 4980, locals := 400 } 77 4980 Q 153 [(0, .ref (ad 0))] [] gS0 (some ()) := by
  obtain ⟨G, hGe⟩ : ∃ G : gGG, G = (D, ad, gPSX, (cI, cZ, cQ), [(cI, .int), (cZ, .boolean), (cQ, .array .int)], A) := ⟨_, rfl⟩
  have hX : gPX G := fun p hp => by rw [hGe]; exact gPSX_m hp
  have hQ : gOQ G := by rw [hGe]; rfl
  have ha : ad = gad G := by rw [hGe]
  rw [← hGe] at hG hEnd ⊢
  rw [ha]
  have hF := gSb_True G
  have hgu : fX5_guests (gN (gR gS0 0 0)) gS0 = some 4 := by decide +kernel
  have e : (some () : Option Unit) = (fX5_guests (gN (gR gS0 0 0)) gS0).bind (fun v => (fX7_scatter 36 v gS0).bind (fun _ => some ())) := by simp only [hgu, Option.bind_some, gS1_ok]
  rw [e]
  refine g_aload_n 0 dX10_init_153 rfl ?_
  refine g_getK (ci := 10) (k0 := 5) (C0 := RX10) (T := TX10) (N := 13) (hX 0 (by decide)) rfl rfl hiX10_init_10 (by decide) (List.mem_of_getElem? (i := 24) rfl) rfl dX10_init_154 ?_
  refine g_aload_n 0 dX10_init_157 rfl ?_
  refine g_getM (ci := 10) (k0 := 0) (C0 := RX10) (T := TX10) (N := 13) (hX 0 (by decide)) rfl rfl hiX10_init_10 (by decide) (List.mem_of_getElem? (i := 7) rfl) rfl dX10_init_158 ?_
  refine g_cV (cv := fun x => (some (.int x), gS0)) (k := fun v => (fX7_scatter 36 v gS0).bind (fun _ => some ())) (ci := 5) (C0 := RX5) (T := TX5) (N := 6) (n := 0) (As := []) (rest := [.ref (gad G 36)]) hF (tX5_guests hG hF hX hQ (by decide +kernel) gS0) gX10_init_X5_guests rfl (gRu_m hX (by decide +kernel)) (gRu_l (by decide +kernel)) rfl ⟨rfl, by decide +kernel, by decide +kernel, by decide +kernel⟩ rfl ⟨Nat.le_of_ble_eq_true rfl, Nat.le_of_ble_eq_true rfl, Nat.le_of_ble_eq_true rfl, Nat.le_of_ble_eq_true rfl⟩ rfl (Nat.le_of_ble_eq_true rfl) dX10_init_161 (fun v hv => ?_)
  rw [hgu] at hv
  cases hv
  refine g_cV (cv := fun x => (none, x)) (k := fun _ => some ()) (ci := 7) (C0 := RX7) (T := TX7) (N := 5) (n := 1) (As := [.int 4]) (rest := []) hF (tX7_scatter hG hF hX hQ (by decide) 4 gS0) gX10_init_X7_scatter rfl (gSt_m hX (by decide)) (gSt_l (by decide)) rfl ⟨rfl, by decide +kernel, by decide +kernel, by decide +kernel⟩ rfl ⟨Nat.le_of_ble_eq_true rfl, Nat.le_of_ble_eq_true rfl, Nat.le_of_ble_eq_true rfl, Nat.le_of_ble_eq_true rfl⟩ rfl (Nat.le_of_ble_eq_true rfl) dX10_init_164 (fun S1 hS1 => ?_)
  rw [gS1_ok] at hS1
  cases hS1
  exact hEnd 167 _ dX10_init_167
set_option maxRecDepth 100000 in
set_option maxHeartbeats 4000000 in
theorem gX11tail {D : va_G} {ad : Nat → Nat} {cI cZ cQ : ClassId} {A : Nat → Prop} {Q : Array Value → List Frame → State → Unit → State → Prop} (hG : gOK (D, ad, gPSM, (cI, cZ, cQ), [(cI, .int), (cZ, .boolean), (cQ, .array .int)], A)) (hEnd : ∀ (pc : Nat) (env : List (Nat × Value)), decode cX11_init pc = .ok (.return_, 1) → Gof (D, ad, gPSM, (cI, cZ, cQ), [(cI, .int), (cZ, .boolean), (cQ, .array .int)], A) (fun _ _ => True) RX11 cX11_init 1 wsX11_init none { frames := 10, cells := 9, slots := 890, locals := 400 } 9 890 Q pc env [] gM1 (some ())) : Gof (D, ad, gPSM, (cI, cZ, cQ), [(cI, .int), (cZ, .boolean), (cQ, .array .int)], A) (fun _ _ => True) RX11 cX11_init 1 wsX11_init none { frames := 10, cells := 9, slots := 890, locals := 400 } 9 890 Q 78 [(0, .ref (ad 77))] [] gM0 (some ()) := by
  obtain ⟨G, hGe⟩ : ∃ G : gGG, G = (D, ad, gPSM, (cI, cZ, cQ), [(cI, .int), (cZ, .boolean), (cQ, .array .int)], A) := ⟨_, rfl⟩
  have hps : ∀ p, (77 ≤ p ∧ p < 87) → p ∈ gPSM := fun p hp => by
    have : p = 77 ∨ p = 78 ∨ p = 79 ∨ p = 80 ∨ p = 81 ∨ p = 82 ∨ p = 83 ∨ p = 84 ∨ p = 85 ∨ p = 86 := by omega
    rcases this with rfl | rfl | rfl | rfl | rfl | rfl | rfl | rfl | rfl | rfl <;> decide
  have hM : gPM G := fun p hp => by rw [hGe]; exact hps p hp
  have ha : ad = gad G := by rw [hGe]
  rw [← hGe] at hG hEnd ⊢
  rw [ha]
  have hF := gSb_True G
  obtain ⟨S1, h1, h2⟩ : ∃ S1, fX11_drafts 4 (gW gM0 80 39 1) = some S1 ∧ fX11_adopts S1 = some gM1 := by
    have h := gM1_ok
    unfold gM1o gBp at h
    obtain ⟨S1, a1, a2⟩ := Option.bind_eq_some_iff.mp h
    obtain ⟨S2, b1, b2⟩ := Option.bind_eq_some_iff.mp a2
    cases b2
    exact ⟨S1, a1, b1⟩
  have e : (some () : Option Unit) = gC (gIn 39 40) ((fX11_drafts 4 (gW gM0 80 39 1)).bind (fun S1 => (fX11_adopts S1).bind (fun _ => some ()))) := by
    simp only [h1, Option.bind_some, h2]
    rfl
  rw [e]
  refine g_aload_n 0 dX11_init_78 rfl ?_
  refine g_getK (ci := 11) (k0 := 10) (C0 := RX11) (T := TX11) (N := 17) (hM 77 (by decide)) rfl rfl hiX11_init_11 (by decide) (List.mem_of_getElem? (i := 7) rfl) rfl dX11_init_79 ?_
  refine g_bipush (v := 39) dX11_init_82 (by decide) ?_
  refine g_iconst (v := 1) dX11_init_84 (by decide) ?_
  refine g_iast hG (hM 80 (by decide)) rfl dX11_init_85 ?_
  refine g_aload_n 0 dX11_init_86 rfl ?_
  refine g_iconst (v := 4) dX11_init_87 (by decide) ?_
  refine g_cV (S := gW gM0 80 39 1) (cv := fun x => (none, x)) (k := fun S1 => (fX11_adopts S1).bind (fun _ => some ())) (ci := 11) (C0 := RX11) (T := TX11) (N := 17) (n := 1) (As := [.int 4]) (rest := []) hF (tX11_drafts hG hF hM 4 (gW gM0 80 39 1)) gX11_init_X11_drafts rfl (hM 77 (by decide)) rfl rfl ⟨rfl, by decide +kernel, by decide +kernel, by decide +kernel⟩ rfl ⟨Nat.le_of_ble_eq_true rfl, Nat.le_of_ble_eq_true rfl, Nat.le_of_ble_eq_true rfl, Nat.le_of_ble_eq_true rfl⟩ rfl (Nat.le_of_ble_eq_true rfl) dX11_init_88 (fun v hv => ?_)
  rw [h1] at hv
  cases hv
  refine g_aload_n 0 dX11_init_91 rfl ?_
  refine g_cV (S := S1) (cv := fun x => (none, x)) (k := fun _ => some ()) (ci := 11) (C0 := RX11) (T := TX11) (N := 17) (n := 0) (As := []) (rest := []) hF (tX11_adopts hG hF hM S1) gX11_init_X11_adopts rfl (hM 77 (by decide)) rfl rfl ⟨rfl, by decide +kernel, by decide +kernel, by decide +kernel⟩ rfl ⟨Nat.le_of_ble_eq_true rfl, Nat.le_of_ble_eq_true rfl, Nat.le_of_ble_eq_true rfl, Nat.le_of_ble_eq_true rfl⟩ rfl (Nat.le_of_ble_eq_true rfl) dX11_init_92 (fun S2 hS2 => ?_)
  rw [h2] at hS2
  cases hS2
  exact hEnd 95 _ dX11_init_95
