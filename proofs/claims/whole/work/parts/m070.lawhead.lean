def R_law : String := "GuestPartiesLaw"
def lw_P (b : Addr) (xs : List Int32) (args : Array Value) (s : State) : Prop := args = #[.ref b] ∧ s.IntsAt b xs ∧ xs.length ≤ 256 ∧ (Jvm.Cond.and given_1 narrow_1).before args s = true
def lw_Q (_ : Array Value) (s : State) (o : Outcome) (t : State) : Prop := o = .returned (some (.int 1)) ∧ Framed s o t [] 600000 7302250
def lw_Z (below : List Frame) (a : Array Value) (s : State) : State → Prop := fun t => ∃ o, t.status = .running ∧ Ended t below o ∧ lw_Q a s o t
/-- the law's own end, with 1 on the stack, nothing written that was there before, its room as the claim has it -/
theorem lw_ret {p : Program} {l : Launch} {e : Env} {s : State} {m : MethodId} {below : List Frame} {meth : Method} {c : Code} {b : Nat} (hx : p.tables.exec = Jvm.exec) (hb : c.code = code) (hr : meth.sig.returnType = ret) (hlocks : meth.locks = false) {pc : Nat} {H : Heap} {ls : Array Slot} (hdg : decode code pc = .ok (.ireturn, 1)) : W p l e room_1 s m #[Value.ref b] below meth c H [] 600000 7302250 (lw_Z below #[Value.ref b] s) (F0 m pc ls [.int 1]) := by
  intro T hT X
  obtain ⟨fs, hret, hrun, hended, hW, hframe⟩ := X.leave (v := some (.int 1)) (hlocks := hlocks) (fun h => by rw [hr] at h; cases h)
  have hmeth' : T.vm.method? m = some meth := X.method'
  refine ⟨T.setFrames fs, ?_, .returned (some (.int 1)), hrun, hended, rfl, ⟨_, rfl⟩, hW, hframe⟩
  jvm_step X.here [X.here.top, hx, hb, hdg, hmeth', hr, ret, narrow_b1]
  (try refine ⟨rfl, ?_⟩); (try refine ⟨rfl, ?_⟩)
  first | (intro acts; rw [hret _ acts rfl rfl rfl]) | rw [hret _ _ rfl rfl rfl]
  exact Steps.refl _
/-- what holds at the law's entry: the machine, the code, the tables' words (any of lw_tbl by 'hts w (by decide +kernel)'), the script of L ints xs at the cell b, what the Statement gives of the start (any of its parts by flat_of_before) -/
def lw_At (p : Program) (s : State) (m : MethodId) (meth : Method) (c : Code) (b L : Nat) (xs : Nat → Int32) : Prop :=
  p.tables.exec = Jvm.exec ∧ c.code = code ∧ meth.sig.returnType = ret ∧ c.maxLocals = 4 ∧ s.vm.findClass R_law = some m.cls ∧ (∀ w ∈ lw_tbl, w.before #[Value.ref b] s = true) ∧ va_X b L xs s s.heap ∧ b < s.heap.size ∧ meth.locks = false ∧ (Jvm.Cond.and given_1 narrow_1).before #[Value.ref b] s = true
section GCK
variable {τ ρ : Type} {G : gGG} {F : State → Heap → Prop} {own : String} {cc : ByteArray} {nL : Nat} {Ts : List Cond} {ret : Option FieldType} {R : Room} {cl sl : Nat} {Qf : Array Value → List Frame → State → τ → State → Prop} {pc : Nat} {env : List (Nat × Value)} {st0 rest : List Value} {S : gSt}
theorem g_cVk (hF0 : gSb G F) {y : MethodName} {bytes : ByteArray} {maxL index n d b ci : Nat} {rt : Option FieldType} {ws ws' : List Cond} {C0 : String} {T : u_T} {N : Nat} {As : List Value} {f : Option (Int64 × gSt)} {k : Int64 → gSt → Option τ} (hM : gCt G F y ws d (.ref (gad G b) :: As) S (f.map (fun x => (some (.long x.1), x.2)))) (hg : GoodIn Ts (wsV own index C0 y ws)) (hw : ws = Cond.code y bytes maxL rt :: ws') (hp : b ∈ gps G) (hl0 : (gLay b).1 = ci + 3) (hc : vwCl[ci]? = some (C0, T, N)) (hy : y.cls = C0 ∧ y.cls ≠ "java/lang/invoke/MethodHandle" ∧ y.cls ≠ "java/lang/invoke/VarHandle" ∧ (parseMethodDescriptor y.desc).map (fun d => d.parameters.length) = some n) (hn : As.length = n) (hR : d + 1 ≤ R.frames ∧ 8 + (maxL + 11) + 40 * d ≤ R.locals ∧ cl ≤ R.cells ∧ sl ≤ R.slots) (hst : st0 = As.reverse ++ .ref (gad G b) :: rest) (hrest : (rest.map fun v => v.category).sum ≤ 8) (hd : decode cc pc = .ok (.invokevirtual index, 3)) (kk : ∀ (v : Int64) (S1 : gSt), Gof G F own cc nL Ts ret R cl sl Qf (pc + 3) env (.long v :: rest) S1 (k v S1)) : Gof G F own cc nL Ts ret R cl sl Qf pc env st0 S (gBd f k) := by
  unfold gBd
  exact g_cV (cv := (fun x => (some (.long x.1), x.2))) (f := f) (k := fun q : Int64 × gSt => k q.1 q.2) hF0 hM hg hw hp hl0 hc hy hn hR hst hrest hd (fun x _ => kk x.1 x.2)
end GCK
def gLQ (G : gGG) (b : Nat) : Array Value → List Frame → State → Unit → State → Prop := fun args below s _ t => args = #[Value.ref b] → (∀ q : Nat, gA G q → s.heap.size ≤ q) → lw_Z below args s t
def gVS (G : gGG) (F : State → Heap → Prop) (b L : Nat) (xs : Nat → Int32) : Prop := ∀ (U : State) (H : Heap), F U H → va_X b L xs U H ∧ b < H.size ∧ ¬ gA G b
section GLW
variable {G : gGG} {F : State → Heap → Prop} {own : String} {cc : ByteArray} {nL : Nat} {Ts : List Cond} {R : Room} {cl sl : Nat} {pc : Nat} {env : List (Nat × Value)} {S : gSt} {b L : Nat} {xs : Nat → Int32}
theorem g_sald {τ : Type} {ret : Option FieldType} {Qf : Array Value → List Frame → State → τ → State → Prop} {st : List Value} {o : Option τ} (hVs : gVS G F b L xs) {a : Int32} (hd : decode cc pc = .ok (.iaload, 1)) (k : Gof G F own cc nL Ts ret R cl sl Qf (pc + 1) env (.int (xs (gN a)) :: st) S o) : Gof G F own cc nL Ts ret R cl sl Qf pc env (.int a :: .ref b :: st) S (gC (gIn a L) o) := g_gC fun hb => fun p l e s m args below meth c H locs ls x hx C hr hk hK hF hP hS hl => va_sld C.1 C.2.1 (hVs s s.heap hF).1 (hVs s s.heap hF).2.1 (hVs s s.heap hF).2.2 hS (gIn_in hb) hd (k p l e s m args below meth c H locs ls x hx C hr hk hK hF hP hS hl)
theorem g_slen {τ : Type} {ret : Option FieldType} {Qf : Array Value → List Frame → State → τ → State → Prop} {st : List Value} {o : Option τ} (hVs : gVS G F b L xs) (hd : decode cc pc = .ok (.arraylength, 1)) (k : Gof G F own cc nL Ts ret R cl sl Qf (pc + 1) env (.int (Int32.ofNat L) :: st) S o) : Gof G F own cc nL Ts ret R cl sl Qf pc env (.ref b :: st) S o := fun p l e s m args below meth c H locs ls x hx C hr hk hK hF hP hS hl => va_slen C.1 C.2.1 (hVs s s.heap hF).1 (hVs s s.heap hF).2.1 (hVs s s.heap hF).2.2 hS hd (k p l e s m args below meth c H locs ls x hx C hr hk hK hF hP hS hl)
theorem g_lawret (hcl : cl ≤ 600000 ∧ sl ≤ 7302250) (hd : decode code pc = .ok (.ireturn, 1)) : Gof G F own code nL Ts ret room_1 cl sl (gLQ G b) pc env [.int 1] S (some ()) := fun p l e s m args below meth c H locs ls x hx C hr hk hK hF hP hS hl => by
  by_cases h1 : args = #[Value.ref b]
  · by_cases h2 : ∀ q : Nat, gA G q → s.heap.size ≤ q
    · subst h1
      have K := va_forget (g := F0 m pc ls [.int 1]) (fun q hq => h2 _ (hS.2.2 q hq)) (W.widen hcl.1 hcl.2 (lw_ret (p := p) (l := l) (e := e) (s := s) (m := m) (below := below) (meth := meth) (c := c) (b := b) (H := H) (ls := ls) C.1 C.2.1 hr hk hd))
      intro T hT X
      obtain ⟨t, a1, b1⟩ := K T hT X
      exact ⟨t, a1, fun _ _ => b1⟩
    · intro T hT X
      exact ⟨_, Steps.refl _, fun _ h => absurd h h2⟩
  · intro T hT X
    exact ⟨_, Steps.refl _, fun h => absurd h h1⟩
theorem gRm_law {d' maxL : Nat} (hcl : cl ≤ 600000 ∧ sl ≤ 7302250) (h : d' ≤ 1000) (h2 : maxL ≤ 21) : d' + 1 ≤ room_1.frames ∧ 8 + (maxL + 11) + 40 * d' ≤ room_1.locals ∧ cl ≤ room_1.cells ∧ sl ≤ room_1.slots := ⟨by show _ ≤ 2048; omega, by show _ ≤ 84000; omega, hcl.1, hcl.2⟩
end GLW
