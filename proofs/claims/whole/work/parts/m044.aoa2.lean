theorem va_AOA.moved {ty : FieldType} {u U : State} (hvm : u.vm.Alike U.vm) (h : va_AOA ty u) : va_AOA ty U := Jvm.Stand.arrayOver_alikeB hvm h
/-- the links to a nest mate's own constructors; arrays of int arrays -/
def gNestL : List (String × Nat × MethodName) := [(RX10, 9, yX5_init), (RX10, 21, yX8_init), (RX10, 46, yX7_init), (RX10, 53, yX6_init), (RX10, 60, yX2_init), (RX10, 67, yX1_init), (RX1, 9, yX7_init), (RX1, 18, yX6_init), (RX10, 77, yX3_init), (RX3, 11, yX7_init), (RX10, 84, yX0_init), (RX0, 13, yX7_init)]
def gNx (U : State) : Prop := (∀ q ∈ gNestL, va_Nw (.methodLinkNest q.1 q.2.1 q.2.2 "GuestParties") U) ∧ va_AOA .int U
theorem gNx.warm {s U : State} (hW : s.WarmedH U.vm) (h : gNx s) : gNx U := ⟨fun q hq => va_Nw.warmM hW (h.1 q hq), va_AOA.moved hW.alike h.2⟩
theorem gNx.same {u U : State} (e : U.vm = u.vm) (h : gNx u) : gNx U := ⟨fun q hq => va_Nw.same rfl e.symm (h.1 q hq), va_AOA.moved (by rw [e]; exact Vm.Alike.refl u.vm) h.2⟩
