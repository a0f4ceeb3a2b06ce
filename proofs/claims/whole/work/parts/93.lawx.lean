/-! ===== what stands of the start, over all calls ===== -/
def lawX (ad0 : Nat → Nat) (mi : Nat) (A : Nat → Prop) (U : State) : Prop := strX ad0 A U ∧ alX mi U ∧ nstX U
theorem lawX_ok (ad0 : Nat → Nat) (mi : Nat) : xok (lawX ad0 mi) := by
  refine ⟨fun A U g mk a h => ?_, fun A B s U hBA hWm hsz hq h => ?_⟩
  · obtain ⟨⟨s1, z1, z2, z3, ⟨r0, r1, r2, r3⟩, z4⟩, ⟨a1, a2, a3, a4, a5⟩, ⟨n1, n2, n3, n4, n5⟩⟩ := h
    have hv : U.vm.Alike (U.calling g mk a).vm := Vm.Alike.refl U.vm
    exact ⟨⟨vk_S.moved hv s1, va_Z.moved hv z1, va_Zq.moved hv z2, va_Z.moved hv z3, ⟨vk_R.same rfl r0, vk_R.same rfl r1, vk_R.same rfl r2, vk_R.same rfl r3⟩, va_T.moved hv z4⟩, ⟨va_AO.moved hv a1, va_Mi.moved hv a2, va_Dc.moved hv a3, va_Nw.same rfl rfl a4, va_Nw.same rfl rfl a5⟩, ⟨va_Nw.same rfl rfl n1, va_Nw.same rfl rfl n2, va_Nw.same rfl rfl n3, va_Nw.same rfl rfl n4, va_Nw.same rfl rfl n5⟩⟩
  · obtain ⟨⟨s1, z1, z2, z3, ⟨r0, r1, r2, r3⟩, z4⟩, ⟨a1, a2, a3, a4, a5⟩, ⟨n1, n2, n3, n4, n5⟩⟩ := h
    have hv : s.vm.Alike U.vm := hWm.alike
    exact ⟨⟨(vk_S.moved hv (s1.kept hq)).narrow hBA, (va_Z.moved hv (z1.kept hq)).narrow hBA, (va_Zq.moved hv (z2.kept hq)).narrow hBA, (va_Z.moved hv (z3.kept hq)).narrow hBA, ⟨vk_R.warm hWm r0, vk_R.warm hWm r1, vk_R.warm hWm r2, vk_R.warm hWm r3⟩, (va_T.moved hv (z4.kept hq)).narrow hBA⟩, ⟨va_AO.moved hv a1, va_Mi.moved hv a2, va_Dc.moved hv a3, va_Nw.warmC hWm a4, va_Nw.warmC hWm a5⟩, ⟨va_Nw.warmM hWm n1, va_Nw.warmM hWm n2, va_Nw.warmM hWm n3, va_Nw.warmM hWm n4, va_Nw.warmM hWm n5⟩⟩
