/-! the classes of long[][][] and int[][] once more, with the names of their components -/
def AMX (U : State) : Prop :=
  (∃ (cA cB cC cD : ClassId) (kA kB kC : Class), U.vm.findClass "[[[J" = some cA ∧ U.vm.classes[cA]? = some kA ∧ kA.kind = .array cB (.array (.array .long)) ∧ U.vm.findClass "[[J" = some cB ∧ U.vm.classes[cB]? = some kB ∧ kB.kind = .array cC (.array .long) ∧ U.vm.findClass "[J" = some cC ∧ U.vm.classes[cC]? = some kC ∧ kC.kind = .array cD .long) ∧
  (∃ (cA cB cD : ClassId) (kA kB : Class), U.vm.findClass "[[I" = some cA ∧ U.vm.classes[cA]? = some kA ∧ kA.kind = .array cB (.array .int) ∧ U.vm.findClass "[I" = some cB ∧ U.vm.classes[cB]? = some kB ∧ kB.kind = .array cD .int)
theorem AMX.moved {u U : State} (hvm : u.vm.Alike U.vm) (h : AMX u) : AMX U := by
  obtain ⟨⟨cA, cB, cC, cD, kA, kB, kC, f1, a1, a2, f2, b1, b2, f3, c1, c2⟩, cE, cF, cG, kE, kF, g1, e1, e2, g2, h1, h2⟩ := h
  obtain ⟨kA', a1', a3⟩ := hvm.2.2 _ _ a1
  obtain ⟨kB', b1', b3⟩ := hvm.2.2 _ _ b1
  obtain ⟨kC', c1', c3⟩ := hvm.2.2 _ _ c1
  obtain ⟨kE', e1', e3⟩ := hvm.2.2 _ _ e1
  obtain ⟨kF', h1', h3⟩ := hvm.2.2 _ _ h1
  exact ⟨⟨cA, cB, cC, cD, kA', kB', kC', by rw [hvm.findClass]; exact f1, a1', by rw [a3]; exact a2, by rw [hvm.findClass]; exact f2, b1', by rw [b3]; exact b2, by rw [hvm.findClass]; exact f3, c1', by rw [c3]; exact c2⟩, cE, cF, cG, kE', kF', by rw [hvm.findClass]; exact g1, e1', by rw [e3]; exact e2, by rw [hvm.findClass]; exact g2, h1', by rw [h3]; exact h2⟩
theorem amx_of {args : Array Value} {s : State} (h3 : (Cond.arrayOver (.array (.array .long))).before args s = true) (h2 : (Cond.arrayOver (.array .long)).before args s = true) (h1 : (Cond.arrayClass .long).before args s = true) (g2 : (Cond.arrayOver (.array .int)).before args s = true) (g1 : (Cond.arrayClass .int).before args s = true) : AMX s := by
  obtain ⟨cB, cA, kA, fB, a1, a2, fA⟩ := am_over h3
  obtain ⟨cC, cB', kB, fC, b1, b2, fB'⟩ := am_over h2
  obtain ⟨cC', kC, cD, fC', c1, c2⟩ := Cond.arrayClass_spec h1
  obtain ⟨cF, cE, kE, fF, e1, e2, fE⟩ := am_over g2
  obtain ⟨cF', kF, cG, fF', f1, f2⟩ := Cond.arrayClass_spec g1
  cases Option.some.inj (fB.symm.trans fB')
  cases Option.some.inj (fC.symm.trans fC')
  cases Option.some.inj (fF.symm.trans fF')
  exact ⟨⟨cA, cB, cC, cD, kA, kB, kC, fA, a1, a2, fB, b1, b2, fC, c1, c2⟩, cE, cF, cG, kE, kF, fE, e1, e2, fF, f1, f2⟩
