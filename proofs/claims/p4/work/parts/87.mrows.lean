section MNW
variable {p : Program} {l : Launch} {e : Env} {R : Room} {s : State} {m : MethodId} {args : Array Value} {below : List Frame} {meth : Method} {c : Code} {H : Heap} {locs : List Loc} {cells slots : Nat} {Q : State → Prop}
variable {cc : ByteArray} {pc : Nat} {ls : Array Slot} {rest : List Value} {D : va_G} {cl : List vw_C} {A : Nat → Prop} {ws : va_W} {H0 : Heap}
/-- new int[n][k]: a reference comes, and its cells with it -/
theorem w_mna2X (hexec : p.tables.exec = Jvm.exec) (hb : c.code = cc) {own : String} {index : Nat} (hown : s.vm.findClass own = some m.cls) (hclink : (Cond.classLink own index "[[I").before args s = true) (hAM : AMX s) (hP : va_P D cl ws H) (hS : va_S A H0 H locs)
    {n k : Int32} {N K : Nat} (hn : ¬ n < 0) (hk : ¬ k < 0) (hN : n.toNatClampNeg = N) (hK : k.toNatClampNeg = K) (hb1 : N * 4 ≤ 536870912) (hb2 : K * 4 ≤ 536870912) (hcells : cells + (1 + N * 1) ≤ R.cells) (hslots : slots + (N + N * K) ≤ R.slots) (hdg : decode cc pc = .ok (.multianewarray index 2, 4))
    (kk : ∀ (cA cB cD : ClassId) (kA kB : Class), s.vm.findClass "[[I" = some cA → s.vm.classes[cA]? = some kA → kA.kind = .array cB (.array .int) → s.vm.findClass "[I" = some cB → s.vm.classes[cB]? = some kB → kB.kind = .array cD .int → ∀ (H1 : Heap), H1.size = H.size + (1 + N * 1) → (∀ q, q < H.size → H1[q]? = H[q]?) → H1[H.size]? = some (vp_cell cA (N, .inr (.inr (.inr (.inr (fun j => some (H.size + 1 + j * 1))))))) → (∀ j, j < N → H1[H.size + 1 + j]? = some (vp_cell cB (K, .inl (fun _ => 0)))) → va_P D cl ws H1 → va_S A H0 H1 locs → W p l e R s m args below meth c H1 locs (cells + (1 + N * 1)) (slots + (N + N * K)) Q (F0 m (pc + 4) ls (.ref H.size :: rest))) : W p l e R s m args below meth c H locs cells slots Q (F0 m pc ls (.int k :: .int n :: rest)) := by
  subst hN
  subst hK
  intro T hT X
  obtain ⟨-, cA, cB, cD, kA, kB, f1, a1, a2, f2, b1, b2⟩ := hAM
  have hF := gm_fill_ok (gm_leaf_ok cB k.toNatClampNeg (defaultValue .int)) cA n.toNatClampNeg
  obtain ⟨vm₁, X', step⟩ := gm_stand2 X hexec hown hclink f1 (g := F0 m pc ls (.int k :: .int n :: rest)) rfl (by rw [hb]; exact hdg) rfl hF (fun vm₁ hal => by
    obtain ⟨kA', a1', a3⟩ := hal.2.2 _ _ a1
    obtain ⟨kB', b1', b3⟩ := hal.2.2 _ _ b1
    have hl1 : ¬ n.toNatClampNeg > e.platform.arrayLengthLimit := by rw [Launch.admits_arrayLengthLimit X.admits]; omega
    have hh1 : ¬ n.toNatClampNeg * componentBytes (.array .int) > e.platform.maxHeapBytes := by rw [Launch.admits_maxHeapBytes X.admits]; show ¬ n.toNatClampNeg * 4 > 536870912; omega
    have hl2 : ¬ k.toNatClampNeg > e.platform.arrayLengthLimit := by rw [Launch.admits_arrayLengthLimit X.admits]; omega
    have hh2 : ¬ k.toNatClampNeg * componentBytes .int > e.platform.maxHeapBytes := by rw [Launch.admits_maxHeapBytes X.admits]; show ¬ k.toNatClampNeg * 4 > 536870912; omega
    exact gm_fill_wp (gm_leaf_ok cB k.toNatClampNeg (defaultValue .int)) (gm_leaf_wp b1' (by rw [b3]; exact b2) hk hl2 hh2 rfl rfl) a1' (by rw [a3]; exact a2) rfl hn (fun x hx => by rw [List.mem_singleton.mp hx]; exact hk) hl1 hh1) hcells hslots
  obtain ⟨g1, -, -, g4⟩ := hF.1 (T.setVm vm₁)
  have hTh : (T.setVm vm₁).heap = H := hT
  rw [hTh] at g1 g4
  obtain ⟨z1, z2⟩ := gm_two cA cB n.toNatClampNeg k.toNatClampNeg (defaultValue .int) (T.setVm vm₁)
  rw [hTh] at z1 z2
  rw [gm_cell_vp] at z1
  have z2' := fun j hj => (z2 j hj).trans (congrArg some (gm_leaf_i cB k.toNatClampNeg))
  subst hT
  obtain ⟨t, a, b⟩ := kk cA cB cD kA kB f1 a1 a2 f2 b1 b2 _ g1 g4 z1 z2' (hP.kept (fun k9 x hx => g4 x.1 ((hP k9 x hx).lt))) ⟨by have := hS.1; omega, fun q h1 h2 => (g4 q (Nat.lt_of_lt_of_le h1 hS.1)).trans (hS.2.1 q h1 h2), hS.2.2⟩ _ rfl X'
  exact ⟨t, step t a, b⟩
/-- new long[n][k][j] -/
theorem w_mna3X (hexec : p.tables.exec = Jvm.exec) (hb : c.code = cc) {own : String} {index : Nat} (hown : s.vm.findClass own = some m.cls) (hclink : (Cond.classLink own index "[[[J").before args s = true) (hAM : AMX s) (hP : va_P D cl ws H) (hS : va_S A H0 H locs)
    {n k j : Int32} {N K J : Nat} (hn : ¬ n < 0) (hk : ¬ k < 0) (hj : ¬ j < 0) (hN : n.toNatClampNeg = N) (hK : k.toNatClampNeg = K) (hJ : j.toNatClampNeg = J) (hb1 : N * 4 ≤ 536870912) (hb2 : K * 4 ≤ 536870912) (hb3 : J * 8 ≤ 536870912) (hcells : cells + (1 + N * (1 + K * 1)) ≤ R.cells) (hslots : slots + (N + N * (K + K * J)) ≤ R.slots) (hdg : decode cc pc = .ok (.multianewarray index 3, 4))
    (kk : ∀ (cA cB cC cD : ClassId) (kA kB kC : Class), s.vm.findClass "[[[J" = some cA → s.vm.classes[cA]? = some kA → kA.kind = .array cB (.array (.array .long)) → s.vm.findClass "[[J" = some cB → s.vm.classes[cB]? = some kB → kB.kind = .array cC (.array .long) → s.vm.findClass "[J" = some cC → s.vm.classes[cC]? = some kC → kC.kind = .array cD .long → ∀ (H1 : Heap), H1.size = H.size + (1 + N * (1 + K * 1)) → (∀ q, q < H.size → H1[q]? = H[q]?) → H1[H.size]? = some (vp_cell cA (N, .inr (.inr (.inr (.inr (fun j => some (H.size + 1 + j * (1 + K * 1)))))))) → (∀ j, j < N → H1[H.size + 1 + j * (1 + K * 1)]? = some (vp_cell cB (K, .inr (.inr (.inr (.inr (fun i => some (H.size + 1 + j * (1 + K * 1) + 1 + i * 1))))))) ∧ ∀ i, i < K → H1[H.size + 1 + j * (1 + K * 1) + 1 + i]? = some (vp_cell cC (J, .inr (.inl (fun _ => 0))))) → va_P D cl ws H1 → va_S A H0 H1 locs → W p l e R s m args below meth c H1 locs (cells + (1 + N * (1 + K * 1))) (slots + (N + N * (K + K * J))) Q (F0 m (pc + 4) ls (.ref H.size :: rest))) : W p l e R s m args below meth c H locs cells slots Q (F0 m pc ls (.int j :: .int k :: .int n :: rest)) := by
  subst hN
  subst hK
  subst hJ
  intro T hT X
  obtain ⟨⟨cA, cB, cC, cD, kA, kB, kC, f1, a1, a2, f2, b1, b2, f3, c1, c2⟩, -⟩ := hAM
  have hF1 := gm_fill_ok (gm_leaf_ok cC j.toNatClampNeg (defaultValue .long)) cB k.toNatClampNeg
  have hF := gm_fill_ok hF1 cA n.toNatClampNeg
  obtain ⟨vm₁, X', step⟩ := gm_stand3 X hexec hown hclink f1 (g := F0 m pc ls (.int j :: .int k :: .int n :: rest)) rfl (by rw [hb]; exact hdg) rfl hF (fun vm₁ hal => by
    obtain ⟨kA', a1', a3⟩ := hal.2.2 _ _ a1
    obtain ⟨kB', b1', b3⟩ := hal.2.2 _ _ b1
    obtain ⟨kC', c1', c3⟩ := hal.2.2 _ _ c1
    have hl1 : ¬ n.toNatClampNeg > e.platform.arrayLengthLimit := by rw [Launch.admits_arrayLengthLimit X.admits]; omega
    have hh1 : ¬ n.toNatClampNeg * componentBytes (.array (.array .long)) > e.platform.maxHeapBytes := by rw [Launch.admits_maxHeapBytes X.admits]; show ¬ n.toNatClampNeg * 4 > 536870912; omega
    have hl2 : ¬ k.toNatClampNeg > e.platform.arrayLengthLimit := by rw [Launch.admits_arrayLengthLimit X.admits]; omega
    have hh2 : ¬ k.toNatClampNeg * componentBytes (.array .long) > e.platform.maxHeapBytes := by rw [Launch.admits_maxHeapBytes X.admits]; show ¬ k.toNatClampNeg * 4 > 536870912; omega
    have hl3 : ¬ j.toNatClampNeg > e.platform.arrayLengthLimit := by rw [Launch.admits_arrayLengthLimit X.admits]; omega
    have hh3 : ¬ j.toNatClampNeg * componentBytes .long > e.platform.maxHeapBytes := by rw [Launch.admits_maxHeapBytes X.admits]; show ¬ j.toNatClampNeg * 8 > 536870912; omega
    exact gm_fill_wp hF1 (gm_fill_wp (gm_leaf_ok cC j.toNatClampNeg (defaultValue .long)) (gm_leaf_wp c1' (by rw [c3]; exact c2) hj hl3 hh3 rfl rfl) b1' (by rw [b3]; exact b2) rfl hk (fun x hx => by rw [List.mem_singleton.mp hx]; exact hj) hl2 hh2) a1' (by rw [a3]; exact a2) rfl hn (fun x hx => by
      rcases List.mem_cons.mp hx with h | h
      · rw [h]; exact hk
      · rw [List.mem_singleton.mp h]; exact hj) hl1 hh1) hcells hslots
  obtain ⟨g1, -, -, g4⟩ := hF.1 (T.setVm vm₁)
  have hTh : (T.setVm vm₁).heap = H := hT
  rw [hTh] at g1 g4
  obtain ⟨z1, z2⟩ := gm_three cA cB cC n.toNatClampNeg k.toNatClampNeg j.toNatClampNeg (defaultValue .long) (T.setVm vm₁)
  rw [hTh] at z1 z2
  rw [gm_cell_vp] at z1
  have z2' := fun v hv => And.intro ((z2 v hv).1.trans (congrArg some (gm_cell_vp cB k.toNatClampNeg (H.size + 1 + v * (1 + k.toNatClampNeg * 1)) 1))) (fun i hi => ((z2 v hv).2 i hi).trans (congrArg some (gm_leaf_l cC j.toNatClampNeg)))
  subst hT
  obtain ⟨t, a, b⟩ := kk cA cB cC cD kA kB kC f1 a1 a2 f2 b1 b2 f3 c1 c2 _ g1 g4 z1 z2' (hP.kept (fun k9 x hx => g4 x.1 ((hP k9 x hx).lt))) ⟨by have := hS.1; omega, fun q h1 h2 => (g4 q (Nat.lt_of_lt_of_le h1 hS.1)).trans (hS.2.1 q h1 h2), hS.2.2⟩ _ rfl X'
  exact ⟨t, step t a, b⟩
end MNW
/-! the same rows with the world: the new cells behind the old ones, their classes in the list of kinds -/
theorem ka_push {D : va_G} {cl : List vw_C} {tys : List (ClassId × FieldType)} {s : State} {cA : ClassId} {ty : FieldType} (hK : va_K D cl tys s) (h1 : ArrOfT s cA ty) (h2 : va_RA s cA ty) : va_K D cl (tys ++ [(cA, ty)]) s := ⟨hK.1, fun k x hx => by
  rcases List.mem_append.mp (List.mem_of_getElem? hx) with h | h
  · obtain ⟨i, hi⟩ := List.getElem?_of_mem h
    exact hK.2 i x hi
  · rw [List.mem_singleton.mp h]
    exact ⟨h1, h2⟩⟩
theorem ra_eq {D : va_G} {cl : List vw_C} {tys : List (ClassId × FieldType)} {s : State} (hK : va_K D cl tys s) {a b : ClassId} {ty : FieldType} (i j : Nat) (hi : tys[i]? = some (a, ty)) (hj : tys[j]? = some (b, ty)) : a = b := by
  have h1 := (hK.2 i _ hi).2
  have h2 := (hK.2 j _ hj).2
  cases ty with
  | object C =>
    obtain ⟨_, _, _, _, _, f1⟩ := h1
    obtain ⟨_, _, _, _, _, f2⟩ := h2
    exact Option.some.inj (f1.symm.trans f2)
  | _ => exact Option.some.inj (Eq.trans (Eq.symm h1) h2)
section MNV
variable {p : Program} {l : Launch} {e : Env} {R : Room} {s : State} {m : MethodId} {args : Array Value} {below : List Frame} {meth : Method} {c : Code} {H : Heap} {locs : List Loc} {cells slots : Nat} {Q : State → Prop}
variable {cc : ByteArray} {pc : Nat} {ls : Array Slot} {rest : List Value} {D : va_G} {cl : List vw_C} {A : Nat → Prop} {ws : va_W} {H0 : Heap} {tys : List (ClassId × FieldType)}
theorem w_mna2Y (hexec : p.tables.exec = Jvm.exec) (hb : c.code = cc) {own : String} {index : Nat} (hown : s.vm.findClass own = some m.cls) (hclink : (Cond.classLink own index "[[I").before args s = true) (hAM : AMX s) (hK : va_K D cl tys s) (hP : va_P D cl ws H) (hD : va_D A ws) (hS : va_S A H0 H locs) (hA : ∀ q, H0.size ≤ q → A q)
    (hcells : cells + (1 + 10 * 1) ≤ R.cells) (hslots : slots + (10 + 10 * 200) ≤ R.slots) (hdg : decode cc pc = .ok (.multianewarray index 2, 4))
    (kk : ∀ (q : Nat) (cA cB : ClassId) (H1 : Heap), va_K D cl (tys ++ [(cA, .array .int)] ++ [(cB, .int)]) s → va_P D cl (ws ++ gw_2 cA cB q 10 200) H1 → va_D A (ws ++ gw_2 cA cB q 10 200) → va_S A H0 H1 locs → W p l e R s m args below meth c H1 locs (cells + (1 + 10 * 1)) (slots + (10 + 10 * 200)) Q (F0 m (pc + 4) ls (.ref q :: rest))) : W p l e R s m args below meth c H locs cells slots Q (F0 m pc ls (.int 200 :: .int 10 :: rest)) := by
  refine w_mna2X (N := 10) (K := 200) hexec hb hown hclink hAM hP hS (by decide) (by decide) (by decide) (by decide) (by decide) (by decide) hcells hslots hdg (fun cA cB cD kA kB f1 a1 a2 f2 b1 b2 H1 e1 o1 z1 z2 hP1 hS1 => ?_)
  exact kk H.size cA cB H1 (ka_push (ka_push hK (fun n z => ⟨(fun k h => by cases h), kA, a1, cB, a2⟩) f1) (fun n z => ⟨(fun k h => by cases h), kB, b1, cD, b2⟩) f2) (hP1.app (gw_2P z1 z2)) (gw_more hD hP (gw_2A cA cB H.size) (fun q h => hA q (Nat.le_trans hS.1 h))) hS1
theorem w_mna3Y (hexec : p.tables.exec = Jvm.exec) (hb : c.code = cc) {own : String} {index : Nat} (hown : s.vm.findClass own = some m.cls) (hclink : (Cond.classLink own index "[[[J").before args s = true) (hAM : AMX s) (hK : va_K D cl tys s) (hP : va_P D cl ws H) (hD : va_D A ws) (hS : va_S A H0 H locs) (hA : ∀ q, H0.size ≤ q → A q)
    (hcells : cells + (1 + 6 * (1 + 13 * 1)) ≤ R.cells) (hslots : slots + (6 + 6 * (13 + 13 * 13)) ≤ R.slots) (hdg : decode cc pc = .ok (.multianewarray index 3, 4))
    (kk : ∀ (q : Nat) (cA cB cC : ClassId) (H1 : Heap), va_K D cl (tys ++ [(cA, .array (.array .long))] ++ [(cB, .array .long)] ++ [(cC, .long)]) s → va_P D cl (ws ++ gw_3 cA cB cC q 6 13 13) H1 → va_D A (ws ++ gw_3 cA cB cC q 6 13 13) → va_S A H0 H1 locs → W p l e R s m args below meth c H1 locs (cells + (1 + 6 * (1 + 13 * 1))) (slots + (6 + 6 * (13 + 13 * 13))) Q (F0 m (pc + 4) ls (.ref q :: rest))) : W p l e R s m args below meth c H locs cells slots Q (F0 m pc ls (.int 13 :: .int 13 :: .int 6 :: rest)) := by
  refine w_mna3X (N := 6) (K := 13) (J := 13) hexec hb hown hclink hAM hP hS (by decide) (by decide) (by decide) (by decide) (by decide) (by decide) (by decide) (by decide) (by decide) hcells hslots hdg (fun cA cB cC cD kA kB kC f1 a1 a2 f2 b1 b2 f3 c1 c2 H1 e1 o1 z1 z2 hP1 hS1 => ?_)
  exact kk H.size cA cB cC H1 (ka_push (ka_push (ka_push hK (fun n z => ⟨(fun k h => by cases h), kA, a1, cB, a2⟩) f1) (fun n z => ⟨(fun k h => by cases h), kB, b1, cC, b2⟩) f2) (fun n z => ⟨(fun k h => by cases h), kC, c1, cD, c2⟩) f3) (hP1.app (gw_3P z1 z2)) (gw_more hD hP (gw_3A cA cB cC H.size) (fun q h => hA q (Nat.le_trans hS.1 h))) hS1
end MNV
