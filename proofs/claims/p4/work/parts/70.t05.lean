set_option maxHeartbeats 4000000 in
set_option maxRecDepth 100000 in
theorem t_X7_vertices (l : Launch) (dC : Nat → ClassId) (dI : Nat → Nat → Nat) (sz : Nat) (G : GT) (cs : Nat → ClassId) (tt mm : Nat) (a0 : Nat) (ha0 : Ty G a0 7) : Met l yX7_vertices [.code yX7_vertices cX7_vertices 1 (some .int)] ({ frames := 0, cells := 0, slots := 0, locals := 0 }) (PT [.ref a0] sz dC dI G cs tt mm (fun _ => True)) (vp_Si (fun (r : Int32) => True)) 0 0 (fun _ => False) := by
  refine Met.ofW (cc := cX7_vertices) (maxL := 1) (ret := (some .int)) (by decide) rfl ?_
  intro p e s m args below meth c s₁ B hml hv
  obtain ⟨rfl, hsz, ⟨f0, hok, hP, hX⟩, hK, hnd, hWT, hE⟩ := hv
  have hx := B.exec
  have hb := B.bytes
  have hr := B.returns
  have hown : s.vm.findClass RX7 = some m.cls := findClass_of_methodNamed B.named
  have hlocks := B.notSynchronized
  subst hsz
  have hl := lv_entry ([.ref a0]) (n := 1) (Nat.le_of_ble_eq_true rfl)
  rw [lg_entry_eq]
  generalize (lg_sl ([.ref a0]) ++ List.replicate (1 - (lg_sl ([.ref a0])).length) Slot.unset).toArray = ls at hl ⊢
  have hl : lv_has ls 1 [(0, .ref a0)] := hl
  refine lv_aload_n hx hb dX7_vertices_0 rfl (lv_at hl 0 rfl) ?_
  have he1 := ok_X7 hok ha0
  refine th_get hx hb (ly_X7 hE) hown hK hP ha0.1 he1 rfl 0 (by decide) (wd_149 hE) (fun _ h9 => h9) rfl dX7_vertices_1 ?_
  refine lv_iconst (v := 0) hx hb dX7_vertices_4 (by decide) ?_
  refine th_iald hx hb hK hP hok (wt_X7_0 hWT ha0) (n := 543) (wl_X7_0 hWT ha0) (by unfold vp_in; decide) dX7_vertices_5 (fun x2 => ?_)
  exact W.iret (v := x2) hx hb hr (fun t ht hW => ⟨x2, rfl, trivial, ht⟩) (fun _ h => absurd h List.not_mem_nil) dX7_vertices_6

set_option maxHeartbeats 4000000 in
set_option maxRecDepth 100000 in
theorem t_X7_put (l : Launch) (dC : Nat → ClassId) (dI : Nat → Nat → Nat) (sz : Nat) (G : GT) (cs : Nat → ClassId) (tt mm : Nat) (a0 : Nat) (ha0 : Ty G a0 7) (v1 : Int32) (v2 : Int32) : Met l yX7_put [.code yX7_put cX7_put 3 none] ({ frames := 0, cells := 0, slots := 0, locals := 0 }) (PT [.ref a0, .int v1, .int v2] sz dC dI G cs tt mm (fun _ => True)) (va_Qv (fun (u : Nat → va_E) => True) (BT dC dI G cs tt mm) (AT G sz)) 0 0 (AT G sz) := by
  refine Met.ofW (cc := cX7_put) (maxL := 3) (ret := none) (by decide) rfl ?_
  intro p e s m args below meth c s₁ B hml hv
  obtain ⟨rfl, hsz, ⟨f0, hok, hP, hX⟩, hK, hnd, hWT, hE⟩ := hv
  have hx := B.exec
  have hb := B.bytes
  have hr := B.returns
  have hown : s.vm.findClass RX7 = some m.cls := findClass_of_methodNamed B.named
  have hlocks := B.notSynchronized
  subst hsz
  have hAL : ∀ a, a ∈ gL G → AT G s.heap.size a := fun a h => Or.inl h
  have hA : ∀ q : Nat, s.heap.size ≤ q → AT G s.heap.size q := fun q h => Or.inr h
  have hS : va_S (AT G s.heap.size) s.heap s.heap [] := va_S.rf
  have hl := lv_entry ([.ref a0, .int v1, .int v2]) (n := 3) (Nat.le_of_ble_eq_true rfl)
  rw [lg_entry_eq]
  generalize (lg_sl ([.ref a0, .int v1, .int v2]) ++ List.replicate (3 - (lg_sl ([.ref a0, .int v1, .int v2])).length) Slot.unset).toArray = ls at hl ⊢
  have hl : lv_has ls 3 [(0, .ref a0), (1, .int v1), (2, .int v2)] := hl
  refine lv_iload_n hx hb dX7_put_0 rfl (lv_at hl 1 rfl) ?_
  refine lv_if_lt (tgt := 20) hx hb dX7_put_1 (by decide) (fun c1 => ?_) (fun c1 => ?_)
  · exact W.vret hx hb hr (fun t ht hW => ⟨⟨f0, rfl, trivial, hok, by rw [ht]; exact hP⟩, hS.F ht⟩) hS.2.2 dX7_put_20
  · refine lv_iload_n hx hb dX7_put_4 rfl (lv_at hl 1 rfl) ?_
    refine lv_aload_n hx hb dX7_put_5 rfl (lv_at hl 0 rfl) ?_
    have he2 := ok_X7 hok ha0
    refine th_get hx hb (ly_X7 hE) hown hK hP ha0.1 he2 rfl 0 (by decide) (wd_149 hE) (fun _ h9 => h9) rfl dX7_put_6 ?_
    refine th_len1 hx hb hK hP hok (n := 543) (wl_X7_0 hWT ha0) (Or.inl (wt_X7_0 hWT ha0)) dX7_put_9 ?_
    refine W.eq (g2 := F0 m 10 ls [.int 543, .int v1]) rfl ?_
    refine lv_icmp_ge (tgt := 20) hx hb dX7_put_10 (by decide) (fun c3 => ?_) (fun c3 => ?_)
    · exact W.vret hx hb hr (fun t ht hW => ⟨⟨f0, rfl, trivial, hok, by rw [ht]; exact hP⟩, hS.F ht⟩) hS.2.2 dX7_put_20
    · refine lv_aload_n hx hb dX7_put_13 rfl (lv_at hl 0 rfl) ?_
      refine th_get hx hb (ly_X7 hE) hown hK hP ha0.1 he2 rfl 0 (by decide) (wd_149 hE) (fun _ h9 => h9) rfl dX7_put_14 ?_
      refine lv_iload_n hx hb dX7_put_17 rfl (lv_at hl 1 rfl) ?_
      refine lv_iload_n hx hb dX7_put_18 rfl (lv_at hl 2 rfl) ?_
      refine th_iast hx hb hK hP hok hnd hAL hS (wt_X7_0 hWT ha0) (n := 543) (wl_X7_0 hWT ha0) (vp_in_iff.mpr (by first | omega | (simp only [i_lt, i_le, i_eq, ti_m9, ti_m1, ti_0, ti_1, ti_2, ti_3, ti_4, ti_5, ti_6, ti_7, ti_9, ti_12, ti_20, ti_99, ti_700, ti_24, ti_156, ti_72, ti_8, ti_60, ti_543, ti_10, ti_33, ti_51, ti_178, ti_119, ti_111, ti_114, ti_100, ti_32, ti_62, ti_59, ti_48, ti_701, ti_97, ti_122, ti_57, ti_73, ti_128, ti_61] at c1 c3 ⊢; omega))) dX7_put_19 (fun f4 H locs hfo4 hok hP hS => ?_)
      have he5 := (hfo4 a0 (Ty.ne ha0 (wt_X7_0 hWT ha0) (by decide))).trans he2
      exact W.vret hx hb hr (fun t ht hW => ⟨⟨f4, rfl, trivial, hok, by rw [ht]; exact hP⟩, hS.F ht⟩) hS.2.2 dX7_put_20

set_option maxHeartbeats 4000000 in
set_option maxRecDepth 100000 in
theorem t_X7_edges (l : Launch) (dC : Nat → ClassId) (dI : Nat → Nat → Nat) (sz : Nat) (G : GT) (cs : Nat → ClassId) (tt mm : Nat) (a0 : Nat) (ha0 : Ty G a0 7) : Met l yX7_edges [.code yX7_edges cX7_edges 1 (some .int)] ({ frames := 0, cells := 0, slots := 0, locals := 0 }) (PT [.ref a0] sz dC dI G cs tt mm (fun _ => True)) (vp_Si (fun (r : Int32) => True)) 0 0 (fun _ => False) := by
  refine Met.ofW (cc := cX7_edges) (maxL := 1) (ret := (some .int)) (by decide) rfl ?_
  intro p e s m args below meth c s₁ B hml hv
  obtain ⟨rfl, hsz, ⟨f0, hok, hP, hX⟩, hK, hnd, hWT, hE⟩ := hv
  have hx := B.exec
  have hb := B.bytes
  have hr := B.returns
  have hown : s.vm.findClass RX7 = some m.cls := findClass_of_methodNamed B.named
  have hlocks := B.notSynchronized
  subst hsz
  have hl := lv_entry ([.ref a0]) (n := 1) (Nat.le_of_ble_eq_true rfl)
  rw [lg_entry_eq]
  generalize (lg_sl ([.ref a0]) ++ List.replicate (1 - (lg_sl ([.ref a0])).length) Slot.unset).toArray = ls at hl ⊢
  have hl : lv_has ls 1 [(0, .ref a0)] := hl
  refine lv_aload_n hx hb dX7_edges_0 rfl (lv_at hl 0 rfl) ?_
  have he1 := ok_X7 hok ha0
  refine th_get hx hb (ly_X7 hE) hown hK hP ha0.1 he1 rfl 0 (by decide) (wd_149 hE) (fun _ h9 => h9) rfl dX7_edges_1 ?_
  refine lv_iconst (v := 1) hx hb dX7_edges_4 (by decide) ?_
  refine th_iald hx hb hK hP hok (wt_X7_0 hWT ha0) (n := 543) (wl_X7_0 hWT ha0) (by unfold vp_in; decide) dX7_edges_5 (fun x2 => ?_)
  exact W.iret (v := x2) hx hb hr (fun t ht hW => ⟨x2, rfl, trivial, ht⟩) (fun _ h => absurd h List.not_mem_nil) dX7_edges_6

set_option maxHeartbeats 4000000 in
set_option maxRecDepth 100000 in
theorem t_X7_hasVertex (l : Launch) (dC : Nat → ClassId) (dI : Nat → Nat → Nat) (sz : Nat) (G : GT) (cs : Nat → ClassId) (tt mm : Nat) (a0 : Nat) (ha0 : Ty G a0 7) (v1 : Int32) : Met l yX7_hasVertex [.code yX7_hasVertex cX7_hasVertex 2 (some .boolean)] ({ frames := 0, cells := 0, slots := 0, locals := 0 }) (PT [.ref a0, .int v1] sz dC dI G cs tt mm (fun _ => True)) (vp_Si (fun (r : Int32) => r = 0 ∨ r = 1)) 0 0 (fun _ => False) := by
  refine Met.ofW (cc := cX7_hasVertex) (maxL := 2) (ret := (some .boolean)) (by decide) rfl ?_
  intro p e s m args below meth c s₁ B hml hv
  obtain ⟨rfl, hsz, ⟨f0, hok, hP, hX⟩, hK, hnd, hWT, hE⟩ := hv
  have hx := B.exec
  have hb := B.bytes
  have hr := B.returns
  have hown : s.vm.findClass RX7 = some m.cls := findClass_of_methodNamed B.named
  have hlocks := B.notSynchronized
  subst hsz
  have hl := lv_entry ([.ref a0, .int v1]) (n := 2) (Nat.le_of_ble_eq_true rfl)
  rw [lg_entry_eq]
  generalize (lg_sl ([.ref a0, .int v1]) ++ List.replicate (2 - (lg_sl ([.ref a0, .int v1])).length) Slot.unset).toArray = ls at hl ⊢
  have hl : lv_has ls 2 [(0, .ref a0), (1, .int v1)] := hl
  refine lv_iload_n hx hb dX7_hasVertex_0 rfl (lv_at hl 1 rfl) ?_
  refine lv_if_lt (tgt := 18) hx hb dX7_hasVertex_1 (by decide) (fun c1 => ?_) (fun c1 => ?_)
  · refine lv_iconst (v := 0) hx hb dX7_hasVertex_18 (by decide) ?_
    exact W.zret (v := 0) hx hb hr rfl (fun t ht hW => ⟨0, rfl, Or.inl rfl, ht⟩) (fun _ h => absurd h List.not_mem_nil) dX7_hasVertex_19
  · refine lv_iload_n hx hb dX7_hasVertex_4 rfl (lv_at hl 1 rfl) ?_
    refine lv_aload_n hx hb dX7_hasVertex_5 rfl (lv_at hl 0 rfl) ?_
    have he2 := ok_X7 hok ha0
    refine th_get hx hb (ly_X7 hE) hown hK hP ha0.1 he2 rfl 0 (by decide) (wd_149 hE) (fun _ h9 => h9) rfl dX7_hasVertex_6 ?_
    refine lv_iconst (v := 0) hx hb dX7_hasVertex_9 (by decide) ?_
    refine th_iald hx hb hK hP hok (wt_X7_0 hWT ha0) (n := 543) (wl_X7_0 hWT ha0) (by unfold vp_in; decide) dX7_hasVertex_10 (fun x3 => ?_)
    refine lv_icmp_ge (tgt := 18) hx hb dX7_hasVertex_11 (by decide) (fun c4 => ?_) (fun c4 => ?_)
    · refine lv_iconst (v := 0) hx hb dX7_hasVertex_18 (by decide) ?_
      exact W.zret (v := 0) hx hb hr rfl (fun t ht hW => ⟨0, rfl, Or.inl rfl, ht⟩) (fun _ h => absurd h List.not_mem_nil) dX7_hasVertex_19
    · refine lv_iconst (v := 1) hx hb dX7_hasVertex_14 (by decide) ?_
      refine lv_goto (tgt := 19) hx hb dX7_hasVertex_15 (by decide) ?_
      exact W.zret (v := 1) hx hb hr rfl (fun t ht hW => ⟨1, rfl, Or.inr rfl, ht⟩) (fun _ h => absurd h List.not_mem_nil) dX7_hasVertex_19

