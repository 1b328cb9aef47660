set_option maxHeartbeats 4000000 in
set_option maxRecDepth 100000 in
theorem t_X5_result (l : Launch) (dC : Nat → ClassId) (dI : Nat → Nat → Nat) (sz : Nat) (G : GT) (cs : Nat → ClassId) (tt mm : Nat) (a0 : Nat) (ha0 : Ty G a0 5) : Met l yX5_result [.code yX5_result cX5_result 1 (some (.object "GluedWords$Store"))] ({ frames := 0, cells := 0, slots := 0, locals := 0 }) (PT [.ref a0] sz dC dI G cs tt mm (fun _ => True)) (va_Sq (fun (r : Option Nat) => ∃ q, r = some q ∧ Ty G q 7)) 0 0 (fun _ => False) := by
  refine Met.ofW (cc := cX5_result) (maxL := 1) (ret := (some (.object "GluedWords$Store"))) (by decide) rfl ?_
  intro p e s m args below meth c s₁ B hml hv
  obtain ⟨rfl, hsz, ⟨f0, hok, hP, hX⟩, hK, hnd, hWT, hE⟩ := hv
  have hx := B.exec
  have hb := B.bytes
  have hr := B.returns
  have hown : s.vm.findClass RX5 = some m.cls := findClass_of_methodNamed B.named
  have hlocks := B.notSynchronized
  subst hsz
  have hl := lv_entry ([.ref a0]) (n := 1) (Nat.le_of_ble_eq_true rfl)
  rw [lg_entry_eq]
  generalize (lg_sl ([.ref a0]) ++ List.replicate (1 - (lg_sl ([.ref a0])).length) Slot.unset).toArray = ls at hl ⊢
  have hl : lv_has ls 1 [(0, .ref a0)] := hl
  refine lv_aload_n hx hb dX5_result_0 rfl (lv_at hl 0 rfl) ?_
  obtain ⟨y3_1, y4_1, y5_1, y6_1, y7_1, y8_1, y9_1, he1⟩ := ok_X5 hok ha0
  refine th_get hx hb (ly_X5 hE) hown hK hP ha0.1 he1 rfl 1 (by decide) (wd_228 hE) (fun _ h9 => h9) rfl dX5_result_1 ?_
  exact W.aret (v := .ref (gR G a0 1)) hx hb hr (Or.inl ⟨_, rfl⟩) (Or.inr ⟨_, rfl⟩) (fun t ht hW => ⟨some (gR G a0 1), rfl, ⟨_, rfl, (wt_X5_1 hWT ha0)⟩, ht⟩) (fun _ h => absurd h List.not_mem_nil) dX5_result_4

set_option maxHeartbeats 4000000 in
set_option maxRecDepth 100000 in
theorem t_X5_tellFault (l : Launch) (dC : Nat → ClassId) (dI : Nat → Nat → Nat) (sz : Nat) (G : GT) (cs : Nat → ClassId) (tt mm : Nat) (a0 : Nat) (ha0 : Ty G a0 5) (v1 : Int32) : Met l yX5_tellFault [.code yX5_tellFault cX5_tellFault 2 (some .int)] ({ frames := 0, cells := 0, slots := 0, locals := 0 }) (PT [.ref a0, .int v1] sz dC dI G cs tt mm (fun _ => True)) (vp_Si (fun (r : Int32) => True)) 0 0 (fun _ => False) := by
  refine Met.ofW (cc := cX5_tellFault) (maxL := 2) (ret := (some .int)) (by decide) rfl ?_
  intro p e s m args below meth c s₁ B hml hv
  obtain ⟨rfl, hsz, ⟨f0, hok, hP, hX⟩, hK, hnd, hWT, hE⟩ := hv
  have hx := B.exec
  have hb := B.bytes
  have hr := B.returns
  have hown : s.vm.findClass RX5 = some m.cls := findClass_of_methodNamed B.named
  have hlocks := B.notSynchronized
  subst hsz
  have hl := lv_entry ([.ref a0, .int v1]) (n := 2) (Nat.le_of_ble_eq_true rfl)
  rw [lg_entry_eq]
  generalize (lg_sl ([.ref a0, .int v1]) ++ List.replicate (2 - (lg_sl ([.ref a0, .int v1])).length) Slot.unset).toArray = ls at hl ⊢
  have hl : lv_has ls 2 [(0, .ref a0), (1, .int v1)] := hl
  refine lv_aload_n hx hb dX5_tellFault_0 rfl (lv_at hl 0 rfl) ?_
  obtain ⟨y3_1, y4_1, y5_1, y6_1, y7_1, y8_1, y9_1, he1⟩ := ok_X5 hok ha0
  refine th_get hx hb (ly_X5 hE) hown hK hP ha0.1 he1 rfl 3 (by decide) (wd_230 hE) (fun _ h9 => h9) rfl dX5_tellFault_1 ?_
  refine lv_if_ne (tgt := 9) hx hb dX5_tellFault_4 (by decide) (fun c2 => ?_) (fun c2 => ?_)
  · refine lv_iload_n hx hb dX5_tellFault_9 rfl (lv_at hl 1 rfl) ?_
    by_cases t3 : v1 = 0
    · refine lv_tableIn (tgt := 36) hx hb dX5_tellFault_10 (by rw [t3]; decide) (by rw [t3]; decide) (by rw [t3]; rfl) (by decide) ?_
      refine lv_aload_n hx hb dX5_tellFault_36 rfl (lv_at hl 0 rfl) ?_
      refine th_get hx hb (ly_X5 hE) hown hK hP ha0.1 he1 rfl 7 (by decide) (wd_234 hE) (fun _ h9 => h9) rfl dX5_tellFault_37 ?_
      exact W.iret (v := y7_1) hx hb hr (fun t ht hW => ⟨y7_1, rfl, trivial, ht⟩) (fun _ h => absurd h List.not_mem_nil) dX5_tellFault_40
    by_cases t4 : v1 = 1
    · refine lv_tableIn (tgt := 41) hx hb dX5_tellFault_10 (by rw [t4]; decide) (by rw [t4]; decide) (by rw [t4]; rfl) (by decide) ?_
      refine lv_aload_n hx hb dX5_tellFault_41 rfl (lv_at hl 0 rfl) ?_
      refine th_get hx hb (ly_X5 hE) hown hK hP ha0.1 he1 rfl 8 (by decide) (wd_235 hE) (fun _ h9 => h9) rfl dX5_tellFault_42 ?_
      exact W.iret (v := y8_1) hx hb hr (fun t ht hW => ⟨y8_1, rfl, trivial, ht⟩) (fun _ h => absurd h List.not_mem_nil) dX5_tellFault_45
    by_cases t5 : v1 = 2
    · refine lv_tableIn (tgt := 46) hx hb dX5_tellFault_10 (by rw [t5]; decide) (by rw [t5]; decide) (by rw [t5]; rfl) (by decide) ?_
      refine lv_aload_n hx hb dX5_tellFault_46 rfl (lv_at hl 0 rfl) ?_
      refine th_get hx hb (ly_X5 hE) hown hK hP ha0.1 he1 rfl 9 (by decide) (wd_236 hE) (fun _ h9 => h9) rfl dX5_tellFault_47 ?_
      exact W.iret (v := y9_1) hx hb hr (fun t ht hW => ⟨y9_1, rfl, trivial, ht⟩) (fun _ h => absurd h List.not_mem_nil) dX5_tellFault_50
    have hT6 : v1.toInt < 0 ∨ 2 < v1.toInt := by simp only [i_eq, ti_m9, ti_m1, ti_0, ti_1, ti_2, ti_3, ti_4, ti_5, ti_6, ti_7, ti_9, ti_12, ti_20, ti_99, ti_700] at t3 t4 t5; omega
    refine lv_tableOut (tgt := 51) hx hb dX5_tellFault_10 hT6 (by decide) ?_
    refine lv_iconst (v := -1) hx hb dX5_tellFault_51 (by decide) ?_
    exact W.iret (v := -1) hx hb hr (fun t ht hW => ⟨-1, rfl, trivial, ht⟩) (fun _ h => absurd h List.not_mem_nil) dX5_tellFault_52
  · refine lv_iconst (v := -1) hx hb dX5_tellFault_7 (by decide) ?_
    exact W.iret (v := -1) hx hb hr (fun t ht hW => ⟨-1, rfl, trivial, ht⟩) (fun _ h => absurd h List.not_mem_nil) dX5_tellFault_8

set_option maxHeartbeats 4000000 in
set_option maxRecDepth 100000 in
theorem t_X6_leastOf (l : Launch) (dC : Nat → ClassId) (dI : Nat → Nat → Nat) (sz : Nat) (G : GT) (cs : Nat → ClassId) (tt mm : Nat) (a0 : Nat) (ha0 : Ty G a0 6) (v1 : Int32) : Met l yX6_leastOf [.code yX6_leastOf cX6_leastOf 2 (some .int)] ({ frames := 0, cells := 0, slots := 0, locals := 0 }) (PT [.ref a0, .int v1] sz dC dI G cs tt mm (fun _ => True)) (vp_Si (fun (r : Int32) => True)) 0 0 (fun _ => False) := by
  refine Met.ofW (cc := cX6_leastOf) (maxL := 2) (ret := (some .int)) (by decide) rfl ?_
  intro p e s m args below meth c s₁ B hml hv
  obtain ⟨rfl, hsz, ⟨f0, hok, hP, hX⟩, hK, hnd, hWT, hE⟩ := hv
  have hx := B.exec
  have hb := B.bytes
  have hr := B.returns
  have hown : s.vm.findClass RX6 = some m.cls := findClass_of_methodNamed B.named
  have hlocks := B.notSynchronized
  subst hsz
  have hl := lv_entry ([.ref a0, .int v1]) (n := 2) (Nat.le_of_ble_eq_true rfl)
  rw [lg_entry_eq]
  generalize (lg_sl ([.ref a0, .int v1]) ++ List.replicate (2 - (lg_sl ([.ref a0, .int v1])).length) Slot.unset).toArray = ls at hl ⊢
  have hl : lv_has ls 2 [(0, .ref a0), (1, .int v1)] := hl
  refine lv_iload_n hx hb dX6_leastOf_0 rfl (lv_at hl 1 rfl) ?_
  refine lv_if_lt (tgt := 13) hx hb dX6_leastOf_1 (by decide) (fun c1 => ?_) (fun c1 => ?_)
  · refine lv_iconst (v := -1) hx hb dX6_leastOf_13 (by decide) ?_
    refine lv_goto (tgt := 23) hx hb dX6_leastOf_14 (by decide) ?_
    exact W.iret (v := -1) hx hb hr (fun t ht hW => ⟨-1, rfl, trivial, ht⟩) (fun _ h => absurd h List.not_mem_nil) dX6_leastOf_23
  · refine lv_iload_n hx hb dX6_leastOf_4 rfl (lv_at hl 1 rfl) ?_
    refine lv_aload_n hx hb dX6_leastOf_5 rfl (lv_at hl 0 rfl) ?_
    obtain ⟨y1_2, y2_2, he2⟩ := ok_X6 hok ha0
    refine th_get hx hb (ly_X6 hE) hown hK hP ha0.1 he2 rfl 0 (by decide) (wd_338 hE) (fun _ h9 => h9) rfl dX6_leastOf_6 ?_
    refine th_len1 hx hb hK hP hok (n := 6) (wl_X6_0 hWT ha0) (Or.inl (wt_X6_0 hWT ha0)) dX6_leastOf_9 ?_
    refine W.eq (g2 := F0 m 10 ls [.int 6, .int v1]) rfl ?_
    refine lv_icmp_lt (tgt := 17) hx hb dX6_leastOf_10 (by decide) (fun c3 => ?_) (fun c3 => ?_)
    · refine lv_aload_n hx hb dX6_leastOf_17 rfl (lv_at hl 0 rfl) ?_
      refine th_get hx hb (ly_X6 hE) hown hK hP ha0.1 he2 rfl 0 (by decide) (wd_338 hE) (fun _ h9 => h9) rfl dX6_leastOf_18 ?_
      refine lv_iload_n hx hb dX6_leastOf_21 rfl (lv_at hl 1 rfl) ?_
      refine th_iald hx hb hK hP hok (wt_X6_0 hWT ha0) (n := 6) (wl_X6_0 hWT ha0) (vp_in_iff.mpr (by first | omega | (simp only [i_lt, i_le, i_eq, ti_m9, ti_m1, ti_0, ti_1, ti_2, ti_3, ti_4, ti_5, ti_6, ti_7, ti_9, ti_12, ti_20, ti_99, ti_700, ti_24, ti_156, ti_72, ti_8, ti_60, ti_543, ti_10, ti_33, ti_51, ti_178, ti_119, ti_111, ti_114, ti_100, ti_32, ti_62, ti_59, ti_48, ti_701, ti_97, ti_122, ti_57, ti_73, ti_128, ti_61] at c1 c3 ⊢; omega))) dX6_leastOf_22 (fun x4 => ?_)
      exact W.iret (v := x4) hx hb hr (fun t ht hW => ⟨x4, rfl, trivial, ht⟩) (fun _ h => absurd h List.not_mem_nil) dX6_leastOf_23
    · refine lv_iconst (v := -1) hx hb dX6_leastOf_13 (by decide) ?_
      refine lv_goto (tgt := 23) hx hb dX6_leastOf_14 (by decide) ?_
      exact W.iret (v := -1) hx hb hr (fun t ht hW => ⟨-1, rfl, trivial, ht⟩) (fun _ h => absurd h List.not_mem_nil) dX6_leastOf_23

set_option maxHeartbeats 4000000 in
set_option maxRecDepth 100000 in
theorem t_X6_setLeast (l : Launch) (dC : Nat → ClassId) (dI : Nat → Nat → Nat) (sz : Nat) (G : GT) (cs : Nat → ClassId) (tt mm : Nat) (a0 : Nat) (ha0 : Ty G a0 6) (v1 : Int32) (v2 : Int32) : Met l yX6_setLeast [.code yX6_setLeast cX6_setLeast 3 none] ({ frames := 0, cells := 0, slots := 0, locals := 0 }) (PT [.ref a0, .int v1, .int v2] sz dC dI G cs tt mm (fun _ => True)) (va_Qv (fun (u : Nat → va_E) => True) (BT dC dI G cs tt mm) (AT G sz)) 0 0 (AT G sz) := by
  refine Met.ofW (cc := cX6_setLeast) (maxL := 3) (ret := none) (by decide) rfl ?_
  intro p e s m args below meth c s₁ B hml hv
  obtain ⟨rfl, hsz, ⟨f0, hok, hP, hX⟩, hK, hnd, hWT, hE⟩ := hv
  have hx := B.exec
  have hb := B.bytes
  have hr := B.returns
  have hown : s.vm.findClass RX6 = some m.cls := findClass_of_methodNamed B.named
  have hlocks := B.notSynchronized
  subst hsz
  have hAL : ∀ a, a ∈ gL G → AT G s.heap.size a := fun a h => Or.inl h
  have hA : ∀ q : Nat, s.heap.size ≤ q → AT G s.heap.size q := fun q h => Or.inr h
  have hS : va_S (AT G s.heap.size) s.heap s.heap [] := va_S.rf
  have hl := lv_entry ([.ref a0, .int v1, .int v2]) (n := 3) (Nat.le_of_ble_eq_true rfl)
  rw [lg_entry_eq]
  generalize (lg_sl ([.ref a0, .int v1, .int v2]) ++ List.replicate (3 - (lg_sl ([.ref a0, .int v1, .int v2])).length) Slot.unset).toArray = ls at hl ⊢
  have hl : lv_has ls 3 [(0, .ref a0), (1, .int v1), (2, .int v2)] := hl
  refine lv_iload_n hx hb dX6_setLeast_0 rfl (lv_at hl 1 rfl) ?_
  refine lv_if_lt (tgt := 20) hx hb dX6_setLeast_1 (by decide) (fun c1 => ?_) (fun c1 => ?_)
  · exact W.vret hx hb hr (fun t ht hW => ⟨⟨f0, rfl, trivial, hok, by rw [ht]; exact hP⟩, hS.F ht⟩) hS.2.2 dX6_setLeast_20
  · refine lv_iload_n hx hb dX6_setLeast_4 rfl (lv_at hl 1 rfl) ?_
    refine lv_aload_n hx hb dX6_setLeast_5 rfl (lv_at hl 0 rfl) ?_
    obtain ⟨y1_2, y2_2, he2⟩ := ok_X6 hok ha0
    refine th_get hx hb (ly_X6 hE) hown hK hP ha0.1 he2 rfl 0 (by decide) (wd_338 hE) (fun _ h9 => h9) rfl dX6_setLeast_6 ?_
    refine th_len1 hx hb hK hP hok (n := 6) (wl_X6_0 hWT ha0) (Or.inl (wt_X6_0 hWT ha0)) dX6_setLeast_9 ?_
    refine W.eq (g2 := F0 m 10 ls [.int 6, .int v1]) rfl ?_
    refine lv_icmp_ge (tgt := 20) hx hb dX6_setLeast_10 (by decide) (fun c3 => ?_) (fun c3 => ?_)
    · exact W.vret hx hb hr (fun t ht hW => ⟨⟨f0, rfl, trivial, hok, by rw [ht]; exact hP⟩, hS.F ht⟩) hS.2.2 dX6_setLeast_20
    · refine lv_aload_n hx hb dX6_setLeast_13 rfl (lv_at hl 0 rfl) ?_
      refine th_get hx hb (ly_X6 hE) hown hK hP ha0.1 he2 rfl 0 (by decide) (wd_338 hE) (fun _ h9 => h9) rfl dX6_setLeast_14 ?_
      refine lv_iload_n hx hb dX6_setLeast_17 rfl (lv_at hl 1 rfl) ?_
      refine lv_iload_n hx hb dX6_setLeast_18 rfl (lv_at hl 2 rfl) ?_
      refine th_iast hx hb hK hP hok hnd hAL hS (wt_X6_0 hWT ha0) (n := 6) (wl_X6_0 hWT ha0) (vp_in_iff.mpr (by first | omega | (simp only [i_lt, i_le, i_eq, ti_m9, ti_m1, ti_0, ti_1, ti_2, ti_3, ti_4, ti_5, ti_6, ti_7, ti_9, ti_12, ti_20, ti_99, ti_700, ti_24, ti_156, ti_72, ti_8, ti_60, ti_543, ti_10, ti_33, ti_51, ti_178, ti_119, ti_111, ti_114, ti_100, ti_32, ti_62, ti_59, ti_48, ti_701, ti_97, ti_122, ti_57, ti_73, ti_128, ti_61] at c1 c3 ⊢; omega))) dX6_setLeast_19 (fun f4 H locs hfo4 hok hP hS => ?_)
      have he5 := (hfo4 a0 (Ty.ne ha0 (wt_X6_0 hWT ha0) (by decide))).trans he2
      exact W.vret hx hb hr (fun t ht hW => ⟨⟨f4, rfl, trivial, hok, by rw [ht]; exact hP⟩, hS.F ht⟩) hS.2.2 dX6_setLeast_20

set_option maxHeartbeats 4000000 in
set_option maxRecDepth 100000 in
theorem t_X6_join (l : Launch) (dC : Nat → ClassId) (dI : Nat → Nat → Nat) (sz : Nat) (G : GT) (cs : Nat → ClassId) (tt mm : Nat) (a0 : Nat) (ha0 : Ty G a0 6) (a1 : Nat) (ha1 : Ty G a1 7) : Met l yX6_join [.code yX6_join cX6_join 5 none] ({ frames := 2, cells := 0, slots := 0, locals := 80 }) (PT [.ref a0, .ref a1] sz dC dI G cs tt mm (fun _ => True)) (va_Qv (fun (u : Nat → va_E) => True) (BT dC dI G cs tt mm) (AT G sz)) 0 0 (AT G sz) := by
  refine Met.ofW (cc := cX6_join) (maxL := 5) (ret := none) (by decide) rfl ?_
  intro p e s m args below meth c s₁ B hml hv
  obtain ⟨rfl, hsz, ⟨f0, hok, hP, hX⟩, hK, hnd, hWT, hE⟩ := hv
  have hx := B.exec
  have hb := B.bytes
  have hr := B.returns
  have hown : s.vm.findClass RX6 = some m.cls := findClass_of_methodNamed B.named
  have hlocks := B.notSynchronized
  subst hsz
  have hAL : ∀ a, a ∈ gL G → AT G s.heap.size a := fun a h => Or.inl h
  have hA : ∀ q : Nat, s.heap.size ≤ q → AT G s.heap.size q := fun q h => Or.inr h
  have hS : va_S (AT G s.heap.size) s.heap s.heap [] := va_S.rf
  have hl := lv_entry ([.ref a0, .ref a1]) (n := 5) (Nat.le_of_ble_eq_true rfl)
  rw [lg_entry_eq]
  generalize (lg_sl ([.ref a0, .ref a1]) ++ List.replicate (5 - (lg_sl ([.ref a0, .ref a1])).length) Slot.unset).toArray = ls at hl ⊢
  have hl : lv_has ls 5 [(0, .ref a0), (1, .ref a1)] := hl
  refine lv_iconst (v := 0) hx hb dX6_join_0 (by decide) ?_
  refine lv_istore_n (lv' := [(2, .int 0), (0, .ref a0), (1, .ref a1)]) hx hb dX6_join_1 rfl hl (by decide) rfl (fun ls hl => ?_)
  refine w_ind (I := fun n f H locs ls => OKT G cs tt mm f ∧ va_P (dC, dI) vwCl (va_pl (gL G) f) H ∧ va_S (AT G s.heap.size) s.heap H locs ∧ ∃ (w2_1 : Int32), n = (2147483647 - w2_1.toInt).toNat ∧ 0 ≤ w2_1 ∧ lv_has ls 5 [(0, .ref a0), (1, .ref a1), (2, .int w2_1)]) (fun n f1 H locs ls hI ih1 => ?_) _ f0 _ _ _ ⟨hok, hP, hS, 0, rfl, (by first | omega | (simp only [i_lt, i_le, i_eq, ti_m9, ti_m1, ti_0, ti_1, ti_2, ti_3, ti_4, ti_5, ti_6, ti_7, ti_9, ti_12, ti_20, ti_99, ti_700, ti_24, ti_156, ti_72, ti_8, ti_60, ti_543, ti_10, ti_33, ti_51, ti_178, ti_119, ti_111, ti_114, ti_100, ti_32, ti_62, ti_59, ti_48, ti_701, ti_97, ti_122, ti_57, ti_73, ti_128, ti_61]; omega)), lv_sub hl [1, 2, 0] rfl⟩
  obtain ⟨hok, hP, hS, w2_1, hmu1, hlo1, hl⟩ := hI
  subst hmu1
  refine lv_iload_n hx hb dX6_join_2 rfl (lv_at hl 2 rfl) ?_
  refine lv_bipush (v := 6) hx hb dX6_join_3 (by decide) ?_
  refine lv_icmp_ge (tgt := 20) hx hb dX6_join_5 (by decide) (fun c2 => ?_) (fun c2 => ?_)
  · refine lv_iconst (v := 1) hx hb dX6_join_20 (by decide) ?_
    refine lv_istore_n (lv' := [(2, .int 1), (0, .ref a0), (1, .ref a1)]) hx hb dX6_join_21 rfl hl (by decide) rfl (fun ls hl => ?_)
    refine w_ind (I := fun n f H locs ls => OKT G cs tt mm f ∧ va_P (dC, dI) vwCl (va_pl (gL G) f) H ∧ va_S (AT G s.heap.size) s.heap H locs ∧ ∃ (w2_3 : Int32), n = (2147483647 - w2_3.toInt).toNat ∧ 1 ≤ w2_3 ∧ lv_has ls 5 [(0, .ref a0), (1, .ref a1), (2, .int w2_3)]) (fun n f3 H locs ls hI ih3 => ?_) _ f1 _ _ _ ⟨hok, hP, hS, 1, rfl, (by first | omega | (simp only [i_lt, i_le, i_eq, ti_m9, ti_m1, ti_0, ti_1, ti_2, ti_3, ti_4, ti_5, ti_6, ti_7, ti_9, ti_12, ti_20, ti_99, ti_700, ti_24, ti_156, ti_72, ti_8, ti_60, ti_543, ti_10, ti_33, ti_51, ti_178, ti_119, ti_111, ti_114, ti_100, ti_32, ti_62, ti_59, ti_48, ti_701, ti_97, ti_122, ti_57, ti_73, ti_128, ti_61] at hlo1 c2 ⊢; omega)), lv_sub hl [1, 2, 0] rfl⟩
    obtain ⟨hok, hP, hS, w2_3, hmu3, hlo3, hl⟩ := hI
    subst hmu3
    refine lv_iload_n hx hb dX6_join_22 rfl (lv_at hl 2 rfl) ?_
    refine lv_aload_n hx hb dX6_join_23 rfl (lv_at hl 1 rfl) ?_
    have he4 := ok_X7 hok ha1
    refine vp_callSi (va_Run.run (va_runV (As := []) (rest := [.int w2_3]) ⟨hx, hb, hml, hown, noTs⟩ (t_X7_vertices l dC dI H.size G cs tt mm a1 ha1) ⟨cbE 0 (wd_557 hE) (wd_116 hE) (wd_779 hE) rfl rfl (by decide +kernel) ⟨Nat.le_of_ble_eq_true rfl, Nat.le_of_ble_eq_true rfl⟩, (wd_555 hE), (wd_556 hE)⟩ ⟨PT.blind, th_recv hK hP ha1.1 he4 rfl, (th_pre (av := [.ref a1]) trivial hK hP hok hnd hWT hE)⟩ rfl rfl hl.1 rfl (lv_room (Nat.le_of_ble_eq_true rfl)) dX6_join_24 ⟨Nat.le_of_ble_eq_true rfl, Nat.le_of_ble_eq_true rfl⟩)) (fun r5 hr5 => ?_)
    refine lv_icmp_ge (tgt := 83) hx hb dX6_join_27 (by decide) (fun c6 => ?_) (fun c6 => ?_)
    · exact W.vret hx hb hr (fun t ht hW => ⟨⟨f3, rfl, trivial, hok, by rw [ht]; exact hP⟩, hS.F ht⟩) hS.2.2 dX6_join_83
    · refine lv_iconst (v := 0) hx hb dX6_join_30 (by decide) ?_
      refine lv_istore_n (lv' := [(3, .int 0), (0, .ref a0), (1, .ref a1), (2, .int w2_3)]) hx hb dX6_join_31 rfl hl (by decide) rfl (fun ls hl => ?_)
      refine w_ind (I := fun n f H locs ls => OKT G cs tt mm f ∧ va_P (dC, dI) vwCl (va_pl (gL G) f) H ∧ va_S (AT G s.heap.size) s.heap H locs ∧ ∃ (w3_7 : Int32), n = (2147483647 - w3_7.toInt).toNat ∧ 0 ≤ w3_7 ∧ lv_has ls 5 [(0, .ref a0), (1, .ref a1), (2, .int w2_3), (3, .int w3_7)]) (fun n f7 H locs ls hI ih7 => ?_) _ f3 _ _ _ ⟨hok, hP, hS, 0, rfl, (by first | omega | (simp only [i_lt, i_le, i_eq, ti_m9, ti_m1, ti_0, ti_1, ti_2, ti_3, ti_4, ti_5, ti_6, ti_7, ti_9, ti_12, ti_20, ti_99, ti_700, ti_24, ti_156, ti_72, ti_8, ti_60, ti_543, ti_10, ti_33, ti_51, ti_178, ti_119, ti_111, ti_114, ti_100, ti_32, ti_62, ti_59, ti_48, ti_701, ti_97, ti_122, ti_57, ti_73, ti_128, ti_61] at hlo1 c2 hlo3 c6 ⊢; omega)), lv_sub hl [1, 2, 3, 0] rfl⟩
      obtain ⟨hok, hP, hS, w3_7, hmu7, hlo7, hl⟩ := hI
      subst hmu7
      refine lv_iload_n hx hb dX6_join_32 rfl (lv_at hl 3 rfl) ?_
      refine lv_aload_n hx hb dX6_join_33 rfl (lv_at hl 1 rfl) ?_
      have he8 := ok_X7 hok ha1
      refine vp_callSi (va_Run.run (va_runV (As := []) (rest := [.int w3_7]) ⟨hx, hb, hml, hown, noTs⟩ (t_X7_stepKinds l dC dI H.size G cs tt mm a1 ha1) ⟨cbE 0 (wd_783 hE) (wd_116 hE) (wd_780 hE) rfl rfl (by decide +kernel) ⟨Nat.le_of_ble_eq_true rfl, Nat.le_of_ble_eq_true rfl⟩, (wd_781 hE), (wd_782 hE)⟩ ⟨PT.blind, th_recv hK hP ha1.1 he8 rfl, (th_pre (av := [.ref a1]) trivial hK hP hok hnd hWT hE)⟩ rfl rfl hl.1 rfl (lv_room (Nat.le_of_ble_eq_true rfl)) dX6_join_34 ⟨Nat.le_of_ble_eq_true rfl, Nat.le_of_ble_eq_true rfl⟩)) (fun r9 hr9 => ?_)
      refine lv_icmp_ge (tgt := 77) hx hb dX6_join_37 (by decide) (fun c10 => ?_) (fun c10 => ?_)
      · obtain ⟨z11, ez11⟩ : ∃ z : Int32, z = w2_3 + 1 := ⟨_, rfl⟩
        refine lv_iinc (v := z11) (lv' := [(2, .int z11), (0, .ref a0), (1, .ref a1), (3, .int w3_7)]) hx hb dX6_join_77 hl (k := 2) rfl (by rw [ez11]; rfl) (by decide) rfl (fun ls hl => ?_)
        have ic11 : z11.toInt = w2_3.toInt + 1 := by rw [ez11]; exact ic_up (by have := i_rng w2_1; have := i_rng w2_3; have := i_rng r5; have := i_rng w3_7; have := i_rng r9; simp only [i_lt, i_le, i_eq, ti_m9, ti_m1, ti_0, ti_1, ti_2, ti_3, ti_4, ti_5, ti_6, ti_7, ti_9, ti_12, ti_20, ti_99, ti_700, ti_24, ti_156, ti_72, ti_8, ti_60, ti_543, ti_10, ti_33, ti_51, ti_178, ti_119, ti_111, ti_114, ti_100, ti_32, ti_62, ti_59, ti_48, ti_701, ti_97, ti_122, ti_57, ti_73, ti_128, ti_61] at hlo1 c2 hlo3 c6 hlo7 c10 ⊢; omega)
        refine lv_goto (tgt := 22) hx hb dX6_join_80 (by decide) ?_
        exact ih3 _ f7 _ _ _ (by first | omega | (simp only [i_lt, i_le, i_eq, ti_m9, ti_m1, ti_0, ti_1, ti_2, ti_3, ti_4, ti_5, ti_6, ti_7, ti_9, ti_12, ti_20, ti_99, ti_700, ti_24, ti_156, ti_72, ti_8, ti_60, ti_543, ti_10, ti_33, ti_51, ti_178, ti_119, ti_111, ti_114, ti_100, ti_32, ti_62, ti_59, ti_48, ti_701, ti_97, ti_122, ti_57, ti_73, ti_128, ti_61, ic11] at hlo1 c2 hlo3 c6 hlo7 c10 ic11 ⊢; omega)) ⟨hok, hP, hS, z11, rfl, (by first | omega | (simp only [i_lt, i_le, i_eq, ti_m9, ti_m1, ti_0, ti_1, ti_2, ti_3, ti_4, ti_5, ti_6, ti_7, ti_9, ti_12, ti_20, ti_99, ti_700, ti_24, ti_156, ti_72, ti_8, ti_60, ti_543, ti_10, ti_33, ti_51, ti_178, ti_119, ti_111, ti_114, ti_100, ti_32, ti_62, ti_59, ti_48, ti_701, ti_97, ti_122, ti_57, ti_73, ti_128, ti_61, ic11] at hlo1 c2 hlo3 c6 hlo7 c10 ⊢; omega)), lv_sub hl [1, 2, 0] rfl⟩
      · refine lv_aload_n hx hb dX6_join_40 rfl (lv_at hl 1 rfl) ?_
        refine lv_iload_n hx hb dX6_join_41 rfl (lv_at hl 3 rfl) ?_
        refine vp_callSi (va_Run.run (va_runV (As := [.int w3_7]) (rest := []) ⟨hx, hb, hml, hown, noTs⟩ (t_X7_fromVertex l dC dI H.size G cs tt mm a1 ha1 w3_7) ⟨cbE 1 (wd_677 hE) (wd_116 hE) (wd_784 hE) rfl rfl (by decide +kernel) ⟨Nat.le_of_ble_eq_true rfl, Nat.le_of_ble_eq_true rfl⟩, (wd_675 hE), (wd_676 hE)⟩ ⟨PT.blind, th_recv hK hP ha1.1 he8 rfl, (th_pre (av := [.ref a1, .int w3_7]) trivial hK hP hok hnd hWT hE)⟩ rfl rfl hl.1 rfl (lv_room (Nat.le_of_ble_eq_true rfl)) dX6_join_42 ⟨Nat.le_of_ble_eq_true rfl, Nat.le_of_ble_eq_true rfl⟩)) (fun r12 hr12 => ?_)
        refine lv_istore (lv' := [(4, .int r12), (0, .ref a0), (1, .ref a1), (2, .int w2_3), (3, .int w3_7)]) hx hb dX6_join_45 hl (by decide) rfl (fun ls hl => ?_)
        refine lv_aload_n hx hb dX6_join_47 rfl (lv_at hl 1 rfl) ?_
        refine lv_iload hx hb dX6_join_48 (lv_at hl 0 rfl) ?_
        refine lv_aload_n hx hb dX6_join_50 rfl (lv_at hl 1 rfl) ?_
        refine lv_iload hx hb dX6_join_51 (lv_at hl 0 rfl) ?_
        obtain ⟨y1_13, y2_13, he13⟩ := ok_X6 hok ha0
        refine vp_callSi (va_Run.run (va_runV (As := [.int r12]) (rest := [.int r12, .ref a0]) ⟨hx, hb, hml, hown, noTs⟩ (t_X6_leastOf l dC dI H.size G cs tt mm a0 ha0 r12) ⟨cbE 1 (wd_788 hE) (wd_124 hE) (wd_785 hE) rfl rfl (by decide +kernel) ⟨Nat.le_of_ble_eq_true rfl, Nat.le_of_ble_eq_true rfl⟩, (wd_787 hE), (wd_26 hE)⟩ ⟨PT.blind, th_recv hK hP ha0.1 he13 rfl, (th_pre (av := [.ref a0, .int r12]) trivial hK hP hok hnd hWT hE)⟩ rfl rfl hl.1 rfl (lv_room (Nat.le_of_ble_eq_true rfl)) dX6_join_53 ⟨Nat.le_of_ble_eq_true rfl, Nat.le_of_ble_eq_true rfl⟩)) (fun r14 hr14 => ?_)
        refine lv_aload_n hx hb dX6_join_56 rfl (lv_at hl 1 rfl) ?_
        refine lv_aload_n hx hb dX6_join_57 rfl (lv_at hl 2 rfl) ?_
        refine lv_iload_n hx hb dX6_join_58 rfl (lv_at hl 4 rfl) ?_
        refine vp_callSi (va_Run.run (va_runV (As := [.int w3_7]) (rest := [.ref a0, .int r14, .int r12, .ref a0]) ⟨hx, hb, hml, hown, noTs⟩ (t_X7_toVertex l dC dI H.size G cs tt mm a1 ha1 w3_7) ⟨cbE 1 (wd_692 hE) (wd_116 hE) (wd_789 hE) rfl rfl (by decide +kernel) ⟨Nat.le_of_ble_eq_true rfl, Nat.le_of_ble_eq_true rfl⟩, (wd_690 hE), (wd_691 hE)⟩ ⟨PT.blind, th_recv hK hP ha1.1 he8 rfl, (th_pre (av := [.ref a1, .int w3_7]) trivial hK hP hok hnd hWT hE)⟩ rfl rfl hl.1 rfl (lv_room (Nat.le_of_ble_eq_true rfl)) dX6_join_59 ⟨Nat.le_of_ble_eq_true rfl, Nat.le_of_ble_eq_true rfl⟩)) (fun r15 hr15 => ?_)
        refine vp_callSi (va_Run.run (va_runV (As := [.int r15]) (rest := [.int r14, .int r12, .ref a0]) ⟨hx, hb, hml, hown, noTs⟩ (t_X6_leastOf l dC dI H.size G cs tt mm a0 ha0 r15) ⟨cbE 1 (wd_788 hE) (wd_124 hE) (wd_785 hE) rfl rfl (by decide +kernel) ⟨Nat.le_of_ble_eq_true rfl, Nat.le_of_ble_eq_true rfl⟩, (wd_787 hE), (wd_26 hE)⟩ ⟨PT.blind, th_recv hK hP ha0.1 he13 rfl, (th_pre (av := [.ref a0, .int r15]) trivial hK hP hok hnd hWT hE)⟩ rfl rfl hl.1 rfl (lv_room (Nat.le_of_ble_eq_true rfl)) dX6_join_62 ⟨Nat.le_of_ble_eq_true rfl, Nat.le_of_ble_eq_true rfl⟩)) (fun r16 hr16 => ?_)
        refine va_mmin hx hb (by rw [hml]; exact hl.1.symm) hown (wd_790 hE) (wd_453 hE) (wd_128 hE) (wd_454 hE) (Nat.le_of_ble_eq_true rfl) (Nat.le_of_ble_eq_true rfl) (Nat.le_of_ble_eq_true rfl) (Nat.le_of_ble_eq_true rfl) dX6_join_65 ?_
        refine lv_topi (fun x17 ex17 => ?_)
        have hmn17 : x17 ≤ r14 ∧ x17 ≤ r16 := by rw [ex17]; exact i_min r14 r16
        obtain ⟨hma17, hmb17⟩ := hmn17
        refine tc_v hAL hS hA (va_runV (As := [.int r12, .int x17]) (rest := []) ⟨hx, hb, hml, hown, noTs⟩ (t_X6_setLeast l dC dI H.size G cs tt mm a0 ha0 r12 x17) ⟨cbE 2 (wd_778 hE) (wd_124 hE) (wd_775 hE) rfl rfl (by decide +kernel) ⟨Nat.le_of_ble_eq_true rfl, Nat.le_of_ble_eq_true rfl⟩, (wd_777 hE), (wd_25 hE)⟩ ⟨PT.blind, th_recv hK hP ha0.1 he13 rfl, (th_pre (av := [.ref a0, .int r12, .int x17]) trivial hK hP hok hnd hWT hE)⟩ rfl rfl hl.1 rfl (lv_room (Nat.le_of_ble_eq_true rfl)) dX6_join_68 ⟨Nat.le_of_ble_eq_true rfl, Nat.le_of_ble_eq_true rfl⟩) (fun f18 H locs hr18 hok hP hS => ?_)
        obtain ⟨z19, ez19⟩ : ∃ z : Int32, z = w3_7 + 1 := ⟨_, rfl⟩
        refine lv_iinc (v := z19) (lv' := [(3, .int z19), (4, .int r12), (0, .ref a0), (1, .ref a1), (2, .int w2_3)]) hx hb dX6_join_71 hl (k := 4) rfl (by rw [ez19]; rfl) (by decide) rfl (fun ls hl => ?_)
        have ic19 : z19.toInt = w3_7.toInt + 1 := by rw [ez19]; exact ic_up (by have := i_rng w2_1; have := i_rng w2_3; have := i_rng r5; have := i_rng w3_7; have := i_rng r9; simp only [i_lt, i_le, i_eq, ti_m9, ti_m1, ti_0, ti_1, ti_2, ti_3, ti_4, ti_5, ti_6, ti_7, ti_9, ti_12, ti_20, ti_99, ti_700, ti_24, ti_156, ti_72, ti_8, ti_60, ti_543, ti_10, ti_33, ti_51, ti_178, ti_119, ti_111, ti_114, ti_100, ti_32, ti_62, ti_59, ti_48, ti_701, ti_97, ti_122, ti_57, ti_73, ti_128, ti_61] at hlo1 c2 hlo3 c6 hlo7 c10 hma17 hmb17 ⊢; omega)
        refine lv_goto (tgt := 32) hx hb dX6_join_74 (by decide) ?_
        exact ih7 _ f18 _ _ _ (by first | omega | (simp only [i_lt, i_le, i_eq, ti_m9, ti_m1, ti_0, ti_1, ti_2, ti_3, ti_4, ti_5, ti_6, ti_7, ti_9, ti_12, ti_20, ti_99, ti_700, ti_24, ti_156, ti_72, ti_8, ti_60, ti_543, ti_10, ti_33, ti_51, ti_178, ti_119, ti_111, ti_114, ti_100, ti_32, ti_62, ti_59, ti_48, ti_701, ti_97, ti_122, ti_57, ti_73, ti_128, ti_61, ic19] at hlo1 c2 hlo3 c6 hlo7 c10 hma17 hmb17 ic19 ⊢; omega)) ⟨hok, hP, hS, z19, rfl, (by first | omega | (simp only [i_lt, i_le, i_eq, ti_m9, ti_m1, ti_0, ti_1, ti_2, ti_3, ti_4, ti_5, ti_6, ti_7, ti_9, ti_12, ti_20, ti_99, ti_700, ti_24, ti_156, ti_72, ti_8, ti_60, ti_543, ti_10, ti_33, ti_51, ti_178, ti_119, ti_111, ti_114, ti_100, ti_32, ti_62, ti_59, ti_48, ti_701, ti_97, ti_122, ti_57, ti_73, ti_128, ti_61, ic19] at hlo1 c2 hlo3 c6 hlo7 c10 hma17 hmb17 ⊢; omega)), lv_sub hl [2, 3, 4, 0] rfl⟩
  · refine lv_aload_n hx hb dX6_join_8 rfl (lv_at hl 0 rfl) ?_
    refine lv_iload_n hx hb dX6_join_9 rfl (lv_at hl 2 rfl) ?_
    refine lv_iload_n hx hb dX6_join_10 rfl (lv_at hl 2 rfl) ?_
    obtain ⟨y1_20, y2_20, he20⟩ := ok_X6 hok ha0
    refine tc_v hAL hS hA (va_runV (As := [.int w2_1, .int w2_1]) (rest := []) ⟨hx, hb, hml, hown, noTs⟩ (t_X6_setLeast l dC dI H.size G cs tt mm a0 ha0 w2_1 w2_1) ⟨cbE 2 (wd_778 hE) (wd_124 hE) (wd_775 hE) rfl rfl (by decide +kernel) ⟨Nat.le_of_ble_eq_true rfl, Nat.le_of_ble_eq_true rfl⟩, (wd_777 hE), (wd_25 hE)⟩ ⟨PT.blind, th_recv hK hP ha0.1 he20 rfl, (th_pre (av := [.ref a0, .int w2_1, .int w2_1]) trivial hK hP hok hnd hWT hE)⟩ rfl rfl hl.1 rfl (lv_room (Nat.le_of_ble_eq_true rfl)) dX6_join_11 ⟨Nat.le_of_ble_eq_true rfl, Nat.le_of_ble_eq_true rfl⟩) (fun f21 H locs hr21 hok hP hS => ?_)
    obtain ⟨z22, ez22⟩ : ∃ z : Int32, z = w2_1 + 1 := ⟨_, rfl⟩
    refine lv_iinc (v := z22) (lv' := [(2, .int z22), (0, .ref a0), (1, .ref a1)]) hx hb dX6_join_14 hl (k := 2) rfl (by rw [ez22]; rfl) (by decide) rfl (fun ls hl => ?_)
    have ic22 : z22.toInt = w2_1.toInt + 1 := by rw [ez22]; exact ic_up (by have := i_rng w2_1; simp only [i_lt, i_le, i_eq, ti_m9, ti_m1, ti_0, ti_1, ti_2, ti_3, ti_4, ti_5, ti_6, ti_7, ti_9, ti_12, ti_20, ti_99, ti_700, ti_24, ti_156, ti_72, ti_8, ti_60, ti_543, ti_10, ti_33, ti_51, ti_178, ti_119, ti_111, ti_114, ti_100, ti_32, ti_62, ti_59, ti_48, ti_701, ti_97, ti_122, ti_57, ti_73, ti_128, ti_61] at hlo1 c2 ⊢; omega)
    refine lv_goto (tgt := 2) hx hb dX6_join_17 (by decide) ?_
    exact ih1 _ f21 _ _ _ (by first | omega | (simp only [i_lt, i_le, i_eq, ti_m9, ti_m1, ti_0, ti_1, ti_2, ti_3, ti_4, ti_5, ti_6, ti_7, ti_9, ti_12, ti_20, ti_99, ti_700, ti_24, ti_156, ti_72, ti_8, ti_60, ti_543, ti_10, ti_33, ti_51, ti_178, ti_119, ti_111, ti_114, ti_100, ti_32, ti_62, ti_59, ti_48, ti_701, ti_97, ti_122, ti_57, ti_73, ti_128, ti_61, ic22] at hlo1 c2 ic22 ⊢; omega)) ⟨hok, hP, hS, z22, rfl, (by first | omega | (simp only [i_lt, i_le, i_eq, ti_m9, ti_m1, ti_0, ti_1, ti_2, ti_3, ti_4, ti_5, ti_6, ti_7, ti_9, ti_12, ti_20, ti_99, ti_700, ti_24, ti_156, ti_72, ti_8, ti_60, ti_543, ti_10, ti_33, ti_51, ti_178, ti_119, ti_111, ti_114, ti_100, ti_32, ti_62, ti_59, ti_48, ti_701, ti_97, ti_122, ti_57, ti_73, ti_128, ti_61, ic22] at hlo1 c2 ⊢; omega)), lv_sub hl [1, 2, 0] rfl⟩

set_option maxHeartbeats 4000000 in
set_option maxRecDepth 100000 in
theorem t_X6_parts (l : Launch) (dC : Nat → ClassId) (dI : Nat → Nat → Nat) (sz : Nat) (G : GT) (cs : Nat → ClassId) (tt mm : Nat) (a0 : Nat) (ha0 : Ty G a0 6) (a1 : Nat) (ha1 : Ty G a1 7) : Met l yX6_parts [.code yX6_parts cX6_parts 4 (some .int)] ({ frames := 3, cells := 0, slots := 0, locals := 120 }) (PT [.ref a0, .ref a1] sz dC dI G cs tt mm (fun _ => True)) (va_Qi (fun (r : Int32) (u : Nat → va_E) => True) (BT dC dI G cs tt mm) (AT G sz)) 0 0 (AT G sz) := by
  refine Met.ofW (cc := cX6_parts) (maxL := 4) (ret := (some .int)) (by decide) rfl ?_
  intro p e s m args below meth c s₁ B hml hv
  obtain ⟨rfl, hsz, ⟨f0, hok, hP, hX⟩, hK, hnd, hWT, hE⟩ := hv
  have hx := B.exec
  have hb := B.bytes
  have hr := B.returns
  have hown : s.vm.findClass RX6 = some m.cls := findClass_of_methodNamed B.named
  have hlocks := B.notSynchronized
  subst hsz
  have hAL : ∀ a, a ∈ gL G → AT G s.heap.size a := fun a h => Or.inl h
  have hA : ∀ q : Nat, s.heap.size ≤ q → AT G s.heap.size q := fun q h => Or.inr h
  have hS : va_S (AT G s.heap.size) s.heap s.heap [] := va_S.rf
  have hl := lv_entry ([.ref a0, .ref a1]) (n := 4) (Nat.le_of_ble_eq_true rfl)
  rw [lg_entry_eq]
  generalize (lg_sl ([.ref a0, .ref a1]) ++ List.replicate (4 - (lg_sl ([.ref a0, .ref a1])).length) Slot.unset).toArray = ls at hl ⊢
  have hl : lv_has ls 4 [(0, .ref a0), (1, .ref a1)] := hl
  refine lv_aload_n hx hb dX6_parts_0 rfl (lv_at hl 0 rfl) ?_
  refine lv_aload_n hx hb dX6_parts_1 rfl (lv_at hl 1 rfl) ?_
  obtain ⟨y1_1, y2_1, he1⟩ := ok_X6 hok ha0
  refine tc_v hAL hS hA (va_runV (As := [.ref a1]) (rest := []) ⟨hx, hb, hml, hown, noTs⟩ (t_X6_join l dC dI s.heap.size G cs tt mm a0 ha0 a1 ha1) ⟨cbE 1 (wd_774 hE) (wd_124 hE) (wd_771 hE) rfl rfl (by decide +kernel) ⟨Nat.le_of_ble_eq_true rfl, Nat.le_of_ble_eq_true rfl⟩, (wd_773 hE), (wd_24 hE)⟩ ⟨PT.blind, th_recv hK hP ha0.1 he1 rfl, (th_pre (av := [.ref a0, .ref a1]) trivial hK hP hok hnd hWT hE)⟩ rfl rfl hl.1 rfl (lv_room (Nat.le_of_ble_eq_true rfl)) dX6_parts_2 ⟨Nat.le_of_ble_eq_true rfl, Nat.le_of_ble_eq_true rfl⟩) (fun f2 H locs hr2 hok hP hS => ?_)
  refine lv_iconst (v := 0) hx hb dX6_parts_5 (by decide) ?_
  refine lv_istore_n (lv' := [(2, .int 0), (0, .ref a0), (1, .ref a1)]) hx hb dX6_parts_6 rfl hl (by decide) rfl (fun ls hl => ?_)
  refine lv_iconst (v := 0) hx hb dX6_parts_7 (by decide) ?_
  refine lv_istore_n (lv' := [(3, .int 0), (2, .int 0), (0, .ref a0), (1, .ref a1)]) hx hb dX6_parts_8 rfl hl (by decide) rfl (fun ls hl => ?_)
  refine w_ind (I := fun n f H locs ls => OKT G cs tt mm f ∧ va_P (dC, dI) vwCl (va_pl (gL G) f) H ∧ va_S (AT G s.heap.size) s.heap H locs ∧ ∃ (w2_3 : Int32) (w3_3 : Int32), n = (2147483647 - w3_3.toInt).toNat ∧ 0 ≤ w3_3 ∧ lv_has ls 4 [(0, .ref a0), (1, .ref a1), (2, .int w2_3), (3, .int w3_3)]) (fun n f3 H locs ls hI ih3 => ?_) _ f2 _ _ _ ⟨hok, hP, hS, 0, 0, rfl, (by first | omega | (simp only [i_lt, i_le, i_eq, ti_m9, ti_m1, ti_0, ti_1, ti_2, ti_3, ti_4, ti_5, ti_6, ti_7, ti_9, ti_12, ti_20, ti_99, ti_700, ti_24, ti_156, ti_72, ti_8, ti_60, ti_543, ti_10, ti_33, ti_51, ti_178, ti_119, ti_111, ti_114, ti_100, ti_32, ti_62, ti_59, ti_48, ti_701, ti_97, ti_122, ti_57, ti_73, ti_128, ti_61]; omega)), lv_sub hl [2, 3, 1, 0] rfl⟩
  obtain ⟨hok, hP, hS, w2_3, w3_3, hmu3, hlo3, hl⟩ := hI
  subst hmu3
  refine lv_iload_n hx hb dX6_parts_9 rfl (lv_at hl 3 rfl) ?_
  refine lv_aload_n hx hb dX6_parts_10 rfl (lv_at hl 1 rfl) ?_
  have he4 := ok_X7 hok ha1
  refine vp_callSi (va_Run.run (va_runV (As := []) (rest := [.int w3_3]) ⟨hx, hb, hml, hown, noTs⟩ (t_X7_vertices l dC dI H.size G cs tt mm a1 ha1) ⟨cbE 0 (wd_557 hE) (wd_116 hE) (wd_779 hE) rfl rfl (by decide +kernel) ⟨Nat.le_of_ble_eq_true rfl, Nat.le_of_ble_eq_true rfl⟩, (wd_555 hE), (wd_556 hE)⟩ ⟨PT.blind, th_recv hK hP ha1.1 he4 rfl, (th_pre (av := [.ref a1]) trivial hK hP hok hnd hWT hE)⟩ rfl rfl hl.1 rfl (lv_room (Nat.le_of_ble_eq_true rfl)) dX6_parts_11 ⟨Nat.le_of_ble_eq_true rfl, Nat.le_of_ble_eq_true rfl⟩)) (fun r5 hr5 => ?_)
  refine lv_icmp_ge (tgt := 43) hx hb dX6_parts_14 (by decide) (fun c6 => ?_) (fun c6 => ?_)
  · refine lv_iload_n hx hb dX6_parts_43 rfl (lv_at hl 2 rfl) ?_
    exact W.iret (v := w2_3) hx hb hr (fun t ht hW => ⟨⟨w2_3, f3, rfl, trivial, hok, by rw [ht]; exact hP⟩, hS.F ht⟩) hS.2.2 dX6_parts_44
  · refine lv_iload_n hx hb dX6_parts_17 rfl (lv_at hl 2 rfl) ?_
    refine lv_aload_n hx hb dX6_parts_18 rfl (lv_at hl 0 rfl) ?_
    refine lv_iload_n hx hb dX6_parts_19 rfl (lv_at hl 3 rfl) ?_
    obtain ⟨y1_7, y2_7, he7⟩ := ok_X6 hok ha0
    refine vp_callSi (va_Run.run (va_runV (As := [.int w3_3]) (rest := [.int w2_3]) ⟨hx, hb, hml, hown, noTs⟩ (t_X6_leastOf l dC dI H.size G cs tt mm a0 ha0 w3_3) ⟨cbE 1 (wd_788 hE) (wd_124 hE) (wd_785 hE) rfl rfl (by decide +kernel) ⟨Nat.le_of_ble_eq_true rfl, Nat.le_of_ble_eq_true rfl⟩, (wd_787 hE), (wd_26 hE)⟩ ⟨PT.blind, th_recv hK hP ha0.1 he7 rfl, (th_pre (av := [.ref a0, .int w3_3]) trivial hK hP hok hnd hWT hE)⟩ rfl rfl hl.1 rfl (lv_room (Nat.le_of_ble_eq_true rfl)) dX6_parts_20 ⟨Nat.le_of_ble_eq_true rfl, Nat.le_of_ble_eq_true rfl⟩)) (fun r8 hr8 => ?_)
    refine lv_iload_n hx hb dX6_parts_23 rfl (lv_at hl 3 rfl) ?_
    refine lv_icmp_ne (tgt := 31) hx hb dX6_parts_24 (by decide) (fun c9 => ?_) (fun c9 => ?_)
    · refine lv_iconst (v := 0) hx hb dX6_parts_31 (by decide) ?_
      refine vp_callSi (va_Run.run (va_runSN (As := [.int 0]) (rest := [.int w2_3]) ⟨hx, hb, hml, hown, noTs⟩ (t_X11_bit l dC dI H.size G cs tt mm 0) ⟨cnE 1 (wd_669 hE) (wd_115 hE) (wd_791 hE) rfl rfl (by decide +kernel) ⟨Nat.le_of_ble_eq_true rfl, Nat.le_of_ble_eq_true rfl⟩, (wd_668 hE), trivial⟩ ⟨PT.blind, (th_pre (av := [.int 0]) trivial hK hP hok hnd hWT hE)⟩ rfl rfl hl.1 rfl (lv_room (Nat.le_of_ble_eq_true rfl)) dX6_parts_32 ⟨Nat.le_of_ble_eq_true rfl, Nat.le_of_ble_eq_true rfl⟩)) (fun r10 hr10 => ?_)
      refine lv_iadd hx hb dX6_parts_35 ?_
      refine lv_topi (fun x11 ex11 => ?_)
      refine lv_istore_n (lv' := [(2, .int x11), (0, .ref a0), (1, .ref a1), (3, .int w3_3)]) hx hb dX6_parts_36 rfl hl (by decide) rfl (fun ls hl => ?_)
      obtain ⟨z12, ez12⟩ : ∃ z : Int32, z = w3_3 + 1 := ⟨_, rfl⟩
      refine lv_iinc (v := z12) (lv' := [(3, .int z12), (2, .int x11), (0, .ref a0), (1, .ref a1)]) hx hb dX6_parts_37 hl (k := 3) rfl (by rw [ez12]; rfl) (by decide) rfl (fun ls hl => ?_)
      have ic12 : z12.toInt = w3_3.toInt + 1 := by rw [ez12]; exact ic_up (by have := i_rng w3_3; have := i_rng r5; have := i_rng r8; simp only [i_lt, i_le, i_eq, ti_m9, ti_m1, ti_0, ti_1, ti_2, ti_3, ti_4, ti_5, ti_6, ti_7, ti_9, ti_12, ti_20, ti_99, ti_700, ti_24, ti_156, ti_72, ti_8, ti_60, ti_543, ti_10, ti_33, ti_51, ti_178, ti_119, ti_111, ti_114, ti_100, ti_32, ti_62, ti_59, ti_48, ti_701, ti_97, ti_122, ti_57, ti_73, ti_128, ti_61] at hlo3 c6 c9 ⊢; omega)
      refine lv_goto (tgt := 9) hx hb dX6_parts_40 (by decide) ?_
      exact ih3 _ f3 _ _ _ (by first | omega | (simp only [i_lt, i_le, i_eq, ti_m9, ti_m1, ti_0, ti_1, ti_2, ti_3, ti_4, ti_5, ti_6, ti_7, ti_9, ti_12, ti_20, ti_99, ti_700, ti_24, ti_156, ti_72, ti_8, ti_60, ti_543, ti_10, ti_33, ti_51, ti_178, ti_119, ti_111, ti_114, ti_100, ti_32, ti_62, ti_59, ti_48, ti_701, ti_97, ti_122, ti_57, ti_73, ti_128, ti_61, ic12] at hlo3 c6 c9 ic12 ⊢; omega)) ⟨hok, hP, hS, x11, z12, rfl, (by first | omega | (simp only [i_lt, i_le, i_eq, ti_m9, ti_m1, ti_0, ti_1, ti_2, ti_3, ti_4, ti_5, ti_6, ti_7, ti_9, ti_12, ti_20, ti_99, ti_700, ti_24, ti_156, ti_72, ti_8, ti_60, ti_543, ti_10, ti_33, ti_51, ti_178, ti_119, ti_111, ti_114, ti_100, ti_32, ti_62, ti_59, ti_48, ti_701, ti_97, ti_122, ti_57, ti_73, ti_128, ti_61, ic12] at hlo3 c6 c9 ⊢; omega)), lv_sub hl [2, 3, 1, 0] rfl⟩
    · refine lv_iconst (v := 1) hx hb dX6_parts_27 (by decide) ?_
      refine lv_goto (tgt := 32) hx hb dX6_parts_28 (by decide) ?_
      refine vp_callSi (va_Run.run (va_runSN (As := [.int 1]) (rest := [.int w2_3]) ⟨hx, hb, hml, hown, noTs⟩ (t_X11_bit l dC dI H.size G cs tt mm 1) ⟨cnE 1 (wd_669 hE) (wd_115 hE) (wd_791 hE) rfl rfl (by decide +kernel) ⟨Nat.le_of_ble_eq_true rfl, Nat.le_of_ble_eq_true rfl⟩, (wd_668 hE), trivial⟩ ⟨PT.blind, (th_pre (av := [.int 1]) trivial hK hP hok hnd hWT hE)⟩ rfl rfl hl.1 rfl (lv_room (Nat.le_of_ble_eq_true rfl)) dX6_parts_32 ⟨Nat.le_of_ble_eq_true rfl, Nat.le_of_ble_eq_true rfl⟩)) (fun r13 hr13 => ?_)
      refine lv_iadd hx hb dX6_parts_35 ?_
      refine lv_topi (fun x14 ex14 => ?_)
      refine lv_istore_n (lv' := [(2, .int x14), (0, .ref a0), (1, .ref a1), (3, .int w3_3)]) hx hb dX6_parts_36 rfl hl (by decide) rfl (fun ls hl => ?_)
      obtain ⟨z15, ez15⟩ : ∃ z : Int32, z = w3_3 + 1 := ⟨_, rfl⟩
      refine lv_iinc (v := z15) (lv' := [(3, .int z15), (2, .int x14), (0, .ref a0), (1, .ref a1)]) hx hb dX6_parts_37 hl (k := 3) rfl (by rw [ez15]; rfl) (by decide) rfl (fun ls hl => ?_)
      have ic15 : z15.toInt = w3_3.toInt + 1 := by rw [ez15]; exact ic_up (by have := i_rng w3_3; have := i_rng r5; have := i_rng r8; simp only [i_lt, i_le, i_eq, ti_m9, ti_m1, ti_0, ti_1, ti_2, ti_3, ti_4, ti_5, ti_6, ti_7, ti_9, ti_12, ti_20, ti_99, ti_700, ti_24, ti_156, ti_72, ti_8, ti_60, ti_543, ti_10, ti_33, ti_51, ti_178, ti_119, ti_111, ti_114, ti_100, ti_32, ti_62, ti_59, ti_48, ti_701, ti_97, ti_122, ti_57, ti_73, ti_128, ti_61] at hlo3 c6 c9 ⊢; omega)
      refine lv_goto (tgt := 9) hx hb dX6_parts_40 (by decide) ?_
      exact ih3 _ f3 _ _ _ (by first | omega | (simp only [i_lt, i_le, i_eq, ti_m9, ti_m1, ti_0, ti_1, ti_2, ti_3, ti_4, ti_5, ti_6, ti_7, ti_9, ti_12, ti_20, ti_99, ti_700, ti_24, ti_156, ti_72, ti_8, ti_60, ti_543, ti_10, ti_33, ti_51, ti_178, ti_119, ti_111, ti_114, ti_100, ti_32, ti_62, ti_59, ti_48, ti_701, ti_97, ti_122, ti_57, ti_73, ti_128, ti_61, ic15] at hlo3 c6 c9 ic15 ⊢; omega)) ⟨hok, hP, hS, x14, z15, rfl, (by first | omega | (simp only [i_lt, i_le, i_eq, ti_m9, ti_m1, ti_0, ti_1, ti_2, ti_3, ti_4, ti_5, ti_6, ti_7, ti_9, ti_12, ti_20, ti_99, ti_700, ti_24, ti_156, ti_72, ti_8, ti_60, ti_543, ti_10, ti_33, ti_51, ti_178, ti_119, ti_111, ti_114, ti_100, ti_32, ti_62, ti_59, ti_48, ti_701, ti_97, ti_122, ti_57, ti_73, ti_128, ti_61, ic15] at hlo3 c6 c9 ⊢; omega)), lv_sub hl [2, 3, 1, 0] rfl⟩

set_option maxHeartbeats 4000000 in
set_option maxRecDepth 100000 in
theorem t_X6_centralOrder (l : Launch) (dC : Nat → ClassId) (dI : Nat → Nat → Nat) (sz : Nat) (G : GT) (cs : Nat → ClassId) (tt mm : Nat) (a0 : Nat) (ha0 : Ty G a0 6) (a1 : Nat) (ha1 : Ty G a1 7) (v2 : Int32) : Met l yX6_centralOrder [.code yX6_centralOrder cX6_centralOrder 6 (some .int)] ({ frames := 3, cells := 0, slots := 0, locals := 120 }) (PT [.ref a0, .ref a1, .int v2] sz dC dI G cs tt mm (fun _ => True)) (va_Qi (fun (r : Int32) (u : Nat → va_E) => True) (BT dC dI G cs tt mm) (AT G sz)) 0 0 (AT G sz) := by
  refine Met.ofW (cc := cX6_centralOrder) (maxL := 6) (ret := (some .int)) (by decide) rfl ?_
  intro p e s m args below meth c s₁ B hml hv
  obtain ⟨rfl, hsz, ⟨f0, hok, hP, hX⟩, hK, hnd, hWT, hE⟩ := hv
  have hx := B.exec
  have hb := B.bytes
  have hr := B.returns
  have hown : s.vm.findClass RX6 = some m.cls := findClass_of_methodNamed B.named
  have hlocks := B.notSynchronized
  subst hsz
  have hAL : ∀ a, a ∈ gL G → AT G s.heap.size a := fun a h => Or.inl h
  have hA : ∀ q : Nat, s.heap.size ≤ q → AT G s.heap.size q := fun q h => Or.inr h
  have hS : va_S (AT G s.heap.size) s.heap s.heap [] := va_S.rf
  have hl := lv_entry ([.ref a0, .ref a1, .int v2]) (n := 6) (Nat.le_of_ble_eq_true rfl)
  rw [lg_entry_eq]
  generalize (lg_sl ([.ref a0, .ref a1, .int v2]) ++ List.replicate (6 - (lg_sl ([.ref a0, .ref a1, .int v2])).length) Slot.unset).toArray = ls at hl ⊢
  have hl : lv_has ls 6 [(0, .ref a0), (1, .ref a1), (2, .int v2)] := hl
  refine lv_aload_n hx hb dX6_centralOrder_0 rfl (lv_at hl 0 rfl) ?_
  refine lv_aload_n hx hb dX6_centralOrder_1 rfl (lv_at hl 1 rfl) ?_
  obtain ⟨y1_1, y2_1, he1⟩ := ok_X6 hok ha0
  refine tc_v hAL hS hA (va_runV (As := [.ref a1]) (rest := []) ⟨hx, hb, hml, hown, noTs⟩ (t_X6_join l dC dI s.heap.size G cs tt mm a0 ha0 a1 ha1) ⟨cbE 1 (wd_774 hE) (wd_124 hE) (wd_771 hE) rfl rfl (by decide +kernel) ⟨Nat.le_of_ble_eq_true rfl, Nat.le_of_ble_eq_true rfl⟩, (wd_773 hE), (wd_24 hE)⟩ ⟨PT.blind, th_recv hK hP ha0.1 he1 rfl, (th_pre (av := [.ref a0, .ref a1]) trivial hK hP hok hnd hWT hE)⟩ rfl rfl hl.1 rfl (lv_room (Nat.le_of_ble_eq_true rfl)) dX6_centralOrder_2 ⟨Nat.le_of_ble_eq_true rfl, Nat.le_of_ble_eq_true rfl⟩) (fun f2 H locs hr2 hok hP hS => ?_)
  refine lv_aload_n hx hb dX6_centralOrder_5 rfl (lv_at hl 1 rfl) ?_
  refine lv_iload_n hx hb dX6_centralOrder_6 rfl (lv_at hl 2 rfl) ?_
  have he3 := ok_X7 hok ha1
  refine vp_callSi (va_Run.run (va_runV (As := [.int v2]) (rest := []) ⟨hx, hb, hml, hown, noTs⟩ (t_X7_orderAt l dC dI H.size G cs tt mm a1 ha1 v2) ⟨cbE 1 (wd_614 hE) (wd_116 hE) (wd_1199 hE) rfl rfl (by decide +kernel) ⟨Nat.le_of_ble_eq_true rfl, Nat.le_of_ble_eq_true rfl⟩, (wd_612 hE), (wd_613 hE)⟩ ⟨PT.blind, th_recv hK hP ha1.1 he3 rfl, (th_pre (av := [.ref a1, .int v2]) trivial hK hP hok hnd hWT hE)⟩ rfl rfl hl.1 rfl (lv_room (Nat.le_of_ble_eq_true rfl)) dX6_centralOrder_7 ⟨Nat.le_of_ble_eq_true rfl, Nat.le_of_ble_eq_true rfl⟩)) (fun r4 hr4 => ?_)
  refine lv_i2l hx hb dX6_centralOrder_10 rfl ?_
  refine lv_topl (fun x5 _ => ?_)
  refine lv_lstore_n (lv' := [(3, .long x5), (0, .ref a0), (1, .ref a1), (2, .int v2)]) hx hb dX6_centralOrder_11 rfl hl (by decide) rfl (fun ls hl => ?_)
  refine lv_iconst (v := 0) hx hb dX6_centralOrder_12 (by decide) ?_
  refine lv_istore (lv' := [(5, .int 0), (3, .long x5), (0, .ref a0), (1, .ref a1), (2, .int v2)]) hx hb dX6_centralOrder_13 hl (by decide) rfl (fun ls hl => ?_)
  refine w_ind (I := fun n f H locs ls => OKT G cs tt mm f ∧ va_P (dC, dI) vwCl (va_pl (gL G) f) H ∧ va_S (AT G s.heap.size) s.heap H locs ∧ ∃ (w3_6 : Int64) (w5_6 : Int32), n = (2147483647 - w5_6.toInt).toNat ∧ 0 ≤ w5_6 ∧ lv_has ls 6 [(0, .ref a0), (1, .ref a1), (2, .int v2), (3, .long w3_6), (5, .int w5_6)]) (fun n f6 H locs ls hI ih6 => ?_) _ f2 _ _ _ ⟨hok, hP, hS, x5, 0, rfl, (by first | omega | (simp only [i_lt, i_le, i_eq, ti_m9, ti_m1, ti_0, ti_1, ti_2, ti_3, ti_4, ti_5, ti_6, ti_7, ti_9, ti_12, ti_20, ti_99, ti_700, ti_24, ti_156, ti_72, ti_8, ti_60, ti_543, ti_10, ti_33, ti_51, ti_178, ti_119, ti_111, ti_114, ti_100, ti_32, ti_62, ti_59, ti_48, ti_701, ti_97, ti_122, ti_57, ti_73, ti_128, ti_61]; omega)), lv_sub hl [2, 3, 4, 1, 0] rfl⟩
  obtain ⟨hok, hP, hS, w3_6, w5_6, hmu6, hlo6, hl⟩ := hI
  subst hmu6
  refine lv_iload hx hb dX6_centralOrder_15 (lv_at hl 4 rfl) ?_
  refine lv_aload_n hx hb dX6_centralOrder_17 rfl (lv_at hl 1 rfl) ?_
  have he7 := ok_X7 hok ha1
  refine vp_callSi (va_Run.run (va_runV (As := []) (rest := [.int w5_6]) ⟨hx, hb, hml, hown, noTs⟩ (t_X7_edges l dC dI H.size G cs tt mm a1 ha1) ⟨cbE 0 (wd_598 hE) (wd_116 hE) (wd_1200 hE) rfl rfl (by decide +kernel) ⟨Nat.le_of_ble_eq_true rfl, Nat.le_of_ble_eq_true rfl⟩, (wd_596 hE), (wd_597 hE)⟩ ⟨PT.blind, th_recv hK hP ha1.1 he7 rfl, (th_pre (av := [.ref a1]) trivial hK hP hok hnd hWT hE)⟩ rfl rfl hl.1 rfl (lv_room (Nat.le_of_ble_eq_true rfl)) dX6_centralOrder_18 ⟨Nat.le_of_ble_eq_true rfl, Nat.le_of_ble_eq_true rfl⟩)) (fun r8 hr8 => ?_)
  refine lv_icmp_ge (tgt := 61) hx hb dX6_centralOrder_21 (by decide) (fun c9 => ?_) (fun c9 => ?_)
  · refine lv_lload_n hx hb dX6_centralOrder_61 rfl (lv_at hl 3 rfl) ?_
    refine lv_l2i hx hb dX6_centralOrder_62 rfl ?_
    refine lv_topi (fun x10 _ => ?_)
    exact W.iret (v := x10) hx hb hr (fun t ht hW => ⟨⟨x10, f6, rfl, trivial, hok, by rw [ht]; exact hP⟩, hS.F ht⟩) hS.2.2 dX6_centralOrder_63
  · refine lv_aload_n hx hb dX6_centralOrder_24 rfl (lv_at hl 0 rfl) ?_
    refine lv_aload_n hx hb dX6_centralOrder_25 rfl (lv_at hl 1 rfl) ?_
    refine lv_iload hx hb dX6_centralOrder_26 (lv_at hl 4 rfl) ?_
    refine lv_iconst (v := 0) hx hb dX6_centralOrder_28 (by decide) ?_
    refine vp_callSi (va_Run.run (va_runV (As := [.int w5_6, .int 0]) (rest := [.ref a0]) ⟨hx, hb, hml, hown, noTs⟩ (t_X7_edgePart l dC dI H.size G cs tt mm a1 ha1 w5_6 0) ⟨cbE 2 (wd_684 hE) (wd_116 hE) (wd_1201 hE) rfl rfl (by decide +kernel) ⟨Nat.le_of_ble_eq_true rfl, Nat.le_of_ble_eq_true rfl⟩, (wd_682 hE), (wd_683 hE)⟩ ⟨PT.blind, th_recv hK hP ha1.1 he7 rfl, (th_pre (av := [.ref a1, .int w5_6, .int 0]) trivial hK hP hok hnd hWT hE)⟩ rfl rfl hl.1 rfl (lv_room (Nat.le_of_ble_eq_true rfl)) dX6_centralOrder_29 ⟨Nat.le_of_ble_eq_true rfl, Nat.le_of_ble_eq_true rfl⟩)) (fun r11 hr11 => ?_)
    obtain ⟨y1_12, y2_12, he12⟩ := ok_X6 hok ha0
    refine vp_callSi (va_Run.run (va_runV (As := [.int r11]) (rest := []) ⟨hx, hb, hml, hown, noTs⟩ (t_X6_leastOf l dC dI H.size G cs tt mm a0 ha0 r11) ⟨cbE 1 (wd_788 hE) (wd_124 hE) (wd_785 hE) rfl rfl (by decide +kernel) ⟨Nat.le_of_ble_eq_true rfl, Nat.le_of_ble_eq_true rfl⟩, (wd_787 hE), (wd_26 hE)⟩ ⟨PT.blind, th_recv hK hP ha0.1 he12 rfl, (th_pre (av := [.ref a0, .int r11]) trivial hK hP hok hnd hWT hE)⟩ rfl rfl hl.1 rfl (lv_room (Nat.le_of_ble_eq_true rfl)) dX6_centralOrder_32 ⟨Nat.le_of_ble_eq_true rfl, Nat.le_of_ble_eq_true rfl⟩)) (fun r13 hr13 => ?_)
    refine lv_aload_n hx hb dX6_centralOrder_35 rfl (lv_at hl 0 rfl) ?_
    refine lv_iload_n hx hb dX6_centralOrder_36 rfl (lv_at hl 2 rfl) ?_
    refine vp_callSi (va_Run.run (va_runV (As := [.int v2]) (rest := [.int r13]) ⟨hx, hb, hml, hown, noTs⟩ (t_X6_leastOf l dC dI H.size G cs tt mm a0 ha0 v2) ⟨cbE 1 (wd_788 hE) (wd_124 hE) (wd_785 hE) rfl rfl (by decide +kernel) ⟨Nat.le_of_ble_eq_true rfl, Nat.le_of_ble_eq_true rfl⟩, (wd_787 hE), (wd_26 hE)⟩ ⟨PT.blind, th_recv hK hP ha0.1 he12 rfl, (th_pre (av := [.ref a0, .int v2]) trivial hK hP hok hnd hWT hE)⟩ rfl rfl hl.1 rfl (lv_room (Nat.le_of_ble_eq_true rfl)) dX6_centralOrder_37 ⟨Nat.le_of_ble_eq_true rfl, Nat.le_of_ble_eq_true rfl⟩)) (fun r14 hr14 => ?_)
    refine lv_icmp_ne (tgt := 55) hx hb dX6_centralOrder_40 (by decide) (fun c15 => ?_) (fun c15 => ?_)
    · obtain ⟨z16, ez16⟩ : ∃ z : Int32, z = w5_6 + 1 := ⟨_, rfl⟩
      refine lv_iinc (v := z16) (lv' := [(5, .int z16), (0, .ref a0), (1, .ref a1), (2, .int v2), (3, .long w3_6)]) hx hb dX6_centralOrder_55 hl (k := 4) rfl (by rw [ez16]; rfl) (by decide) rfl (fun ls hl => ?_)
      have ic16 : z16.toInt = w5_6.toInt + 1 := by rw [ez16]; exact ic_up (by have := i_rng w5_6; have := i_rng r8; have := i_rng r13; have := i_rng r14; simp only [i_lt, i_le, i_eq, ti_m9, ti_m1, ti_0, ti_1, ti_2, ti_3, ti_4, ti_5, ti_6, ti_7, ti_9, ti_12, ti_20, ti_99, ti_700, ti_24, ti_156, ti_72, ti_8, ti_60, ti_543, ti_10, ti_33, ti_51, ti_178, ti_119, ti_111, ti_114, ti_100, ti_32, ti_62, ti_59, ti_48, ti_701, ti_97, ti_122, ti_57, ti_73, ti_128, ti_61] at hlo6 c9 c15 ⊢; omega)
      refine lv_goto (tgt := 15) hx hb dX6_centralOrder_58 (by decide) ?_
      exact ih6 _ f6 _ _ _ (by first | omega | (simp only [i_lt, i_le, i_eq, ti_m9, ti_m1, ti_0, ti_1, ti_2, ti_3, ti_4, ti_5, ti_6, ti_7, ti_9, ti_12, ti_20, ti_99, ti_700, ti_24, ti_156, ti_72, ti_8, ti_60, ti_543, ti_10, ti_33, ti_51, ti_178, ti_119, ti_111, ti_114, ti_100, ti_32, ti_62, ti_59, ti_48, ti_701, ti_97, ti_122, ti_57, ti_73, ti_128, ti_61, ic16] at hlo6 c9 c15 ic16 ⊢; omega)) ⟨hok, hP, hS, w3_6, z16, rfl, (by first | omega | (simp only [i_lt, i_le, i_eq, ti_m9, ti_m1, ti_0, ti_1, ti_2, ti_3, ti_4, ti_5, ti_6, ti_7, ti_9, ti_12, ti_20, ti_99, ti_700, ti_24, ti_156, ti_72, ti_8, ti_60, ti_543, ti_10, ti_33, ti_51, ti_178, ti_119, ti_111, ti_114, ti_100, ti_32, ti_62, ti_59, ti_48, ti_701, ti_97, ti_122, ti_57, ti_73, ti_128, ti_61, ic16] at hlo6 c9 c15 ⊢; omega)), lv_sub hl [1, 2, 3, 4, 0] rfl⟩
    · refine lv_lload_n hx hb dX6_centralOrder_43 rfl (lv_at hl 3 rfl) ?_
      refine lv_aload_n hx hb dX6_centralOrder_44 rfl (lv_at hl 1 rfl) ?_
      refine lv_iload hx hb dX6_centralOrder_45 (lv_at hl 4 rfl) ?_
      refine vp_callSi (va_Run.run (va_runV (As := [.int w5_6]) (rest := [.long w3_6]) ⟨hx, hb, hml, hown, noTs⟩ (t_X7_common l dC dI H.size G cs tt mm a1 ha1 w5_6) ⟨cbE 1 (wd_806 hE) (wd_116 hE) (wd_1202 hE) rfl rfl (by decide +kernel) ⟨Nat.le_of_ble_eq_true rfl, Nat.le_of_ble_eq_true rfl⟩, (wd_804 hE), (wd_805 hE)⟩ ⟨PT.blind, th_recv hK hP ha1.1 he7 rfl, (th_pre (av := [.ref a1, .int w5_6]) trivial hK hP hok hnd hWT hE)⟩ rfl rfl hl.1 rfl (lv_room (Nat.le_of_ble_eq_true rfl)) dX6_centralOrder_47 ⟨Nat.le_of_ble_eq_true rfl, Nat.le_of_ble_eq_true rfl⟩)) (fun r17 hr17 => ?_)
      refine lv_i2l hx hb dX6_centralOrder_50 rfl ?_
      refine lv_topl (fun x18 _ => ?_)
      refine vp_callSl (va_Run.run (va_runSN (As := [.long w3_6, .long x18]) (rest := []) ⟨hx, hb, hml, hown, noTs⟩ (t_X11_greatestDivisor l dC dI H.size G cs tt mm w3_6 x18) ⟨cnE 2 (wd_1089 hE) (wd_115 hE) (wd_1203 hE) rfl rfl (by decide +kernel) ⟨Nat.le_of_ble_eq_true rfl, Nat.le_of_ble_eq_true rfl⟩, (wd_1088 hE), trivial⟩ ⟨PT.blind, (th_pre (av := [.long w3_6, .long x18]) trivial hK hP hok hnd hWT hE)⟩ rfl rfl hl.1 rfl (lv_room (Nat.le_of_ble_eq_true rfl)) dX6_centralOrder_51 ⟨Nat.le_of_ble_eq_true rfl, Nat.le_of_ble_eq_true rfl⟩)) (fun r19 hr19 => ?_)
      refine lv_lstore_n (lv' := [(3, .long r19), (0, .ref a0), (1, .ref a1), (2, .int v2), (5, .int w5_6)]) hx hb dX6_centralOrder_54 rfl hl (by decide) rfl (fun ls hl => ?_)
      obtain ⟨z20, ez20⟩ : ∃ z : Int32, z = w5_6 + 1 := ⟨_, rfl⟩
      refine lv_iinc (v := z20) (lv' := [(5, .int z20), (3, .long r19), (0, .ref a0), (1, .ref a1), (2, .int v2)]) hx hb dX6_centralOrder_55 hl (k := 4) rfl (by rw [ez20]; rfl) (by decide) rfl (fun ls hl => ?_)
      have ic20 : z20.toInt = w5_6.toInt + 1 := by rw [ez20]; exact ic_up (by have := i_rng w5_6; have := i_rng r8; have := i_rng r13; have := i_rng r14; simp only [i_lt, i_le, i_eq, ti_m9, ti_m1, ti_0, ti_1, ti_2, ti_3, ti_4, ti_5, ti_6, ti_7, ti_9, ti_12, ti_20, ti_99, ti_700, ti_24, ti_156, ti_72, ti_8, ti_60, ti_543, ti_10, ti_33, ti_51, ti_178, ti_119, ti_111, ti_114, ti_100, ti_32, ti_62, ti_59, ti_48, ti_701, ti_97, ti_122, ti_57, ti_73, ti_128, ti_61] at hlo6 c9 c15 ⊢; omega)
      refine lv_goto (tgt := 15) hx hb dX6_centralOrder_58 (by decide) ?_
      exact ih6 _ f6 _ _ _ (by first | omega | (simp only [i_lt, i_le, i_eq, ti_m9, ti_m1, ti_0, ti_1, ti_2, ti_3, ti_4, ti_5, ti_6, ti_7, ti_9, ti_12, ti_20, ti_99, ti_700, ti_24, ti_156, ti_72, ti_8, ti_60, ti_543, ti_10, ti_33, ti_51, ti_178, ti_119, ti_111, ti_114, ti_100, ti_32, ti_62, ti_59, ti_48, ti_701, ti_97, ti_122, ti_57, ti_73, ti_128, ti_61, ic20] at hlo6 c9 c15 ic20 ⊢; omega)) ⟨hok, hP, hS, r19, z20, rfl, (by first | omega | (simp only [i_lt, i_le, i_eq, ti_m9, ti_m1, ti_0, ti_1, ti_2, ti_3, ti_4, ti_5, ti_6, ti_7, ti_9, ti_12, ti_20, ti_99, ti_700, ti_24, ti_156, ti_72, ti_8, ti_60, ti_543, ti_10, ti_33, ti_51, ti_178, ti_119, ti_111, ti_114, ti_100, ti_32, ti_62, ti_59, ti_48, ti_701, ti_97, ti_122, ti_57, ti_73, ti_128, ti_61, ic20] at hlo6 c9 c15 ⊢; omega)), lv_sub hl [2, 3, 4, 1, 0] rfl⟩

set_option maxHeartbeats 4000000 in
set_option maxRecDepth 100000 in
theorem t_X6_addPart (l : Launch) (dC : Nat → ClassId) (dI : Nat → Nat → Nat) (sz : Nat) (G : GT) (cs : Nat → ClassId) (tt mm : Nat) (a0 : Nat) (ha0 : Ty G a0 6) (v1 : Int64) (v2 : Int64) : Met l yX6_addPart [.code yX6_addPart cX6_addPart 11 none] ({ frames := 2, cells := 0, slots := 0, locals := 80 }) (PT [.ref a0, .long v1, .long v2] sz dC dI G cs tt mm (fun _ => True)) (va_Qv (fun (u : Nat → va_E) => True) (BT dC dI G cs tt mm) (AT G sz)) 0 0 (AT G sz) := by
  refine Met.ofW (cc := cX6_addPart) (maxL := 11) (ret := none) (by decide) rfl ?_
  intro p e s m args below meth c s₁ B hml hv
  obtain ⟨rfl, hsz, ⟨f0, hok, hP, hX⟩, hK, hnd, hWT, hE⟩ := hv
  have hx := B.exec
  have hb := B.bytes
  have hr := B.returns
  have hown : s.vm.findClass RX6 = some m.cls := findClass_of_methodNamed B.named
  have hlocks := B.notSynchronized
  subst hsz
  have hAL : ∀ a, a ∈ gL G → AT G s.heap.size a := fun a h => Or.inl h
  have hA : ∀ q : Nat, s.heap.size ≤ q → AT G s.heap.size q := fun q h => Or.inr h
  have hS : va_S (AT G s.heap.size) s.heap s.heap [] := va_S.rf
  have hl := lv_entry ([.ref a0, .long v1, .long v2]) (n := 11) (Nat.le_of_ble_eq_true rfl)
  rw [lg_entry_eq]
  generalize (lg_sl ([.ref a0, .long v1, .long v2]) ++ List.replicate (11 - (lg_sl ([.ref a0, .long v1, .long v2])).length) Slot.unset).toArray = ls at hl ⊢
  have hl : lv_has ls 11 [(0, .ref a0), (1, .long v1), (3, .long v2)] := hl
  refine lv_lload_n hx hb dX6_addPart_0 rfl (lv_at hl 2 rfl) ?_
  refine lv_lconst (v := 1) hx hb dX6_addPart_1 (by decide) ?_
  refine W.lcmp hx hb dX6_addPart_2 ?_
  refine lv_topi (fun x1 ex1 => ?_)
  refine lv_if_ge (tgt := 7) hx hb dX6_addPart_3 (by decide) (fun c2 => ?_) (fun c2 => ?_)
  · have nz3 : ¬ v2 = 0 := lc_ge1 ex1 (by simp only [i_lt, i_le, i_eq, ti_m9, ti_m1, ti_0, ti_1, ti_2, ti_3, ti_4, ti_5, ti_6, ti_7, ti_9, ti_12, ti_20, ti_99, ti_700, ti_24, ti_156, ti_72, ti_8, ti_60, ti_543, ti_10, ti_33, ti_51, ti_178, ti_119, ti_111, ti_114, ti_100, ti_32, ti_62, ti_59, ti_48, ti_701, ti_97, ti_122, ti_57, ti_73, ti_128, ti_61] at c2 ⊢; omega)
    refine lv_aload_n hx hb dX6_addPart_7 rfl (lv_at hl 0 rfl) ?_
    obtain ⟨y1_4, y2_4, he4⟩ := ok_X6 hok ha0
    refine th_get hx hb (ly_X6 hE) hown hK hP ha0.1 he4 rfl 1 (by decide) (wd_339 hE) (fun _ h9 => h9) rfl dX6_addPart_8 ?_
    refine lv_lload_n hx hb dX6_addPart_11 rfl (lv_at hl 2 rfl) ?_
    refine lv_lmul hx hb dX6_addPart_12 ?_
    refine lv_topl (fun x5 _ => ?_)
    refine lv_lload_n hx hb dX6_addPart_13 rfl (lv_at hl 1 rfl) ?_
    refine lv_aload_n hx hb dX6_addPart_14 rfl (lv_at hl 0 rfl) ?_
    refine th_get hx hb (ly_X6 hE) hown hK hP ha0.1 he4 rfl 2 (by decide) (wd_340 hE) (fun _ h9 => h9) rfl dX6_addPart_15 ?_
    refine lv_lmul hx hb dX6_addPart_18 ?_
    refine lv_topl (fun x6 _ => ?_)
    refine lv_ladd hx hb dX6_addPart_19 ?_
    refine lv_topl (fun x7 _ => ?_)
    refine lv_lstore (lv' := [(5, .long x7), (0, .ref a0), (1, .long v1), (3, .long v2)]) hx hb dX6_addPart_20 hl (by decide) rfl (fun ls hl => ?_)
    refine lv_aload_n hx hb dX6_addPart_22 rfl (lv_at hl 1 rfl) ?_
    refine th_get hx hb (ly_X6 hE) hown hK hP ha0.1 he4 rfl 2 (by decide) (wd_340 hE) (fun _ h9 => h9) rfl dX6_addPart_23 ?_
    refine lv_lload_n hx hb dX6_addPart_26 rfl (lv_at hl 3 rfl) ?_
    refine lv_lmul hx hb dX6_addPart_27 ?_
    refine lv_topl (fun x8 _ => ?_)
    refine lv_lstore (lv' := [(7, .long x8), (5, .long x7), (0, .ref a0), (1, .long v1), (3, .long v2)]) hx hb dX6_addPart_28 hl (by decide) rfl (fun ls hl => ?_)
    refine lv_lload hx hb dX6_addPart_30 (lv_at hl 1 rfl) ?_
    refine lv_lload hx hb dX6_addPart_32 (lv_at hl 0 rfl) ?_
    refine vp_callSl (va_Run.run (va_runSN (As := [.long x7, .long x8]) (rest := []) ⟨hx, hb, hml, hown, noTs⟩ (t_X11_greatestDivisor l dC dI s.heap.size G cs tt mm x7 x8) ⟨cnE 2 (wd_1089 hE) (wd_115 hE) (wd_1203 hE) rfl rfl (by decide +kernel) ⟨Nat.le_of_ble_eq_true rfl, Nat.le_of_ble_eq_true rfl⟩, (wd_1088 hE), trivial⟩ ⟨PT.blind, (th_pre (av := [.long x7, .long x8]) trivial hK hP hok hnd hWT hE)⟩ rfl rfl hl.1 rfl (lv_room (Nat.le_of_ble_eq_true rfl)) dX6_addPart_34 ⟨Nat.le_of_ble_eq_true rfl, Nat.le_of_ble_eq_true rfl⟩)) (fun r9 hr9 => ?_)
    refine lv_lstore (lv' := [(9, .long r9), (7, .long x8), (5, .long x7), (0, .ref a0), (1, .long v1), (3, .long v2)]) hx hb dX6_addPart_37 hl (by decide) rfl (fun ls hl => ?_)
    refine lv_aload_n hx hb dX6_addPart_39 rfl (lv_at hl 3 rfl) ?_
    refine lv_lload hx hb dX6_addPart_40 (lv_at hl 0 rfl) ?_
    refine lv_lconst (v := 1) hx hb dX6_addPart_42 (by decide) ?_
    refine W.lcmp hx hb dX6_addPart_43 ?_
    refine lv_topi (fun x10 ex10 => ?_)
    refine lv_if_ge (tgt := 51) hx hb dX6_addPart_44 (by decide) (fun c11 => ?_) (fun c11 => ?_)
    · have nz12 : ¬ r9 = 0 := lc_ge1 ex10 (by simp only [i_lt, i_le, i_eq, ti_m9, ti_m1, ti_0, ti_1, ti_2, ti_3, ti_4, ti_5, ti_6, ti_7, ti_9, ti_12, ti_20, ti_99, ti_700, ti_24, ti_156, ti_72, ti_8, ti_60, ti_543, ti_10, ti_33, ti_51, ti_178, ti_119, ti_111, ti_114, ti_100, ti_32, ti_62, ti_59, ti_48, ti_701, ti_97, ti_122, ti_57, ti_73, ti_128, ti_61] at c11 ⊢; omega)
      refine lv_lload hx hb dX6_addPart_51 (lv_at hl 2 rfl) ?_
      refine lv_lload hx hb dX6_addPart_53 (lv_at hl 0 rfl) ?_
      refine lv_ldiv hx hb dX6_addPart_55 nz12 ?_
      refine lv_topl (fun x13 _ => ?_)
      refine th_put (v := .long x13) (ty := .long) hx hb (ly_X6 hE) tyX6 tyX6_ok nmX6 hown hK hP hnd hAL hS ha0.1 he4 rfl 1 (by decide) (wd_339 hE) (fun _ h9 => h9) rfl (by decide +kernel) rfl rfl (Nat.le_of_ble_eq_true rfl) (up_X6 hok ha0 ⟨x13, y2_4, rfl⟩) dX6_addPart_56 (fun f14 H locs hfa14 hfo14 hok hP hS => ?_)
      refine lv_aload_n hx hb dX6_addPart_59 rfl (lv_at hl 3 rfl) ?_
      refine lv_lload hx hb dX6_addPart_60 (lv_at hl 0 rfl) ?_
      refine lv_lconst (v := 1) hx hb dX6_addPart_62 (by decide) ?_
      refine W.lcmp hx hb dX6_addPart_63 ?_
      refine lv_topi (fun x15 ex15 => ?_)
      refine lv_if_ge (tgt := 71) hx hb dX6_addPart_64 (by decide) (fun c16 => ?_) (fun c16 => ?_)
      · have nz17 : ¬ r9 = 0 := lc_ge1 ex15 (by simp only [i_lt, i_le, i_eq, ti_m9, ti_m1, ti_0, ti_1, ti_2, ti_3, ti_4, ti_5, ti_6, ti_7, ti_9, ti_12, ti_20, ti_99, ti_700, ti_24, ti_156, ti_72, ti_8, ti_60, ti_543, ti_10, ti_33, ti_51, ti_178, ti_119, ti_111, ti_114, ti_100, ti_32, ti_62, ti_59, ti_48, ti_701, ti_97, ti_122, ti_57, ti_73, ti_128, ti_61] at c16 ⊢; omega)
        refine lv_lload hx hb dX6_addPart_71 (lv_at hl 1 rfl) ?_
        refine lv_lload hx hb dX6_addPart_73 (lv_at hl 0 rfl) ?_
        refine lv_ldiv hx hb dX6_addPart_75 nz17 ?_
        refine lv_topl (fun x18 _ => ?_)
        refine th_put (v := .long x18) (ty := .long) hx hb (ly_X6 hE) tyX6 tyX6_ok nmX6 hown hK hP hnd hAL hS ha0.1 hfa14 rfl 2 (by decide) (wd_340 hE) (fun _ h9 => h9) rfl (by decide +kernel) rfl rfl (Nat.le_of_ble_eq_true rfl) (up_X6 hok ha0 ⟨x13, x18, rfl⟩) dX6_addPart_76 (fun f19 H locs hfa19 hfo19 hok hP hS => ?_)
        exact W.vret hx hb hr (fun t ht hW => ⟨⟨f19, rfl, trivial, hok, by rw [ht]; exact hP⟩, hS.F ht⟩) hS.2.2 dX6_addPart_79
      · refine lv_lconst (v := 1) hx hb dX6_addPart_67 (by decide) ?_
        refine lv_goto (tgt := 76) hx hb dX6_addPart_68 (by decide) ?_
        refine th_put (v := .long 1) (ty := .long) hx hb (ly_X6 hE) tyX6 tyX6_ok nmX6 hown hK hP hnd hAL hS ha0.1 hfa14 rfl 2 (by decide) (wd_340 hE) (fun _ h9 => h9) rfl (by decide +kernel) rfl rfl (Nat.le_of_ble_eq_true rfl) (up_X6 hok ha0 ⟨x13, 1, rfl⟩) dX6_addPart_76 (fun f20 H locs hfa20 hfo20 hok hP hS => ?_)
        exact W.vret hx hb hr (fun t ht hW => ⟨⟨f20, rfl, trivial, hok, by rw [ht]; exact hP⟩, hS.F ht⟩) hS.2.2 dX6_addPart_79
    · refine lv_lconst (v := 0) hx hb dX6_addPart_47 (by decide) ?_
      refine lv_goto (tgt := 56) hx hb dX6_addPart_48 (by decide) ?_
      refine th_put (v := .long 0) (ty := .long) hx hb (ly_X6 hE) tyX6 tyX6_ok nmX6 hown hK hP hnd hAL hS ha0.1 he4 rfl 1 (by decide) (wd_339 hE) (fun _ h9 => h9) rfl (by decide +kernel) rfl rfl (Nat.le_of_ble_eq_true rfl) (up_X6 hok ha0 ⟨0, y2_4, rfl⟩) dX6_addPart_56 (fun f21 H locs hfa21 hfo21 hok hP hS => ?_)
      refine lv_aload_n hx hb dX6_addPart_59 rfl (lv_at hl 3 rfl) ?_
      refine lv_lload hx hb dX6_addPart_60 (lv_at hl 0 rfl) ?_
      refine lv_lconst (v := 1) hx hb dX6_addPart_62 (by decide) ?_
      refine W.lcmp hx hb dX6_addPart_63 ?_
      refine lv_topi (fun x22 ex22 => ?_)
      refine lv_if_ge (tgt := 71) hx hb dX6_addPart_64 (by decide) (fun c23 => ?_) (fun c23 => ?_)
      · have nz24 : ¬ r9 = 0 := lc_ge1 ex22 (by simp only [i_lt, i_le, i_eq, ti_m9, ti_m1, ti_0, ti_1, ti_2, ti_3, ti_4, ti_5, ti_6, ti_7, ti_9, ti_12, ti_20, ti_99, ti_700, ti_24, ti_156, ti_72, ti_8, ti_60, ti_543, ti_10, ti_33, ti_51, ti_178, ti_119, ti_111, ti_114, ti_100, ti_32, ti_62, ti_59, ti_48, ti_701, ti_97, ti_122, ti_57, ti_73, ti_128, ti_61] at c23 ⊢; omega)
        refine lv_lload hx hb dX6_addPart_71 (lv_at hl 1 rfl) ?_
        refine lv_lload hx hb dX6_addPart_73 (lv_at hl 0 rfl) ?_
        refine lv_ldiv hx hb dX6_addPart_75 nz24 ?_
        refine lv_topl (fun x25 _ => ?_)
        refine th_put (v := .long x25) (ty := .long) hx hb (ly_X6 hE) tyX6 tyX6_ok nmX6 hown hK hP hnd hAL hS ha0.1 hfa21 rfl 2 (by decide) (wd_340 hE) (fun _ h9 => h9) rfl (by decide +kernel) rfl rfl (Nat.le_of_ble_eq_true rfl) (up_X6 hok ha0 ⟨0, x25, rfl⟩) dX6_addPart_76 (fun f26 H locs hfa26 hfo26 hok hP hS => ?_)
        exact W.vret hx hb hr (fun t ht hW => ⟨⟨f26, rfl, trivial, hok, by rw [ht]; exact hP⟩, hS.F ht⟩) hS.2.2 dX6_addPart_79
      · refine lv_lconst (v := 1) hx hb dX6_addPart_67 (by decide) ?_
        refine lv_goto (tgt := 76) hx hb dX6_addPart_68 (by decide) ?_
        refine th_put (v := .long 1) (ty := .long) hx hb (ly_X6 hE) tyX6 tyX6_ok nmX6 hown hK hP hnd hAL hS ha0.1 hfa21 rfl 2 (by decide) (wd_340 hE) (fun _ h9 => h9) rfl (by decide +kernel) rfl rfl (Nat.le_of_ble_eq_true rfl) (up_X6 hok ha0 ⟨0, 1, rfl⟩) dX6_addPart_76 (fun f27 H locs hfa27 hfo27 hok hP hS => ?_)
        exact W.vret hx hb hr (fun t ht hW => ⟨⟨f27, rfl, trivial, hok, by rw [ht]; exact hP⟩, hS.F ht⟩) hS.2.2 dX6_addPart_79
  · exact W.vret hx hb hr (fun t ht hW => ⟨⟨f0, rfl, trivial, hok, by rw [ht]; exact hP⟩, hS.F ht⟩) hS.2.2 dX6_addPart_6

set_option maxHeartbeats 4000000 in
set_option maxRecDepth 100000 in
theorem t_X6_weigh (l : Launch) (dC : Nat → ClassId) (dI : Nat → Nat → Nat) (sz : Nat) (G : GT) (cs : Nat → ClassId) (tt mm : Nat) (a0 : Nat) (ha0 : Ty G a0 6) (a1 : Nat) (ha1 : Ty G a1 7) : Met l yX6_weigh [.code yX6_weigh cX6_weigh 3 none] ({ frames := 3, cells := 0, slots := 0, locals := 120 }) (PT [.ref a0, .ref a1] sz dC dI G cs tt mm (fun _ => True)) (va_Qv (fun (u : Nat → va_E) => True) (BT dC dI G cs tt mm) (AT G sz)) 0 0 (AT G sz) := by
  refine Met.ofW (cc := cX6_weigh) (maxL := 3) (ret := none) (by decide) rfl ?_
  intro p e s m args below meth c s₁ B hml hv
  obtain ⟨rfl, hsz, ⟨f0, hok, hP, hX⟩, hK, hnd, hWT, hE⟩ := hv
  have hx := B.exec
  have hb := B.bytes
  have hr := B.returns
  have hown : s.vm.findClass RX6 = some m.cls := findClass_of_methodNamed B.named
  have hlocks := B.notSynchronized
  subst hsz
  have hAL : ∀ a, a ∈ gL G → AT G s.heap.size a := fun a h => Or.inl h
  have hA : ∀ q : Nat, s.heap.size ≤ q → AT G s.heap.size q := fun q h => Or.inr h
  have hS : va_S (AT G s.heap.size) s.heap s.heap [] := va_S.rf
  have hl := lv_entry ([.ref a0, .ref a1]) (n := 3) (Nat.le_of_ble_eq_true rfl)
  rw [lg_entry_eq]
  generalize (lg_sl ([.ref a0, .ref a1]) ++ List.replicate (3 - (lg_sl ([.ref a0, .ref a1])).length) Slot.unset).toArray = ls at hl ⊢
  have hl : lv_has ls 3 [(0, .ref a0), (1, .ref a1)] := hl
  refine lv_aload_n hx hb dX6_weigh_0 rfl (lv_at hl 0 rfl) ?_
  refine lv_lconst (v := 0) hx hb dX6_weigh_1 (by decide) ?_
  obtain ⟨y1_1, y2_1, he1⟩ := ok_X6 hok ha0
  refine th_put (v := .long 0) (ty := .long) hx hb (ly_X6 hE) tyX6 tyX6_ok nmX6 hown hK hP hnd hAL hS ha0.1 he1 rfl 1 (by decide) (wd_339 hE) (fun _ h9 => h9) rfl (by decide +kernel) rfl rfl (Nat.le_of_ble_eq_true rfl) (up_X6 hok ha0 ⟨0, y2_1, rfl⟩) dX6_weigh_2 (fun f2 H locs hfa2 hfo2 hok hP hS => ?_)
  refine lv_aload_n hx hb dX6_weigh_5 rfl (lv_at hl 0 rfl) ?_
  refine lv_lconst (v := 1) hx hb dX6_weigh_6 (by decide) ?_
  refine th_put (v := .long 1) (ty := .long) hx hb (ly_X6 hE) tyX6 tyX6_ok nmX6 hown hK hP hnd hAL hS ha0.1 hfa2 rfl 2 (by decide) (wd_340 hE) (fun _ h9 => h9) rfl (by decide +kernel) rfl rfl (Nat.le_of_ble_eq_true rfl) (up_X6 hok ha0 ⟨0, 1, rfl⟩) dX6_weigh_7 (fun f3 H locs hfa3 hfo3 hok hP hS => ?_)
  refine lv_iconst (v := 0) hx hb dX6_weigh_10 (by decide) ?_
  refine lv_istore_n (lv' := [(2, .int 0), (0, .ref a0), (1, .ref a1)]) hx hb dX6_weigh_11 rfl hl (by decide) rfl (fun ls hl => ?_)
  refine w_ind (I := fun n f H locs ls => OKT G cs tt mm f ∧ va_P (dC, dI) vwCl (va_pl (gL G) f) H ∧ va_S (AT G s.heap.size) s.heap H locs ∧ ∃ (w2_4 : Int32), n = (2147483647 - w2_4.toInt).toNat ∧ 0 ≤ w2_4 ∧ lv_has ls 3 [(0, .ref a0), (1, .ref a1), (2, .int w2_4)]) (fun n f4 H locs ls hI ih4 => ?_) _ f3 _ _ _ ⟨hok, hP, hS, 0, rfl, (by first | omega | (simp only [i_lt, i_le, i_eq, ti_m9, ti_m1, ti_0, ti_1, ti_2, ti_3, ti_4, ti_5, ti_6, ti_7, ti_9, ti_12, ti_20, ti_99, ti_700, ti_24, ti_156, ti_72, ti_8, ti_60, ti_543, ti_10, ti_33, ti_51, ti_178, ti_119, ti_111, ti_114, ti_100, ti_32, ti_62, ti_59, ti_48, ti_701, ti_97, ti_122, ti_57, ti_73, ti_128, ti_61]; omega)), lv_sub hl [1, 2, 0] rfl⟩
  obtain ⟨hok, hP, hS, w2_4, hmu4, hlo4, hl⟩ := hI
  subst hmu4
  refine lv_iload_n hx hb dX6_weigh_12 rfl (lv_at hl 2 rfl) ?_
  refine lv_aload_n hx hb dX6_weigh_13 rfl (lv_at hl 1 rfl) ?_
  have he5 := ok_X7 hok ha1
  refine vp_callSi (va_Run.run (va_runV (As := []) (rest := [.int w2_4]) ⟨hx, hb, hml, hown, noTs⟩ (t_X7_vertices l dC dI H.size G cs tt mm a1 ha1) ⟨cbE 0 (wd_557 hE) (wd_116 hE) (wd_779 hE) rfl rfl (by decide +kernel) ⟨Nat.le_of_ble_eq_true rfl, Nat.le_of_ble_eq_true rfl⟩, (wd_555 hE), (wd_556 hE)⟩ ⟨PT.blind, th_recv hK hP ha1.1 he5 rfl, (th_pre (av := [.ref a1]) trivial hK hP hok hnd hWT hE)⟩ rfl rfl hl.1 rfl (lv_room (Nat.le_of_ble_eq_true rfl)) dX6_weigh_14 ⟨Nat.le_of_ble_eq_true rfl, Nat.le_of_ble_eq_true rfl⟩)) (fun r6 hr6 => ?_)
  refine lv_icmp_ge (tgt := 37) hx hb dX6_weigh_17 (by decide) (fun c7 => ?_) (fun c7 => ?_)
  · refine lv_iconst (v := 0) hx hb dX6_weigh_37 (by decide) ?_
    refine lv_istore_n (lv' := [(2, .int 0), (0, .ref a0), (1, .ref a1)]) hx hb dX6_weigh_38 rfl hl (by decide) rfl (fun ls hl => ?_)
    refine w_ind (I := fun n f H locs ls => OKT G cs tt mm f ∧ va_P (dC, dI) vwCl (va_pl (gL G) f) H ∧ va_S (AT G s.heap.size) s.heap H locs ∧ ∃ (w2_8 : Int32), n = (2147483647 - w2_8.toInt).toNat ∧ 0 ≤ w2_8 ∧ lv_has ls 3 [(0, .ref a0), (1, .ref a1), (2, .int w2_8)]) (fun n f8 H locs ls hI ih8 => ?_) _ f4 _ _ _ ⟨hok, hP, hS, 0, rfl, (by first | omega | (simp only [i_lt, i_le, i_eq, ti_m9, ti_m1, ti_0, ti_1, ti_2, ti_3, ti_4, ti_5, ti_6, ti_7, ti_9, ti_12, ti_20, ti_99, ti_700, ti_24, ti_156, ti_72, ti_8, ti_60, ti_543, ti_10, ti_33, ti_51, ti_178, ti_119, ti_111, ti_114, ti_100, ti_32, ti_62, ti_59, ti_48, ti_701, ti_97, ti_122, ti_57, ti_73, ti_128, ti_61] at hlo4 c7 ⊢; omega)), lv_sub hl [1, 2, 0] rfl⟩
    obtain ⟨hok, hP, hS, w2_8, hmu8, hlo8, hl⟩ := hI
    subst hmu8
    refine lv_iload_n hx hb dX6_weigh_39 rfl (lv_at hl 2 rfl) ?_
    refine lv_aload_n hx hb dX6_weigh_40 rfl (lv_at hl 1 rfl) ?_
    have he9 := ok_X7 hok ha1
    refine vp_callSi (va_Run.run (va_runV (As := []) (rest := [.int w2_8]) ⟨hx, hb, hml, hown, noTs⟩ (t_X7_edges l dC dI H.size G cs tt mm a1 ha1) ⟨cbE 0 (wd_598 hE) (wd_116 hE) (wd_1200 hE) rfl rfl (by decide +kernel) ⟨Nat.le_of_ble_eq_true rfl, Nat.le_of_ble_eq_true rfl⟩, (wd_596 hE), (wd_597 hE)⟩ ⟨PT.blind, th_recv hK hP ha1.1 he9 rfl, (th_pre (av := [.ref a1]) trivial hK hP hok hnd hWT hE)⟩ rfl rfl hl.1 rfl (lv_room (Nat.le_of_ble_eq_true rfl)) dX6_weigh_41 ⟨Nat.le_of_ble_eq_true rfl, Nat.le_of_ble_eq_true rfl⟩)) (fun r10 hr10 => ?_)
    refine lv_icmp_ge (tgt := 66) hx hb dX6_weigh_44 (by decide) (fun c11 => ?_) (fun c11 => ?_)
    · exact W.vret hx hb hr (fun t ht hW => ⟨⟨f8, rfl, trivial, hok, by rw [ht]; exact hP⟩, hS.F ht⟩) hS.2.2 dX6_weigh_66
    · refine lv_aload_n hx hb dX6_weigh_47 rfl (lv_at hl 0 rfl) ?_
      refine lv_ldc2 (v := -1) hx hb hown (wd_1360 hE) dX6_weigh_48 ?_
      refine lv_aload_n hx hb dX6_weigh_51 rfl (lv_at hl 1 rfl) ?_
      refine lv_iload_n hx hb dX6_weigh_52 rfl (lv_at hl 2 rfl) ?_
      refine vp_callSi (va_Run.run (va_runV (As := [.int w2_8]) (rest := [.long (-1), .ref a0]) ⟨hx, hb, hml, hown, noTs⟩ (t_X7_common l dC dI H.size G cs tt mm a1 ha1 w2_8) ⟨cbE 1 (wd_806 hE) (wd_116 hE) (wd_1202 hE) rfl rfl (by decide +kernel) ⟨Nat.le_of_ble_eq_true rfl, Nat.le_of_ble_eq_true rfl⟩, (wd_804 hE), (wd_805 hE)⟩ ⟨PT.blind, th_recv hK hP ha1.1 he9 rfl, (th_pre (av := [.ref a1, .int w2_8]) trivial hK hP hok hnd hWT hE)⟩ rfl rfl hl.1 rfl (lv_room (Nat.le_of_ble_eq_true rfl)) dX6_weigh_53 ⟨Nat.le_of_ble_eq_true rfl, Nat.le_of_ble_eq_true rfl⟩)) (fun r12 hr12 => ?_)
      refine lv_i2l hx hb dX6_weigh_56 rfl ?_
      refine lv_topl (fun x13 _ => ?_)
      obtain ⟨y1_14, y2_14, he14⟩ := ok_X6 hok ha0
      refine tc_v hAL hS hA (va_runV (As := [.long (-1), .long x13]) (rest := []) ⟨hx, hb, hml, hown, noTs⟩ (t_X6_addPart l dC dI H.size G cs tt mm a0 ha0 (-1) x13) ⟨cbE 2 (wd_1359 hE) (wd_124 hE) (wd_1356 hE) rfl rfl (by decide +kernel) ⟨Nat.le_of_ble_eq_true rfl, Nat.le_of_ble_eq_true rfl⟩, (wd_1358 hE), (wd_52 hE)⟩ ⟨PT.blind, th_recv hK hP ha0.1 he14 rfl, (th_pre (av := [.ref a0, .long (-1), .long x13]) trivial hK hP hok hnd hWT hE)⟩ rfl rfl hl.1 rfl (lv_room (Nat.le_of_ble_eq_true rfl)) dX6_weigh_57 ⟨Nat.le_of_ble_eq_true rfl, Nat.le_of_ble_eq_true rfl⟩) (fun f15 H locs hr15 hok hP hS => ?_)
      obtain ⟨z16, ez16⟩ : ∃ z : Int32, z = w2_8 + 1 := ⟨_, rfl⟩
      refine lv_iinc (v := z16) (lv' := [(2, .int z16), (0, .ref a0), (1, .ref a1)]) hx hb dX6_weigh_60 hl (k := 2) rfl (by rw [ez16]; rfl) (by decide) rfl (fun ls hl => ?_)
      have ic16 : z16.toInt = w2_8.toInt + 1 := by rw [ez16]; exact ic_up (by have := i_rng w2_4; have := i_rng r6; have := i_rng w2_8; have := i_rng r10; simp only [i_lt, i_le, i_eq, ti_m9, ti_m1, ti_0, ti_1, ti_2, ti_3, ti_4, ti_5, ti_6, ti_7, ti_9, ti_12, ti_20, ti_99, ti_700, ti_24, ti_156, ti_72, ti_8, ti_60, ti_543, ti_10, ti_33, ti_51, ti_178, ti_119, ti_111, ti_114, ti_100, ti_32, ti_62, ti_59, ti_48, ti_701, ti_97, ti_122, ti_57, ti_73, ti_128, ti_61] at hlo4 c7 hlo8 c11 ⊢; omega)
      refine lv_goto (tgt := 39) hx hb dX6_weigh_63 (by decide) ?_
      exact ih8 _ f15 _ _ _ (by first | omega | (simp only [i_lt, i_le, i_eq, ti_m9, ti_m1, ti_0, ti_1, ti_2, ti_3, ti_4, ti_5, ti_6, ti_7, ti_9, ti_12, ti_20, ti_99, ti_700, ti_24, ti_156, ti_72, ti_8, ti_60, ti_543, ti_10, ti_33, ti_51, ti_178, ti_119, ti_111, ti_114, ti_100, ti_32, ti_62, ti_59, ti_48, ti_701, ti_97, ti_122, ti_57, ti_73, ti_128, ti_61, ic16] at hlo4 c7 hlo8 c11 ic16 ⊢; omega)) ⟨hok, hP, hS, z16, rfl, (by first | omega | (simp only [i_lt, i_le, i_eq, ti_m9, ti_m1, ti_0, ti_1, ti_2, ti_3, ti_4, ti_5, ti_6, ti_7, ti_9, ti_12, ti_20, ti_99, ti_700, ti_24, ti_156, ti_72, ti_8, ti_60, ti_543, ti_10, ti_33, ti_51, ti_178, ti_119, ti_111, ti_114, ti_100, ti_32, ti_62, ti_59, ti_48, ti_701, ti_97, ti_122, ti_57, ti_73, ti_128, ti_61, ic16] at hlo4 c7 hlo8 c11 ⊢; omega)), lv_sub hl [1, 2, 0] rfl⟩
  · refine lv_aload_n hx hb dX6_weigh_20 rfl (lv_at hl 0 rfl) ?_
    refine lv_lconst (v := 1) hx hb dX6_weigh_21 (by decide) ?_
    refine lv_aload_n hx hb dX6_weigh_22 rfl (lv_at hl 1 rfl) ?_
    refine lv_iload_n hx hb dX6_weigh_23 rfl (lv_at hl 2 rfl) ?_
    refine vp_callSi (va_Run.run (va_runV (As := [.int w2_4]) (rest := [.long 1, .ref a0]) ⟨hx, hb, hml, hown, noTs⟩ (t_X7_orderAt l dC dI H.size G cs tt mm a1 ha1 w2_4) ⟨cbE 1 (wd_614 hE) (wd_116 hE) (wd_1199 hE) rfl rfl (by decide +kernel) ⟨Nat.le_of_ble_eq_true rfl, Nat.le_of_ble_eq_true rfl⟩, (wd_612 hE), (wd_613 hE)⟩ ⟨PT.blind, th_recv hK hP ha1.1 he5 rfl, (th_pre (av := [.ref a1, .int w2_4]) trivial hK hP hok hnd hWT hE)⟩ rfl rfl hl.1 rfl (lv_room (Nat.le_of_ble_eq_true rfl)) dX6_weigh_24 ⟨Nat.le_of_ble_eq_true rfl, Nat.le_of_ble_eq_true rfl⟩)) (fun r17 hr17 => ?_)
    refine lv_i2l hx hb dX6_weigh_27 rfl ?_
    refine lv_topl (fun x18 _ => ?_)
    obtain ⟨y1_19, y2_19, he19⟩ := ok_X6 hok ha0
    refine tc_v hAL hS hA (va_runV (As := [.long 1, .long x18]) (rest := []) ⟨hx, hb, hml, hown, noTs⟩ (t_X6_addPart l dC dI H.size G cs tt mm a0 ha0 1 x18) ⟨cbE 2 (wd_1359 hE) (wd_124 hE) (wd_1356 hE) rfl rfl (by decide +kernel) ⟨Nat.le_of_ble_eq_true rfl, Nat.le_of_ble_eq_true rfl⟩, (wd_1358 hE), (wd_52 hE)⟩ ⟨PT.blind, th_recv hK hP ha0.1 he19 rfl, (th_pre (av := [.ref a0, .long 1, .long x18]) trivial hK hP hok hnd hWT hE)⟩ rfl rfl hl.1 rfl (lv_room (Nat.le_of_ble_eq_true rfl)) dX6_weigh_28 ⟨Nat.le_of_ble_eq_true rfl, Nat.le_of_ble_eq_true rfl⟩) (fun f20 H locs hr20 hok hP hS => ?_)
    obtain ⟨z21, ez21⟩ : ∃ z : Int32, z = w2_4 + 1 := ⟨_, rfl⟩
    refine lv_iinc (v := z21) (lv' := [(2, .int z21), (0, .ref a0), (1, .ref a1)]) hx hb dX6_weigh_31 hl (k := 2) rfl (by rw [ez21]; rfl) (by decide) rfl (fun ls hl => ?_)
    have ic21 : z21.toInt = w2_4.toInt + 1 := by rw [ez21]; exact ic_up (by have := i_rng w2_4; have := i_rng r6; simp only [i_lt, i_le, i_eq, ti_m9, ti_m1, ti_0, ti_1, ti_2, ti_3, ti_4, ti_5, ti_6, ti_7, ti_9, ti_12, ti_20, ti_99, ti_700, ti_24, ti_156, ti_72, ti_8, ti_60, ti_543, ti_10, ti_33, ti_51, ti_178, ti_119, ti_111, ti_114, ti_100, ti_32, ti_62, ti_59, ti_48, ti_701, ti_97, ti_122, ti_57, ti_73, ti_128, ti_61] at hlo4 c7 ⊢; omega)
    refine lv_goto (tgt := 12) hx hb dX6_weigh_34 (by decide) ?_
    exact ih4 _ f20 _ _ _ (by first | omega | (simp only [i_lt, i_le, i_eq, ti_m9, ti_m1, ti_0, ti_1, ti_2, ti_3, ti_4, ti_5, ti_6, ti_7, ti_9, ti_12, ti_20, ti_99, ti_700, ti_24, ti_156, ti_72, ti_8, ti_60, ti_543, ti_10, ti_33, ti_51, ti_178, ti_119, ti_111, ti_114, ti_100, ti_32, ti_62, ti_59, ti_48, ti_701, ti_97, ti_122, ti_57, ti_73, ti_128, ti_61, ic21] at hlo4 c7 ic21 ⊢; omega)) ⟨hok, hP, hS, z21, rfl, (by first | omega | (simp only [i_lt, i_le, i_eq, ti_m9, ti_m1, ti_0, ti_1, ti_2, ti_3, ti_4, ti_5, ti_6, ti_7, ti_9, ti_12, ti_20, ti_99, ti_700, ti_24, ti_156, ti_72, ti_8, ti_60, ti_543, ti_10, ti_33, ti_51, ti_178, ti_119, ti_111, ti_114, ti_100, ti_32, ti_62, ti_59, ti_48, ti_701, ti_97, ti_122, ti_57, ti_73, ti_128, ti_61, ic21] at hlo4 c7 ⊢; omega)), lv_sub hl [1, 2, 0] rfl⟩

set_option maxHeartbeats 4000000 in
set_option maxRecDepth 100000 in
theorem t_X6_above (l : Launch) (dC : Nat → ClassId) (dI : Nat → Nat → Nat) (sz : Nat) (G : GT) (cs : Nat → ClassId) (tt mm : Nat) (a0 : Nat) (ha0 : Ty G a0 6) : Met l yX6_above [.code yX6_above cX6_above 1 (some .long)] ({ frames := 0, cells := 0, slots := 0, locals := 0 }) (PT [.ref a0] sz dC dI G cs tt mm (fun _ => True)) (vp_Sl (fun (r : Int64) => True)) 0 0 (fun _ => False) := by
  refine Met.ofW (cc := cX6_above) (maxL := 1) (ret := (some .long)) (by decide) rfl ?_
  intro p e s m args below meth c s₁ B hml hv
  obtain ⟨rfl, hsz, ⟨f0, hok, hP, hX⟩, hK, hnd, hWT, hE⟩ := hv
  have hx := B.exec
  have hb := B.bytes
  have hr := B.returns
  have hown : s.vm.findClass RX6 = some m.cls := findClass_of_methodNamed B.named
  have hlocks := B.notSynchronized
  subst hsz
  have hl := lv_entry ([.ref a0]) (n := 1) (Nat.le_of_ble_eq_true rfl)
  rw [lg_entry_eq]
  generalize (lg_sl ([.ref a0]) ++ List.replicate (1 - (lg_sl ([.ref a0])).length) Slot.unset).toArray = ls at hl ⊢
  have hl : lv_has ls 1 [(0, .ref a0)] := hl
  refine lv_aload_n hx hb dX6_above_0 rfl (lv_at hl 0 rfl) ?_
  obtain ⟨y1_1, y2_1, he1⟩ := ok_X6 hok ha0
  refine th_get hx hb (ly_X6 hE) hown hK hP ha0.1 he1 rfl 1 (by decide) (wd_339 hE) (fun _ h9 => h9) rfl dX6_above_1 ?_
  exact W.lret (v := y1_1) hx hb hr (fun t ht hW => ⟨y1_1, rfl, trivial, ht⟩) (fun _ h => absurd h List.not_mem_nil) dX6_above_4

set_option maxHeartbeats 4000000 in
set_option maxRecDepth 100000 in
theorem t_X6_below (l : Launch) (dC : Nat → ClassId) (dI : Nat → Nat → Nat) (sz : Nat) (G : GT) (cs : Nat → ClassId) (tt mm : Nat) (a0 : Nat) (ha0 : Ty G a0 6) : Met l yX6_below [.code yX6_below cX6_below 1 (some .long)] ({ frames := 0, cells := 0, slots := 0, locals := 0 }) (PT [.ref a0] sz dC dI G cs tt mm (fun _ => True)) (vp_Sl (fun (r : Int64) => True)) 0 0 (fun _ => False) := by
  refine Met.ofW (cc := cX6_below) (maxL := 1) (ret := (some .long)) (by decide) rfl ?_
  intro p e s m args below meth c s₁ B hml hv
  obtain ⟨rfl, hsz, ⟨f0, hok, hP, hX⟩, hK, hnd, hWT, hE⟩ := hv
  have hx := B.exec
  have hb := B.bytes
  have hr := B.returns
  have hown : s.vm.findClass RX6 = some m.cls := findClass_of_methodNamed B.named
  have hlocks := B.notSynchronized
  subst hsz
  have hl := lv_entry ([.ref a0]) (n := 1) (Nat.le_of_ble_eq_true rfl)
  rw [lg_entry_eq]
  generalize (lg_sl ([.ref a0]) ++ List.replicate (1 - (lg_sl ([.ref a0])).length) Slot.unset).toArray = ls at hl ⊢
  have hl : lv_has ls 1 [(0, .ref a0)] := hl
  refine lv_aload_n hx hb dX6_below_0 rfl (lv_at hl 0 rfl) ?_
  obtain ⟨y1_1, y2_1, he1⟩ := ok_X6 hok ha0
  refine th_get hx hb (ly_X6 hE) hown hK hP ha0.1 he1 rfl 2 (by decide) (wd_340 hE) (fun _ h9 => h9) rfl dX6_below_1 ?_
  exact W.lret (v := y2_1) hx hb hr (fun t ht hW => ⟨y2_1, rfl, trivial, ht⟩) (fun _ h => absurd h List.not_mem_nil) dX6_below_4

set_option maxHeartbeats 4000000 in
set_option maxRecDepth 100000 in
theorem t_X7_cell (l : Launch) (dC : Nat → ClassId) (dI : Nat → Nat → Nat) (sz : Nat) (G : GT) (cs : Nat → ClassId) (tt mm : Nat) (a0 : Nat) (ha0 : Ty G a0 7) (v1 : Int32) : Met l yX7_cell [.code yX7_cell cX7_cell 2 (some .int)] ({ frames := 0, cells := 0, slots := 0, locals := 0 }) (PT [.ref a0, .int v1] sz dC dI G cs tt mm (fun _ => True)) (vp_Si (fun (r : Int32) => True)) 0 0 (fun _ => False) := by
  refine Met.ofW (cc := cX7_cell) (maxL := 2) (ret := (some .int)) (by decide) rfl ?_
  intro p e s m args below meth c s₁ B hml hv
  obtain ⟨rfl, hsz, ⟨f0, hok, hP, hX⟩, hK, hnd, hWT, hE⟩ := hv
  have hx := B.exec
  have hb := B.bytes
  have hr := B.returns
  have hown : s.vm.findClass RX7 = some m.cls := findClass_of_methodNamed B.named
  have hlocks := B.notSynchronized
  subst hsz
  have hl := lv_entry ([.ref a0, .int v1]) (n := 2) (Nat.le_of_ble_eq_true rfl)
  rw [lg_entry_eq]
  generalize (lg_sl ([.ref a0, .int v1]) ++ List.replicate (2 - (lg_sl ([.ref a0, .int v1])).length) Slot.unset).toArray = ls at hl ⊢
  have hl : lv_has ls 2 [(0, .ref a0), (1, .int v1)] := hl
  refine lv_iload_n hx hb dX7_cell_0 rfl (lv_at hl 1 rfl) ?_
  refine lv_if_lt (tgt := 13) hx hb dX7_cell_1 (by decide) (fun c1 => ?_) (fun c1 => ?_)
  · refine lv_iconst (v := 0) hx hb dX7_cell_13 (by decide) ?_
    refine lv_goto (tgt := 23) hx hb dX7_cell_14 (by decide) ?_
    exact W.iret (v := 0) hx hb hr (fun t ht hW => ⟨0, rfl, trivial, ht⟩) (fun _ h => absurd h List.not_mem_nil) dX7_cell_23
  · refine lv_iload_n hx hb dX7_cell_4 rfl (lv_at hl 1 rfl) ?_
    refine lv_aload_n hx hb dX7_cell_5 rfl (lv_at hl 0 rfl) ?_
    have he2 := ok_X7 hok ha0
    refine th_get hx hb (ly_X7 hE) hown hK hP ha0.1 he2 rfl 0 (by decide) (wd_149 hE) (fun _ h9 => h9) rfl dX7_cell_6 ?_
    refine th_len1 hx hb hK hP hok (n := 543) (wl_X7_0 hWT ha0) (Or.inl (wt_X7_0 hWT ha0)) dX7_cell_9 ?_
    refine W.eq (g2 := F0 m 10 ls [.int 543, .int v1]) rfl ?_
    refine lv_icmp_lt (tgt := 17) hx hb dX7_cell_10 (by decide) (fun c3 => ?_) (fun c3 => ?_)
    · refine lv_aload_n hx hb dX7_cell_17 rfl (lv_at hl 0 rfl) ?_
      refine th_get hx hb (ly_X7 hE) hown hK hP ha0.1 he2 rfl 0 (by decide) (wd_149 hE) (fun _ h9 => h9) rfl dX7_cell_18 ?_
      refine lv_iload_n hx hb dX7_cell_21 rfl (lv_at hl 1 rfl) ?_
      refine th_iald hx hb hK hP hok (wt_X7_0 hWT ha0) (n := 543) (wl_X7_0 hWT ha0) (vp_in_iff.mpr (by first | omega | (simp only [i_lt, i_le, i_eq, ti_m9, ti_m1, ti_0, ti_1, ti_2, ti_3, ti_4, ti_5, ti_6, ti_7, ti_9, ti_12, ti_20, ti_99, ti_700, ti_24, ti_156, ti_72, ti_8, ti_60, ti_543, ti_10, ti_33, ti_51, ti_178, ti_119, ti_111, ti_114, ti_100, ti_32, ti_62, ti_59, ti_48, ti_701, ti_97, ti_122, ti_57, ti_73, ti_128, ti_61] at c1 c3 ⊢; omega))) dX7_cell_22 (fun x4 => ?_)
      exact W.iret (v := x4) hx hb hr (fun t ht hW => ⟨x4, rfl, trivial, ht⟩) (fun _ h => absurd h List.not_mem_nil) dX7_cell_23
    · refine lv_iconst (v := 0) hx hb dX7_cell_13 (by decide) ?_
      refine lv_goto (tgt := 23) hx hb dX7_cell_14 (by decide) ?_
      exact W.iret (v := 0) hx hb hr (fun t ht hW => ⟨0, rfl, trivial, ht⟩) (fun _ h => absurd h List.not_mem_nil) dX7_cell_23

set_option maxHeartbeats 4000000 in
set_option maxRecDepth 100000 in
theorem t_X7_isLoop (l : Launch) (dC : Nat → ClassId) (dI : Nat → Nat → Nat) (sz : Nat) (G : GT) (cs : Nat → ClassId) (tt mm : Nat) (a0 : Nat) (ha0 : Ty G a0 7) (a1 : Nat) (ha1 : Ty G a1 10) : Met l yX7_isLoop [.code yX7_isLoop cX7_isLoop 2 (some .boolean)] ({ frames := 3, cells := 0, slots := 0, locals := 120 }) (PT [.ref a0, .ref a1] sz dC dI G cs tt mm (fun _ => True)) (vp_Si (fun (r : Int32) => r = 0 ∨ r = 1)) 0 0 (fun _ => False) := by
  refine Met.ofW (cc := cX7_isLoop) (maxL := 2) (ret := (some .boolean)) (by decide) rfl ?_
  intro p e s m args below meth c s₁ B hml hv
  obtain ⟨rfl, hsz, ⟨f0, hok, hP, hX⟩, hK, hnd, hWT, hE⟩ := hv
  have hx := B.exec
  have hb := B.bytes
  have hr := B.returns
  have hown : s.vm.findClass RX7 = some m.cls := findClass_of_methodNamed B.named
  have hlocks := B.notSynchronized
  subst hsz
  have hl := lv_entry ([.ref a0, .ref a1]) (n := 2) (Nat.le_of_ble_eq_true rfl)
  rw [lg_entry_eq]
  generalize (lg_sl ([.ref a0, .ref a1]) ++ List.replicate (2 - (lg_sl ([.ref a0, .ref a1])).length) Slot.unset).toArray = ls at hl ⊢
  have hl : lv_has ls 2 [(0, .ref a0), (1, .ref a1)] := hl
  refine lv_aload_n hx hb dX7_isLoop_0 rfl (lv_at hl 0 rfl) ?_
  refine lv_aload_n hx hb dX7_isLoop_1 rfl (lv_at hl 1 rfl) ?_
  have he1 := ok_X7 hok ha0
  refine vp_callSi (va_Run.run (va_runV (As := [.ref a1]) (rest := []) ⟨hx, hb, hml, hown, noTs⟩ (t_X7_endOf l dC dI s.heap.size G cs tt mm a0 ha0 a1 ha1) ⟨cbE 1 (wd_828 hE) (wd_116 hE) (wd_950 hE) rfl rfl (by decide +kernel) ⟨Nat.le_of_ble_eq_true rfl, Nat.le_of_ble_eq_true rfl⟩, (wd_826 hE), (wd_827 hE)⟩ ⟨PT.blind, th_recv hK hP ha0.1 he1 rfl, (th_pre (av := [.ref a0, .ref a1]) trivial hK hP hok hnd hWT hE)⟩ rfl rfl hl.1 rfl (lv_room (Nat.le_of_ble_eq_true rfl)) dX7_isLoop_2 ⟨Nat.le_of_ble_eq_true rfl, Nat.le_of_ble_eq_true rfl⟩)) (fun r2 hr2 => ?_)
  refine lv_aload_n hx hb dX7_isLoop_5 rfl (lv_at hl 1 rfl) ?_
  obtain ⟨y2_3, y3_3, hy3_3, he3⟩ := ok_X10 hok ha1
  refine vp_callSi (va_Run.run (va_runV (As := []) (rest := [.int r2]) ⟨hx, hb, hml, hown, noTs⟩ (t_X10_begin l dC dI s.heap.size G cs tt mm a1 ha1) ⟨cbE 0 (wd_713 hE) (wd_120 hE) (wd_710 hE) rfl rfl (by decide +kernel) ⟨Nat.le_of_ble_eq_true rfl, Nat.le_of_ble_eq_true rfl⟩, (wd_711 hE), (wd_712 hE)⟩ ⟨PT.blind, th_recv hK hP ha1.1 he3 rfl, (th_pre (av := [.ref a1]) trivial hK hP hok hnd hWT hE)⟩ rfl rfl hl.1 rfl (lv_room (Nat.le_of_ble_eq_true rfl)) dX7_isLoop_6 ⟨Nat.le_of_ble_eq_true rfl, Nat.le_of_ble_eq_true rfl⟩)) (fun r4 hr4 => ?_)
  refine lv_icmp_ne (tgt := 16) hx hb dX7_isLoop_9 (by decide) (fun c5 => ?_) (fun c5 => ?_)
  · refine lv_iconst (v := 0) hx hb dX7_isLoop_16 (by decide) ?_
    exact W.zret (v := 0) hx hb hr rfl (fun t ht hW => ⟨0, rfl, Or.inl rfl, ht⟩) (fun _ h => absurd h List.not_mem_nil) dX7_isLoop_17
  · refine lv_iconst (v := 1) hx hb dX7_isLoop_12 (by decide) ?_
    refine lv_goto (tgt := 17) hx hb dX7_isLoop_13 (by decide) ?_
    exact W.zret (v := 1) hx hb hr rfl (fun t ht hW => ⟨1, rfl, Or.inr rfl, ht⟩) (fun _ h => absurd h List.not_mem_nil) dX7_isLoop_17

set_option maxHeartbeats 4000000 in
set_option maxRecDepth 100000 in
theorem t_X7_readWord (l : Launch) (dC : Nat → ClassId) (dI : Nat → Nat → Nat) (sz : Nat) (G : GT) (cs : Nat → ClassId) (tt mm : Nat) (a0 : Nat) (ha0 : Ty G a0 7) (v1 : Int32) (a2 : Nat) (ha2 : Ty G a2 10) : Met l yX7_readWord [.code yX7_readWord cX7_readWord 6 (some .boolean)] ({ frames := 1, cells := 0, slots := 0, locals := 40 }) (PT [.ref a0, .int v1, .ref a2] sz dC dI G cs tt mm (fun _ => True)) (va_Qi (fun (r : Int32) (u : Nat → va_E) => r = 0 ∨ r = 1) (BT dC dI G cs tt mm) (AT G sz)) 0 0 (AT G sz) := by
  refine Met.ofW (cc := cX7_readWord) (maxL := 6) (ret := (some .boolean)) (by decide) rfl ?_
  intro p e s m args below meth c s₁ B hml hv
  obtain ⟨rfl, hsz, ⟨f0, hok, hP, hX⟩, hK, hnd, hWT, hE⟩ := hv
  have hx := B.exec
  have hb := B.bytes
  have hr := B.returns
  have hown : s.vm.findClass RX7 = some m.cls := findClass_of_methodNamed B.named
  have hlocks := B.notSynchronized
  subst hsz
  have hAL : ∀ a, a ∈ gL G → AT G s.heap.size a := fun a h => Or.inl h
  have hA : ∀ q : Nat, s.heap.size ≤ q → AT G s.heap.size q := fun q h => Or.inr h
  have hS : va_S (AT G s.heap.size) s.heap s.heap [] := va_S.rf
  have hl := lv_entry ([.ref a0, .int v1, .ref a2]) (n := 6) (Nat.le_of_ble_eq_true rfl)
  rw [lg_entry_eq]
  generalize (lg_sl ([.ref a0, .int v1, .ref a2]) ++ List.replicate (6 - (lg_sl ([.ref a0, .int v1, .ref a2])).length) Slot.unset).toArray = ls at hl ⊢
  have hl : lv_has ls 6 [(0, .ref a0), (1, .int v1), (2, .ref a2)] := hl
  refine lv_aload_n hx hb dX7_readWord_0 rfl (lv_at hl 0 rfl) ?_
  refine lv_iload_n hx hb dX7_readWord_1 rfl (lv_at hl 1 rfl) ?_
  have he1 := ok_X7 hok ha0
  refine vp_callSi (va_Run.run (va_runV (As := [.int v1]) (rest := []) ⟨hx, hb, hml, hown, noTs⟩ (t_X7_hasWord l dC dI s.heap.size G cs tt mm a0 ha0 v1) ⟨cbE 1 (wd_708 hE) (wd_116 hE) (wd_705 hE) rfl rfl (by decide +kernel) ⟨Nat.le_of_ble_eq_true rfl, Nat.le_of_ble_eq_true rfl⟩, (wd_706 hE), (wd_707 hE)⟩ ⟨PT.blind, th_recv hK hP ha0.1 he1 rfl, (th_pre (av := [.ref a0, .int v1]) trivial hK hP hok hnd hWT hE)⟩ rfl rfl hl.1 rfl (lv_room (Nat.le_of_ble_eq_true rfl)) dX7_readWord_2 ⟨Nat.le_of_ble_eq_true rfl, Nat.le_of_ble_eq_true rfl⟩)) (fun r2 hr2 => ?_)
  refine lv_if_ne (tgt := 10) hx hb dX7_readWord_5 (by decide) (fun c3 => ?_) (fun c3 => ?_)
  · refine lv_bipush (v := 33) hx hb dX7_readWord_10 (by decide) ?_
    refine lv_bipush (v := 51) hx hb dX7_readWord_12 (by decide) ?_
    refine lv_iload_n hx hb dX7_readWord_14 rfl (lv_at hl 1 rfl) ?_
    refine lv_imul hx hb dX7_readWord_15 ?_
    refine lv_topi (fun x4 ex4 => ?_)
    refine lv_iadd hx hb dX7_readWord_16 ?_
    refine lv_topi (fun x5 ex5 => ?_)
    refine lv_istore_n (lv' := [(3, .int x5), (0, .ref a0), (1, .int v1), (2, .ref a2)]) hx hb dX7_readWord_17 rfl hl (by decide) rfl (fun ls hl => ?_)
    refine lv_aload_n hx hb dX7_readWord_18 rfl (lv_at hl 1 rfl) ?_
    refine lv_iload_n hx hb dX7_readWord_19 rfl (lv_at hl 0 rfl) ?_
    refine lv_iconst (v := 1) hx hb dX7_readWord_20 (by decide) ?_
    refine lv_iadd hx hb dX7_readWord_21 ?_
    refine lv_topi (fun x6 ex6 => ?_)
    refine vp_callSi (va_Run.run (va_runV (As := [.int x6]) (rest := []) ⟨hx, hb, hml, hown, noTs⟩ (t_X7_cell l dC dI s.heap.size G cs tt mm a0 ha0 x6) ⟨cbE 1 (wd_821 hE) (wd_116 hE) (wd_818 hE) rfl rfl (by decide +kernel) ⟨Nat.le_of_ble_eq_true rfl, Nat.le_of_ble_eq_true rfl⟩, (wd_820 hE), (wd_27 hE)⟩ ⟨PT.blind, th_recv hK hP ha0.1 he1 rfl, (th_pre (av := [.ref a0, .int x6]) trivial hK hP hok hnd hWT hE)⟩ rfl rfl hl.1 rfl (lv_room (Nat.le_of_ble_eq_true rfl)) dX7_readWord_22 ⟨Nat.le_of_ble_eq_true rfl, Nat.le_of_ble_eq_true rfl⟩)) (fun r7 hr7 => ?_)
    refine lv_istore (lv' := [(4, .int r7), (3, .int x5), (0, .ref a0), (1, .int v1), (2, .ref a2)]) hx hb dX7_readWord_25 hl (by decide) rfl (fun ls hl => ?_)
    refine lv_aload_n hx hb dX7_readWord_27 rfl (lv_at hl 4 rfl) ?_
    refine lv_aload_n hx hb dX7_readWord_28 rfl (lv_at hl 2 rfl) ?_
    refine lv_iload_n hx hb dX7_readWord_29 rfl (lv_at hl 1 rfl) ?_
    refine vp_callSi (va_Run.run (va_runV (As := [.int x5]) (rest := [.ref a2]) ⟨hx, hb, hml, hown, noTs⟩ (t_X7_cell l dC dI s.heap.size G cs tt mm a0 ha0 x5) ⟨cbE 1 (wd_821 hE) (wd_116 hE) (wd_818 hE) rfl rfl (by decide +kernel) ⟨Nat.le_of_ble_eq_true rfl, Nat.le_of_ble_eq_true rfl⟩, (wd_820 hE), (wd_27 hE)⟩ ⟨PT.blind, th_recv hK hP ha0.1 he1 rfl, (th_pre (av := [.ref a0, .int x5]) trivial hK hP hok hnd hWT hE)⟩ rfl rfl hl.1 rfl (lv_room (Nat.le_of_ble_eq_true rfl)) dX7_readWord_30 ⟨Nat.le_of_ble_eq_true rfl, Nat.le_of_ble_eq_true rfl⟩)) (fun r8 hr8 => ?_)
    refine lv_aload_n hx hb dX7_readWord_33 rfl (lv_at hl 2 rfl) ?_
    refine lv_iload_n hx hb dX7_readWord_34 rfl (lv_at hl 1 rfl) ?_
    refine lv_iconst (v := 2) hx hb dX7_readWord_35 (by decide) ?_
    refine lv_iadd hx hb dX7_readWord_36 ?_
    refine lv_topi (fun x9 ex9 => ?_)
    refine vp_callSi (va_Run.run (va_runV (As := [.int x9]) (rest := [.int r8, .ref a2]) ⟨hx, hb, hml, hown, noTs⟩ (t_X7_cell l dC dI s.heap.size G cs tt mm a0 ha0 x9) ⟨cbE 1 (wd_821 hE) (wd_116 hE) (wd_818 hE) rfl rfl (by decide +kernel) ⟨Nat.le_of_ble_eq_true rfl, Nat.le_of_ble_eq_true rfl⟩, (wd_820 hE), (wd_27 hE)⟩ ⟨PT.blind, th_recv hK hP ha0.1 he1 rfl, (th_pre (av := [.ref a0, .int x9]) trivial hK hP hok hnd hWT hE)⟩ rfl rfl hl.1 rfl (lv_room (Nat.le_of_ble_eq_true rfl)) dX7_readWord_37 ⟨Nat.le_of_ble_eq_true rfl, Nat.le_of_ble_eq_true rfl⟩)) (fun r10 hr10 => ?_)
    obtain ⟨y2_11, y3_11, hy3_11, he11⟩ := ok_X10 hok ha2
    refine tc_v hAL hS hA (va_runV (As := [.int r8, .int r10]) (rest := []) ⟨hx, hb, hml, hown, noTs⟩ (t_X10_start l dC dI s.heap.size G cs tt mm a2 ha2 r8 r10) ⟨cbE 2 (wd_637 hE) (wd_120 hE) (wd_822 hE) rfl rfl (by decide +kernel) ⟨Nat.le_of_ble_eq_true rfl, Nat.le_of_ble_eq_true rfl⟩, (wd_635 hE), (wd_636 hE)⟩ ⟨PT.blind, th_recv hK hP ha2.1 he11 rfl, (th_pre (av := [.ref a2, .int r8, .int r10]) trivial hK hP hok hnd hWT hE)⟩ rfl rfl hl.1 rfl (lv_room (Nat.le_of_ble_eq_true rfl)) dX7_readWord_40 ⟨Nat.le_of_ble_eq_true rfl, Nat.le_of_ble_eq_true rfl⟩) (fun f12 H locs hr12 hok hP hS => ?_)
    refine lv_iconst (v := 0) hx hb dX7_readWord_43 (by decide) ?_
    refine lv_istore (lv' := [(5, .int 0), (4, .int r7), (3, .int x5), (0, .ref a0), (1, .int v1), (2, .ref a2)]) hx hb dX7_readWord_44 hl (by decide) rfl (fun ls hl => ?_)
    refine w_ind (I := fun n f H locs ls => OKT G cs tt mm f ∧ va_P (dC, dI) vwCl (va_pl (gL G) f) H ∧ va_S (AT G s.heap.size) s.heap H locs ∧ ∃ (w5_13 : Int32), n = (2147483647 - w5_13.toInt).toNat ∧ 0 ≤ w5_13 ∧ lv_has ls 6 [(0, .ref a0), (1, .int v1), (2, .ref a2), (3, .int x5), (4, .int r7), (5, .int w5_13)]) (fun n f13 H locs ls hI ih13 => ?_) _ f12 _ _ _ ⟨hok, hP, hS, 0, rfl, (by first | omega | (simp only [i_lt, i_le, i_eq, ti_m9, ti_m1, ti_0, ti_1, ti_2, ti_3, ti_4, ti_5, ti_6, ti_7, ti_9, ti_12, ti_20, ti_99, ti_700, ti_24, ti_156, ti_72, ti_8, ti_60, ti_543, ti_10, ti_33, ti_51, ti_178, ti_119, ti_111, ti_114, ti_100, ti_32, ti_62, ti_59, ti_48, ti_701, ti_97, ti_122, ti_57, ti_73, ti_128, ti_61] at c3 ⊢; omega)), lv_sub hl [3, 4, 5, 2, 1, 0] rfl⟩
    obtain ⟨hok, hP, hS, w5_13, hmu13, hlo13, hl⟩ := hI
    subst hmu13
    refine lv_iload hx hb dX7_readWord_46 (lv_at hl 5 rfl) ?_
    refine lv_iload hx hb dX7_readWord_48 (lv_at hl 4 rfl) ?_
    refine lv_icmp_ge (tgt := 87) hx hb dX7_readWord_50 (by decide) (fun c14 => ?_) (fun c14 => ?_)
    · refine lv_iconst (v := 1) hx hb dX7_readWord_87 (by decide) ?_
      exact W.zret (v := 1) hx hb hr rfl (fun t ht hW => ⟨⟨1, f13, rfl, Or.inr rfl, hok, by rw [ht]; exact hP⟩, hS.F ht⟩) hS.2.2 dX7_readWord_88
    · refine lv_aload_n hx hb dX7_readWord_53 rfl (lv_at hl 2 rfl) ?_
      refine lv_aload_n hx hb dX7_readWord_54 rfl (lv_at hl 0 rfl) ?_
      refine lv_iload_n hx hb dX7_readWord_55 rfl (lv_at hl 3 rfl) ?_
      refine lv_iconst (v := 3) hx hb dX7_readWord_56 (by decide) ?_
      refine lv_iadd hx hb dX7_readWord_57 ?_
      refine lv_topi (fun x15 ex15 => ?_)
      refine lv_iconst (v := 2) hx hb dX7_readWord_58 (by decide) ?_
      refine lv_iload hx hb dX7_readWord_59 (lv_at hl 5 rfl) ?_
      refine lv_imul hx hb dX7_readWord_61 ?_
      refine lv_topi (fun x16 ex16 => ?_)
      refine lv_iadd hx hb dX7_readWord_62 ?_
      refine lv_topi (fun x17 ex17 => ?_)
      have he18 := ok_X7 hok ha0
      refine vp_callSi (va_Run.run (va_runV (As := [.int x17]) (rest := [.ref a2]) ⟨hx, hb, hml, hown, noTs⟩ (t_X7_cell l dC dI H.size G cs tt mm a0 ha0 x17) ⟨cbE 1 (wd_821 hE) (wd_116 hE) (wd_818 hE) rfl rfl (by decide +kernel) ⟨Nat.le_of_ble_eq_true rfl, Nat.le_of_ble_eq_true rfl⟩, (wd_820 hE), (wd_27 hE)⟩ ⟨PT.blind, th_recv hK hP ha0.1 he18 rfl, (th_pre (av := [.ref a0, .int x17]) trivial hK hP hok hnd hWT hE)⟩ rfl rfl hl.1 rfl (lv_room (Nat.le_of_ble_eq_true rfl)) dX7_readWord_63 ⟨Nat.le_of_ble_eq_true rfl, Nat.le_of_ble_eq_true rfl⟩)) (fun r19 hr19 => ?_)
      refine lv_aload_n hx hb dX7_readWord_66 rfl (lv_at hl 0 rfl) ?_
      refine lv_iload_n hx hb dX7_readWord_67 rfl (lv_at hl 3 rfl) ?_
      refine lv_iconst (v := 4) hx hb dX7_readWord_68 (by decide) ?_
      refine lv_iadd hx hb dX7_readWord_69 ?_
      refine lv_topi (fun x20 ex20 => ?_)
      refine lv_iconst (v := 2) hx hb dX7_readWord_70 (by decide) ?_
      refine lv_iload hx hb dX7_readWord_71 (lv_at hl 5 rfl) ?_
      refine lv_imul hx hb dX7_readWord_73 ?_
      refine lv_topi (fun x21 ex21 => ?_)
      refine lv_iadd hx hb dX7_readWord_74 ?_
      refine lv_topi (fun x22 ex22 => ?_)
      refine vp_callSi (va_Run.run (va_runV (As := [.int x22]) (rest := [.int r19, .ref a2]) ⟨hx, hb, hml, hown, noTs⟩ (t_X7_cell l dC dI H.size G cs tt mm a0 ha0 x22) ⟨cbE 1 (wd_821 hE) (wd_116 hE) (wd_818 hE) rfl rfl (by decide +kernel) ⟨Nat.le_of_ble_eq_true rfl, Nat.le_of_ble_eq_true rfl⟩, (wd_820 hE), (wd_27 hE)⟩ ⟨PT.blind, th_recv hK hP ha0.1 he18 rfl, (th_pre (av := [.ref a0, .int x22]) trivial hK hP hok hnd hWT hE)⟩ rfl rfl hl.1 rfl (lv_room (Nat.le_of_ble_eq_true rfl)) dX7_readWord_75 ⟨Nat.le_of_ble_eq_true rfl, Nat.le_of_ble_eq_true rfl⟩)) (fun r23 hr23 => ?_)
      obtain ⟨y2_24, y3_24, hy3_24, he24⟩ := ok_X10 hok ha2
      refine tc_v hAL hS hA (va_runV (As := [.int r19, .int r23]) (rest := []) ⟨hx, hb, hml, hown, noTs⟩ (t_X10_push l dC dI H.size G cs tt mm a2 ha2 r19 r23) ⟨cbE 2 (wd_688 hE) (wd_120 hE) (wd_823 hE) rfl rfl (by decide +kernel) ⟨Nat.le_of_ble_eq_true rfl, Nat.le_of_ble_eq_true rfl⟩, (wd_686 hE), (wd_687 hE)⟩ ⟨PT.blind, th_recv hK hP ha2.1 he24 rfl, (th_pre (av := [.ref a2, .int r19, .int r23]) trivial hK hP hok hnd hWT hE)⟩ rfl rfl hl.1 rfl (lv_room (Nat.le_of_ble_eq_true rfl)) dX7_readWord_78 ⟨Nat.le_of_ble_eq_true rfl, Nat.le_of_ble_eq_true rfl⟩) (fun f25 H locs hr25 hok hP hS => ?_)
      obtain ⟨z26, ez26⟩ : ∃ z : Int32, z = w5_13 + 1 := ⟨_, rfl⟩
      refine lv_iinc (v := z26) (lv' := [(5, .int z26), (0, .ref a0), (1, .int v1), (2, .ref a2), (3, .int x5), (4, .int r7)]) hx hb dX7_readWord_81 hl (k := 5) rfl (by rw [ez26]; rfl) (by decide) rfl (fun ls hl => ?_)
      have ic26 : z26.toInt = w5_13.toInt + 1 := by rw [ez26]; exact ic_up (by have := i_rng r2; have := i_rng w5_13; have := i_rng r7; simp only [i_lt, i_le, i_eq, ti_m9, ti_m1, ti_0, ti_1, ti_2, ti_3, ti_4, ti_5, ti_6, ti_7, ti_9, ti_12, ti_20, ti_99, ti_700, ti_24, ti_156, ti_72, ti_8, ti_60, ti_543, ti_10, ti_33, ti_51, ti_178, ti_119, ti_111, ti_114, ti_100, ti_32, ti_62, ti_59, ti_48, ti_701, ti_97, ti_122, ti_57, ti_73, ti_128, ti_61] at c3 hlo13 c14 ⊢; omega)
      refine lv_goto (tgt := 46) hx hb dX7_readWord_84 (by decide) ?_
      exact ih13 _ f25 _ _ _ (by first | omega | (simp only [i_lt, i_le, i_eq, ti_m9, ti_m1, ti_0, ti_1, ti_2, ti_3, ti_4, ti_5, ti_6, ti_7, ti_9, ti_12, ti_20, ti_99, ti_700, ti_24, ti_156, ti_72, ti_8, ti_60, ti_543, ti_10, ti_33, ti_51, ti_178, ti_119, ti_111, ti_114, ti_100, ti_32, ti_62, ti_59, ti_48, ti_701, ti_97, ti_122, ti_57, ti_73, ti_128, ti_61, ic26] at c3 hlo13 c14 ic26 ⊢; omega)) ⟨hok, hP, hS, z26, rfl, (by first | omega | (simp only [i_lt, i_le, i_eq, ti_m9, ti_m1, ti_0, ti_1, ti_2, ti_3, ti_4, ti_5, ti_6, ti_7, ti_9, ti_12, ti_20, ti_99, ti_700, ti_24, ti_156, ti_72, ti_8, ti_60, ti_543, ti_10, ti_33, ti_51, ti_178, ti_119, ti_111, ti_114, ti_100, ti_32, ti_62, ti_59, ti_48, ti_701, ti_97, ti_122, ti_57, ti_73, ti_128, ti_61, ic26] at c3 hlo13 c14 ⊢; omega)), lv_sub hl [1, 2, 3, 4, 5, 0] rfl⟩
  · refine lv_iconst (v := 0) hx hb dX7_readWord_8 (by decide) ?_
    exact W.zret (v := 0) hx hb hr rfl (fun t ht hW => ⟨⟨0, f0, rfl, Or.inl rfl, hok, by rw [ht]; exact hP⟩, hS.F ht⟩) hS.2.2 dX7_readWord_9

set_option maxHeartbeats 4000000 in
set_option maxRecDepth 100000 in
theorem t_X7_removeWord (l : Launch) (dC : Nat → ClassId) (dI : Nat → Nat → Nat) (sz : Nat) (G : GT) (cs : Nat → ClassId) (tt mm : Nat) (a0 : Nat) (ha0 : Ty G a0 7) (v1 : Int32) : Met l yX7_removeWord [.code yX7_removeWord cX7_removeWord 4 none] ({ frames := 1, cells := 0, slots := 0, locals := 40 }) (PT [.ref a0, .int v1] sz dC dI G cs tt mm (fun _ => True)) (va_Qv (fun (u : Nat → va_E) => True) (BT dC dI G cs tt mm) (AT G sz)) 0 0 (AT G sz) := by
  refine Met.ofW (cc := cX7_removeWord) (maxL := 4) (ret := none) (by decide) rfl ?_
  intro p e s m args below meth c s₁ B hml hv
  obtain ⟨rfl, hsz, ⟨f0, hok, hP, hX⟩, hK, hnd, hWT, hE⟩ := hv
  have hx := B.exec
  have hb := B.bytes
  have hr := B.returns
  have hown : s.vm.findClass RX7 = some m.cls := findClass_of_methodNamed B.named
  have hlocks := B.notSynchronized
  subst hsz
  have hAL : ∀ a, a ∈ gL G → AT G s.heap.size a := fun a h => Or.inl h
  have hA : ∀ q : Nat, s.heap.size ≤ q → AT G s.heap.size q := fun q h => Or.inr h
  have hS : va_S (AT G s.heap.size) s.heap s.heap [] := va_S.rf
  have hl := lv_entry ([.ref a0, .int v1]) (n := 4) (Nat.le_of_ble_eq_true rfl)
  rw [lg_entry_eq]
  generalize (lg_sl ([.ref a0, .int v1]) ++ List.replicate (4 - (lg_sl ([.ref a0, .int v1])).length) Slot.unset).toArray = ls at hl ⊢
  have hl : lv_has ls 4 [(0, .ref a0), (1, .int v1)] := hl
  refine lv_aload_n hx hb dX7_removeWord_0 rfl (lv_at hl 0 rfl) ?_
  refine lv_iload_n hx hb dX7_removeWord_1 rfl (lv_at hl 1 rfl) ?_
  have he1 := ok_X7 hok ha0
  refine vp_callSi (va_Run.run (va_runV (As := [.int v1]) (rest := []) ⟨hx, hb, hml, hown, noTs⟩ (t_X7_hasWord l dC dI s.heap.size G cs tt mm a0 ha0 v1) ⟨cbE 1 (wd_708 hE) (wd_116 hE) (wd_705 hE) rfl rfl (by decide +kernel) ⟨Nat.le_of_ble_eq_true rfl, Nat.le_of_ble_eq_true rfl⟩, (wd_706 hE), (wd_707 hE)⟩ ⟨PT.blind, th_recv hK hP ha0.1 he1 rfl, (th_pre (av := [.ref a0, .int v1]) trivial hK hP hok hnd hWT hE)⟩ rfl rfl hl.1 rfl (lv_room (Nat.le_of_ble_eq_true rfl)) dX7_removeWord_2 ⟨Nat.le_of_ble_eq_true rfl, Nat.le_of_ble_eq_true rfl⟩)) (fun r2 hr2 => ?_)
  refine lv_if_ne (tgt := 9) hx hb dX7_removeWord_5 (by decide) (fun c3 => ?_) (fun c3 => ?_)
  · refine lv_bipush (v := 33) hx hb dX7_removeWord_9 (by decide) ?_
    refine lv_bipush (v := 51) hx hb dX7_removeWord_11 (by decide) ?_
    refine lv_aload_n hx hb dX7_removeWord_13 rfl (lv_at hl 0 rfl) ?_
    refine vp_callSi (va_Run.run (va_runV (As := []) (rest := [.int 51, .int 33]) ⟨hx, hb, hml, hown, noTs⟩ (t_X7_words l dC dI s.heap.size G cs tt mm a0 ha0) ⟨cbE 0 (wd_700 hE) (wd_116 hE) (wd_697 hE) rfl rfl (by decide +kernel) ⟨Nat.le_of_ble_eq_true rfl, Nat.le_of_ble_eq_true rfl⟩, (wd_698 hE), (wd_699 hE)⟩ ⟨PT.blind, th_recv hK hP ha0.1 he1 rfl, (th_pre (av := [.ref a0]) trivial hK hP hok hnd hWT hE)⟩ rfl rfl hl.1 rfl (lv_room (Nat.le_of_ble_eq_true rfl)) dX7_removeWord_14 ⟨Nat.le_of_ble_eq_true rfl, Nat.le_of_ble_eq_true rfl⟩)) (fun r4 hr4 => ?_)
    refine lv_iconst (v := 1) hx hb dX7_removeWord_17 (by decide) ?_
    refine lv_isub hx hb dX7_removeWord_18 ?_
    refine lv_topi (fun x5 ex5 => ?_)
    refine lv_imul hx hb dX7_removeWord_19 ?_
    refine lv_topi (fun x6 ex6 => ?_)
    refine lv_iadd hx hb dX7_removeWord_20 ?_
    refine lv_topi (fun x7 ex7 => ?_)
    refine lv_istore_n (lv' := [(2, .int x7), (0, .ref a0), (1, .int v1)]) hx hb dX7_removeWord_21 rfl hl (by decide) rfl (fun ls hl => ?_)
    refine lv_bipush (v := 33) hx hb dX7_removeWord_22 (by decide) ?_
    refine lv_bipush (v := 51) hx hb dX7_removeWord_24 (by decide) ?_
    refine lv_iload_n hx hb dX7_removeWord_26 rfl (lv_at hl 2 rfl) ?_
    refine lv_imul hx hb dX7_removeWord_27 ?_
    refine lv_topi (fun x8 ex8 => ?_)
    refine lv_iadd hx hb dX7_removeWord_28 ?_
    refine lv_topi (fun x9 ex9 => ?_)
    refine lv_istore_n (lv' := [(3, .int x9), (2, .int x7), (0, .ref a0), (1, .int v1)]) hx hb dX7_removeWord_29 rfl hl (by decide) rfl (fun ls hl => ?_)
    refine w_ind (I := fun n f H locs ls => OKT G cs tt mm f ∧ va_P (dC, dI) vwCl (va_pl (gL G) f) H ∧ va_S (AT G s.heap.size) s.heap H locs ∧ ∃ (w3_10 : Int32), n = (2147483647 - w3_10.toInt).toNat ∧ lv_has ls 4 [(0, .ref a0), (1, .int v1), (2, .int x7), (3, .int w3_10)]) (fun n f10 H locs ls hI ih10 => ?_) _ f0 _ _ _ ⟨hok, hP, hS, x9, rfl, lv_sub hl [2, 3, 1, 0] rfl⟩
    obtain ⟨hok, hP, hS, w3_10, hmu10, hl⟩ := hI
    subst hmu10
    refine lv_iload_n hx hb dX7_removeWord_30 rfl (lv_at hl 3 rfl) ?_
    refine lv_iload_n hx hb dX7_removeWord_31 rfl (lv_at hl 2 rfl) ?_
    refine lv_icmp_ge (tgt := 54) hx hb dX7_removeWord_32 (by decide) (fun c11 => ?_) (fun c11 => ?_)
    · refine lv_aload_n hx hb dX7_removeWord_54 rfl (lv_at hl 0 rfl) ?_
      refine lv_iconst (v := 2) hx hb dX7_removeWord_55 (by decide) ?_
      refine lv_aload_n hx hb dX7_removeWord_56 rfl (lv_at hl 0 rfl) ?_
      have he12 := ok_X7 hok ha0
      refine vp_callSi (va_Run.run (va_runV (As := []) (rest := [.int 2, .ref a0]) ⟨hx, hb, hml, hown, noTs⟩ (t_X7_words l dC dI H.size G cs tt mm a0 ha0) ⟨cbE 0 (wd_700 hE) (wd_116 hE) (wd_697 hE) rfl rfl (by decide +kernel) ⟨Nat.le_of_ble_eq_true rfl, Nat.le_of_ble_eq_true rfl⟩, (wd_698 hE), (wd_699 hE)⟩ ⟨PT.blind, th_recv hK hP ha0.1 he12 rfl, (th_pre (av := [.ref a0]) trivial hK hP hok hnd hWT hE)⟩ rfl rfl hl.1 rfl (lv_room (Nat.le_of_ble_eq_true rfl)) dX7_removeWord_57 ⟨Nat.le_of_ble_eq_true rfl, Nat.le_of_ble_eq_true rfl⟩)) (fun r13 hr13 => ?_)
      refine lv_iconst (v := 1) hx hb dX7_removeWord_60 (by decide) ?_
      refine lv_isub hx hb dX7_removeWord_61 ?_
      refine lv_topi (fun x14 ex14 => ?_)
      refine tc_v hAL hS hA (va_runV (As := [.int 2, .int x14]) (rest := []) ⟨hx, hb, hml, hown, noTs⟩ (t_X7_put l dC dI H.size G cs tt mm a0 ha0 2 x14) ⟨cbE 2 (wd_590 hE) (wd_116 hE) (wd_587 hE) rfl rfl (by decide +kernel) ⟨Nat.le_of_ble_eq_true rfl, Nat.le_of_ble_eq_true rfl⟩, (wd_589 hE), (wd_14 hE)⟩ ⟨PT.blind, th_recv hK hP ha0.1 he12 rfl, (th_pre (av := [.ref a0, .int 2, .int x14]) trivial hK hP hok hnd hWT hE)⟩ rfl rfl hl.1 rfl (lv_room (Nat.le_of_ble_eq_true rfl)) dX7_removeWord_62 ⟨Nat.le_of_ble_eq_true rfl, Nat.le_of_ble_eq_true rfl⟩) (fun f15 H locs hr15 hok hP hS => ?_)
      exact W.vret hx hb hr (fun t ht hW => ⟨⟨f15, rfl, trivial, hok, by rw [ht]; exact hP⟩, hS.F ht⟩) hS.2.2 dX7_removeWord_65
    · refine lv_aload_n hx hb dX7_removeWord_35 rfl (lv_at hl 0 rfl) ?_
      refine lv_iload_n hx hb dX7_removeWord_36 rfl (lv_at hl 3 rfl) ?_
      refine lv_aload_n hx hb dX7_removeWord_37 rfl (lv_at hl 0 rfl) ?_
      refine lv_iload_n hx hb dX7_removeWord_38 rfl (lv_at hl 3 rfl) ?_
      refine lv_bipush (v := 51) hx hb dX7_removeWord_39 (by decide) ?_
      refine lv_iadd hx hb dX7_removeWord_41 ?_
      refine lv_topi (fun x16 ex16 => ?_)
      have he17 := ok_X7 hok ha0
      refine vp_callSi (va_Run.run (va_runV (As := [.int x16]) (rest := [.int w3_10, .ref a0]) ⟨hx, hb, hml, hown, noTs⟩ (t_X7_cell l dC dI H.size G cs tt mm a0 ha0 x16) ⟨cbE 1 (wd_821 hE) (wd_116 hE) (wd_818 hE) rfl rfl (by decide +kernel) ⟨Nat.le_of_ble_eq_true rfl, Nat.le_of_ble_eq_true rfl⟩, (wd_820 hE), (wd_27 hE)⟩ ⟨PT.blind, th_recv hK hP ha0.1 he17 rfl, (th_pre (av := [.ref a0, .int x16]) trivial hK hP hok hnd hWT hE)⟩ rfl rfl hl.1 rfl (lv_room (Nat.le_of_ble_eq_true rfl)) dX7_removeWord_42 ⟨Nat.le_of_ble_eq_true rfl, Nat.le_of_ble_eq_true rfl⟩)) (fun r18 hr18 => ?_)
      refine tc_v hAL hS hA (va_runV (As := [.int w3_10, .int r18]) (rest := []) ⟨hx, hb, hml, hown, noTs⟩ (t_X7_put l dC dI H.size G cs tt mm a0 ha0 w3_10 r18) ⟨cbE 2 (wd_590 hE) (wd_116 hE) (wd_587 hE) rfl rfl (by decide +kernel) ⟨Nat.le_of_ble_eq_true rfl, Nat.le_of_ble_eq_true rfl⟩, (wd_589 hE), (wd_14 hE)⟩ ⟨PT.blind, th_recv hK hP ha0.1 he17 rfl, (th_pre (av := [.ref a0, .int w3_10, .int r18]) trivial hK hP hok hnd hWT hE)⟩ rfl rfl hl.1 rfl (lv_room (Nat.le_of_ble_eq_true rfl)) dX7_removeWord_45 ⟨Nat.le_of_ble_eq_true rfl, Nat.le_of_ble_eq_true rfl⟩) (fun f19 H locs hr19 hok hP hS => ?_)
      obtain ⟨z20, ez20⟩ : ∃ z : Int32, z = w3_10 + 1 := ⟨_, rfl⟩
      refine lv_iinc (v := z20) (lv' := [(3, .int z20), (0, .ref a0), (1, .int v1), (2, .int x7)]) hx hb dX7_removeWord_48 hl (k := 3) rfl (by rw [ez20]; rfl) (by decide) rfl (fun ls hl => ?_)
      have ic20 : z20.toInt = w3_10.toInt + 1 := by rw [ez20]; exact ic_up (by have := i_rng r2; have := i_rng w3_10; have := i_rng x7; simp only [i_lt, i_le, i_eq, ti_m9, ti_m1, ti_0, ti_1, ti_2, ti_3, ti_4, ti_5, ti_6, ti_7, ti_9, ti_12, ti_20, ti_99, ti_700, ti_24, ti_156, ti_72, ti_8, ti_60, ti_543, ti_10, ti_33, ti_51, ti_178, ti_119, ti_111, ti_114, ti_100, ti_32, ti_62, ti_59, ti_48, ti_701, ti_97, ti_122, ti_57, ti_73, ti_128, ti_61] at c3 c11 ⊢; omega)
      refine lv_goto (tgt := 30) hx hb dX7_removeWord_51 (by decide) ?_
      exact ih10 _ f19 _ _ _ (by first | omega | (simp only [i_lt, i_le, i_eq, ti_m9, ti_m1, ti_0, ti_1, ti_2, ti_3, ti_4, ti_5, ti_6, ti_7, ti_9, ti_12, ti_20, ti_99, ti_700, ti_24, ti_156, ti_72, ti_8, ti_60, ti_543, ti_10, ti_33, ti_51, ti_178, ti_119, ti_111, ti_114, ti_100, ti_32, ti_62, ti_59, ti_48, ti_701, ti_97, ti_122, ti_57, ti_73, ti_128, ti_61, ic20] at c3 c11 ic20 ⊢; omega)) ⟨hok, hP, hS, z20, rfl, lv_sub hl [1, 2, 3, 0] rfl⟩
  · exact W.vret hx hb hr (fun t ht hW => ⟨⟨f0, rfl, trivial, hok, by rw [ht]; exact hP⟩, hS.F ht⟩) hS.2.2 dX7_removeWord_8

set_option maxHeartbeats 4000000 in
set_option maxRecDepth 100000 in
theorem t_X8_size (l : Launch) (dC : Nat → ClassId) (dI : Nat → Nat → Nat) (sz : Nat) (G : GT) (cs : Nat → ClassId) (tt mm : Nat) (a0 : Nat) (ha0 : Ty G a0 8) : Met l yX8_size [.code yX8_size cX8_size 1 (some .int)] ({ frames := 0, cells := 0, slots := 0, locals := 0 }) (PT [.ref a0] sz dC dI G cs tt mm (fun _ => True)) (vp_Si (fun (r : Int32) => True)) 0 0 (fun _ => False) := by
  refine Met.ofW (cc := cX8_size) (maxL := 1) (ret := (some .int)) (by decide) rfl ?_
  intro p e s m args below meth c s₁ B hml hv
  obtain ⟨rfl, hsz, ⟨f0, hok, hP, hX⟩, hK, hnd, hWT, hE⟩ := hv
  have hx := B.exec
  have hb := B.bytes
  have hr := B.returns
  have hown : s.vm.findClass RX8 = some m.cls := findClass_of_methodNamed B.named
  have hlocks := B.notSynchronized
  subst hsz
  have hl := lv_entry ([.ref a0]) (n := 1) (Nat.le_of_ble_eq_true rfl)
  rw [lg_entry_eq]
  generalize (lg_sl ([.ref a0]) ++ List.replicate (1 - (lg_sl ([.ref a0])).length) Slot.unset).toArray = ls at hl ⊢
  have hl : lv_has ls 1 [(0, .ref a0)] := hl
  refine lv_aload_n hx hb dX8_size_0 rfl (lv_at hl 0 rfl) ?_
  obtain ⟨y1_1, he1⟩ := ok_X8 hok ha0
  refine th_get hx hb (ly_X8 hE) hown hK hP ha0.1 he1 rfl 1 (by decide) (wd_265 hE) (fun _ h9 => h9) rfl dX8_size_1 ?_
  exact W.iret (v := y1_1) hx hb hr (fun t ht hW => ⟨y1_1, rfl, trivial, ht⟩) (fun _ h => absurd h List.not_mem_nil) dX8_size_4

set_option maxHeartbeats 4000000 in
set_option maxRecDepth 100000 in
theorem t_X8_byteAt (l : Launch) (dC : Nat → ClassId) (dI : Nat → Nat → Nat) (sz : Nat) (G : GT) (cs : Nat → ClassId) (tt mm : Nat) (a0 : Nat) (ha0 : Ty G a0 8) (v1 : Int32) : Met l yX8_byteAt [.code yX8_byteAt cX8_byteAt 2 (some .int)] ({ frames := 0, cells := 0, slots := 0, locals := 0 }) (PT [.ref a0, .int v1] sz dC dI G cs tt mm (fun _ => True)) (vp_Si (fun (r : Int32) => True)) 0 0 (fun _ => False) := by
  refine Met.ofW (cc := cX8_byteAt) (maxL := 2) (ret := (some .int)) (by decide) rfl ?_
  intro p e s m args below meth c s₁ B hml hv
  obtain ⟨rfl, hsz, ⟨f0, hok, hP, hX⟩, hK, hnd, hWT, hE⟩ := hv
  have hx := B.exec
  have hb := B.bytes
  have hr := B.returns
  have hown : s.vm.findClass RX8 = some m.cls := findClass_of_methodNamed B.named
  have hlocks := B.notSynchronized
  subst hsz
  have hl := lv_entry ([.ref a0, .int v1]) (n := 2) (Nat.le_of_ble_eq_true rfl)
  rw [lg_entry_eq]
  generalize (lg_sl ([.ref a0, .int v1]) ++ List.replicate (2 - (lg_sl ([.ref a0, .int v1])).length) Slot.unset).toArray = ls at hl ⊢
  have hl : lv_has ls 2 [(0, .ref a0), (1, .int v1)] := hl
  refine lv_iload_n hx hb dX8_byteAt_0 rfl (lv_at hl 1 rfl) ?_
  refine lv_if_lt (tgt := 21) hx hb dX8_byteAt_1 (by decide) (fun c1 => ?_) (fun c1 => ?_)
  · refine lv_iconst (v := -1) hx hb dX8_byteAt_21 (by decide) ?_
    refine lv_goto (tgt := 31) hx hb dX8_byteAt_22 (by decide) ?_
    exact W.iret (v := -1) hx hb hr (fun t ht hW => ⟨-1, rfl, trivial, ht⟩) (fun _ h => absurd h List.not_mem_nil) dX8_byteAt_31
  · refine lv_iload_n hx hb dX8_byteAt_4 rfl (lv_at hl 1 rfl) ?_
    refine lv_aload_n hx hb dX8_byteAt_5 rfl (lv_at hl 0 rfl) ?_
    obtain ⟨y1_2, he2⟩ := ok_X8 hok ha0
    refine th_get hx hb (ly_X8 hE) hown hK hP ha0.1 he2 rfl 1 (by decide) (wd_265 hE) (fun _ h9 => h9) rfl dX8_byteAt_6 ?_
    refine lv_icmp_ge (tgt := 21) hx hb dX8_byteAt_9 (by decide) (fun c3 => ?_) (fun c3 => ?_)
    · refine lv_iconst (v := -1) hx hb dX8_byteAt_21 (by decide) ?_
      refine lv_goto (tgt := 31) hx hb dX8_byteAt_22 (by decide) ?_
      exact W.iret (v := -1) hx hb hr (fun t ht hW => ⟨-1, rfl, trivial, ht⟩) (fun _ h => absurd h List.not_mem_nil) dX8_byteAt_31
    · refine lv_iload_n hx hb dX8_byteAt_12 rfl (lv_at hl 1 rfl) ?_
      refine lv_aload_n hx hb dX8_byteAt_13 rfl (lv_at hl 0 rfl) ?_
      refine th_get hx hb (ly_X8 hE) hown hK hP ha0.1 he2 rfl 0 (by decide) (wd_264 hE) (fun _ h9 => h9) rfl dX8_byteAt_14 ?_
      refine th_len1 hx hb hK hP hok (n := 178) (wl_X8_0 hWT ha0) (Or.inr (Or.inl (wt_X8_0 hWT ha0))) dX8_byteAt_17 ?_
      refine W.eq (g2 := F0 m 18 ls [.int 178, .int v1]) rfl ?_
      refine lv_icmp_lt (tgt := 25) hx hb dX8_byteAt_18 (by decide) (fun c4 => ?_) (fun c4 => ?_)
      · refine lv_aload_n hx hb dX8_byteAt_25 rfl (lv_at hl 0 rfl) ?_
        refine th_get hx hb (ly_X8 hE) hown hK hP ha0.1 he2 rfl 0 (by decide) (wd_264 hE) (fun _ h9 => h9) rfl dX8_byteAt_26 ?_
        refine lv_iload_n hx hb dX8_byteAt_29 rfl (lv_at hl 1 rfl) ?_
        refine th_bald hx hb hK hP hok (wt_X8_0 hWT ha0) (n := 178) (wl_X8_0 hWT ha0) (vp_in_iff.mpr (by first | omega | (simp only [i_lt, i_le, i_eq, ti_m9, ti_m1, ti_0, ti_1, ti_2, ti_3, ti_4, ti_5, ti_6, ti_7, ti_9, ti_12, ti_20, ti_99, ti_700, ti_24, ti_156, ti_72, ti_8, ti_60, ti_543, ti_10, ti_33, ti_51, ti_178, ti_119, ti_111, ti_114, ti_100, ti_32, ti_62, ti_59, ti_48, ti_701, ti_97, ti_122, ti_57, ti_73, ti_128, ti_61] at c1 c3 c4 ⊢; omega))) dX8_byteAt_30 (fun x5 => ?_)
        exact W.iret (v := x5) hx hb hr (fun t ht hW => ⟨x5, rfl, trivial, ht⟩) (fun _ h => absurd h List.not_mem_nil) dX8_byteAt_31
      · refine lv_iconst (v := -1) hx hb dX8_byteAt_21 (by decide) ?_
        refine lv_goto (tgt := 31) hx hb dX8_byteAt_22 (by decide) ?_
        exact W.iret (v := -1) hx hb hr (fun t ht hW => ⟨-1, rfl, trivial, ht⟩) (fun _ h => absurd h List.not_mem_nil) dX8_byteAt_31

set_option maxHeartbeats 4000000 in
set_option maxRecDepth 100000 in
theorem t_X8_put (l : Launch) (dC : Nat → ClassId) (dI : Nat → Nat → Nat) (sz : Nat) (G : GT) (cs : Nat → ClassId) (tt mm : Nat) (a0 : Nat) (ha0 : Ty G a0 8) (v1 : Int32) : Met l yX8_put [.code yX8_put cX8_put 2 none] ({ frames := 0, cells := 0, slots := 0, locals := 0 }) (PT [.ref a0, .int v1] sz dC dI G cs tt mm (fun _ => True)) (va_Qv (fun (u : Nat → va_E) => True) (BT dC dI G cs tt mm) (AT G sz)) 0 0 (AT G sz) := by
  refine Met.ofW (cc := cX8_put) (maxL := 2) (ret := none) (by decide) rfl ?_
  intro p e s m args below meth c s₁ B hml hv
  obtain ⟨rfl, hsz, ⟨f0, hok, hP, hX⟩, hK, hnd, hWT, hE⟩ := hv
  have hx := B.exec
  have hb := B.bytes
  have hr := B.returns
  have hown : s.vm.findClass RX8 = some m.cls := findClass_of_methodNamed B.named
  have hlocks := B.notSynchronized
  subst hsz
  have hAL : ∀ a, a ∈ gL G → AT G s.heap.size a := fun a h => Or.inl h
  have hA : ∀ q : Nat, s.heap.size ≤ q → AT G s.heap.size q := fun q h => Or.inr h
  have hS : va_S (AT G s.heap.size) s.heap s.heap [] := va_S.rf
  have hl := lv_entry ([.ref a0, .int v1]) (n := 2) (Nat.le_of_ble_eq_true rfl)
  rw [lg_entry_eq]
  generalize (lg_sl ([.ref a0, .int v1]) ++ List.replicate (2 - (lg_sl ([.ref a0, .int v1])).length) Slot.unset).toArray = ls at hl ⊢
  have hl : lv_has ls 2 [(0, .ref a0), (1, .int v1)] := hl
  refine lv_aload_n hx hb dX8_put_0 rfl (lv_at hl 0 rfl) ?_
  obtain ⟨y1_1, he1⟩ := ok_X8 hok ha0
  refine th_get hx hb (ly_X8 hE) hown hK hP ha0.1 he1 rfl 1 (by decide) (wd_265 hE) (fun _ h9 => h9) rfl dX8_put_1 ?_
  refine lv_if_lt (tgt := 40) hx hb dX8_put_4 (by decide) (fun c2 => ?_) (fun c2 => ?_)
  · exact W.vret hx hb hr (fun t ht hW => ⟨⟨f0, rfl, trivial, hok, by rw [ht]; exact hP⟩, hS.F ht⟩) hS.2.2 dX8_put_40
  · refine lv_aload_n hx hb dX8_put_7 rfl (lv_at hl 0 rfl) ?_
    refine th_get hx hb (ly_X8 hE) hown hK hP ha0.1 he1 rfl 1 (by decide) (wd_265 hE) (fun _ h9 => h9) rfl dX8_put_8 ?_
    refine lv_aload_n hx hb dX8_put_11 rfl (lv_at hl 0 rfl) ?_
    refine th_get hx hb (ly_X8 hE) hown hK hP ha0.1 he1 rfl 0 (by decide) (wd_264 hE) (fun _ h9 => h9) rfl dX8_put_12 ?_
    refine th_len1 hx hb hK hP hok (n := 178) (wl_X8_0 hWT ha0) (Or.inr (Or.inl (wt_X8_0 hWT ha0))) dX8_put_15 ?_
    refine W.eq (g2 := F0 m 16 ls [.int 178, .int y1_1]) rfl ?_
    refine lv_icmp_ge (tgt := 40) hx hb dX8_put_16 (by decide) (fun c3 => ?_) (fun c3 => ?_)
    · exact W.vret hx hb hr (fun t ht hW => ⟨⟨f0, rfl, trivial, hok, by rw [ht]; exact hP⟩, hS.F ht⟩) hS.2.2 dX8_put_40
    · refine lv_aload_n hx hb dX8_put_19 rfl (lv_at hl 0 rfl) ?_
      refine th_get hx hb (ly_X8 hE) hown hK hP ha0.1 he1 rfl 0 (by decide) (wd_264 hE) (fun _ h9 => h9) rfl dX8_put_20 ?_
      refine lv_aload_n hx hb dX8_put_23 rfl (lv_at hl 0 rfl) ?_
      refine th_get hx hb (ly_X8 hE) hown hK hP ha0.1 he1 rfl 1 (by decide) (wd_265 hE) (fun _ h9 => h9) rfl dX8_put_24 ?_
      refine lv_iload_n hx hb dX8_put_27 rfl (lv_at hl 1 rfl) ?_
      refine lv_i2b hx hb dX8_put_28 rfl ?_
      refine lv_topi (fun x4 _ => ?_)
      refine th_bast hx hb hK hP hok hnd hAL hS (wt_X8_0 hWT ha0) (n := 178) (wl_X8_0 hWT ha0) (vp_in_iff.mpr (by first | omega | (simp only [i_lt, i_le, i_eq, ti_m9, ti_m1, ti_0, ti_1, ti_2, ti_3, ti_4, ti_5, ti_6, ti_7, ti_9, ti_12, ti_20, ti_99, ti_700, ti_24, ti_156, ti_72, ti_8, ti_60, ti_543, ti_10, ti_33, ti_51, ti_178, ti_119, ti_111, ti_114, ti_100, ti_32, ti_62, ti_59, ti_48, ti_701, ti_97, ti_122, ti_57, ti_73, ti_128, ti_61] at c2 c3 ⊢; omega))) dX8_put_29 (fun f5 H locs hfo5 hok hP hS => ?_)
      have he6 := (hfo5 a0 (Ty.ne ha0 (wt_X8_0 hWT ha0) (by decide))).trans he1
      refine lv_aload_n hx hb dX8_put_30 rfl (lv_at hl 0 rfl) ?_
      refine lv_dup hx hb dX8_put_31 rfl ?_
      refine th_get hx hb (ly_X8 hE) hown hK hP ha0.1 he6 rfl 1 (by decide) (wd_265 hE) (fun _ h9 => h9) rfl dX8_put_32 ?_
      refine lv_iconst (v := 1) hx hb dX8_put_35 (by decide) ?_
      obtain ⟨j7, hj7, rfl⟩ : ∃ j : Nat, j ≤ 177 ∧ y1_1 = nI j := i_nat (by first | omega | (simp only [i_lt, i_le, i_eq, ti_m9, ti_m1, ti_0, ti_1, ti_2, ti_3, ti_4, ti_5, ti_6, ti_7, ti_9, ti_12, ti_20, ti_99, ti_700, ti_24, ti_156, ti_72, ti_8, ti_60, ti_543, ti_10, ti_33, ti_51, ti_178, ti_119, ti_111, ti_114, ti_100, ti_32, ti_62, ti_59, ti_48, ti_701, ti_97, ti_122, ti_57, ti_73, ti_128, ti_61] at c2 c3 ⊢; omega)) (by first | omega | (simp only [i_lt, i_le, i_eq, ti_m9, ti_m1, ti_0, ti_1, ti_2, ti_3, ti_4, ti_5, ti_6, ti_7, ti_9, ti_12, ti_20, ti_99, ti_700, ti_24, ti_156, ti_72, ti_8, ti_60, ti_543, ti_10, ti_33, ti_51, ti_178, ti_119, ti_111, ti_114, ti_100, ti_32, ti_62, ti_59, ti_48, ti_701, ti_97, ti_122, ti_57, ti_73, ti_128, ti_61] at c2 c3 ⊢; omega))
      have nt8 : (nI j7).toInt = ((j7 : Nat) : Int) := nI_toInt (by omega)
      refine lv_iadd hx hb dX8_put_36 ?_
      refine W.eq (g2 := F0 m 37 ls [.int (nI (j7 + 1)), .ref a0]) (congrArg (fun z : Int32 => F0 m 37 ls (.int z :: [.ref a0])) (nI_add j7 1)) ?_
      refine th_put (v := .int (nI (j7 + 1))) (ty := .int) hx hb (ly_X8 hE) tyX8 tyX8_ok nmX8 hown hK hP hnd hAL hS ha0.1 he6 rfl 1 (by decide) (wd_265 hE) (fun _ h9 => h9) rfl (by decide +kernel) rfl rfl (Nat.le_of_ble_eq_true rfl) (up_X8 hok ha0 ⟨nI (j7 + 1), rfl⟩) dX8_put_37 (fun f9 H locs hfa9 hfo9 hok hP hS => ?_)
      exact W.vret hx hb hr (fun t ht hW => ⟨⟨f9, rfl, trivial, hok, by rw [ht]; exact hP⟩, hS.F ht⟩) hS.2.2 dX8_put_40

set_option maxHeartbeats 4000000 in
set_option maxRecDepth 100000 in
theorem t_X8_putNumber (l : Launch) (dC : Nat → ClassId) (dI : Nat → Nat → Nat) (sz : Nat) (G : GT) (cs : Nat → ClassId) (tt mm : Nat) (a0 : Nat) (ha0 : Ty G a0 8) (v1 : Int32) : Met l yX8_putNumber [.code yX8_putNumber cX8_putNumber 2 none] ({ frames := 1, cells := 0, slots := 0, locals := 40 }) (PT [.ref a0, .int v1] sz dC dI G cs tt mm (fun _ => True)) (va_Qv (fun (u : Nat → va_E) => True) (BT dC dI G cs tt mm) (AT G sz)) 0 0 (AT G sz) := by
  refine Met.ofW (cc := cX8_putNumber) (maxL := 2) (ret := none) (by decide) rfl ?_
  intro p e s m args below meth c s₁ B hml hv
  obtain ⟨rfl, hsz, ⟨f0, hok, hP, hX⟩, hK, hnd, hWT, hE⟩ := hv
  have hx := B.exec
  have hb := B.bytes
  have hr := B.returns
  have hown : s.vm.findClass RX8 = some m.cls := findClass_of_methodNamed B.named
  have hlocks := B.notSynchronized
  subst hsz
  have hAL : ∀ a, a ∈ gL G → AT G s.heap.size a := fun a h => Or.inl h
  have hA : ∀ q : Nat, s.heap.size ≤ q → AT G s.heap.size q := fun q h => Or.inr h
  have hS : va_S (AT G s.heap.size) s.heap s.heap [] := va_S.rf
  have hl := lv_entry ([.ref a0, .int v1]) (n := 2) (Nat.le_of_ble_eq_true rfl)
  rw [lg_entry_eq]
  generalize (lg_sl ([.ref a0, .int v1]) ++ List.replicate (2 - (lg_sl ([.ref a0, .int v1])).length) Slot.unset).toArray = ls at hl ⊢
  have hl : lv_has ls 2 [(0, .ref a0), (1, .int v1)] := hl
  refine lv_aload_n hx hb dX8_putNumber_0 rfl (lv_at hl 0 rfl) ?_
  refine lv_bipush (v := 32) hx hb dX8_putNumber_1 (by decide) ?_
  obtain ⟨y1_1, he1⟩ := ok_X8 hok ha0
  refine tc_v hAL hS hA (va_runV (As := [.int 32]) (rest := []) ⟨hx, hb, hml, hown, noTs⟩ (t_X8_put l dC dI s.heap.size G cs tt mm a0 ha0 32) ⟨cbE 1 (wd_1324 hE) (wd_121 hE) (wd_1321 hE) rfl rfl (by decide +kernel) ⟨Nat.le_of_ble_eq_true rfl, Nat.le_of_ble_eq_true rfl⟩, (wd_1323 hE), (wd_50 hE)⟩ ⟨PT.blind, th_recv hK hP ha0.1 he1 rfl, (th_pre (av := [.ref a0, .int 32]) trivial hK hP hok hnd hWT hE)⟩ rfl rfl hl.1 rfl (lv_room (Nat.le_of_ble_eq_true rfl)) dX8_putNumber_3 ⟨Nat.le_of_ble_eq_true rfl, Nat.le_of_ble_eq_true rfl⟩) (fun f2 H locs hr2 hok hP hS => ?_)
  refine lv_iload_n hx hb dX8_putNumber_6 rfl (lv_at hl 1 rfl) ?_
  refine lv_bipush (v := 10) hx hb dX8_putNumber_7 (by decide) ?_
  refine lv_icmp_lt (tgt := 31) hx hb dX8_putNumber_9 (by decide) (fun c3 => ?_) (fun c3 => ?_)
  · refine lv_aload_n hx hb dX8_putNumber_31 rfl (lv_at hl 0 rfl) ?_
    refine lv_bipush (v := 48) hx hb dX8_putNumber_32 (by decide) ?_
    refine lv_iload_n hx hb dX8_putNumber_34 rfl (lv_at hl 1 rfl) ?_
    refine lv_bipush (v := 10) hx hb dX8_putNumber_35 (by decide) ?_
    refine vp_callSi (va_Run.run (va_runSN (As := [.int v1, .int 10]) (rest := [.int 48, .ref a0]) ⟨hx, hb, hml, hown, noTs⟩ (t_X11_rest l dC dI H.size G cs tt mm v1 10) ⟨cnE 2 (wd_617 hE) (wd_115 hE) (wd_1331 hE) rfl rfl (by decide +kernel) ⟨Nat.le_of_ble_eq_true rfl, Nat.le_of_ble_eq_true rfl⟩, (wd_616 hE), trivial⟩ ⟨PT.blind, (th_pre (av := [.int v1, .int 10]) trivial hK hP hok hnd hWT hE)⟩ rfl rfl hl.1 rfl (lv_room (Nat.le_of_ble_eq_true rfl)) dX8_putNumber_37 ⟨Nat.le_of_ble_eq_true rfl, Nat.le_of_ble_eq_true rfl⟩)) (fun r4 hr4 => ?_)
    obtain ⟨hra4, hrb4⟩ := hr4
    obtain ⟨j5, hj5, rfl⟩ : ∃ j : Nat, j ≤ 9 ∧ r4 = nI j := i_nat (by first | omega | (simp only [i_lt, i_le, i_eq, ti_m9, ti_m1, ti_0, ti_1, ti_2, ti_3, ti_4, ti_5, ti_6, ti_7, ti_9, ti_12, ti_20, ti_99, ti_700, ti_24, ti_156, ti_72, ti_8, ti_60, ti_543, ti_10, ti_33, ti_51, ti_178, ti_119, ti_111, ti_114, ti_100, ti_32, ti_62, ti_59, ti_48, ti_701, ti_97, ti_122, ti_57, ti_73, ti_128, ti_61] at c3 hra4 hrb4 ⊢; omega)) (by first | omega | (simp only [i_lt, i_le, i_eq, ti_m9, ti_m1, ti_0, ti_1, ti_2, ti_3, ti_4, ti_5, ti_6, ti_7, ti_9, ti_12, ti_20, ti_99, ti_700, ti_24, ti_156, ti_72, ti_8, ti_60, ti_543, ti_10, ti_33, ti_51, ti_178, ti_119, ti_111, ti_114, ti_100, ti_32, ti_62, ti_59, ti_48, ti_701, ti_97, ti_122, ti_57, ti_73, ti_128, ti_61] at c3 hra4 hrb4 ⊢; omega))
    have nt6 : (nI j5).toInt = ((j5 : Nat) : Int) := nI_toInt (by omega)
    refine lv_iadd hx hb dX8_putNumber_40 ?_
    refine W.eq (g2 := F0 m 41 ls [.int (nI (48 + j5)), .ref a0]) (congrArg (fun z : Int32 => F0 m 41 ls (.int z :: [.ref a0])) (nI_add 48 j5)) ?_
    refine lv_i2c hx hb dX8_putNumber_41 rfl ?_
    refine lv_topi (fun x7 _ => ?_)
    obtain ⟨y1_8, he8⟩ := ok_X8 hok ha0
    refine tc_v hAL hS hA (va_runV (As := [.int x7]) (rest := []) ⟨hx, hb, hml, hown, noTs⟩ (t_X8_put l dC dI H.size G cs tt mm a0 ha0 x7) ⟨cbE 1 (wd_1324 hE) (wd_121 hE) (wd_1321 hE) rfl rfl (by decide +kernel) ⟨Nat.le_of_ble_eq_true rfl, Nat.le_of_ble_eq_true rfl⟩, (wd_1323 hE), (wd_50 hE)⟩ ⟨PT.blind, th_recv hK hP ha0.1 he8 rfl, (th_pre (av := [.ref a0, .int x7]) trivial hK hP hok hnd hWT hE)⟩ rfl rfl hl.1 rfl (lv_room (Nat.le_of_ble_eq_true rfl)) dX8_putNumber_42 ⟨Nat.le_of_ble_eq_true rfl, Nat.le_of_ble_eq_true rfl⟩) (fun f9 H locs hr9 hok hP hS => ?_)
    exact W.vret hx hb hr (fun t ht hW => ⟨⟨f9, rfl, trivial, hok, by rw [ht]; exact hP⟩, hS.F ht⟩) hS.2.2 dX8_putNumber_45
  · refine lv_aload_n hx hb dX8_putNumber_12 rfl (lv_at hl 0 rfl) ?_
    refine lv_bipush (v := 48) hx hb dX8_putNumber_13 (by decide) ?_
    refine lv_iload_n hx hb dX8_putNumber_15 rfl (lv_at hl 1 rfl) ?_
    refine lv_bipush (v := 10) hx hb dX8_putNumber_16 (by decide) ?_
    refine vp_callSi (va_Run.run (va_runSN (As := [.int v1, .int 10]) (rest := [.int 48, .ref a0]) ⟨hx, hb, hml, hown, noTs⟩ (t_X11_share l dC dI H.size G cs tt mm v1 10) ⟨cnE 2 (wd_620 hE) (wd_115 hE) (wd_1330 hE) rfl rfl (by decide +kernel) ⟨Nat.le_of_ble_eq_true rfl, Nat.le_of_ble_eq_true rfl⟩, (wd_619 hE), trivial⟩ ⟨PT.blind, (th_pre (av := [.int v1, .int 10]) trivial hK hP hok hnd hWT hE)⟩ rfl rfl hl.1 rfl (lv_room (Nat.le_of_ble_eq_true rfl)) dX8_putNumber_18 ⟨Nat.le_of_ble_eq_true rfl, Nat.le_of_ble_eq_true rfl⟩)) (fun r10 hr10 => ?_)
    refine lv_bipush (v := 10) hx hb dX8_putNumber_21 (by decide) ?_
    refine vp_callSi (va_Run.run (va_runSN (As := [.int r10, .int 10]) (rest := [.int 48, .ref a0]) ⟨hx, hb, hml, hown, noTs⟩ (t_X11_rest l dC dI H.size G cs tt mm r10 10) ⟨cnE 2 (wd_617 hE) (wd_115 hE) (wd_1331 hE) rfl rfl (by decide +kernel) ⟨Nat.le_of_ble_eq_true rfl, Nat.le_of_ble_eq_true rfl⟩, (wd_616 hE), trivial⟩ ⟨PT.blind, (th_pre (av := [.int r10, .int 10]) trivial hK hP hok hnd hWT hE)⟩ rfl rfl hl.1 rfl (lv_room (Nat.le_of_ble_eq_true rfl)) dX8_putNumber_23 ⟨Nat.le_of_ble_eq_true rfl, Nat.le_of_ble_eq_true rfl⟩)) (fun r11 hr11 => ?_)
    obtain ⟨hra11, hrb11⟩ := hr11
    obtain ⟨j12, hj12, rfl⟩ : ∃ j : Nat, j ≤ 9 ∧ r11 = nI j := i_nat (by first | omega | (simp only [i_lt, i_le, i_eq, ti_m9, ti_m1, ti_0, ti_1, ti_2, ti_3, ti_4, ti_5, ti_6, ti_7, ti_9, ti_12, ti_20, ti_99, ti_700, ti_24, ti_156, ti_72, ti_8, ti_60, ti_543, ti_10, ti_33, ti_51, ti_178, ti_119, ti_111, ti_114, ti_100, ti_32, ti_62, ti_59, ti_48, ti_701, ti_97, ti_122, ti_57, ti_73, ti_128, ti_61] at c3 hra11 hrb11 ⊢; omega)) (by first | omega | (simp only [i_lt, i_le, i_eq, ti_m9, ti_m1, ti_0, ti_1, ti_2, ti_3, ti_4, ti_5, ti_6, ti_7, ti_9, ti_12, ti_20, ti_99, ti_700, ti_24, ti_156, ti_72, ti_8, ti_60, ti_543, ti_10, ti_33, ti_51, ti_178, ti_119, ti_111, ti_114, ti_100, ti_32, ti_62, ti_59, ti_48, ti_701, ti_97, ti_122, ti_57, ti_73, ti_128, ti_61] at c3 hra11 hrb11 ⊢; omega))
    have nt13 : (nI j12).toInt = ((j12 : Nat) : Int) := nI_toInt (by omega)
    refine lv_iadd hx hb dX8_putNumber_26 ?_
    refine W.eq (g2 := F0 m 27 ls [.int (nI (48 + j12)), .ref a0]) (congrArg (fun z : Int32 => F0 m 27 ls (.int z :: [.ref a0])) (nI_add 48 j12)) ?_
    refine lv_i2c hx hb dX8_putNumber_27 rfl ?_
    refine lv_topi (fun x14 _ => ?_)
    obtain ⟨y1_15, he15⟩ := ok_X8 hok ha0
    refine tc_v hAL hS hA (va_runV (As := [.int x14]) (rest := []) ⟨hx, hb, hml, hown, noTs⟩ (t_X8_put l dC dI H.size G cs tt mm a0 ha0 x14) ⟨cbE 1 (wd_1324 hE) (wd_121 hE) (wd_1321 hE) rfl rfl (by decide +kernel) ⟨Nat.le_of_ble_eq_true rfl, Nat.le_of_ble_eq_true rfl⟩, (wd_1323 hE), (wd_50 hE)⟩ ⟨PT.blind, th_recv hK hP ha0.1 he15 rfl, (th_pre (av := [.ref a0, .int x14]) trivial hK hP hok hnd hWT hE)⟩ rfl rfl hl.1 rfl (lv_room (Nat.le_of_ble_eq_true rfl)) dX8_putNumber_28 ⟨Nat.le_of_ble_eq_true rfl, Nat.le_of_ble_eq_true rfl⟩) (fun f16 H locs hr16 hok hP hS => ?_)
    refine lv_aload_n hx hb dX8_putNumber_31 rfl (lv_at hl 0 rfl) ?_
    refine lv_bipush (v := 48) hx hb dX8_putNumber_32 (by decide) ?_
    refine lv_iload_n hx hb dX8_putNumber_34 rfl (lv_at hl 1 rfl) ?_
    refine lv_bipush (v := 10) hx hb dX8_putNumber_35 (by decide) ?_
    refine vp_callSi (va_Run.run (va_runSN (As := [.int v1, .int 10]) (rest := [.int 48, .ref a0]) ⟨hx, hb, hml, hown, noTs⟩ (t_X11_rest l dC dI H.size G cs tt mm v1 10) ⟨cnE 2 (wd_617 hE) (wd_115 hE) (wd_1331 hE) rfl rfl (by decide +kernel) ⟨Nat.le_of_ble_eq_true rfl, Nat.le_of_ble_eq_true rfl⟩, (wd_616 hE), trivial⟩ ⟨PT.blind, (th_pre (av := [.int v1, .int 10]) trivial hK hP hok hnd hWT hE)⟩ rfl rfl hl.1 rfl (lv_room (Nat.le_of_ble_eq_true rfl)) dX8_putNumber_37 ⟨Nat.le_of_ble_eq_true rfl, Nat.le_of_ble_eq_true rfl⟩)) (fun r17 hr17 => ?_)
    obtain ⟨hra17, hrb17⟩ := hr17
    obtain ⟨j18, hj18, rfl⟩ : ∃ j : Nat, j ≤ 9 ∧ r17 = nI j := i_nat (by first | omega | (simp only [i_lt, i_le, i_eq, ti_m9, ti_m1, ti_0, ti_1, ti_2, ti_3, ti_4, ti_5, ti_6, ti_7, ti_9, ti_12, ti_20, ti_99, ti_700, ti_24, ti_156, ti_72, ti_8, ti_60, ti_543, ti_10, ti_33, ti_51, ti_178, ti_119, ti_111, ti_114, ti_100, ti_32, ti_62, ti_59, ti_48, ti_701, ti_97, ti_122, ti_57, ti_73, ti_128, ti_61, nt13] at c3 hra11 hrb11 hra17 hrb17 ⊢; omega)) (by first | omega | (simp only [i_lt, i_le, i_eq, ti_m9, ti_m1, ti_0, ti_1, ti_2, ti_3, ti_4, ti_5, ti_6, ti_7, ti_9, ti_12, ti_20, ti_99, ti_700, ti_24, ti_156, ti_72, ti_8, ti_60, ti_543, ti_10, ti_33, ti_51, ti_178, ti_119, ti_111, ti_114, ti_100, ti_32, ti_62, ti_59, ti_48, ti_701, ti_97, ti_122, ti_57, ti_73, ti_128, ti_61, nt13] at c3 hra11 hrb11 hra17 hrb17 ⊢; omega))
    have nt19 : (nI j18).toInt = ((j18 : Nat) : Int) := nI_toInt (by omega)
    refine lv_iadd hx hb dX8_putNumber_40 ?_
    refine W.eq (g2 := F0 m 41 ls [.int (nI (48 + j18)), .ref a0]) (congrArg (fun z : Int32 => F0 m 41 ls (.int z :: [.ref a0])) (nI_add 48 j18)) ?_
    refine lv_i2c hx hb dX8_putNumber_41 rfl ?_
    refine lv_topi (fun x20 _ => ?_)
    obtain ⟨y1_21, he21⟩ := ok_X8 hok ha0
    refine tc_v hAL hS hA (va_runV (As := [.int x20]) (rest := []) ⟨hx, hb, hml, hown, noTs⟩ (t_X8_put l dC dI H.size G cs tt mm a0 ha0 x20) ⟨cbE 1 (wd_1324 hE) (wd_121 hE) (wd_1321 hE) rfl rfl (by decide +kernel) ⟨Nat.le_of_ble_eq_true rfl, Nat.le_of_ble_eq_true rfl⟩, (wd_1323 hE), (wd_50 hE)⟩ ⟨PT.blind, th_recv hK hP ha0.1 he21 rfl, (th_pre (av := [.ref a0, .int x20]) trivial hK hP hok hnd hWT hE)⟩ rfl rfl hl.1 rfl (lv_room (Nat.le_of_ble_eq_true rfl)) dX8_putNumber_42 ⟨Nat.le_of_ble_eq_true rfl, Nat.le_of_ble_eq_true rfl⟩) (fun f22 H locs hr22 hok hP hS => ?_)
    exact W.vret hx hb hr (fun t ht hW => ⟨⟨f22, rfl, trivial, hok, by rw [ht]; exact hP⟩, hS.F ht⟩) hS.2.2 dX8_putNumber_45
