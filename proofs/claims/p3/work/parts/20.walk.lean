set_option maxHeartbeats 4000000 in
set_option maxRecDepth 100000 in
theorem t_X10_size (l : Launch) (dC : Nat → ClassId) (dI : Nat → Nat → Nat) (sz : Nat) (G : GT) (cs : Nat → ClassId) (tt mm : Nat) (a0 : Nat) (ha0 : Ty G a0 10) : Met l yX10_size [.code yX10_size cX10_size 1 (some .int)] ({ frames := 0, cells := 0, slots := 0, locals := 0 }) (PT [.ref a0] sz dC dI G cs tt mm) (vp_Si (fun (r : Int32) => 0 ≤ r.toInt ∧ r.toInt ≤ 72)) 0 0 (fun _ => False) := by
  refine Met.ofW (cc := cX10_size) (maxL := 1) (ret := (some .int)) (by decide) rfl ?_
  intro p e s m args below meth c s₁ B hml hv
  obtain ⟨rfl, hsz, ⟨f0, hok, hP⟩, hK, hnd, hWT, hE⟩ := hv
  have hx := B.exec
  have hb := B.bytes
  have hr := B.returns
  have hown : s.vm.findClass RX10 = some m.cls := findClass_of_methodNamed B.named
  have hlocks := B.notSynchronized
  subst hsz
  have hl := lv_entry ([.ref a0]) (n := 1) (Nat.le_of_ble_eq_true rfl)
  rw [lg_entry_eq]
  generalize (lg_sl ([.ref a0]) ++ List.replicate (1 - (lg_sl ([.ref a0])).length) Slot.unset).toArray = ls at hl ⊢
  have hl : lv_has ls 1 [(0, .ref a0)] := hl
  refine lv_aload_n hx hb dX10_size_0 rfl (lv_at hl 0 rfl) ?_
  obtain ⟨y2_1, y3_1, hy3_1, he1⟩ := ok_X10 hok ha0
  refine th_get hx hb (ly_X10 hE) hown hK hP ha0.1 he1 rfl 3 (by decide) (wd_217 hE) (fun _ h9 => h9) rfl dX10_size_1 ?_
  exact W.iret (v := nI y3_1) hx hb hr (fun t ht hW => ⟨nI y3_1, rfl, (by rw [nI_toInt (by omega)]; omega), ht⟩) (fun _ h => absurd h List.not_mem_nil) dX10_size_4

set_option maxHeartbeats 4000000 in
set_option maxRecDepth 100000 in
theorem t_X10_stepAt (l : Launch) (dC : Nat → ClassId) (dI : Nat → Nat → Nat) (sz : Nat) (G : GT) (cs : Nat → ClassId) (tt mm : Nat) (a0 : Nat) (ha0 : Ty G a0 10) (v1 : Int32) : Met l yX10_stepAt [.code yX10_stepAt cX10_stepAt 2 (some .int)] ({ frames := 0, cells := 0, slots := 0, locals := 0 }) (PT [.ref a0, .int v1] sz dC dI G cs tt mm) (vp_Si (fun (r : Int32) => True)) 0 0 (fun _ => False) := by
  refine Met.ofW (cc := cX10_stepAt) (maxL := 2) (ret := (some .int)) (by decide) rfl ?_
  intro p e s m args below meth c s₁ B hml hv
  obtain ⟨rfl, hsz, ⟨f0, hok, hP⟩, hK, hnd, hWT, hE⟩ := hv
  have hx := B.exec
  have hb := B.bytes
  have hr := B.returns
  have hown : s.vm.findClass RX10 = some m.cls := findClass_of_methodNamed B.named
  have hlocks := B.notSynchronized
  subst hsz
  have hl := lv_entry ([.ref a0, .int v1]) (n := 2) (Nat.le_of_ble_eq_true rfl)
  rw [lg_entry_eq]
  generalize (lg_sl ([.ref a0, .int v1]) ++ List.replicate (2 - (lg_sl ([.ref a0, .int v1])).length) Slot.unset).toArray = ls at hl ⊢
  have hl : lv_has ls 2 [(0, .ref a0), (1, .int v1)] := hl
  refine lv_iload_n hx hb dX10_stepAt_0 rfl (lv_at hl 1 rfl) ?_
  refine lv_if_lt (tgt := 21) hx hb dX10_stepAt_1 (by decide) (fun c1 => ?_) (fun c1 => ?_)
  · refine lv_bipush (v := 12) hx hb dX10_stepAt_21 (by decide) ?_
    refine lv_goto (tgt := 32) hx hb dX10_stepAt_23 (by decide) ?_
    exact W.iret (v := 12) hx hb hr (fun t ht hW => ⟨12, rfl, trivial, ht⟩) (fun _ h => absurd h List.not_mem_nil) dX10_stepAt_32
  · refine lv_iload_n hx hb dX10_stepAt_4 rfl (lv_at hl 1 rfl) ?_
    refine lv_aload_n hx hb dX10_stepAt_5 rfl (lv_at hl 0 rfl) ?_
    obtain ⟨y2_2, y3_2, hy3_2, he2⟩ := ok_X10 hok ha0
    refine th_get hx hb (ly_X10 hE) hown hK hP ha0.1 he2 rfl 3 (by decide) (wd_217 hE) (fun _ h9 => h9) rfl dX10_stepAt_6 ?_
    have nt3 : (nI y3_2).toInt = ((y3_2 : Nat) : Int) := nI_toInt (by omega)
    refine lv_icmp_ge (tgt := 21) hx hb dX10_stepAt_9 (by decide) (fun c4 => ?_) (fun c4 => ?_)
    · refine lv_bipush (v := 12) hx hb dX10_stepAt_21 (by decide) ?_
      refine lv_goto (tgt := 32) hx hb dX10_stepAt_23 (by decide) ?_
      exact W.iret (v := 12) hx hb hr (fun t ht hW => ⟨12, rfl, trivial, ht⟩) (fun _ h => absurd h List.not_mem_nil) dX10_stepAt_32
    · refine lv_iload_n hx hb dX10_stepAt_12 rfl (lv_at hl 1 rfl) ?_
      refine lv_aload_n hx hb dX10_stepAt_13 rfl (lv_at hl 0 rfl) ?_
      refine th_get hx hb (ly_X10 hE) hown hK hP ha0.1 he2 rfl 1 (by decide) (wd_215 hE) (fun _ h9 => h9) rfl dX10_stepAt_14 ?_
      refine th_len1 hx hb hK hP hok (n := 72) (wl_X10_1 hWT ha0) (Or.inl (wt_X10_1 hWT ha0)) dX10_stepAt_17 ?_
      refine W.eq (g2 := F0 m 18 ls [.int 72, .int v1]) rfl ?_
      refine lv_icmp_lt (tgt := 26) hx hb dX10_stepAt_18 (by decide) (fun c5 => ?_) (fun c5 => ?_)
      · refine lv_aload_n hx hb dX10_stepAt_26 rfl (lv_at hl 0 rfl) ?_
        refine th_get hx hb (ly_X10 hE) hown hK hP ha0.1 he2 rfl 1 (by decide) (wd_215 hE) (fun _ h9 => h9) rfl dX10_stepAt_27 ?_
        refine lv_iload_n hx hb dX10_stepAt_30 rfl (lv_at hl 1 rfl) ?_
        refine th_iald hx hb hK hP hok (wt_X10_1 hWT ha0) (n := 72) (wl_X10_1 hWT ha0) (vp_in_iff.mpr (by first | omega | (simp only [i_lt, i_le, i_eq, ti_m9, ti_m1, ti_0, ti_1, ti_2, ti_3, ti_4, ti_5, ti_6, ti_7, ti_9, ti_12, ti_20, ti_99, ti_700, nt3] at c1 c4 c5 ⊢; omega))) dX10_stepAt_31 (fun x6 => ?_)
        exact W.iret (v := x6) hx hb hr (fun t ht hW => ⟨x6, rfl, trivial, ht⟩) (fun _ h => absurd h List.not_mem_nil) dX10_stepAt_32
      · refine lv_bipush (v := 12) hx hb dX10_stepAt_21 (by decide) ?_
        refine lv_goto (tgt := 32) hx hb dX10_stepAt_23 (by decide) ?_
        exact W.iret (v := 12) hx hb hr (fun t ht hW => ⟨12, rfl, trivial, ht⟩) (fun _ h => absurd h List.not_mem_nil) dX10_stepAt_32

set_option maxHeartbeats 4000000 in
set_option maxRecDepth 100000 in
theorem t_X10_numberAt (l : Launch) (dC : Nat → ClassId) (dI : Nat → Nat → Nat) (sz : Nat) (G : GT) (cs : Nat → ClassId) (tt mm : Nat) (a0 : Nat) (ha0 : Ty G a0 10) (v1 : Int32) : Met l yX10_numberAt [.code yX10_numberAt cX10_numberAt 2 (some .int)] ({ frames := 0, cells := 0, slots := 0, locals := 0 }) (PT [.ref a0, .int v1] sz dC dI G cs tt mm) (vp_Si (fun (r : Int32) => True)) 0 0 (fun _ => False) := by
  refine Met.ofW (cc := cX10_numberAt) (maxL := 2) (ret := (some .int)) (by decide) rfl ?_
  intro p e s m args below meth c s₁ B hml hv
  obtain ⟨rfl, hsz, ⟨f0, hok, hP⟩, hK, hnd, hWT, hE⟩ := hv
  have hx := B.exec
  have hb := B.bytes
  have hr := B.returns
  have hown : s.vm.findClass RX10 = some m.cls := findClass_of_methodNamed B.named
  have hlocks := B.notSynchronized
  subst hsz
  have hl := lv_entry ([.ref a0, .int v1]) (n := 2) (Nat.le_of_ble_eq_true rfl)
  rw [lg_entry_eq]
  generalize (lg_sl ([.ref a0, .int v1]) ++ List.replicate (2 - (lg_sl ([.ref a0, .int v1])).length) Slot.unset).toArray = ls at hl ⊢
  have hl : lv_has ls 2 [(0, .ref a0), (1, .int v1)] := hl
  refine lv_iload_n hx hb dX10_numberAt_0 rfl (lv_at hl 1 rfl) ?_
  refine lv_if_lt (tgt := 21) hx hb dX10_numberAt_1 (by decide) (fun c1 => ?_) (fun c1 => ?_)
  · refine lv_iconst (v := 0) hx hb dX10_numberAt_21 (by decide) ?_
    refine lv_goto (tgt := 31) hx hb dX10_numberAt_22 (by decide) ?_
    exact W.iret (v := 0) hx hb hr (fun t ht hW => ⟨0, rfl, trivial, ht⟩) (fun _ h => absurd h List.not_mem_nil) dX10_numberAt_31
  · refine lv_iload_n hx hb dX10_numberAt_4 rfl (lv_at hl 1 rfl) ?_
    refine lv_aload_n hx hb dX10_numberAt_5 rfl (lv_at hl 0 rfl) ?_
    obtain ⟨y2_2, y3_2, hy3_2, he2⟩ := ok_X10 hok ha0
    refine th_get hx hb (ly_X10 hE) hown hK hP ha0.1 he2 rfl 3 (by decide) (wd_217 hE) (fun _ h9 => h9) rfl dX10_numberAt_6 ?_
    have nt3 : (nI y3_2).toInt = ((y3_2 : Nat) : Int) := nI_toInt (by omega)
    refine lv_icmp_gt (tgt := 21) hx hb dX10_numberAt_9 (by decide) (fun c4 => ?_) (fun c4 => ?_)
    · refine lv_iconst (v := 0) hx hb dX10_numberAt_21 (by decide) ?_
      refine lv_goto (tgt := 31) hx hb dX10_numberAt_22 (by decide) ?_
      exact W.iret (v := 0) hx hb hr (fun t ht hW => ⟨0, rfl, trivial, ht⟩) (fun _ h => absurd h List.not_mem_nil) dX10_numberAt_31
    · refine lv_iload_n hx hb dX10_numberAt_12 rfl (lv_at hl 1 rfl) ?_
      refine lv_aload_n hx hb dX10_numberAt_13 rfl (lv_at hl 0 rfl) ?_
      refine th_get hx hb (ly_X10 hE) hown hK hP ha0.1 he2 rfl 0 (by decide) (wd_214 hE) (fun _ h9 => h9) rfl dX10_numberAt_14 ?_
      refine th_len1 hx hb hK hP hok (n := 73) (wl_X10_0 hWT ha0) (Or.inl (wt_X10_0 hWT ha0)) dX10_numberAt_17 ?_
      refine W.eq (g2 := F0 m 18 ls [.int 73, .int v1]) rfl ?_
      refine lv_icmp_lt (tgt := 25) hx hb dX10_numberAt_18 (by decide) (fun c5 => ?_) (fun c5 => ?_)
      · refine lv_aload_n hx hb dX10_numberAt_25 rfl (lv_at hl 0 rfl) ?_
        refine th_get hx hb (ly_X10 hE) hown hK hP ha0.1 he2 rfl 0 (by decide) (wd_214 hE) (fun _ h9 => h9) rfl dX10_numberAt_26 ?_
        refine lv_iload_n hx hb dX10_numberAt_29 rfl (lv_at hl 1 rfl) ?_
        refine th_iald hx hb hK hP hok (wt_X10_0 hWT ha0) (n := 73) (wl_X10_0 hWT ha0) (vp_in_iff.mpr (by first | omega | (simp only [i_lt, i_le, i_eq, ti_m9, ti_m1, ti_0, ti_1, ti_2, ti_3, ti_4, ti_5, ti_6, ti_7, ti_9, ti_12, ti_20, ti_99, ti_700, ti_24, nt3] at c1 c4 c5 ⊢; omega))) dX10_numberAt_30 (fun x6 => ?_)
        exact W.iret (v := x6) hx hb hr (fun t ht hW => ⟨x6, rfl, trivial, ht⟩) (fun _ h => absurd h List.not_mem_nil) dX10_numberAt_31
      · refine lv_iconst (v := 0) hx hb dX10_numberAt_21 (by decide) ?_
        refine lv_goto (tgt := 31) hx hb dX10_numberAt_22 (by decide) ?_
        exact W.iret (v := 0) hx hb hr (fun t ht hW => ⟨0, rfl, trivial, ht⟩) (fun _ h => absurd h List.not_mem_nil) dX10_numberAt_31

set_option maxHeartbeats 4000000 in
set_option maxRecDepth 100000 in
theorem t_X10_lastNumber (l : Launch) (dC : Nat → ClassId) (dI : Nat → Nat → Nat) (sz : Nat) (G : GT) (cs : Nat → ClassId) (tt mm : Nat) (a0 : Nat) (ha0 : Ty G a0 10) : Met l yX10_lastNumber [.code yX10_lastNumber cX10_lastNumber 1 (some .int)] ({ frames := 0, cells := 0, slots := 0, locals := 0 }) (PT [.ref a0] sz dC dI G cs tt mm) (vp_Si (fun (r : Int32) => True)) 0 0 (fun _ => False) := by
  refine Met.ofW (cc := cX10_lastNumber) (maxL := 1) (ret := (some .int)) (by decide) rfl ?_
  intro p e s m args below meth c s₁ B hml hv
  obtain ⟨rfl, hsz, ⟨f0, hok, hP⟩, hK, hnd, hWT, hE⟩ := hv
  have hx := B.exec
  have hb := B.bytes
  have hr := B.returns
  have hown : s.vm.findClass RX10 = some m.cls := findClass_of_methodNamed B.named
  have hlocks := B.notSynchronized
  subst hsz
  have hl := lv_entry ([.ref a0]) (n := 1) (Nat.le_of_ble_eq_true rfl)
  rw [lg_entry_eq]
  generalize (lg_sl ([.ref a0]) ++ List.replicate (1 - (lg_sl ([.ref a0])).length) Slot.unset).toArray = ls at hl ⊢
  have hl : lv_has ls 1 [(0, .ref a0)] := hl
  refine lv_aload_n hx hb dX10_lastNumber_0 rfl (lv_at hl 0 rfl) ?_
  obtain ⟨y2_1, y3_1, hy3_1, he1⟩ := ok_X10 hok ha0
  refine th_get hx hb (ly_X10 hE) hown hK hP ha0.1 he1 rfl 3 (by decide) (wd_217 hE) (fun _ h9 => h9) rfl dX10_lastNumber_1 ?_
  have nt2 : (nI y3_1).toInt = ((y3_1 : Nat) : Int) := nI_toInt (by omega)
  refine lv_if_lt (tgt := 19) hx hb dX10_lastNumber_4 (by decide) (fun c3 => False.elim (by simp only [i_lt, i_le, i_eq, ti_m9, ti_m1, ti_0, ti_1, ti_2, ti_3, ti_4, ti_5, ti_6, ti_7, ti_9, ti_12, ti_20, ti_99, ti_700, ti_24, nt2] at c3; omega)) (fun c3 => ?_)
  refine lv_aload_n hx hb dX10_lastNumber_7 rfl (lv_at hl 0 rfl) ?_
  refine th_get hx hb (ly_X10 hE) hown hK hP ha0.1 he1 rfl 3 (by decide) (wd_217 hE) (fun _ h9 => h9) rfl dX10_lastNumber_8 ?_
  refine lv_aload_n hx hb dX10_lastNumber_11 rfl (lv_at hl 0 rfl) ?_
  refine th_get hx hb (ly_X10 hE) hown hK hP ha0.1 he1 rfl 0 (by decide) (wd_214 hE) (fun _ h9 => h9) rfl dX10_lastNumber_12 ?_
  refine th_len1 hx hb hK hP hok (n := 73) (wl_X10_0 hWT ha0) (Or.inl (wt_X10_0 hWT ha0)) dX10_lastNumber_15 ?_
  refine W.eq (g2 := F0 m 16 ls [.int 73, .int (nI y3_1)]) rfl ?_
  refine lv_icmp_lt (tgt := 23) hx hb dX10_lastNumber_16 (by decide) (fun c4 => ?_) (fun c4 => False.elim (by simp only [i_lt, i_le, i_eq, ti_m9, ti_m1, ti_0, ti_1, ti_2, ti_3, ti_4, ti_5, ti_6, ti_7, ti_9, ti_12, ti_20, ti_99, ti_700, ti_24, nt2] at c3 c4; omega))
  refine lv_aload_n hx hb dX10_lastNumber_23 rfl (lv_at hl 0 rfl) ?_
  refine th_get hx hb (ly_X10 hE) hown hK hP ha0.1 he1 rfl 0 (by decide) (wd_214 hE) (fun _ h9 => h9) rfl dX10_lastNumber_24 ?_
  refine lv_aload_n hx hb dX10_lastNumber_27 rfl (lv_at hl 0 rfl) ?_
  refine th_get hx hb (ly_X10 hE) hown hK hP ha0.1 he1 rfl 3 (by decide) (wd_217 hE) (fun _ h9 => h9) rfl dX10_lastNumber_28 ?_
  refine th_iald hx hb hK hP hok (wt_X10_0 hWT ha0) (n := 73) (wl_X10_0 hWT ha0) (vp_in_iff.mpr (by first | omega | (simp only [i_lt, i_le, i_eq, ti_m9, ti_m1, ti_0, ti_1, ti_2, ti_3, ti_4, ti_5, ti_6, ti_7, ti_9, ti_12, ti_20, ti_99, ti_700, ti_24, nt2] at c3 c4 ⊢; omega))) dX10_lastNumber_31 (fun x5 => ?_)
  exact W.iret (v := x5) hx hb hr (fun t ht hW => ⟨x5, rfl, trivial, ht⟩) (fun _ h => absurd h List.not_mem_nil) dX10_lastNumber_32

set_option maxHeartbeats 4000000 in
set_option maxRecDepth 100000 in
theorem t_X10_begin (l : Launch) (dC : Nat → ClassId) (dI : Nat → Nat → Nat) (sz : Nat) (G : GT) (cs : Nat → ClassId) (tt mm : Nat) (a0 : Nat) (ha0 : Ty G a0 10) : Met l yX10_begin [.code yX10_begin cX10_begin 1 (some .int)] ({ frames := 0, cells := 0, slots := 0, locals := 0 }) (PT [.ref a0] sz dC dI G cs tt mm) (vp_Si (fun (r : Int32) => True)) 0 0 (fun _ => False) := by
  refine Met.ofW (cc := cX10_begin) (maxL := 1) (ret := (some .int)) (by decide) rfl ?_
  intro p e s m args below meth c s₁ B hml hv
  obtain ⟨rfl, hsz, ⟨f0, hok, hP⟩, hK, hnd, hWT, hE⟩ := hv
  have hx := B.exec
  have hb := B.bytes
  have hr := B.returns
  have hown : s.vm.findClass RX10 = some m.cls := findClass_of_methodNamed B.named
  have hlocks := B.notSynchronized
  subst hsz
  have hl := lv_entry ([.ref a0]) (n := 1) (Nat.le_of_ble_eq_true rfl)
  rw [lg_entry_eq]
  generalize (lg_sl ([.ref a0]) ++ List.replicate (1 - (lg_sl ([.ref a0])).length) Slot.unset).toArray = ls at hl ⊢
  have hl : lv_has ls 1 [(0, .ref a0)] := hl
  refine lv_aload_n hx hb dX10_begin_0 rfl (lv_at hl 0 rfl) ?_
  obtain ⟨y2_1, y3_1, hy3_1, he1⟩ := ok_X10 hok ha0
  refine th_get hx hb (ly_X10 hE) hown hK hP ha0.1 he1 rfl 2 (by decide) (wd_216 hE) (fun _ h9 => h9) rfl dX10_begin_1 ?_
  exact W.iret (v := y2_1) hx hb hr (fun t ht hW => ⟨y2_1, rfl, trivial, ht⟩) (fun _ h => absurd h List.not_mem_nil) dX10_begin_4

set_option maxHeartbeats 4000000 in
set_option maxRecDepth 100000 in
theorem t_X10_start (l : Launch) (dC : Nat → ClassId) (dI : Nat → Nat → Nat) (sz : Nat) (G : GT) (cs : Nat → ClassId) (tt mm : Nat) (a0 : Nat) (ha0 : Ty G a0 10) (v1 : Int32) (v2 : Int32) : Met l yX10_start [.code yX10_start cX10_start 3 none] ({ frames := 0, cells := 0, slots := 0, locals := 0 }) (PT [.ref a0, .int v1, .int v2] sz dC dI G cs tt mm) (va_Qv (fun (u : Nat → va_E) => True) (BT dC dI G cs tt mm) (AT G sz)) 0 0 (AT G sz) := by
  refine Met.ofW (cc := cX10_start) (maxL := 3) (ret := none) (by decide) rfl ?_
  intro p e s m args below meth c s₁ B hml hv
  obtain ⟨rfl, hsz, ⟨f0, hok, hP⟩, hK, hnd, hWT, hE⟩ := hv
  have hx := B.exec
  have hb := B.bytes
  have hr := B.returns
  have hown : s.vm.findClass RX10 = some m.cls := findClass_of_methodNamed B.named
  have hlocks := B.notSynchronized
  subst hsz
  have hAL : ∀ a, a ∈ gL G → AT G s.heap.size a := fun a h => Or.inl h
  have hA : ∀ q : Nat, s.heap.size ≤ q → AT G s.heap.size q := fun q h => Or.inr h
  have hS : va_S (AT G s.heap.size) s.heap s.heap [] := va_S.rf
  have hl := lv_entry ([.ref a0, .int v1, .int v2]) (n := 3) (Nat.le_of_ble_eq_true rfl)
  rw [lg_entry_eq]
  generalize (lg_sl ([.ref a0, .int v1, .int v2]) ++ List.replicate (3 - (lg_sl ([.ref a0, .int v1, .int v2])).length) Slot.unset).toArray = ls at hl ⊢
  have hl : lv_has ls 3 [(0, .ref a0), (1, .int v1), (2, .int v2)] := hl
  refine lv_aload_n hx hb dX10_start_0 rfl (lv_at hl 0 rfl) ?_
  refine lv_iload_n hx hb dX10_start_1 rfl (lv_at hl 1 rfl) ?_
  obtain ⟨y2_1, y3_1, hy3_1, he1⟩ := ok_X10 hok ha0
  refine th_put (v := .int v1) (ty := .int) hx hb (ly_X10 hE) tyX10 tyX10_ok nmX10 hown hK hP hnd hAL hS ha0.1 he1 rfl 2 (by decide) (wd_216 hE) (fun _ h9 => h9) rfl (by decide +kernel) rfl rfl (Nat.le_of_ble_eq_true rfl) (up_X10 hok ha0 ⟨v1, y3_1, (by omega), rfl⟩) dX10_start_2 (fun f2 H locs hfa2 hfo2 hok hP hS => ?_)
  refine lv_aload_n hx hb dX10_start_5 rfl (lv_at hl 0 rfl) ?_
  refine lv_iconst (v := 0) hx hb dX10_start_6 (by decide) ?_
  refine th_put (v := .int (nI 0)) (ty := .int) hx hb (ly_X10 hE) tyX10 tyX10_ok nmX10 hown hK hP hnd hAL hS ha0.1 hfa2 rfl 3 (by decide) (wd_217 hE) (fun _ h9 => h9) rfl (by decide +kernel) rfl rfl (Nat.le_of_ble_eq_true rfl) (up_X10 hok ha0 ⟨v1, 0, (by first | omega | (simp only [i_lt, i_le, i_eq, ti_m9, ti_m1, ti_0, ti_1, ti_2, ti_3, ti_4, ti_5, ti_6, ti_7, ti_9, ti_12, ti_20, ti_99, ti_700, ti_24]; omega)), rfl⟩) dX10_start_7 (fun f3 H locs hfa3 hfo3 hok hP hS => ?_)
  refine lv_aload_n hx hb dX10_start_10 rfl (lv_at hl 0 rfl) ?_
  refine th_get hx hb (ly_X10 hE) hown hK hP ha0.1 hfa3 rfl 0 (by decide) (wd_214 hE) (fun _ h9 => h9) rfl dX10_start_11 ?_
  refine lv_iconst (v := 0) hx hb dX10_start_14 (by decide) ?_
  refine lv_iload_n hx hb dX10_start_15 rfl (lv_at hl 2 rfl) ?_
  refine th_iast hx hb hK hP hok hnd hAL hS (wt_X10_0 hWT ha0) (n := 73) (wl_X10_0 hWT ha0) (by unfold vp_in; decide) dX10_start_16 (fun f4 H locs hfo4 hok hP hS => ?_)
  have he5 := (hfo4 a0 (Ty.ne ha0 (wt_X10_0 hWT ha0) (by decide))).trans hfa3
  exact W.vret hx hb hr (fun t ht hW => ⟨⟨f4, rfl, trivial, hok, by rw [ht]; exact hP⟩, hS.F ht⟩) hS.2.2 dX10_start_17

set_option maxHeartbeats 4000000 in
set_option maxRecDepth 100000 in
theorem t_X10_push (l : Launch) (dC : Nat → ClassId) (dI : Nat → Nat → Nat) (sz : Nat) (G : GT) (cs : Nat → ClassId) (tt mm : Nat) (a0 : Nat) (ha0 : Ty G a0 10) (v1 : Int32) (v2 : Int32) : Met l yX10_push [.code yX10_push cX10_push 3 none] ({ frames := 0, cells := 0, slots := 0, locals := 0 }) (PT [.ref a0, .int v1, .int v2] sz dC dI G cs tt mm) (va_Qv (fun (u : Nat → va_E) => True) (BT dC dI G cs tt mm) (AT G sz)) 0 0 (AT G sz) := by
  refine Met.ofW (cc := cX10_push) (maxL := 3) (ret := none) (by decide) rfl ?_
  intro p e s m args below meth c s₁ B hml hv
  obtain ⟨rfl, hsz, ⟨f0, hok, hP⟩, hK, hnd, hWT, hE⟩ := hv
  have hx := B.exec
  have hb := B.bytes
  have hr := B.returns
  have hown : s.vm.findClass RX10 = some m.cls := findClass_of_methodNamed B.named
  have hlocks := B.notSynchronized
  subst hsz
  have hAL : ∀ a, a ∈ gL G → AT G s.heap.size a := fun a h => Or.inl h
  have hA : ∀ q : Nat, s.heap.size ≤ q → AT G s.heap.size q := fun q h => Or.inr h
  have hS : va_S (AT G s.heap.size) s.heap s.heap [] := va_S.rf
  have hl := lv_entry ([.ref a0, .int v1, .int v2]) (n := 3) (Nat.le_of_ble_eq_true rfl)
  rw [lg_entry_eq]
  generalize (lg_sl ([.ref a0, .int v1, .int v2]) ++ List.replicate (3 - (lg_sl ([.ref a0, .int v1, .int v2])).length) Slot.unset).toArray = ls at hl ⊢
  have hl : lv_has ls 3 [(0, .ref a0), (1, .int v1), (2, .int v2)] := hl
  refine lv_aload_n hx hb dX10_push_0 rfl (lv_at hl 0 rfl) ?_
  obtain ⟨y2_1, y3_1, hy3_1, he1⟩ := ok_X10 hok ha0
  refine th_get hx hb (ly_X10 hE) hown hK hP ha0.1 he1 rfl 3 (by decide) (wd_217 hE) (fun _ h9 => h9) rfl dX10_push_1 ?_
  have nt2 : (nI y3_1).toInt = ((y3_1 : Nat) : Int) := nI_toInt (by omega)
  refine lv_if_lt (tgt := 63) hx hb dX10_push_4 (by decide) (fun c3 => False.elim (by simp only [i_lt, i_le, i_eq, ti_m9, ti_m1, ti_0, ti_1, ti_2, ti_3, ti_4, ti_5, ti_6, ti_7, ti_9, ti_12, ti_20, ti_99, ti_700, ti_24, nt2] at c3; omega)) (fun c3 => ?_)
  refine lv_aload_n hx hb dX10_push_7 rfl (lv_at hl 0 rfl) ?_
  refine th_get hx hb (ly_X10 hE) hown hK hP ha0.1 he1 rfl 3 (by decide) (wd_217 hE) (fun _ h9 => h9) rfl dX10_push_8 ?_
  refine lv_aload_n hx hb dX10_push_11 rfl (lv_at hl 0 rfl) ?_
  refine th_get hx hb (ly_X10 hE) hown hK hP ha0.1 he1 rfl 1 (by decide) (wd_215 hE) (fun _ h9 => h9) rfl dX10_push_12 ?_
  refine th_len1 hx hb hK hP hok (n := 72) (wl_X10_1 hWT ha0) (Or.inl (wt_X10_1 hWT ha0)) dX10_push_15 ?_
  refine W.eq (g2 := F0 m 16 ls [.int 72, .int (nI y3_1)]) rfl ?_
  refine lv_icmp_ge (tgt := 63) hx hb dX10_push_16 (by decide) (fun c4 => ?_) (fun c4 => ?_)
  · exact W.vret hx hb hr (fun t ht hW => ⟨⟨f0, rfl, trivial, hok, by rw [ht]; exact hP⟩, hS.F ht⟩) hS.2.2 dX10_push_63
  · refine lv_aload_n hx hb dX10_push_19 rfl (lv_at hl 0 rfl) ?_
    refine th_get hx hb (ly_X10 hE) hown hK hP ha0.1 he1 rfl 3 (by decide) (wd_217 hE) (fun _ h9 => h9) rfl dX10_push_20 ?_
    refine lv_iconst (v := 1) hx hb dX10_push_23 (by decide) ?_
    refine lv_iadd hx hb dX10_push_24 ?_
    refine W.eq (g2 := F0 m 25 ls [.int (nI (y3_1 + 1))]) (congrArg (fun z : Int32 => F0 m 25 ls (.int z :: [])) (nI_add y3_1 1)) ?_
    refine lv_aload_n hx hb dX10_push_25 rfl (lv_at hl 0 rfl) ?_
    refine th_get hx hb (ly_X10 hE) hown hK hP ha0.1 he1 rfl 0 (by decide) (wd_214 hE) (fun _ h9 => h9) rfl dX10_push_26 ?_
    refine th_len1 hx hb hK hP hok (n := 73) (wl_X10_0 hWT ha0) (Or.inl (wt_X10_0 hWT ha0)) dX10_push_29 ?_
    refine W.eq (g2 := F0 m 30 ls [.int 73, .int (nI (y3_1 + 1))]) rfl ?_
    have nt5 : (nI (y3_1 + 1)).toInt = ((y3_1 + 1 : Nat) : Int) := nI_toInt (by omega)
    refine lv_icmp_ge (tgt := 63) hx hb dX10_push_30 (by decide) (fun c6 => False.elim (by simp only [i_lt, i_le, i_eq, ti_m9, ti_m1, ti_0, ti_1, ti_2, ti_3, ti_4, ti_5, ti_6, ti_7, ti_9, ti_12, ti_20, ti_99, ti_700, ti_24, nt2, nt5] at c3 c4 c6; omega)) (fun c6 => ?_)
    refine lv_aload_n hx hb dX10_push_33 rfl (lv_at hl 0 rfl) ?_
    refine th_get hx hb (ly_X10 hE) hown hK hP ha0.1 he1 rfl 1 (by decide) (wd_215 hE) (fun _ h9 => h9) rfl dX10_push_34 ?_
    refine lv_aload_n hx hb dX10_push_37 rfl (lv_at hl 0 rfl) ?_
    refine th_get hx hb (ly_X10 hE) hown hK hP ha0.1 he1 rfl 3 (by decide) (wd_217 hE) (fun _ h9 => h9) rfl dX10_push_38 ?_
    refine lv_iload_n hx hb dX10_push_41 rfl (lv_at hl 1 rfl) ?_
    refine th_iast hx hb hK hP hok hnd hAL hS (wt_X10_1 hWT ha0) (n := 72) (wl_X10_1 hWT ha0) (vp_in_iff.mpr (by first | omega | (simp only [i_lt, i_le, i_eq, ti_m9, ti_m1, ti_0, ti_1, ti_2, ti_3, ti_4, ti_5, ti_6, ti_7, ti_9, ti_12, ti_20, ti_99, ti_700, ti_24, nt2, nt5] at c3 c4 c6 ⊢; omega))) dX10_push_42 (fun f7 H locs hfo7 hok hP hS => ?_)
    have he8 := (hfo7 a0 (Ty.ne ha0 (wt_X10_1 hWT ha0) (by decide))).trans he1
    refine lv_aload_n hx hb dX10_push_43 rfl (lv_at hl 0 rfl) ?_
    refine lv_dup hx hb dX10_push_44 rfl ?_
    refine th_get hx hb (ly_X10 hE) hown hK hP ha0.1 he8 rfl 3 (by decide) (wd_217 hE) (fun _ h9 => h9) rfl dX10_push_45 ?_
    refine lv_iconst (v := 1) hx hb dX10_push_48 (by decide) ?_
    refine lv_iadd hx hb dX10_push_49 ?_
    refine W.eq (g2 := F0 m 50 ls [.int (nI (y3_1 + 1)), .ref a0]) (congrArg (fun z : Int32 => F0 m 50 ls (.int z :: [.ref a0])) (nI_add y3_1 1)) ?_
    refine th_put (v := .int (nI (y3_1 + 1))) (ty := .int) hx hb (ly_X10 hE) tyX10 tyX10_ok nmX10 hown hK hP hnd hAL hS ha0.1 he8 rfl 3 (by decide) (wd_217 hE) (fun _ h9 => h9) rfl (by decide +kernel) rfl rfl (Nat.le_of_ble_eq_true rfl) (up_X10 hok ha0 ⟨y2_1, y3_1 + 1, (by first | omega | (simp only [i_lt, i_le, i_eq, ti_m9, ti_m1, ti_0, ti_1, ti_2, ti_3, ti_4, ti_5, ti_6, ti_7, ti_9, ti_12, ti_20, ti_99, ti_700, ti_24, nt2, nt5] at c3 c4 c6 ⊢; omega)), rfl⟩) dX10_push_50 (fun f9 H locs hfa9 hfo9 hok hP hS => ?_)
    refine lv_aload_n hx hb dX10_push_53 rfl (lv_at hl 0 rfl) ?_
    refine th_get hx hb (ly_X10 hE) hown hK hP ha0.1 hfa9 rfl 0 (by decide) (wd_214 hE) (fun _ h9 => h9) rfl dX10_push_54 ?_
    refine lv_aload_n hx hb dX10_push_57 rfl (lv_at hl 0 rfl) ?_
    refine th_get hx hb (ly_X10 hE) hown hK hP ha0.1 hfa9 rfl 3 (by decide) (wd_217 hE) (fun _ h9 => h9) rfl dX10_push_58 ?_
    refine lv_iload_n hx hb dX10_push_61 rfl (lv_at hl 2 rfl) ?_
    refine th_iast hx hb hK hP hok hnd hAL hS (wt_X10_0 hWT ha0) (n := 73) (wl_X10_0 hWT ha0) (vp_in_iff.mpr (by first | omega | (simp only [i_lt, i_le, i_eq, ti_m9, ti_m1, ti_0, ti_1, ti_2, ti_3, ti_4, ti_5, ti_6, ti_7, ti_9, ti_12, ti_20, ti_99, ti_700, ti_24, nt2, nt5] at c3 c4 c6 ⊢; omega))) dX10_push_62 (fun f10 H locs hfo10 hok hP hS => ?_)
    have he11 := (hfo10 a0 (Ty.ne ha0 (wt_X10_0 hWT ha0) (by decide))).trans hfa9
    exact W.vret hx hb hr (fun t ht hW => ⟨⟨f10, rfl, trivial, hok, by rw [ht]; exact hP⟩, hS.F ht⟩) hS.2.2 dX10_push_63

set_option maxHeartbeats 4000000 in
set_option maxRecDepth 100000 in
theorem t_X10_sameSteps (l : Launch) (dC : Nat → ClassId) (dI : Nat → Nat → Nat) (sz : Nat) (G : GT) (cs : Nat → ClassId) (tt mm : Nat) (a0 : Nat) (ha0 : Ty G a0 10) (a1 : Nat) (ha1 : Ty G a1 10) : Met l yX10_sameSteps [.code yX10_sameSteps cX10_sameSteps 3 (some .boolean)] ({ frames := 1, cells := 0, slots := 0, locals := 40 }) (PT [.ref a0, .ref a1] sz dC dI G cs tt mm) (vp_Si (fun (r : Int32) => r = 0 ∨ r = 1)) 0 0 (fun _ => False) := by
  refine Met.ofW (cc := cX10_sameSteps) (maxL := 3) (ret := (some .boolean)) (by decide) rfl ?_
  intro p e s m args below meth c s₁ B hml hv
  obtain ⟨rfl, hsz, ⟨f0, hok, hP⟩, hK, hnd, hWT, hE⟩ := hv
  have hx := B.exec
  have hb := B.bytes
  have hr := B.returns
  have hown : s.vm.findClass RX10 = some m.cls := findClass_of_methodNamed B.named
  have hlocks := B.notSynchronized
  subst hsz
  have hl := lv_entry ([.ref a0, .ref a1]) (n := 3) (Nat.le_of_ble_eq_true rfl)
  rw [lg_entry_eq]
  generalize (lg_sl ([.ref a0, .ref a1]) ++ List.replicate (3 - (lg_sl ([.ref a0, .ref a1])).length) Slot.unset).toArray = ls at hl ⊢
  have hl : lv_has ls 3 [(0, .ref a0), (1, .ref a1)] := hl
  refine lv_aload_n hx hb dX10_sameSteps_0 rfl (lv_at hl 0 rfl) ?_
  obtain ⟨y2_1, y3_1, hy3_1, he1⟩ := ok_X10 hok ha0
  refine th_get hx hb (ly_X10 hE) hown hK hP ha0.1 he1 rfl 2 (by decide) (wd_216 hE) (fun _ h9 => h9) rfl dX10_sameSteps_1 ?_
  refine lv_aload_n hx hb dX10_sameSteps_4 rfl (lv_at hl 1 rfl) ?_
  obtain ⟨y2_2, y3_2, hy3_2, he2⟩ := ok_X10 hok ha1
  refine th_get hx hb (ly_X10 hE) hown hK hP ha1.1 he2 rfl 2 (by decide) (wd_216 hE) (fun _ h9 => h9) rfl dX10_sameSteps_5 ?_
  refine lv_icmp_ne (tgt := 22) hx hb dX10_sameSteps_8 (by decide) (fun c3 => ?_) (fun c3 => ?_)
  · refine lv_iconst (v := 0) hx hb dX10_sameSteps_22 (by decide) ?_
    exact W.zret (v := 0) hx hb hr rfl (fun t ht hW => ⟨0, rfl, Or.inl rfl, ht⟩) (fun _ h => absurd h List.not_mem_nil) dX10_sameSteps_23
  · refine lv_aload_n hx hb dX10_sameSteps_11 rfl (lv_at hl 0 rfl) ?_
    refine th_get hx hb (ly_X10 hE) hown hK hP ha0.1 he1 rfl 3 (by decide) (wd_217 hE) (fun _ h9 => h9) rfl dX10_sameSteps_12 ?_
    refine lv_aload_n hx hb dX10_sameSteps_15 rfl (lv_at hl 1 rfl) ?_
    refine th_get hx hb (ly_X10 hE) hown hK hP ha1.1 he2 rfl 3 (by decide) (wd_217 hE) (fun _ h9 => h9) rfl dX10_sameSteps_16 ?_
    have nt4 : (nI y3_1).toInt = ((y3_1 : Nat) : Int) := nI_toInt (by omega)
    have nt5 : (nI y3_2).toInt = ((y3_2 : Nat) : Int) := nI_toInt (by omega)
    refine lv_icmp_eq (tgt := 24) hx hb dX10_sameSteps_19 (by decide) (fun c6 => ?_) (fun c6 => ?_)
    · refine lv_iconst (v := 0) hx hb dX10_sameSteps_24 (by decide) ?_
      refine lv_istore_n (lv' := [(2, .int 0), (0, .ref a0), (1, .ref a1)]) hx hb dX10_sameSteps_25 rfl hl (by decide) rfl (fun ls hl => ?_)
      refine w_indP (I := fun n ls => ∃ (w2_7 : Int32), n = (2147483647 - w2_7.toInt).toNat ∧ 0 ≤ w2_7 ∧ lv_has ls 3 [(0, .ref a0), (1, .ref a1), (2, .int w2_7)]) (fun n ls hI ih7 => ?_) _ _ ⟨0, rfl, (by first | omega | (simp only [i_lt, i_le, i_eq, ti_m9, ti_m1, ti_0, ti_1, ti_2, ti_3, ti_4, ti_5, ti_6, ti_7, ti_9, ti_12, ti_20, ti_99, ti_700, ti_24, nt4, nt5] at c3 c6 ⊢; omega)), lv_sub hl [1, 2, 0] rfl⟩
      obtain ⟨w2_7, hmu7, hlo7, hl⟩ := hI
      subst hmu7
      refine lv_iload_n hx hb dX10_sameSteps_26 rfl (lv_at hl 2 rfl) ?_
      refine lv_aload_n hx hb dX10_sameSteps_27 rfl (lv_at hl 0 rfl) ?_
      refine th_get hx hb (ly_X10 hE) hown hK hP ha0.1 he1 rfl 3 (by decide) (wd_217 hE) (fun _ h9 => h9) rfl dX10_sameSteps_28 ?_
      refine lv_icmp_ge (tgt := 55) hx hb dX10_sameSteps_31 (by decide) (fun c8 => ?_) (fun c8 => ?_)
      · refine lv_iconst (v := 1) hx hb dX10_sameSteps_55 (by decide) ?_
        exact W.zret (v := 1) hx hb hr rfl (fun t ht hW => ⟨1, rfl, Or.inr rfl, ht⟩) (fun _ h => absurd h List.not_mem_nil) dX10_sameSteps_56
      · refine lv_aload_n hx hb dX10_sameSteps_34 rfl (lv_at hl 0 rfl) ?_
        refine lv_iload_n hx hb dX10_sameSteps_35 rfl (lv_at hl 2 rfl) ?_
        refine vp_callSi (va_Run.run (va_runV (As := [.int w2_7]) (rest := []) ⟨hx, hb, hml, hown, noTs⟩ (t_X10_stepAt l dC dI s.heap.size G cs tt mm a0 ha0 w2_7) ⟨cbE 1 (wd_721 hE) (wd_120 hE) (wd_882 hE) rfl rfl (by decide +kernel) ⟨Nat.le_of_ble_eq_true rfl, Nat.le_of_ble_eq_true rfl⟩, (wd_719 hE), (wd_720 hE)⟩ ⟨PT.blind, th_recv hK hP ha0.1 he1 rfl, (th_pre (av := [.ref a0, .int w2_7]) hK hP hok hnd hWT hE)⟩ rfl rfl hl.1 rfl (lv_room (Nat.le_of_ble_eq_true rfl)) dX10_sameSteps_36 ⟨Nat.le_of_ble_eq_true rfl, Nat.le_of_ble_eq_true rfl⟩)) (fun r9 hr9 => ?_)
        refine lv_aload_n hx hb dX10_sameSteps_39 rfl (lv_at hl 1 rfl) ?_
        refine lv_iload_n hx hb dX10_sameSteps_40 rfl (lv_at hl 2 rfl) ?_
        refine vp_callSi (va_Run.run (va_runV (As := [.int w2_7]) (rest := [.int r9]) ⟨hx, hb, hml, hown, noTs⟩ (t_X10_stepAt l dC dI s.heap.size G cs tt mm a1 ha1 w2_7) ⟨cbE 1 (wd_721 hE) (wd_120 hE) (wd_882 hE) rfl rfl (by decide +kernel) ⟨Nat.le_of_ble_eq_true rfl, Nat.le_of_ble_eq_true rfl⟩, (wd_719 hE), (wd_720 hE)⟩ ⟨PT.blind, th_recv hK hP ha1.1 he2 rfl, (th_pre (av := [.ref a1, .int w2_7]) hK hP hok hnd hWT hE)⟩ rfl rfl hl.1 rfl (lv_room (Nat.le_of_ble_eq_true rfl)) dX10_sameSteps_41 ⟨Nat.le_of_ble_eq_true rfl, Nat.le_of_ble_eq_true rfl⟩)) (fun r10 hr10 => ?_)
        refine lv_icmp_eq (tgt := 49) hx hb dX10_sameSteps_44 (by decide) (fun c11 => ?_) (fun c11 => ?_)
        · obtain ⟨z12, ez12⟩ : ∃ z : Int32, z = w2_7 + 1 := ⟨_, rfl⟩
          refine lv_iinc (v := z12) (lv' := [(2, .int z12), (0, .ref a0), (1, .ref a1)]) hx hb dX10_sameSteps_49 hl (k := 2) rfl (by rw [ez12]; rfl) (by decide) rfl (fun ls hl => ?_)
          have ic12 : z12.toInt = w2_7.toInt + 1 := by rw [ez12]; exact ic_up (by have := i_rng y2_1; have := i_rng y2_2; have := i_rng (nI y3_1); have := i_rng (nI y3_2); have := i_rng w2_7; have := i_rng r9; have := i_rng r10; simp only [i_lt, i_le, i_eq, ti_m9, ti_m1, ti_0, ti_1, ti_2, ti_3, ti_4, ti_5, ti_6, ti_7, ti_9, ti_12, ti_20, ti_99, ti_700, ti_24, nt4, nt5] at c3 c6 hlo7 c8 c11 ⊢; omega)
          refine lv_goto (tgt := 26) hx hb dX10_sameSteps_52 (by decide) ?_
          exact ih7 _ _ (by first | omega | (simp only [i_lt, i_le, i_eq, ti_m9, ti_m1, ti_0, ti_1, ti_2, ti_3, ti_4, ti_5, ti_6, ti_7, ti_9, ti_12, ti_20, ti_99, ti_700, ti_24, nt4, nt5, ic12] at c3 c6 hlo7 c8 c11 ic12 ⊢; omega)) ⟨z12, rfl, (by first | omega | (simp only [i_lt, i_le, i_eq, ti_m9, ti_m1, ti_0, ti_1, ti_2, ti_3, ti_4, ti_5, ti_6, ti_7, ti_9, ti_12, ti_20, ti_99, ti_700, ti_24, nt4, nt5, ic12] at c3 c6 hlo7 c8 c11 ⊢; omega)), lv_sub hl [1, 2, 0] rfl⟩
        · refine lv_iconst (v := 0) hx hb dX10_sameSteps_47 (by decide) ?_
          exact W.zret (v := 0) hx hb hr rfl (fun t ht hW => ⟨0, rfl, Or.inl rfl, ht⟩) (fun _ h => absurd h List.not_mem_nil) dX10_sameSteps_48
    · refine lv_iconst (v := 0) hx hb dX10_sameSteps_22 (by decide) ?_
      exact W.zret (v := 0) hx hb hr rfl (fun t ht hW => ⟨0, rfl, Or.inl rfl, ht⟩) (fun _ h => absurd h List.not_mem_nil) dX10_sameSteps_23

set_option maxHeartbeats 4000000 in
set_option maxRecDepth 100000 in
theorem t_X10_putNumber (l : Launch) (dC : Nat → ClassId) (dI : Nat → Nat → Nat) (sz : Nat) (G : GT) (cs : Nat → ClassId) (tt mm : Nat) (a0 : Nat) (ha0 : Ty G a0 10) (v1 : Int32) (v2 : Int32) : Met l yX10_putNumber [.code yX10_putNumber cX10_putNumber 3 none] ({ frames := 0, cells := 0, slots := 0, locals := 0 }) (PT [.ref a0, .int v1, .int v2] sz dC dI G cs tt mm) (va_Qv (fun (u : Nat → va_E) => True) (BT dC dI G cs tt mm) (AT G sz)) 0 0 (AT G sz) := by
  refine Met.ofW (cc := cX10_putNumber) (maxL := 3) (ret := none) (by decide) rfl ?_
  intro p e s m args below meth c s₁ B hml hv
  obtain ⟨rfl, hsz, ⟨f0, hok, hP⟩, hK, hnd, hWT, hE⟩ := hv
  have hx := B.exec
  have hb := B.bytes
  have hr := B.returns
  have hown : s.vm.findClass RX10 = some m.cls := findClass_of_methodNamed B.named
  have hlocks := B.notSynchronized
  subst hsz
  have hAL : ∀ a, a ∈ gL G → AT G s.heap.size a := fun a h => Or.inl h
  have hA : ∀ q : Nat, s.heap.size ≤ q → AT G s.heap.size q := fun q h => Or.inr h
  have hS : va_S (AT G s.heap.size) s.heap s.heap [] := va_S.rf
  have hl := lv_entry ([.ref a0, .int v1, .int v2]) (n := 3) (Nat.le_of_ble_eq_true rfl)
  rw [lg_entry_eq]
  generalize (lg_sl ([.ref a0, .int v1, .int v2]) ++ List.replicate (3 - (lg_sl ([.ref a0, .int v1, .int v2])).length) Slot.unset).toArray = ls at hl ⊢
  have hl : lv_has ls 3 [(0, .ref a0), (1, .int v1), (2, .int v2)] := hl
  refine lv_iload_n hx hb dX10_putNumber_0 rfl (lv_at hl 1 rfl) ?_
  refine lv_if_lt (tgt := 28) hx hb dX10_putNumber_1 (by decide) (fun c1 => ?_) (fun c1 => ?_)
  · exact W.vret hx hb hr (fun t ht hW => ⟨⟨f0, rfl, trivial, hok, by rw [ht]; exact hP⟩, hS.F ht⟩) hS.2.2 dX10_putNumber_28
  · refine lv_iload_n hx hb dX10_putNumber_4 rfl (lv_at hl 1 rfl) ?_
    refine lv_aload_n hx hb dX10_putNumber_5 rfl (lv_at hl 0 rfl) ?_
    obtain ⟨y2_2, y3_2, hy3_2, he2⟩ := ok_X10 hok ha0
    refine th_get hx hb (ly_X10 hE) hown hK hP ha0.1 he2 rfl 3 (by decide) (wd_217 hE) (fun _ h9 => h9) rfl dX10_putNumber_6 ?_
    have nt3 : (nI y3_2).toInt = ((y3_2 : Nat) : Int) := nI_toInt (by omega)
    refine lv_icmp_gt (tgt := 28) hx hb dX10_putNumber_9 (by decide) (fun c4 => ?_) (fun c4 => ?_)
    · exact W.vret hx hb hr (fun t ht hW => ⟨⟨f0, rfl, trivial, hok, by rw [ht]; exact hP⟩, hS.F ht⟩) hS.2.2 dX10_putNumber_28
    · refine lv_iload_n hx hb dX10_putNumber_12 rfl (lv_at hl 1 rfl) ?_
      refine lv_aload_n hx hb dX10_putNumber_13 rfl (lv_at hl 0 rfl) ?_
      refine th_get hx hb (ly_X10 hE) hown hK hP ha0.1 he2 rfl 0 (by decide) (wd_214 hE) (fun _ h9 => h9) rfl dX10_putNumber_14 ?_
      refine th_len1 hx hb hK hP hok (n := 73) (wl_X10_0 hWT ha0) (Or.inl (wt_X10_0 hWT ha0)) dX10_putNumber_17 ?_
      refine W.eq (g2 := F0 m 18 ls [.int 73, .int v1]) rfl ?_
      refine lv_icmp_ge (tgt := 28) hx hb dX10_putNumber_18 (by decide) (fun c5 => ?_) (fun c5 => ?_)
      · exact W.vret hx hb hr (fun t ht hW => ⟨⟨f0, rfl, trivial, hok, by rw [ht]; exact hP⟩, hS.F ht⟩) hS.2.2 dX10_putNumber_28
      · refine lv_aload_n hx hb dX10_putNumber_21 rfl (lv_at hl 0 rfl) ?_
        refine th_get hx hb (ly_X10 hE) hown hK hP ha0.1 he2 rfl 0 (by decide) (wd_214 hE) (fun _ h9 => h9) rfl dX10_putNumber_22 ?_
        refine lv_iload_n hx hb dX10_putNumber_25 rfl (lv_at hl 1 rfl) ?_
        refine lv_iload_n hx hb dX10_putNumber_26 rfl (lv_at hl 2 rfl) ?_
        refine th_iast hx hb hK hP hok hnd hAL hS (wt_X10_0 hWT ha0) (n := 73) (wl_X10_0 hWT ha0) (vp_in_iff.mpr (by first | omega | (simp only [i_lt, i_le, i_eq, ti_m9, ti_m1, ti_0, ti_1, ti_2, ti_3, ti_4, ti_5, ti_6, ti_7, ti_9, ti_12, ti_20, ti_99, ti_700, ti_24, nt3] at c1 c4 c5 ⊢; omega))) dX10_putNumber_27 (fun f6 H locs hfo6 hok hP hS => ?_)
        have he7 := (hfo6 a0 (Ty.ne ha0 (wt_X10_0 hWT ha0) (by decide))).trans he2
        exact W.vret hx hb hr (fun t ht hW => ⟨⟨f6, rfl, trivial, hok, by rw [ht]; exact hP⟩, hS.F ht⟩) hS.2.2 dX10_putNumber_28

set_option maxHeartbeats 4000000 in
set_option maxRecDepth 100000 in
theorem t_X10_lastStep (l : Launch) (dC : Nat → ClassId) (dI : Nat → Nat → Nat) (sz : Nat) (G : GT) (cs : Nat → ClassId) (tt mm : Nat) (a0 : Nat) (ha0 : Ty G a0 10) : Met l yX10_lastStep [.code yX10_lastStep cX10_lastStep 1 (some .int)] ({ frames := 0, cells := 0, slots := 0, locals := 0 }) (PT [.ref a0] sz dC dI G cs tt mm) (vp_Si (fun (r : Int32) => True)) 0 0 (fun _ => False) := by
  refine Met.ofW (cc := cX10_lastStep) (maxL := 1) (ret := (some .int)) (by decide) rfl ?_
  intro p e s m args below meth c s₁ B hml hv
  obtain ⟨rfl, hsz, ⟨f0, hok, hP⟩, hK, hnd, hWT, hE⟩ := hv
  have hx := B.exec
  have hb := B.bytes
  have hr := B.returns
  have hown : s.vm.findClass RX10 = some m.cls := findClass_of_methodNamed B.named
  have hlocks := B.notSynchronized
  subst hsz
  have hl := lv_entry ([.ref a0]) (n := 1) (Nat.le_of_ble_eq_true rfl)
  rw [lg_entry_eq]
  generalize (lg_sl ([.ref a0]) ++ List.replicate (1 - (lg_sl ([.ref a0])).length) Slot.unset).toArray = ls at hl ⊢
  have hl : lv_has ls 1 [(0, .ref a0)] := hl
  refine lv_aload_n hx hb dX10_lastStep_0 rfl (lv_at hl 0 rfl) ?_
  obtain ⟨y2_1, y3_1, hy3_1, he1⟩ := ok_X10 hok ha0
  refine th_get hx hb (ly_X10 hE) hown hK hP ha0.1 he1 rfl 3 (by decide) (wd_217 hE) (fun _ h9 => h9) rfl dX10_lastStep_1 ?_
  refine lv_iconst (v := 1) hx hb dX10_lastStep_4 (by decide) ?_
  have nt2 : (nI y3_1).toInt = ((y3_1 : Nat) : Int) := nI_toInt (by omega)
  refine lv_icmp_lt (tgt := 20) hx hb dX10_lastStep_5 (by decide) (fun c3 => ?_) (fun c3 => ?_)
  · refine lv_bipush (v := 12) hx hb dX10_lastStep_20 (by decide) ?_
    refine lv_goto (tgt := 36) hx hb dX10_lastStep_22 (by decide) ?_
    exact W.iret (v := 12) hx hb hr (fun t ht hW => ⟨12, rfl, trivial, ht⟩) (fun _ h => absurd h List.not_mem_nil) dX10_lastStep_36
  · refine lv_aload_n hx hb dX10_lastStep_8 rfl (lv_at hl 0 rfl) ?_
    refine th_get hx hb (ly_X10 hE) hown hK hP ha0.1 he1 rfl 3 (by decide) (wd_217 hE) (fun _ h9 => h9) rfl dX10_lastStep_9 ?_
    refine lv_aload_n hx hb dX10_lastStep_12 rfl (lv_at hl 0 rfl) ?_
    refine th_get hx hb (ly_X10 hE) hown hK hP ha0.1 he1 rfl 1 (by decide) (wd_215 hE) (fun _ h9 => h9) rfl dX10_lastStep_13 ?_
    refine th_len1 hx hb hK hP hok (n := 72) (wl_X10_1 hWT ha0) (Or.inl (wt_X10_1 hWT ha0)) dX10_lastStep_16 ?_
    refine W.eq (g2 := F0 m 17 ls [.int 72, .int (nI y3_1)]) rfl ?_
    refine lv_icmp_le (tgt := 25) hx hb dX10_lastStep_17 (by decide) (fun c4 => ?_) (fun c4 => False.elim (by simp only [i_lt, i_le, i_eq, ti_m9, ti_m1, ti_0, ti_1, ti_2, ti_3, ti_4, ti_5, ti_6, ti_7, ti_9, ti_12, ti_20, ti_99, ti_700, ti_24, ti_72, nt2] at c3 c4; omega))
    refine lv_aload_n hx hb dX10_lastStep_25 rfl (lv_at hl 0 rfl) ?_
    refine th_get hx hb (ly_X10 hE) hown hK hP ha0.1 he1 rfl 1 (by decide) (wd_215 hE) (fun _ h9 => h9) rfl dX10_lastStep_26 ?_
    refine lv_aload_n hx hb dX10_lastStep_29 rfl (lv_at hl 0 rfl) ?_
    refine th_get hx hb (ly_X10 hE) hown hK hP ha0.1 he1 rfl 3 (by decide) (wd_217 hE) (fun _ h9 => h9) rfl dX10_lastStep_30 ?_
    refine lv_iconst (v := 1) hx hb dX10_lastStep_33 (by decide) ?_
    refine lv_isub hx hb dX10_lastStep_34 ?_
    refine W.eq (g2 := F0 m 35 ls [.int (nI (y3_1 - 1)), .ref (gR G a0 1)]) (congrArg (fun z : Int32 => F0 m 35 ls (.int z :: [.ref (gR G a0 1)])) (pk_sub (a := y3_1) (b := 1) (by first | omega | (simp only [i_lt, i_le, i_eq, ti_m9, ti_m1, ti_0, ti_1, ti_2, ti_3, ti_4, ti_5, ti_6, ti_7, ti_9, ti_12, ti_20, ti_99, ti_700, ti_24, ti_72, nt2] at c3 c4 ⊢; omega)))) ?_
    have nt6 : (nI (y3_1 - 1)).toInt = ((y3_1 - 1 : Nat) : Int) := nI_toInt (by omega)
    refine th_iald hx hb hK hP hok (wt_X10_1 hWT ha0) (n := 72) (wl_X10_1 hWT ha0) (vp_in_iff.mpr (by first | omega | (simp only [i_lt, i_le, i_eq, ti_m9, ti_m1, ti_0, ti_1, ti_2, ti_3, ti_4, ti_5, ti_6, ti_7, ti_9, ti_12, ti_20, ti_99, ti_700, ti_24, ti_72, nt2, nt6] at c3 c4 ⊢; omega))) dX10_lastStep_35 (fun x5 => ?_)
    exact W.iret (v := x5) hx hb hr (fun t ht hW => ⟨x5, rfl, trivial, ht⟩) (fun _ h => absurd h List.not_mem_nil) dX10_lastStep_36

set_option maxHeartbeats 4000000 in
set_option maxRecDepth 100000 in
theorem t_X10_pop (l : Launch) (dC : Nat → ClassId) (dI : Nat → Nat → Nat) (sz : Nat) (G : GT) (cs : Nat → ClassId) (tt mm : Nat) (a0 : Nat) (ha0 : Ty G a0 10) : Met l yX10_pop [.code yX10_pop cX10_pop 1 none] ({ frames := 0, cells := 0, slots := 0, locals := 0 }) (PT [.ref a0] sz dC dI G cs tt mm) (va_Qv (fun (u : Nat → va_E) => True) (BT dC dI G cs tt mm) (AT G sz)) 0 0 (AT G sz) := by
  refine Met.ofW (cc := cX10_pop) (maxL := 1) (ret := none) (by decide) rfl ?_
  intro p e s m args below meth c s₁ B hml hv
  obtain ⟨rfl, hsz, ⟨f0, hok, hP⟩, hK, hnd, hWT, hE⟩ := hv
  have hx := B.exec
  have hb := B.bytes
  have hr := B.returns
  have hown : s.vm.findClass RX10 = some m.cls := findClass_of_methodNamed B.named
  have hlocks := B.notSynchronized
  subst hsz
  have hAL : ∀ a, a ∈ gL G → AT G s.heap.size a := fun a h => Or.inl h
  have hA : ∀ q : Nat, s.heap.size ≤ q → AT G s.heap.size q := fun q h => Or.inr h
  have hS : va_S (AT G s.heap.size) s.heap s.heap [] := va_S.rf
  have hl := lv_entry ([.ref a0]) (n := 1) (Nat.le_of_ble_eq_true rfl)
  rw [lg_entry_eq]
  generalize (lg_sl ([.ref a0]) ++ List.replicate (1 - (lg_sl ([.ref a0])).length) Slot.unset).toArray = ls at hl ⊢
  have hl : lv_has ls 1 [(0, .ref a0)] := hl
  refine lv_aload_n hx hb dX10_pop_0 rfl (lv_at hl 0 rfl) ?_
  obtain ⟨y2_1, y3_1, hy3_1, he1⟩ := ok_X10 hok ha0
  refine th_get hx hb (ly_X10 hE) hown hK hP ha0.1 he1 rfl 3 (by decide) (wd_217 hE) (fun _ h9 => h9) rfl dX10_pop_1 ?_
  have nt2 : (nI y3_1).toInt = ((y3_1 : Nat) : Int) := nI_toInt (by omega)
  refine lv_if_le (tgt := 17) hx hb dX10_pop_4 (by decide) (fun c3 => ?_) (fun c3 => ?_)
  · exact W.vret hx hb hr (fun t ht hW => ⟨⟨f0, rfl, trivial, hok, by rw [ht]; exact hP⟩, hS.F ht⟩) hS.2.2 dX10_pop_17
  · refine lv_aload_n hx hb dX10_pop_7 rfl (lv_at hl 0 rfl) ?_
    refine lv_dup hx hb dX10_pop_8 rfl ?_
    refine th_get hx hb (ly_X10 hE) hown hK hP ha0.1 he1 rfl 3 (by decide) (wd_217 hE) (fun _ h9 => h9) rfl dX10_pop_9 ?_
    refine lv_iconst (v := 1) hx hb dX10_pop_12 (by decide) ?_
    refine lv_isub hx hb dX10_pop_13 ?_
    refine W.eq (g2 := F0 m 14 ls [.int (nI (y3_1 - 1)), .ref a0]) (congrArg (fun z : Int32 => F0 m 14 ls (.int z :: [.ref a0])) (pk_sub (a := y3_1) (b := 1) (by first | omega | (simp only [i_lt, i_le, i_eq, ti_m9, ti_m1, ti_0, ti_1, ti_2, ti_3, ti_4, ti_5, ti_6, ti_7, ti_9, ti_12, ti_20, ti_99, ti_700, ti_24, ti_72, nt2] at c3 ⊢; omega)))) ?_
    refine th_put (v := .int (nI (y3_1 - 1))) (ty := .int) hx hb (ly_X10 hE) tyX10 tyX10_ok nmX10 hown hK hP hnd hAL hS ha0.1 he1 rfl 3 (by decide) (wd_217 hE) (fun _ h9 => h9) rfl (by decide +kernel) rfl rfl (Nat.le_of_ble_eq_true rfl) (up_X10 hok ha0 ⟨y2_1, y3_1 - 1, (by first | omega | (simp only [i_lt, i_le, i_eq, ti_m9, ti_m1, ti_0, ti_1, ti_2, ti_3, ti_4, ti_5, ti_6, ti_7, ti_9, ti_12, ti_20, ti_99, ti_700, ti_24, ti_72, nt2] at c3 ⊢; omega)), rfl⟩) dX10_pop_14 (fun f4 H locs hfa4 hfo4 hok hP hS => ?_)
    exact W.vret hx hb hr (fun t ht hW => ⟨⟨f4, rfl, trivial, hok, by rw [ht]; exact hP⟩, hS.F ht⟩) hS.2.2 dX10_pop_17

set_option maxHeartbeats 4000000 in
set_option maxRecDepth 100000 in
theorem t_X10_addLast (l : Launch) (dC : Nat → ClassId) (dI : Nat → Nat → Nat) (sz : Nat) (G : GT) (cs : Nat → ClassId) (tt mm : Nat) (a0 : Nat) (ha0 : Ty G a0 10) (v1 : Int32) (v2 : Int32) : Met l yX10_addLast [.code yX10_addLast cX10_addLast 3 none] ({ frames := 1, cells := 0, slots := 0, locals := 40 }) (PT [.ref a0, .int v1, .int v2] sz dC dI G cs tt mm) (va_Qv (fun (u : Nat → va_E) => True) (BT dC dI G cs tt mm) (AT G sz)) 0 0 (AT G sz) := by
  refine Met.ofW (cc := cX10_addLast) (maxL := 3) (ret := none) (by decide) rfl ?_
  intro p e s m args below meth c s₁ B hml hv
  obtain ⟨rfl, hsz, ⟨f0, hok, hP⟩, hK, hnd, hWT, hE⟩ := hv
  have hx := B.exec
  have hb := B.bytes
  have hr := B.returns
  have hown : s.vm.findClass RX10 = some m.cls := findClass_of_methodNamed B.named
  have hlocks := B.notSynchronized
  subst hsz
  have hAL : ∀ a, a ∈ gL G → AT G s.heap.size a := fun a h => Or.inl h
  have hA : ∀ q : Nat, s.heap.size ≤ q → AT G s.heap.size q := fun q h => Or.inr h
  have hS : va_S (AT G s.heap.size) s.heap s.heap [] := va_S.rf
  have hl := lv_entry ([.ref a0, .int v1, .int v2]) (n := 3) (Nat.le_of_ble_eq_true rfl)
  rw [lg_entry_eq]
  generalize (lg_sl ([.ref a0, .int v1, .int v2]) ++ List.replicate (3 - (lg_sl ([.ref a0, .int v1, .int v2])).length) Slot.unset).toArray = ls at hl ⊢
  have hl : lv_has ls 3 [(0, .ref a0), (1, .int v1), (2, .int v2)] := hl
  refine lv_aload_n hx hb dX10_addLast_0 rfl (lv_at hl 0 rfl) ?_
  refine lv_aload_n hx hb dX10_addLast_1 rfl (lv_at hl 0 rfl) ?_
  obtain ⟨y2_1, y3_1, hy3_1, he1⟩ := ok_X10 hok ha0
  refine th_get hx hb (ly_X10 hE) hown hK hP ha0.1 he1 rfl 3 (by decide) (wd_217 hE) (fun _ h9 => h9) rfl dX10_addLast_2 ?_
  refine lv_aload_n hx hb dX10_addLast_5 rfl (lv_at hl 0 rfl) ?_
  refine vp_callSi (va_Run.run (va_runV (As := []) (rest := [.int (nI y3_1), .ref a0]) ⟨hx, hb, hml, hown, noTs⟩ (t_X10_lastNumber l dC dI s.heap.size G cs tt mm a0 ha0) ⟨cbE 0 (wd_649 hE) (wd_120 hE) (wd_646 hE) rfl rfl (by decide +kernel) ⟨Nat.le_of_ble_eq_true rfl, Nat.le_of_ble_eq_true rfl⟩, (wd_647 hE), (wd_648 hE)⟩ ⟨PT.blind, th_recv hK hP ha0.1 he1 rfl, (th_pre (av := [.ref a0]) hK hP hok hnd hWT hE)⟩ rfl rfl hl.1 rfl (lv_room (Nat.le_of_ble_eq_true rfl)) dX10_addLast_6 ⟨Nat.le_of_ble_eq_true rfl, Nat.le_of_ble_eq_true rfl⟩)) (fun r2 hr2 => ?_)
  refine lv_iload_n hx hb dX10_addLast_9 rfl (lv_at hl 1 rfl) ?_
  refine lv_iadd hx hb dX10_addLast_10 ?_
  refine lv_topi (fun x3 _ => ?_)
  refine lv_iload_n hx hb dX10_addLast_11 rfl (lv_at hl 2 rfl) ?_
  refine vp_callSi (va_Run.run (va_runSN (As := [.int x3, .int v2]) (rest := [.int (nI y3_1), .ref a0]) ⟨hx, hb, hml, hown, noTs⟩ (t_X11_rest l dC dI s.heap.size G cs tt mm x3 v2) ⟨cnE 2 (wd_617 hE) (wd_115 hE) (wd_650 hE) rfl rfl (by decide +kernel) ⟨Nat.le_of_ble_eq_true rfl, Nat.le_of_ble_eq_true rfl⟩, (wd_616 hE), trivial⟩ ⟨PT.blind, (th_pre (av := [.int x3, .int v2]) hK hP hok hnd hWT hE)⟩ rfl rfl hl.1 rfl (lv_room (Nat.le_of_ble_eq_true rfl)) dX10_addLast_12 ⟨Nat.le_of_ble_eq_true rfl, Nat.le_of_ble_eq_true rfl⟩)) (fun r4 hr4 => ?_)
  refine tc_v hAL hS hA (va_runV (As := [.int (nI y3_1), .int r4]) (rest := []) ⟨hx, hb, hml, hown, noTs⟩ (t_X10_putNumber l dC dI s.heap.size G cs tt mm a0 ha0 (nI y3_1) r4) ⟨cbE 2 (wd_654 hE) (wd_120 hE) (wd_651 hE) rfl rfl (by decide +kernel) ⟨Nat.le_of_ble_eq_true rfl, Nat.le_of_ble_eq_true rfl⟩, (wd_652 hE), (wd_653 hE)⟩ ⟨PT.blind, th_recv hK hP ha0.1 he1 rfl, (th_pre (av := [.ref a0, .int (nI y3_1), .int r4]) hK hP hok hnd hWT hE)⟩ rfl rfl hl.1 rfl (lv_room (Nat.le_of_ble_eq_true rfl)) dX10_addLast_15 ⟨Nat.le_of_ble_eq_true rfl, Nat.le_of_ble_eq_true rfl⟩) (fun f5 H locs hr5 hok hP hS => ?_)
  exact W.vret hx hb hr (fun t ht hW => ⟨⟨f5, rfl, trivial, hok, by rw [ht]; exact hP⟩, hS.F ht⟩) hS.2.2 dX10_addLast_18

set_option maxHeartbeats 4000000 in
set_option maxRecDepth 100000 in
theorem t_J7_fill_53178 (l : Launch) (dC : Nat → ClassId) (dI : Nat → Nat → Nat) (sz : Nat) (G : GT) (cs : Nat → ClassId) (tt mm : Nat) (a0 : Nat) (ha0 : Ty G a0 21) (na0 : Nat) (hna0 : gN G a0 = na0) (v1 : Int32) : Met l yJ7_fill_53178 [.code yJ7_fill_53178 cJ7_fill_53178 4 none] ({ frames := 0, cells := 0, slots := 0, locals := 0 }) (PT [.ref a0, .int v1] sz dC dI G cs tt mm) (va_Qv (fun (u : Nat → va_E) => True) (BT dC dI G cs tt mm) (AT G sz)) 0 0 (AT G sz) := by
  refine Met.ofW (cc := cJ7_fill_53178) (maxL := 4) (ret := none) (by decide) rfl ?_
  intro p e s m args below meth c s₁ B hml hv
  obtain ⟨rfl, hsz, ⟨f0, hok, hP⟩, hK, hnd, hWT, hE⟩ := hv
  have hx := B.exec
  have hb := B.bytes
  have hr := B.returns
  have hown : s.vm.findClass RJ7 = some m.cls := findClass_of_methodNamed B.named
  have hlocks := B.notSynchronized
  subst hsz
  have hAL : ∀ a, a ∈ gL G → AT G s.heap.size a := fun a h => Or.inl h
  have hA : ∀ q : Nat, s.heap.size ≤ q → AT G s.heap.size q := fun q h => Or.inr h
  have hS : va_S (AT G s.heap.size) s.heap s.heap [] := va_S.rf
  have hl := lv_entry ([.ref a0, .int v1]) (n := 4) (Nat.le_of_ble_eq_true rfl)
  rw [lg_entry_eq]
  generalize (lg_sl ([.ref a0, .int v1]) ++ List.replicate (4 - (lg_sl ([.ref a0, .int v1])).length) Slot.unset).toArray = ls at hl ⊢
  have hl : lv_has ls 4 [(0, .ref a0), (1, .int v1)] := hl
  refine lv_iconst (v := 0) hx hb dJ7_fill_53178_0 (by decide) ?_
  refine lv_istore_n (lv' := [(2, .int 0), (0, .ref a0), (1, .int v1)]) hx hb dJ7_fill_53178_1 rfl hl (by decide) rfl (fun ls hl => ?_)
  refine lv_aload_n hx hb dJ7_fill_53178_2 rfl (lv_at hl 1 rfl) ?_
  refine th_len1 hx hb hK hP hok (n := na0) hna0 (Or.inl ha0) dJ7_fill_53178_3 ?_
  have := wt_bytes hWT ha0
  refine lv_istore_n (lv' := [(3, .int (nI na0)), (2, .int 0), (0, .ref a0), (1, .int v1)]) hx hb dJ7_fill_53178_4 rfl hl (by decide) rfl (fun ls hl => ?_)
  refine w_ind (I := fun n f H locs ls => OKT G cs tt mm f ∧ va_P (dC, dI) vwCl (va_pl (gL G) f) H ∧ va_S (AT G s.heap.size) s.heap H locs ∧ ∃ (w2_1 : Int32), n = (2147483647 - w2_1.toInt).toNat ∧ 0 ≤ w2_1 ∧ lv_has ls 4 [(0, .ref a0), (1, .int v1), (2, .int w2_1), (3, .int (nI na0))]) (fun n f1 H locs ls hI ih1 => ?_) _ f0 _ _ _ ⟨hok, hP, hS, 0, rfl, (by first | omega | (simp only [i_lt, i_le, i_eq, ti_m9, ti_m1, ti_0, ti_1, ti_2, ti_3, ti_4, ti_5, ti_6, ti_7, ti_9, ti_12, ti_20, ti_99, ti_700, ti_24, ti_72, ti_8, ti_128]; omega)), lv_sub hl [2, 3, 1, 0] rfl⟩
  obtain ⟨hok, hP, hS, w2_1, hmu1, hlo1, hl⟩ := hI
  subst hmu1
  refine lv_iload_n hx hb dJ7_fill_53178_5 rfl (lv_at hl 2 rfl) ?_
  refine lv_iload_n hx hb dJ7_fill_53178_6 rfl (lv_at hl 3 rfl) ?_
  have nt2 : (nI na0).toInt = ((na0 : Nat) : Int) := nI_toInt (by omega)
  refine lv_icmp_ge (tgt := 20) hx hb dJ7_fill_53178_7 (by decide) (fun c3 => ?_) (fun c3 => ?_)
  · exact W.vret hx hb hr (fun t ht hW => ⟨⟨f1, rfl, trivial, hok, by rw [ht]; exact hP⟩, hS.F ht⟩) hS.2.2 dJ7_fill_53178_20
  · refine lv_aload_n hx hb dJ7_fill_53178_10 rfl (lv_at hl 0 rfl) ?_
    refine lv_iload_n hx hb dJ7_fill_53178_11 rfl (lv_at hl 2 rfl) ?_
    refine lv_iload_n hx hb dJ7_fill_53178_12 rfl (lv_at hl 1 rfl) ?_
    refine th_iast hx hb hK hP hok hnd hAL hS ha0 (n := na0) hna0 (vp_in_iff.mpr (by first | omega | (simp only [i_lt, i_le, i_eq, ti_m9, ti_m1, ti_0, ti_1, ti_2, ti_3, ti_4, ti_5, ti_6, ti_7, ti_9, ti_12, ti_20, ti_99, ti_700, ti_24, ti_72, ti_8, ti_128, nt2] at hlo1 c3 ⊢; omega))) dJ7_fill_53178_13 (fun f4 H locs hfo4 hok hP hS => ?_)
    obtain ⟨z5, ez5⟩ : ∃ z : Int32, z = w2_1 + 1 := ⟨_, rfl⟩
    refine lv_iinc (v := z5) (lv' := [(2, .int z5), (0, .ref a0), (1, .int v1), (3, .int (nI na0))]) hx hb dJ7_fill_53178_14 hl (k := 2) rfl (by rw [ez5]; rfl) (by decide) rfl (fun ls hl => ?_)
    have ic5 : z5.toInt = w2_1.toInt + 1 := by rw [ez5]; exact ic_up (by have := i_rng w2_1; have := i_rng (nI na0); simp only [i_lt, i_le, i_eq, ti_m9, ti_m1, ti_0, ti_1, ti_2, ti_3, ti_4, ti_5, ti_6, ti_7, ti_9, ti_12, ti_20, ti_99, ti_700, ti_24, ti_72, ti_8, ti_128, nt2] at hlo1 c3 ⊢; omega)
    refine lv_goto (tgt := 5) hx hb dJ7_fill_53178_17 (by decide) ?_
    exact ih1 _ f4 _ _ _ (by first | omega | (simp only [i_lt, i_le, i_eq, ti_m9, ti_m1, ti_0, ti_1, ti_2, ti_3, ti_4, ti_5, ti_6, ti_7, ti_9, ti_12, ti_20, ti_99, ti_700, ti_24, ti_72, ti_8, ti_128, nt2, ic5] at hlo1 c3 ic5 ⊢; omega)) ⟨hok, hP, hS, z5, rfl, (by first | omega | (simp only [i_lt, i_le, i_eq, ti_m9, ti_m1, ti_0, ti_1, ti_2, ti_3, ti_4, ti_5, ti_6, ti_7, ti_9, ti_12, ti_20, ti_99, ti_700, ti_24, ti_72, ti_8, ti_128, nt2, ic5] at hlo1 c3 ⊢; omega)), lv_sub hl [1, 2, 0, 3] rfl⟩

set_option maxHeartbeats 4000000 in
set_option maxRecDepth 100000 in
theorem t_X10_sameAs (l : Launch) (dC : Nat → ClassId) (dI : Nat → Nat → Nat) (sz : Nat) (G : GT) (cs : Nat → ClassId) (tt mm : Nat) (a0 : Nat) (ha0 : Ty G a0 10) (a1 : Nat) (ha1 : Ty G a1 10) : Met l yX10_sameAs [.code yX10_sameAs cX10_sameAs 3 (some .boolean)] ({ frames := 2, cells := 0, slots := 0, locals := 80 }) (PT [.ref a0, .ref a1] sz dC dI G cs tt mm) (vp_Si (fun (r : Int32) => r = 0 ∨ r = 1)) 0 0 (fun _ => False) := by
  refine Met.ofW (cc := cX10_sameAs) (maxL := 3) (ret := (some .boolean)) (by decide) rfl ?_
  intro p e s m args below meth c s₁ B hml hv
  obtain ⟨rfl, hsz, ⟨f0, hok, hP⟩, hK, hnd, hWT, hE⟩ := hv
  have hx := B.exec
  have hb := B.bytes
  have hr := B.returns
  have hown : s.vm.findClass RX10 = some m.cls := findClass_of_methodNamed B.named
  have hlocks := B.notSynchronized
  subst hsz
  have hl := lv_entry ([.ref a0, .ref a1]) (n := 3) (Nat.le_of_ble_eq_true rfl)
  rw [lg_entry_eq]
  generalize (lg_sl ([.ref a0, .ref a1]) ++ List.replicate (3 - (lg_sl ([.ref a0, .ref a1])).length) Slot.unset).toArray = ls at hl ⊢
  have hl : lv_has ls 3 [(0, .ref a0), (1, .ref a1)] := hl
  refine lv_aload_n hx hb dX10_sameAs_0 rfl (lv_at hl 0 rfl) ?_
  refine lv_aload_n hx hb dX10_sameAs_1 rfl (lv_at hl 1 rfl) ?_
  obtain ⟨y2_1, y3_1, hy3_1, he1⟩ := ok_X10 hok ha0
  refine vp_callSi (va_Run.run (va_runV (As := [.ref a1]) (rest := []) ⟨hx, hb, hml, hown, noTs⟩ (t_X10_sameSteps l dC dI s.heap.size G cs tt mm a0 ha0 a1 ha1) ⟨cbE 1 (wd_881 hE) (wd_120 hE) (wd_878 hE) rfl rfl (by decide +kernel) ⟨Nat.le_of_ble_eq_true rfl, Nat.le_of_ble_eq_true rfl⟩, (wd_879 hE), (wd_880 hE)⟩ ⟨PT.blind, th_recv hK hP ha0.1 he1 rfl, (th_pre (av := [.ref a0, .ref a1]) hK hP hok hnd hWT hE)⟩ rfl rfl hl.1 rfl (lv_room (Nat.le_of_ble_eq_true rfl)) dX10_sameAs_2 ⟨Nat.le_of_ble_eq_true rfl, Nat.le_of_ble_eq_true rfl⟩)) (fun r2 hr2 => ?_)
  refine lv_if_ne (tgt := 10) hx hb dX10_sameAs_5 (by decide) (fun c3 => ?_) (fun c3 => ?_)
  · refine lv_iconst (v := 0) hx hb dX10_sameAs_10 (by decide) ?_
    refine lv_istore_n (lv' := [(2, .int 0), (0, .ref a0), (1, .ref a1)]) hx hb dX10_sameAs_11 rfl hl (by decide) rfl (fun ls hl => ?_)
    refine w_indP (I := fun n ls => ∃ (w2_4 : Int32), n = (2147483647 - w2_4.toInt).toNat ∧ 0 ≤ w2_4 ∧ lv_has ls 3 [(0, .ref a0), (1, .ref a1), (2, .int w2_4)]) (fun n ls hI ih4 => ?_) _ _ ⟨0, rfl, (by first | omega | (simp only [i_lt, i_le, i_eq, ti_m9, ti_m1, ti_0, ti_1, ti_2, ti_3, ti_4, ti_5, ti_6, ti_7, ti_9, ti_12, ti_20, ti_99, ti_700, ti_24, ti_72, ti_8, ti_128, ti_97, ti_122, ti_48, ti_57, ti_59, ti_60, ti_61, ti_62, ti_10, ti_33, ti_51, ti_32, ti_119] at c3 ⊢; omega)), lv_sub hl [1, 2, 0] rfl⟩
    obtain ⟨w2_4, hmu4, hlo4, hl⟩ := hI
    subst hmu4
    refine lv_iload_n hx hb dX10_sameAs_12 rfl (lv_at hl 2 rfl) ?_
    refine lv_aload_n hx hb dX10_sameAs_13 rfl (lv_at hl 0 rfl) ?_
    refine th_get hx hb (ly_X10 hE) hown hK hP ha0.1 he1 rfl 3 (by decide) (wd_217 hE) (fun _ h9 => h9) rfl dX10_sameAs_14 ?_
    have nt5 : (nI y3_1).toInt = ((y3_1 : Nat) : Int) := nI_toInt (by omega)
    refine lv_icmp_gt (tgt := 41) hx hb dX10_sameAs_17 (by decide) (fun c6 => ?_) (fun c6 => ?_)
    · refine lv_iconst (v := 1) hx hb dX10_sameAs_41 (by decide) ?_
      exact W.zret (v := 1) hx hb hr rfl (fun t ht hW => ⟨1, rfl, Or.inr rfl, ht⟩) (fun _ h => absurd h List.not_mem_nil) dX10_sameAs_42
    · refine lv_aload_n hx hb dX10_sameAs_20 rfl (lv_at hl 0 rfl) ?_
      refine lv_iload_n hx hb dX10_sameAs_21 rfl (lv_at hl 2 rfl) ?_
      refine vp_callSi (va_Run.run (va_runV (As := [.int w2_4]) (rest := []) ⟨hx, hb, hml, hown, noTs⟩ (t_X10_numberAt l dC dI s.heap.size G cs tt mm a0 ha0 w2_4) ⟨cbE 1 (wd_717 hE) (wd_120 hE) (wd_883 hE) rfl rfl (by decide +kernel) ⟨Nat.le_of_ble_eq_true rfl, Nat.le_of_ble_eq_true rfl⟩, (wd_715 hE), (wd_716 hE)⟩ ⟨PT.blind, th_recv hK hP ha0.1 he1 rfl, (th_pre (av := [.ref a0, .int w2_4]) hK hP hok hnd hWT hE)⟩ rfl rfl hl.1 rfl (lv_room (Nat.le_of_ble_eq_true rfl)) dX10_sameAs_22 ⟨Nat.le_of_ble_eq_true rfl, Nat.le_of_ble_eq_true rfl⟩)) (fun r7 hr7 => ?_)
      refine lv_aload_n hx hb dX10_sameAs_25 rfl (lv_at hl 1 rfl) ?_
      refine lv_iload_n hx hb dX10_sameAs_26 rfl (lv_at hl 2 rfl) ?_
      obtain ⟨y2_8, y3_8, hy3_8, he8⟩ := ok_X10 hok ha1
      refine vp_callSi (va_Run.run (va_runV (As := [.int w2_4]) (rest := [.int r7]) ⟨hx, hb, hml, hown, noTs⟩ (t_X10_numberAt l dC dI s.heap.size G cs tt mm a1 ha1 w2_4) ⟨cbE 1 (wd_717 hE) (wd_120 hE) (wd_883 hE) rfl rfl (by decide +kernel) ⟨Nat.le_of_ble_eq_true rfl, Nat.le_of_ble_eq_true rfl⟩, (wd_715 hE), (wd_716 hE)⟩ ⟨PT.blind, th_recv hK hP ha1.1 he8 rfl, (th_pre (av := [.ref a1, .int w2_4]) hK hP hok hnd hWT hE)⟩ rfl rfl hl.1 rfl (lv_room (Nat.le_of_ble_eq_true rfl)) dX10_sameAs_27 ⟨Nat.le_of_ble_eq_true rfl, Nat.le_of_ble_eq_true rfl⟩)) (fun r9 hr9 => ?_)
      refine lv_icmp_eq (tgt := 35) hx hb dX10_sameAs_30 (by decide) (fun c10 => ?_) (fun c10 => ?_)
      · obtain ⟨z11, ez11⟩ : ∃ z : Int32, z = w2_4 + 1 := ⟨_, rfl⟩
        refine lv_iinc (v := z11) (lv' := [(2, .int z11), (0, .ref a0), (1, .ref a1)]) hx hb dX10_sameAs_35 hl (k := 2) rfl (by rw [ez11]; rfl) (by decide) rfl (fun ls hl => ?_)
        have ic11 : z11.toInt = w2_4.toInt + 1 := by rw [ez11]; exact ic_up (by have := i_rng r2; have := i_rng w2_4; have := i_rng (nI y3_1); have := i_rng r7; have := i_rng r9; simp only [i_lt, i_le, i_eq, ti_m9, ti_m1, ti_0, ti_1, ti_2, ti_3, ti_4, ti_5, ti_6, ti_7, ti_9, ti_12, ti_20, ti_99, ti_700, ti_24, ti_72, ti_8, ti_128, ti_97, ti_122, ti_48, ti_57, ti_59, ti_60, ti_61, ti_62, ti_10, ti_33, ti_51, ti_32, ti_119, nt5] at c3 hlo4 c6 c10 ⊢; omega)
        refine lv_goto (tgt := 12) hx hb dX10_sameAs_38 (by decide) ?_
        exact ih4 _ _ (by first | omega | (simp only [i_lt, i_le, i_eq, ti_m9, ti_m1, ti_0, ti_1, ti_2, ti_3, ti_4, ti_5, ti_6, ti_7, ti_9, ti_12, ti_20, ti_99, ti_700, ti_24, ti_72, ti_8, ti_128, ti_97, ti_122, ti_48, ti_57, ti_59, ti_60, ti_61, ti_62, ti_10, ti_33, ti_51, ti_32, ti_119, nt5, ic11] at c3 hlo4 c6 c10 ic11 ⊢; omega)) ⟨z11, rfl, (by first | omega | (simp only [i_lt, i_le, i_eq, ti_m9, ti_m1, ti_0, ti_1, ti_2, ti_3, ti_4, ti_5, ti_6, ti_7, ti_9, ti_12, ti_20, ti_99, ti_700, ti_24, ti_72, ti_8, ti_128, ti_97, ti_122, ti_48, ti_57, ti_59, ti_60, ti_61, ti_62, ti_10, ti_33, ti_51, ti_32, ti_119, nt5, ic11] at c3 hlo4 c6 c10 ⊢; omega)), lv_sub hl [1, 2, 0] rfl⟩
      · refine lv_iconst (v := 0) hx hb dX10_sameAs_33 (by decide) ?_
        exact W.zret (v := 0) hx hb hr rfl (fun t ht hW => ⟨0, rfl, Or.inl rfl, ht⟩) (fun _ h => absurd h List.not_mem_nil) dX10_sameAs_34
  · refine lv_iconst (v := 0) hx hb dX10_sameAs_8 (by decide) ?_
    exact W.zret (v := 0) hx hb hr rfl (fun t ht hW => ⟨0, rfl, Or.inl rfl, ht⟩) (fun _ h => absurd h List.not_mem_nil) dX10_sameAs_9
