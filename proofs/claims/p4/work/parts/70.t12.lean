set_option maxHeartbeats 4000000 in
set_option maxRecDepth 100000 in
theorem t_X11_readWay (l : Launch) (dC : Nat → ClassId) (dI : Nat → Nat → Nat) (sz : Nat) (G : GT) (cs : Nat → ClassId) (tt mm : Nat) (a0 : Nat) (ha0 : Ty G a0 11) (v1 : Int32) (v2 : Int32) : Met l yX11_readWay [.code yX11_readWay cX11_readWay 3 (some .int)] ({ frames := 5, cells := 0, slots := 0, locals := 200 }) (PT [.ref a0, .int v1, .int v2] sz dC dI G cs tt mm (fun _ => True)) (va_Qi (fun (r : Int32) (u : Nat → va_E) => True) (BT dC dI G cs tt mm) (AT G sz)) 0 0 (AT G sz) := by
  refine Met.ofW (cc := cX11_readWay) (maxL := 3) (ret := (some .int)) (by decide) rfl ?_
  intro p e s m args below meth c s₁ B hml hv
  obtain ⟨rfl, hsz, ⟨f0, hok, hP, hX⟩, hK, hnd, hWT, hE⟩ := hv
  have hx := B.exec
  have hb := B.bytes
  have hr := B.returns
  have hown : s.vm.findClass RX11 = some m.cls := findClass_of_methodNamed B.named
  have hlocks := B.notSynchronized
  subst hsz
  have hAL : ∀ a, a ∈ gL G → AT G s.heap.size a := fun a h => Or.inl h
  have hA : ∀ q : Nat, s.heap.size ≤ q → AT G s.heap.size q := fun q h => Or.inr h
  have hS : va_S (AT G s.heap.size) s.heap s.heap [] := va_S.rf
  have hl := lv_entry ([.ref a0, .int v1, .int v2]) (n := 3) (Nat.le_of_ble_eq_true rfl)
  rw [lg_entry_eq]
  generalize (lg_sl ([.ref a0, .int v1, .int v2]) ++ List.replicate (3 - (lg_sl ([.ref a0, .int v1, .int v2])).length) Slot.unset).toArray = ls at hl ⊢
  have hl : lv_has ls 3 [(0, .ref a0), (1, .int v1), (2, .int v2)] := hl
  refine lv_aload_n hx hb dX11_readWay_0 rfl (lv_at hl 0 rfl) ?_
  refine lv_iload_n hx hb dX11_readWay_1 rfl (lv_at hl 1 rfl) ?_
  refine lv_iload_n hx hb dX11_readWay_2 rfl (lv_at hl 2 rfl) ?_
  obtain ⟨y5_1, hy4_1, hy7_1, he1⟩ := ok_X11 hok ha0
  refine tc_i hAL hS hA (va_runV (As := [.int v1, .int v2]) (rest := []) ⟨hx, hb, hml, hown, noTs⟩ (t_X11_readTwo l dC dI s.heap.size G cs tt mm a0 ha0 v1 v2) ⟨cbE 2 (wd_919 hE) (wd_115 hE) (wd_916 hE) rfl rfl (by decide +kernel) ⟨Nat.le_of_ble_eq_true rfl, Nat.le_of_ble_eq_true rfl⟩, (wd_918 hE), (wd_29 hE)⟩ ⟨PT.blind, th_recv hK hP ha0.1 he1 rfl, (th_pre (av := [.ref a0, .int v1, .int v2]) trivial hK hP hok hnd hWT hE)⟩ rfl rfl hl.1 rfl (lv_room (Nat.le_of_ble_eq_true rfl)) dX11_readWay_3 ⟨Nat.le_of_ble_eq_true rfl, Nat.le_of_ble_eq_true rfl⟩) (fun r2 f2 H locs hr2 hok hP hS => ?_)
  refine lv_if_ne (tgt := 11) hx hb dX11_readWay_6 (by decide) (fun c3 => ?_) (fun c3 => ?_)
  · refine lv_aload_n hx hb dX11_readWay_11 rfl (lv_at hl 0 rfl) ?_
    obtain ⟨y5_4, hy4_4, hy7_4, he4⟩ := ok_X11 hok ha0
    refine th_get hx hb (ly_X11 hE) hown hK hP ha0.1 he4 rfl 10 (by decide) (wd_369 hE) (fun _ h9 => h9) rfl dX11_readWay_12 ?_
    obtain ⟨y2_5, y3_5, hy3_5, he5⟩ := ok_X10 hok (wt_X11_10 hWT ha0)
    refine vp_callSi (va_Run.run (va_runV (As := []) (rest := []) ⟨hx, hb, hml, hown, noTs⟩ (t_X10_begin l dC dI H.size G cs tt mm (gR G a0 10) ((wt_X11_10 hWT ha0))) ⟨cbE 0 (wd_713 hE) (wd_120 hE) (wd_824 hE) rfl rfl (by decide +kernel) ⟨Nat.le_of_ble_eq_true rfl, Nat.le_of_ble_eq_true rfl⟩, (wd_711 hE), (wd_712 hE)⟩ ⟨PT.blind, th_recv hK hP (wt_X11_10 hWT ha0).1 he5 rfl, (th_pre (av := [.ref (gR G a0 10)]) trivial hK hP hok hnd hWT hE)⟩ rfl rfl hl.1 rfl (lv_room (Nat.le_of_ble_eq_true rfl)) dX11_readWay_15 ⟨Nat.le_of_ble_eq_true rfl, Nat.le_of_ble_eq_true rfl⟩)) (fun r6 hr6 => ?_)
    refine lv_aload_n hx hb dX11_readWay_18 rfl (lv_at hl 0 rfl) ?_
    refine th_get hx hb (ly_X11 hE) hown hK hP ha0.1 he4 rfl 11 (by decide) (wd_370 hE) (fun _ h9 => h9) rfl dX11_readWay_19 ?_
    obtain ⟨y2_7, y3_7, hy3_7, he7⟩ := ok_X10 hok (wt_X11_11 hWT ha0)
    refine vp_callSi (va_Run.run (va_runV (As := []) (rest := [.int r6]) ⟨hx, hb, hml, hown, noTs⟩ (t_X10_begin l dC dI H.size G cs tt mm (gR G a0 11) ((wt_X11_11 hWT ha0))) ⟨cbE 0 (wd_713 hE) (wd_120 hE) (wd_824 hE) rfl rfl (by decide +kernel) ⟨Nat.le_of_ble_eq_true rfl, Nat.le_of_ble_eq_true rfl⟩, (wd_711 hE), (wd_712 hE)⟩ ⟨PT.blind, th_recv hK hP (wt_X11_11 hWT ha0).1 he7 rfl, (th_pre (av := [.ref (gR G a0 11)]) trivial hK hP hok hnd hWT hE)⟩ rfl rfl hl.1 rfl (lv_room (Nat.le_of_ble_eq_true rfl)) dX11_readWay_22 ⟨Nat.le_of_ble_eq_true rfl, Nat.le_of_ble_eq_true rfl⟩)) (fun r8 hr8 => ?_)
    refine lv_icmp_eq (tgt := 30) hx hb dX11_readWay_25 (by decide) (fun c9 => ?_) (fun c9 => ?_)
    · refine lv_aload_n hx hb dX11_readWay_30 rfl (lv_at hl 0 rfl) ?_
      refine th_get hx hb (ly_X11 hE) hown hK hP ha0.1 he4 rfl 0 (by decide) (wd_359 hE) (fun _ h9 => h9) rfl dX11_readWay_31 ?_
      refine lv_aload_n hx hb dX11_readWay_34 rfl (lv_at hl 0 rfl) ?_
      refine th_get hx hb (ly_X11 hE) hown hK hP ha0.1 he4 rfl 10 (by decide) (wd_369 hE) (fun _ h9 => h9) rfl dX11_readWay_35 ?_
      refine lv_aload_n hx hb dX11_readWay_38 rfl (lv_at hl 0 rfl) ?_
      refine th_get hx hb (ly_X11 hE) hown hK hP ha0.1 he4 rfl 12 (by decide) (wd_371 hE) (fun _ h9 => h9) rfl dX11_readWay_39 ?_
      refine tc_v hAL hS hA (va_runS (As := [.ref (gR G a0 0), .ref (gR G a0 10), .ref (gR G a0 12)]) (rest := []) ⟨hx, hb, hml, hown, noTs⟩ (t_X2_turn l dC dI H.size G cs tt mm (gR G a0 0) ((wt_X11_0 hWT ha0)) (gR G a0 10) ((wt_X11_10 hWT ha0)) (gR G a0 12) ((wt_X11_12 hWT ha0))) ⟨cbE 3 (wd_929 hE) (wd_134 hE) (wd_927 hE) rfl rfl (by decide +kernel) ⟨Nat.le_of_ble_eq_true rfl, Nat.le_of_ble_eq_true rfl⟩, (wd_928 hE)⟩ ⟨PT.blind, (th_pre (av := [.ref (gR G a0 0), .ref (gR G a0 10), .ref (gR G a0 12)]) trivial hK hP hok hnd hWT hE)⟩ rfl rfl hl.1 rfl (lv_room (Nat.le_of_ble_eq_true rfl)) dX11_readWay_42 ⟨Nat.le_of_ble_eq_true rfl, Nat.le_of_ble_eq_true rfl⟩) (fun f10 H locs hr10 hok hP hS => ?_)
      refine lv_aload_n hx hb dX11_readWay_45 rfl (lv_at hl 0 rfl) ?_
      obtain ⟨y5_11, hy4_11, hy7_11, he11⟩ := ok_X11 hok ha0
      refine th_get hx hb (ly_X11 hE) hown hK hP ha0.1 he11 rfl 0 (by decide) (wd_359 hE) (fun _ h9 => h9) rfl dX11_readWay_46 ?_
      refine lv_aload_n hx hb dX11_readWay_49 rfl (lv_at hl 0 rfl) ?_
      refine th_get hx hb (ly_X11 hE) hown hK hP ha0.1 he11 rfl 12 (by decide) (wd_371 hE) (fun _ h9 => h9) rfl dX11_readWay_50 ?_
      refine lv_aload_n hx hb dX11_readWay_53 rfl (lv_at hl 0 rfl) ?_
      refine th_get hx hb (ly_X11 hE) hown hK hP ha0.1 he11 rfl 11 (by decide) (wd_370 hE) (fun _ h9 => h9) rfl dX11_readWay_54 ?_
      refine tc_i hAL hS hA (va_runS (As := [.ref (gR G a0 0), .ref (gR G a0 12), .ref (gR G a0 11)]) (rest := []) ⟨hx, hb, hml, hown, noTs⟩ (t_X2_append l dC dI H.size G cs tt mm (gR G a0 0) ((wt_X11_0 hWT ha0)) (gR G a0 12) ((wt_X11_12 hWT ha0)) (gR G a0 11) ((wt_X11_11 hWT ha0))) ⟨cbE 3 (wd_842 hE) (wd_134 hE) (wd_954 hE) rfl rfl (by decide +kernel) ⟨Nat.le_of_ble_eq_true rfl, Nat.le_of_ble_eq_true rfl⟩, (wd_841 hE)⟩ ⟨PT.blind, (th_pre (av := [.ref (gR G a0 0), .ref (gR G a0 12), .ref (gR G a0 11)]) trivial hK hP hok hnd hWT hE)⟩ rfl rfl hl.1 rfl (lv_room (Nat.le_of_ble_eq_true rfl)) dX11_readWay_57 ⟨Nat.le_of_ble_eq_true rfl, Nat.le_of_ble_eq_true rfl⟩) (fun r12 f12 H locs hr12 hok hP hS => ?_)
      refine lv_pop hx hb dX11_readWay_60 rfl ?_
      refine lv_iconst (v := 0) hx hb dX11_readWay_61 (by decide) ?_
      exact W.iret (v := 0) hx hb hr (fun t ht hW => ⟨⟨0, f12, rfl, trivial, hok, by rw [ht]; exact hP⟩, hS.F ht⟩) hS.2.2 dX11_readWay_62
    · refine lv_iconst (v := 4) hx hb dX11_readWay_28 (by decide) ?_
      exact W.iret (v := 4) hx hb hr (fun t ht hW => ⟨⟨4, f2, rfl, trivial, hok, by rw [ht]; exact hP⟩, hS.F ht⟩) hS.2.2 dX11_readWay_29
  · refine lv_iconst (v := 2) hx hb dX11_readWay_9 (by decide) ?_
    exact W.iret (v := 2) hx hb hr (fun t ht hW => ⟨⟨2, f2, rfl, trivial, hok, by rw [ht]; exact hP⟩, hS.F ht⟩) hS.2.2 dX11_readWay_10

set_option maxHeartbeats 4000000 in
set_option maxRecDepth 100000 in
theorem t_X11_apart (l : Launch) (dC : Nat → ClassId) (dI : Nat → Nat → Nat) (sz : Nat) (G : GT) (cs : Nat → ClassId) (tt mm : Nat) (a0 : Nat) (ha0 : Ty G a0 11) (v1 : Int32) (v2 : Int32) : Met l yX11_apart [.code yX11_apart cX11_apart 4 (some .int)] ({ frames := 6, cells := 0, slots := 0, locals := 240 }) (PT [.ref a0, .int v1, .int v2] sz dC dI G cs tt mm (fun _ => True)) (va_Qi (fun (r : Int32) (u : Nat → va_E) => True) (BT dC dI G cs tt mm) (AT G sz)) 0 0 (AT G sz) := by
  refine Met.ofW (cc := cX11_apart) (maxL := 4) (ret := (some .int)) (by decide) rfl ?_
  intro p e s m args below meth c s₁ B hml hv
  obtain ⟨rfl, hsz, ⟨f0, hok, hP, hX⟩, hK, hnd, hWT, hE⟩ := hv
  have hx := B.exec
  have hb := B.bytes
  have hr := B.returns
  have hown : s.vm.findClass RX11 = some m.cls := findClass_of_methodNamed B.named
  have hlocks := B.notSynchronized
  subst hsz
  have hAL : ∀ a, a ∈ gL G → AT G s.heap.size a := fun a h => Or.inl h
  have hA : ∀ q : Nat, s.heap.size ≤ q → AT G s.heap.size q := fun q h => Or.inr h
  have hS : va_S (AT G s.heap.size) s.heap s.heap [] := va_S.rf
  have hl := lv_entry ([.ref a0, .int v1, .int v2]) (n := 4) (Nat.le_of_ble_eq_true rfl)
  rw [lg_entry_eq]
  generalize (lg_sl ([.ref a0, .int v1, .int v2]) ++ List.replicate (4 - (lg_sl ([.ref a0, .int v1, .int v2])).length) Slot.unset).toArray = ls at hl ⊢
  have hl : lv_has ls 4 [(0, .ref a0), (1, .int v1), (2, .int v2)] := hl
  refine lv_aload_n hx hb dX11_apart_0 rfl (lv_at hl 0 rfl) ?_
  refine lv_iload_n hx hb dX11_apart_1 rfl (lv_at hl 1 rfl) ?_
  refine lv_iload_n hx hb dX11_apart_2 rfl (lv_at hl 2 rfl) ?_
  obtain ⟨y5_1, hy4_1, hy7_1, he1⟩ := ok_X11 hok ha0
  refine tc_i hAL hS hA (va_runV (As := [.int v1, .int v2]) (rest := []) ⟨hx, hb, hml, hown, noTs⟩ (t_X11_readWay l dC dI s.heap.size G cs tt mm a0 ha0 v1 v2) ⟨cbE 2 (wd_1254 hE) (wd_115 hE) (wd_1251 hE) rfl rfl (by decide +kernel) ⟨Nat.le_of_ble_eq_true rfl, Nat.le_of_ble_eq_true rfl⟩, (wd_1253 hE), (wd_48 hE)⟩ ⟨PT.blind, th_recv hK hP ha0.1 he1 rfl, (th_pre (av := [.ref a0, .int v1, .int v2]) trivial hK hP hok hnd hWT hE)⟩ rfl rfl hl.1 rfl (lv_room (Nat.le_of_ble_eq_true rfl)) dX11_apart_3 ⟨Nat.le_of_ble_eq_true rfl, Nat.le_of_ble_eq_true rfl⟩) (fun r2 f2 H locs hr2 hok hP hS => ?_)
  refine lv_istore_n (lv' := [(3, .int r2), (0, .ref a0), (1, .int v1), (2, .int v2)]) hx hb dX11_apart_6 rfl hl (by decide) rfl (fun ls hl => ?_)
  refine lv_iload_n hx hb dX11_apart_7 rfl (lv_at hl 0 rfl) ?_
  refine lv_if_eq (tgt := 19) hx hb dX11_apart_8 (by decide) (fun c3 => ?_) (fun c3 => ?_)
  · refine lv_aload_n hx hb dX11_apart_19 rfl (lv_at hl 1 rfl) ?_
    refine lv_aload_n hx hb dX11_apart_20 rfl (lv_at hl 1 rfl) ?_
    obtain ⟨y5_4, hy4_4, hy7_4, he4⟩ := ok_X11 hok ha0
    refine th_get hx hb (ly_X11 hE) hown hK hP ha0.1 he4 rfl 12 (by decide) (wd_371 hE) (fun _ h9 => h9) rfl dX11_apart_21 ?_
    obtain ⟨y2_5, y3_5, hy3_5, he5⟩ := ok_X10 hok (wt_X11_12 hWT ha0)
    refine vp_callSi (va_Run.run (va_runV (As := []) (rest := [.ref a0]) ⟨hx, hb, hml, hown, noTs⟩ (t_X10_size l dC dI H.size G cs tt mm (gR G a0 12) ((wt_X11_12 hWT ha0)) y2_5 y3_5) ⟨cbE 0 (wd_666 hE) (wd_120 hE) (wd_834 hE) rfl rfl (by decide +kernel) ⟨Nat.le_of_ble_eq_true rfl, Nat.le_of_ble_eq_true rfl⟩, (wd_664 hE), (wd_665 hE)⟩ ⟨PT.blind, th_recv hK hP (wt_X11_12 hWT ha0).1 he5 rfl, (th_pre (av := [.ref (gR G a0 12)]) he5 hK hP hok hnd hWT hE)⟩ rfl rfl hl.1 rfl (lv_room (Nat.le_of_ble_eq_true rfl)) dX11_apart_24 ⟨Nat.le_of_ble_eq_true rfl, Nat.le_of_ble_eq_true rfl⟩)) (fun r6 hr6 => ?_)
    subst hr6
    refine tc_i hAL hS hA (va_runV (As := [.int (nI y3_5)]) (rest := []) ⟨hx, hb, hml, hown, noTs⟩ (t_X11_answer l dC dI H.size G cs tt mm a0 ha0 (nI y3_5)) ⟨cbE 1 (wd_748 hE) (wd_115 hE) (wd_745 hE) rfl rfl (by decide +kernel) ⟨Nat.le_of_ble_eq_true rfl, Nat.le_of_ble_eq_true rfl⟩, (wd_747 hE), (wd_23 hE)⟩ ⟨PT.blind, th_recv hK hP ha0.1 he4 rfl, (th_pre (av := [.ref a0, .int (nI y3_5)]) trivial hK hP hok hnd hWT hE)⟩ rfl rfl hl.1 rfl (lv_room (Nat.le_of_ble_eq_true rfl)) dX11_apart_27 ⟨Nat.le_of_ble_eq_true rfl, Nat.le_of_ble_eq_true rfl⟩) (fun r7 f7 H locs hr7 hok hP hS => ?_)
    subst hr7
    exact W.iret (v := nI y3_5) hx hb hr (fun t ht hW => ⟨⟨nI y3_5, f7, rfl, trivial, hok, by rw [ht]; exact hP⟩, hS.F ht⟩) hS.2.2 dX11_apart_30
  · refine lv_aload_n hx hb dX11_apart_11 rfl (lv_at hl 1 rfl) ?_
    refine lv_iload_n hx hb dX11_apart_12 rfl (lv_at hl 0 rfl) ?_
    obtain ⟨y5_8, hy4_8, hy7_8, he8⟩ := ok_X11 hok ha0
    refine tc_i hAL hS hA (va_runV (As := [.int r2]) (rest := []) ⟨hx, hb, hml, hown, noTs⟩ (t_X11_fail l dC dI H.size G cs tt mm a0 ha0 r2) ⟨cbE 1 (wd_436 hE) (wd_115 hE) (wd_433 hE) rfl rfl (by decide +kernel) ⟨Nat.le_of_ble_eq_true rfl, Nat.le_of_ble_eq_true rfl⟩, (wd_435 hE), (wd_1 hE)⟩ ⟨PT.blind, th_recv hK hP ha0.1 he8 rfl, (th_pre (av := [.ref a0, .int r2]) trivial hK hP hok hnd hWT hE)⟩ rfl rfl hl.1 rfl (lv_room (Nat.le_of_ble_eq_true rfl)) dX11_apart_13 ⟨Nat.le_of_ble_eq_true rfl, Nat.le_of_ble_eq_true rfl⟩) (fun r9 f9 H locs hr9 hok hP hS => ?_)
    subst hr9
    refine lv_goto (tgt := 30) hx hb dX11_apart_16 (by decide) ?_
    exact W.iret (v := -1) hx hb hr (fun t ht hW => ⟨⟨-1, f9, rfl, trivial, hok, by rw [ht]; exact hP⟩, hS.F ht⟩) hS.2.2 dX11_apart_30

set_option maxHeartbeats 4000000 in
set_option maxRecDepth 100000 in
theorem t_X11_moves (l : Launch) (dC : Nat → ClassId) (dI : Nat → Nat → Nat) (sz : Nat) (G : GT) (cs : Nat → ClassId) (tt mm : Nat) (a0 : Nat) (ha0 : Ty G a0 11) (v1 : Int32) (v2 : Int32) : Met l yX11_moves [.code yX11_moves cX11_moves 3 (some .int)] ({ frames := 5, cells := 0, slots := 0, locals := 200 }) (PT [.ref a0, .int v1, .int v2] sz dC dI G cs tt mm (fun _ => True)) (va_Qi (fun (r : Int32) (u : Nat → va_E) => True) (BT dC dI G cs tt mm) (AT G sz)) 0 0 (AT G sz) := by
  refine Met.ofW (cc := cX11_moves) (maxL := 3) (ret := (some .int)) (by decide) rfl ?_
  intro p e s m args below meth c s₁ B hml hv
  obtain ⟨rfl, hsz, ⟨f0, hok, hP, hX⟩, hK, hnd, hWT, hE⟩ := hv
  have hx := B.exec
  have hb := B.bytes
  have hr := B.returns
  have hown : s.vm.findClass RX11 = some m.cls := findClass_of_methodNamed B.named
  have hlocks := B.notSynchronized
  subst hsz
  have hAL : ∀ a, a ∈ gL G → AT G s.heap.size a := fun a h => Or.inl h
  have hA : ∀ q : Nat, s.heap.size ≤ q → AT G s.heap.size q := fun q h => Or.inr h
  have hS : va_S (AT G s.heap.size) s.heap s.heap [] := va_S.rf
  have hl := lv_entry ([.ref a0, .int v1, .int v2]) (n := 3) (Nat.le_of_ble_eq_true rfl)
  rw [lg_entry_eq]
  generalize (lg_sl ([.ref a0, .int v1, .int v2]) ++ List.replicate (3 - (lg_sl ([.ref a0, .int v1, .int v2])).length) Slot.unset).toArray = ls at hl ⊢
  have hl : lv_has ls 3 [(0, .ref a0), (1, .int v1), (2, .int v2)] := hl
  refine lv_aload_n hx hb dX11_moves_0 rfl (lv_at hl 0 rfl) ?_
  refine lv_iload_n hx hb dX11_moves_1 rfl (lv_at hl 1 rfl) ?_
  refine lv_iload_n hx hb dX11_moves_2 rfl (lv_at hl 2 rfl) ?_
  obtain ⟨y5_1, hy4_1, hy7_1, he1⟩ := ok_X11 hok ha0
  refine tc_i hAL hS hA (va_runV (As := [.int v1, .int v2]) (rest := []) ⟨hx, hb, hml, hown, noTs⟩ (t_X11_readTwo l dC dI s.heap.size G cs tt mm a0 ha0 v1 v2) ⟨cbE 2 (wd_919 hE) (wd_115 hE) (wd_916 hE) rfl rfl (by decide +kernel) ⟨Nat.le_of_ble_eq_true rfl, Nat.le_of_ble_eq_true rfl⟩, (wd_918 hE), (wd_29 hE)⟩ ⟨PT.blind, th_recv hK hP ha0.1 he1 rfl, (th_pre (av := [.ref a0, .int v1, .int v2]) trivial hK hP hok hnd hWT hE)⟩ rfl rfl hl.1 rfl (lv_room (Nat.le_of_ble_eq_true rfl)) dX11_moves_3 ⟨Nat.le_of_ble_eq_true rfl, Nat.le_of_ble_eq_true rfl⟩) (fun r2 f2 H locs hr2 hok hP hS => ?_)
  refine lv_if_ne (tgt := 15) hx hb dX11_moves_6 (by decide) (fun c3 => ?_) (fun c3 => ?_)
  · refine lv_aload_n hx hb dX11_moves_15 rfl (lv_at hl 0 rfl) ?_
    obtain ⟨y5_4, hy4_4, hy7_4, he4⟩ := ok_X11 hok ha0
    refine th_get hx hb (ly_X11 hE) hown hK hP ha0.1 he4 rfl 0 (by decide) (wd_359 hE) (fun _ h9 => h9) rfl dX11_moves_16 ?_
    refine lv_aload_n hx hb dX11_moves_19 rfl (lv_at hl 0 rfl) ?_
    refine th_get hx hb (ly_X11 hE) hown hK hP ha0.1 he4 rfl 10 (by decide) (wd_369 hE) (fun _ h9 => h9) rfl dX11_moves_20 ?_
    have he5 := ok_X7 hok (wt_X11_0 hWT ha0)
    refine vp_callSi (va_Run.run (va_runV (As := [.ref (gR G a0 10)]) (rest := []) ⟨hx, hb, hml, hown, noTs⟩ (t_X7_isLoop l dC dI H.size G cs tt mm (gR G a0 0) ((wt_X11_0 hWT ha0)) (gR G a0 10) ((wt_X11_10 hWT ha0))) ⟨cbE 1 (wd_949 hE) (wd_116 hE) (wd_946 hE) rfl rfl (by decide +kernel) ⟨Nat.le_of_ble_eq_true rfl, Nat.le_of_ble_eq_true rfl⟩, (wd_947 hE), (wd_948 hE)⟩ ⟨PT.blind, th_recv hK hP (wt_X11_0 hWT ha0).1 he5 rfl, (th_pre (av := [.ref (gR G a0 0), .ref (gR G a0 10)]) trivial hK hP hok hnd hWT hE)⟩ rfl rfl hl.1 rfl (lv_room (Nat.le_of_ble_eq_true rfl)) dX11_moves_23 ⟨Nat.le_of_ble_eq_true rfl, Nat.le_of_ble_eq_true rfl⟩)) (fun r6 hr6 => ?_)
    refine lv_if_eq (tgt := 46) hx hb dX11_moves_26 (by decide) (fun c7 => ?_) (fun c7 => ?_)
    · refine lv_aload_n hx hb dX11_moves_46 rfl (lv_at hl 0 rfl) ?_
      refine lv_iconst (v := 4) hx hb dX11_moves_47 (by decide) ?_
      refine tc_i hAL hS hA (va_runV (As := [.int 4]) (rest := []) ⟨hx, hb, hml, hown, noTs⟩ (t_X11_fail l dC dI H.size G cs tt mm a0 ha0 4) ⟨cbE 1 (wd_436 hE) (wd_115 hE) (wd_433 hE) rfl rfl (by decide +kernel) ⟨Nat.le_of_ble_eq_true rfl, Nat.le_of_ble_eq_true rfl⟩, (wd_435 hE), (wd_1 hE)⟩ ⟨PT.blind, th_recv hK hP ha0.1 he4 rfl, (th_pre (av := [.ref a0, .int 4]) trivial hK hP hok hnd hWT hE)⟩ rfl rfl hl.1 rfl (lv_room (Nat.le_of_ble_eq_true rfl)) dX11_moves_48 ⟨Nat.le_of_ble_eq_true rfl, Nat.le_of_ble_eq_true rfl⟩) (fun r8 f8 H locs hr8 hok hP hS => ?_)
      subst hr8
      exact W.iret (v := -1) hx hb hr (fun t ht hW => ⟨⟨-1, f8, rfl, trivial, hok, by rw [ht]; exact hP⟩, hS.F ht⟩) hS.2.2 dX11_moves_51
    · refine lv_aload_n hx hb dX11_moves_29 rfl (lv_at hl 0 rfl) ?_
      refine th_get hx hb (ly_X11 hE) hown hK hP ha0.1 he4 rfl 10 (by decide) (wd_369 hE) (fun _ h9 => h9) rfl dX11_moves_30 ?_
      obtain ⟨y2_9, y3_9, hy3_9, he9⟩ := ok_X10 hok (wt_X11_10 hWT ha0)
      refine vp_callSi (va_Run.run (va_runV (As := []) (rest := []) ⟨hx, hb, hml, hown, noTs⟩ (t_X10_begin l dC dI H.size G cs tt mm (gR G a0 10) ((wt_X11_10 hWT ha0))) ⟨cbE 0 (wd_713 hE) (wd_120 hE) (wd_824 hE) rfl rfl (by decide +kernel) ⟨Nat.le_of_ble_eq_true rfl, Nat.le_of_ble_eq_true rfl⟩, (wd_711 hE), (wd_712 hE)⟩ ⟨PT.blind, th_recv hK hP (wt_X11_10 hWT ha0).1 he9 rfl, (th_pre (av := [.ref (gR G a0 10)]) trivial hK hP hok hnd hWT hE)⟩ rfl rfl hl.1 rfl (lv_room (Nat.le_of_ble_eq_true rfl)) dX11_moves_33 ⟨Nat.le_of_ble_eq_true rfl, Nat.le_of_ble_eq_true rfl⟩)) (fun r10 hr10 => ?_)
      refine lv_aload_n hx hb dX11_moves_36 rfl (lv_at hl 0 rfl) ?_
      refine th_get hx hb (ly_X11 hE) hown hK hP ha0.1 he4 rfl 11 (by decide) (wd_370 hE) (fun _ h9 => h9) rfl dX11_moves_37 ?_
      obtain ⟨y2_11, y3_11, hy3_11, he11⟩ := ok_X10 hok (wt_X11_11 hWT ha0)
      refine vp_callSi (va_Run.run (va_runV (As := []) (rest := [.int r10]) ⟨hx, hb, hml, hown, noTs⟩ (t_X10_begin l dC dI H.size G cs tt mm (gR G a0 11) ((wt_X11_11 hWT ha0))) ⟨cbE 0 (wd_713 hE) (wd_120 hE) (wd_824 hE) rfl rfl (by decide +kernel) ⟨Nat.le_of_ble_eq_true rfl, Nat.le_of_ble_eq_true rfl⟩, (wd_711 hE), (wd_712 hE)⟩ ⟨PT.blind, th_recv hK hP (wt_X11_11 hWT ha0).1 he11 rfl, (th_pre (av := [.ref (gR G a0 11)]) trivial hK hP hok hnd hWT hE)⟩ rfl rfl hl.1 rfl (lv_room (Nat.le_of_ble_eq_true rfl)) dX11_moves_40 ⟨Nat.le_of_ble_eq_true rfl, Nat.le_of_ble_eq_true rfl⟩)) (fun r12 hr12 => ?_)
      refine lv_icmp_eq (tgt := 52) hx hb dX11_moves_43 (by decide) (fun c13 => ?_) (fun c13 => ?_)
      · refine lv_aload_n hx hb dX11_moves_52 rfl (lv_at hl 0 rfl) ?_
        refine th_get hx hb (ly_X11 hE) hown hK hP ha0.1 he4 rfl 0 (by decide) (wd_359 hE) (fun _ h9 => h9) rfl dX11_moves_53 ?_
        refine lv_aload_n hx hb dX11_moves_56 rfl (lv_at hl 0 rfl) ?_
        refine th_get hx hb (ly_X11 hE) hown hK hP ha0.1 he4 rfl 11 (by decide) (wd_370 hE) (fun _ h9 => h9) rfl dX11_moves_57 ?_
        refine lv_aload_n hx hb dX11_moves_60 rfl (lv_at hl 0 rfl) ?_
        refine th_get hx hb (ly_X11 hE) hown hK hP ha0.1 he4 rfl 12 (by decide) (wd_371 hE) (fun _ h9 => h9) rfl dX11_moves_61 ?_
        refine tc_v hAL hS hA (va_runS (As := [.ref (gR G a0 0), .ref (gR G a0 11), .ref (gR G a0 12)]) (rest := []) ⟨hx, hb, hml, hown, noTs⟩ (t_X2_turn l dC dI H.size G cs tt mm (gR G a0 0) ((wt_X11_0 hWT ha0)) (gR G a0 11) ((wt_X11_11 hWT ha0)) (gR G a0 12) ((wt_X11_12 hWT ha0))) ⟨cbE 3 (wd_929 hE) (wd_134 hE) (wd_927 hE) rfl rfl (by decide +kernel) ⟨Nat.le_of_ble_eq_true rfl, Nat.le_of_ble_eq_true rfl⟩, (wd_928 hE)⟩ ⟨PT.blind, (th_pre (av := [.ref (gR G a0 0), .ref (gR G a0 11), .ref (gR G a0 12)]) trivial hK hP hok hnd hWT hE)⟩ rfl rfl hl.1 rfl (lv_room (Nat.le_of_ble_eq_true rfl)) dX11_moves_64 ⟨Nat.le_of_ble_eq_true rfl, Nat.le_of_ble_eq_true rfl⟩) (fun f14 H locs hr14 hok hP hS => ?_)
        refine lv_aload_n hx hb dX11_moves_67 rfl (lv_at hl 0 rfl) ?_
        obtain ⟨y5_15, hy4_15, hy7_15, he15⟩ := ok_X11 hok ha0
        refine th_get hx hb (ly_X11 hE) hown hK hP ha0.1 he15 rfl 0 (by decide) (wd_359 hE) (fun _ h9 => h9) rfl dX11_moves_68 ?_
        refine lv_aload_n hx hb dX11_moves_71 rfl (lv_at hl 0 rfl) ?_
        refine th_get hx hb (ly_X11 hE) hown hK hP ha0.1 he15 rfl 12 (by decide) (wd_371 hE) (fun _ h9 => h9) rfl dX11_moves_72 ?_
        refine lv_aload_n hx hb dX11_moves_75 rfl (lv_at hl 0 rfl) ?_
        refine th_get hx hb (ly_X11 hE) hown hK hP ha0.1 he15 rfl 10 (by decide) (wd_369 hE) (fun _ h9 => h9) rfl dX11_moves_76 ?_
        refine tc_i hAL hS hA (va_runS (As := [.ref (gR G a0 0), .ref (gR G a0 12), .ref (gR G a0 10)]) (rest := []) ⟨hx, hb, hml, hown, noTs⟩ (t_X2_append l dC dI H.size G cs tt mm (gR G a0 0) ((wt_X11_0 hWT ha0)) (gR G a0 12) ((wt_X11_12 hWT ha0)) (gR G a0 10) ((wt_X11_10 hWT ha0))) ⟨cbE 3 (wd_842 hE) (wd_134 hE) (wd_954 hE) rfl rfl (by decide +kernel) ⟨Nat.le_of_ble_eq_true rfl, Nat.le_of_ble_eq_true rfl⟩, (wd_841 hE)⟩ ⟨PT.blind, (th_pre (av := [.ref (gR G a0 0), .ref (gR G a0 12), .ref (gR G a0 10)]) trivial hK hP hok hnd hWT hE)⟩ rfl rfl hl.1 rfl (lv_room (Nat.le_of_ble_eq_true rfl)) dX11_moves_79 ⟨Nat.le_of_ble_eq_true rfl, Nat.le_of_ble_eq_true rfl⟩) (fun r16 f16 H locs hr16 hok hP hS => ?_)
        refine lv_pop hx hb dX11_moves_82 rfl ?_
        refine lv_aload_n hx hb dX11_moves_83 rfl (lv_at hl 0 rfl) ?_
        obtain ⟨y5_17, hy4_17, hy7_17, he17⟩ := ok_X11 hok ha0
        refine th_get hx hb (ly_X11 hE) hown hK hP ha0.1 he17 rfl 0 (by decide) (wd_359 hE) (fun _ h9 => h9) rfl dX11_moves_84 ?_
        refine lv_aload_n hx hb dX11_moves_87 rfl (lv_at hl 0 rfl) ?_
        refine th_get hx hb (ly_X11 hE) hown hK hP ha0.1 he17 rfl 12 (by decide) (wd_371 hE) (fun _ h9 => h9) rfl dX11_moves_88 ?_
        refine lv_aload_n hx hb dX11_moves_91 rfl (lv_at hl 0 rfl) ?_
        refine th_get hx hb (ly_X11 hE) hown hK hP ha0.1 he17 rfl 11 (by decide) (wd_370 hE) (fun _ h9 => h9) rfl dX11_moves_92 ?_
        refine tc_i hAL hS hA (va_runS (As := [.ref (gR G a0 0), .ref (gR G a0 12), .ref (gR G a0 11)]) (rest := []) ⟨hx, hb, hml, hown, noTs⟩ (t_X2_append l dC dI H.size G cs tt mm (gR G a0 0) ((wt_X11_0 hWT ha0)) (gR G a0 12) ((wt_X11_12 hWT ha0)) (gR G a0 11) ((wt_X11_11 hWT ha0))) ⟨cbE 3 (wd_842 hE) (wd_134 hE) (wd_954 hE) rfl rfl (by decide +kernel) ⟨Nat.le_of_ble_eq_true rfl, Nat.le_of_ble_eq_true rfl⟩, (wd_841 hE)⟩ ⟨PT.blind, (th_pre (av := [.ref (gR G a0 0), .ref (gR G a0 12), .ref (gR G a0 11)]) trivial hK hP hok hnd hWT hE)⟩ rfl rfl hl.1 rfl (lv_room (Nat.le_of_ble_eq_true rfl)) dX11_moves_95 ⟨Nat.le_of_ble_eq_true rfl, Nat.le_of_ble_eq_true rfl⟩) (fun r18 f18 H locs hr18 hok hP hS => ?_)
        refine lv_pop hx hb dX11_moves_98 rfl ?_
        refine lv_aload_n hx hb dX11_moves_99 rfl (lv_at hl 0 rfl) ?_
        refine lv_aload_n hx hb dX11_moves_100 rfl (lv_at hl 0 rfl) ?_
        obtain ⟨y5_19, hy4_19, hy7_19, he19⟩ := ok_X11 hok ha0
        refine th_get hx hb (ly_X11 hE) hown hK hP ha0.1 he19 rfl 12 (by decide) (wd_371 hE) (fun _ h9 => h9) rfl dX11_moves_101 ?_
        obtain ⟨y2_20, y3_20, hy3_20, he20⟩ := ok_X10 hok (wt_X11_12 hWT ha0)
        refine vp_callSi (va_Run.run (va_runV (As := []) (rest := [.ref a0]) ⟨hx, hb, hml, hown, noTs⟩ (t_X10_size l dC dI H.size G cs tt mm (gR G a0 12) ((wt_X11_12 hWT ha0)) y2_20 y3_20) ⟨cbE 0 (wd_666 hE) (wd_120 hE) (wd_834 hE) rfl rfl (by decide +kernel) ⟨Nat.le_of_ble_eq_true rfl, Nat.le_of_ble_eq_true rfl⟩, (wd_664 hE), (wd_665 hE)⟩ ⟨PT.blind, th_recv hK hP (wt_X11_12 hWT ha0).1 he20 rfl, (th_pre (av := [.ref (gR G a0 12)]) he20 hK hP hok hnd hWT hE)⟩ rfl rfl hl.1 rfl (lv_room (Nat.le_of_ble_eq_true rfl)) dX11_moves_104 ⟨Nat.le_of_ble_eq_true rfl, Nat.le_of_ble_eq_true rfl⟩)) (fun r21 hr21 => ?_)
        subst hr21
        refine tc_i hAL hS hA (va_runV (As := [.int (nI y3_20)]) (rest := []) ⟨hx, hb, hml, hown, noTs⟩ (t_X11_answer l dC dI H.size G cs tt mm a0 ha0 (nI y3_20)) ⟨cbE 1 (wd_748 hE) (wd_115 hE) (wd_745 hE) rfl rfl (by decide +kernel) ⟨Nat.le_of_ble_eq_true rfl, Nat.le_of_ble_eq_true rfl⟩, (wd_747 hE), (wd_23 hE)⟩ ⟨PT.blind, th_recv hK hP ha0.1 he19 rfl, (th_pre (av := [.ref a0, .int (nI y3_20)]) trivial hK hP hok hnd hWT hE)⟩ rfl rfl hl.1 rfl (lv_room (Nat.le_of_ble_eq_true rfl)) dX11_moves_107 ⟨Nat.le_of_ble_eq_true rfl, Nat.le_of_ble_eq_true rfl⟩) (fun r22 f22 H locs hr22 hok hP hS => ?_)
        subst hr22
        exact W.iret (v := nI y3_20) hx hb hr (fun t ht hW => ⟨⟨nI y3_20, f22, rfl, trivial, hok, by rw [ht]; exact hP⟩, hS.F ht⟩) hS.2.2 dX11_moves_110
      · refine lv_aload_n hx hb dX11_moves_46 rfl (lv_at hl 0 rfl) ?_
        refine lv_iconst (v := 4) hx hb dX11_moves_47 (by decide) ?_
        refine tc_i hAL hS hA (va_runV (As := [.int 4]) (rest := []) ⟨hx, hb, hml, hown, noTs⟩ (t_X11_fail l dC dI H.size G cs tt mm a0 ha0 4) ⟨cbE 1 (wd_436 hE) (wd_115 hE) (wd_433 hE) rfl rfl (by decide +kernel) ⟨Nat.le_of_ble_eq_true rfl, Nat.le_of_ble_eq_true rfl⟩, (wd_435 hE), (wd_1 hE)⟩ ⟨PT.blind, th_recv hK hP ha0.1 he4 rfl, (th_pre (av := [.ref a0, .int 4]) trivial hK hP hok hnd hWT hE)⟩ rfl rfl hl.1 rfl (lv_room (Nat.le_of_ble_eq_true rfl)) dX11_moves_48 ⟨Nat.le_of_ble_eq_true rfl, Nat.le_of_ble_eq_true rfl⟩) (fun r23 f23 H locs hr23 hok hP hS => ?_)
        subst hr23
        exact W.iret (v := -1) hx hb hr (fun t ht hW => ⟨⟨-1, f23, rfl, trivial, hok, by rw [ht]; exact hP⟩, hS.F ht⟩) hS.2.2 dX11_moves_51
  · refine lv_aload_n hx hb dX11_moves_9 rfl (lv_at hl 0 rfl) ?_
    refine lv_iconst (v := 2) hx hb dX11_moves_10 (by decide) ?_
    obtain ⟨y5_24, hy4_24, hy7_24, he24⟩ := ok_X11 hok ha0
    refine tc_i hAL hS hA (va_runV (As := [.int 2]) (rest := []) ⟨hx, hb, hml, hown, noTs⟩ (t_X11_fail l dC dI H.size G cs tt mm a0 ha0 2) ⟨cbE 1 (wd_436 hE) (wd_115 hE) (wd_433 hE) rfl rfl (by decide +kernel) ⟨Nat.le_of_ble_eq_true rfl, Nat.le_of_ble_eq_true rfl⟩, (wd_435 hE), (wd_1 hE)⟩ ⟨PT.blind, th_recv hK hP ha0.1 he24 rfl, (th_pre (av := [.ref a0, .int 2]) trivial hK hP hok hnd hWT hE)⟩ rfl rfl hl.1 rfl (lv_room (Nat.le_of_ble_eq_true rfl)) dX11_moves_11 ⟨Nat.le_of_ble_eq_true rfl, Nat.le_of_ble_eq_true rfl⟩) (fun r25 f25 H locs hr25 hok hP hS => ?_)
    subst hr25
    exact W.iret (v := -1) hx hb hr (fun t ht hW => ⟨⟨-1, f25, rfl, trivial, hok, by rw [ht]; exact hP⟩, hS.F ht⟩) hS.2.2 dX11_moves_14

set_option maxHeartbeats 4000000 in
set_option maxRecDepth 100000 in
theorem t_X11_way (l : Launch) (dC : Nat → ClassId) (dI : Nat → Nat → Nat) (sz : Nat) (G : GT) (cs : Nat → ClassId) (tt mm : Nat) (a0 : Nat) (ha0 : Ty G a0 11) (v1 : Int32) (v2 : Int32) (v3 : Int32) : Met l yX11_way [.code yX11_way cX11_way 5 (some .int)] ({ frames := 6, cells := 0, slots := 0, locals := 240 }) (PT [.ref a0, .int v1, .int v2, .int v3] sz dC dI G cs tt mm (fun _ => True)) (va_Qi (fun (r : Int32) (u : Nat → va_E) => True) (BT dC dI G cs tt mm) (AT G sz)) 0 0 (AT G sz) := by
  refine Met.ofW (cc := cX11_way) (maxL := 5) (ret := (some .int)) (by decide) rfl ?_
  intro p e s m args below meth c s₁ B hml hv
  obtain ⟨rfl, hsz, ⟨f0, hok, hP, hX⟩, hK, hnd, hWT, hE⟩ := hv
  have hx := B.exec
  have hb := B.bytes
  have hr := B.returns
  have hown : s.vm.findClass RX11 = some m.cls := findClass_of_methodNamed B.named
  have hlocks := B.notSynchronized
  subst hsz
  have hAL : ∀ a, a ∈ gL G → AT G s.heap.size a := fun a h => Or.inl h
  have hA : ∀ q : Nat, s.heap.size ≤ q → AT G s.heap.size q := fun q h => Or.inr h
  have hS : va_S (AT G s.heap.size) s.heap s.heap [] := va_S.rf
  have hl := lv_entry ([.ref a0, .int v1, .int v2, .int v3]) (n := 5) (Nat.le_of_ble_eq_true rfl)
  rw [lg_entry_eq]
  generalize (lg_sl ([.ref a0, .int v1, .int v2, .int v3]) ++ List.replicate (5 - (lg_sl ([.ref a0, .int v1, .int v2, .int v3])).length) Slot.unset).toArray = ls at hl ⊢
  have hl : lv_has ls 5 [(0, .ref a0), (1, .int v1), (2, .int v2), (3, .int v3)] := hl
  refine lv_iload_n hx hb dX11_way_0 rfl (lv_at hl 3 rfl) ?_
  refine lv_if_ge (tgt := 10) hx hb dX11_way_1 (by decide) (fun c1 => ?_) (fun c1 => ?_)
  · refine lv_aload_n hx hb dX11_way_10 rfl (lv_at hl 0 rfl) ?_
    refine lv_iload_n hx hb dX11_way_11 rfl (lv_at hl 1 rfl) ?_
    refine lv_iload_n hx hb dX11_way_12 rfl (lv_at hl 2 rfl) ?_
    obtain ⟨y5_2, hy4_2, hy7_2, he2⟩ := ok_X11 hok ha0
    refine tc_i hAL hS hA (va_runV (As := [.int v1, .int v2]) (rest := []) ⟨hx, hb, hml, hown, noTs⟩ (t_X11_readWay l dC dI s.heap.size G cs tt mm a0 ha0 v1 v2) ⟨cbE 2 (wd_1254 hE) (wd_115 hE) (wd_1251 hE) rfl rfl (by decide +kernel) ⟨Nat.le_of_ble_eq_true rfl, Nat.le_of_ble_eq_true rfl⟩, (wd_1253 hE), (wd_48 hE)⟩ ⟨PT.blind, th_recv hK hP ha0.1 he2 rfl, (th_pre (av := [.ref a0, .int v1, .int v2]) trivial hK hP hok hnd hWT hE)⟩ rfl rfl hl.1 rfl (lv_room (Nat.le_of_ble_eq_true rfl)) dX11_way_13 ⟨Nat.le_of_ble_eq_true rfl, Nat.le_of_ble_eq_true rfl⟩) (fun r3 f3 H locs hr3 hok hP hS => ?_)
    refine lv_istore (lv' := [(4, .int r3), (0, .ref a0), (1, .int v1), (2, .int v2), (3, .int v3)]) hx hb dX11_way_16 hl (by decide) rfl (fun ls hl => ?_)
    refine lv_iload hx hb dX11_way_18 (lv_at hl 0 rfl) ?_
    refine lv_if_eq (tgt := 30) hx hb dX11_way_20 (by decide) (fun c4 => ?_) (fun c4 => ?_)
    · refine lv_iload_n hx hb dX11_way_30 rfl (lv_at hl 4 rfl) ?_
      refine lv_aload_n hx hb dX11_way_31 rfl (lv_at hl 1 rfl) ?_
      obtain ⟨y5_5, hy4_5, hy7_5, he5⟩ := ok_X11 hok ha0
      refine th_get hx hb (ly_X11 hE) hown hK hP ha0.1 he5 rfl 12 (by decide) (wd_371 hE) (fun _ h9 => h9) rfl dX11_way_32 ?_
      obtain ⟨y2_6, y3_6, hy3_6, he6⟩ := ok_X10 hok (wt_X11_12 hWT ha0)
      refine vp_callSi (va_Run.run (va_runV (As := []) (rest := [.int v3]) ⟨hx, hb, hml, hown, noTs⟩ (t_X10_size l dC dI H.size G cs tt mm (gR G a0 12) ((wt_X11_12 hWT ha0)) y2_6 y3_6) ⟨cbE 0 (wd_666 hE) (wd_120 hE) (wd_834 hE) rfl rfl (by decide +kernel) ⟨Nat.le_of_ble_eq_true rfl, Nat.le_of_ble_eq_true rfl⟩, (wd_664 hE), (wd_665 hE)⟩ ⟨PT.blind, th_recv hK hP (wt_X11_12 hWT ha0).1 he6 rfl, (th_pre (av := [.ref (gR G a0 12)]) he6 hK hP hok hnd hWT hE)⟩ rfl rfl hl.1 rfl (lv_room (Nat.le_of_ble_eq_true rfl)) dX11_way_35 ⟨Nat.le_of_ble_eq_true rfl, Nat.le_of_ble_eq_true rfl⟩)) (fun r7 hr7 => ?_)
      subst hr7
      have nt8 : (nI y3_6).toInt = ((y3_6 : Nat) : Int) := nI_toInt (by omega)
      refine lv_icmp_le (tgt := 47) hx hb dX11_way_38 (by decide) (fun c9 => ?_) (fun c9 => ?_)
      · refine lv_aload_n hx hb dX11_way_47 rfl (lv_at hl 1 rfl) ?_
        refine lv_iload_n hx hb dX11_way_48 rfl (lv_at hl 4 rfl) ?_
        refine lv_if_ne (tgt := 62) hx hb dX11_way_49 (by decide) (fun c10 => ?_) (fun c10 => ?_)
        · refine lv_aload_n hx hb dX11_way_62 rfl (lv_at hl 1 rfl) ?_
          refine th_get hx hb (ly_X11 hE) hown hK hP ha0.1 he5 rfl 0 (by decide) (wd_359 hE) (fun _ h9 => h9) rfl dX11_way_63 ?_
          refine lv_aload_n hx hb dX11_way_66 rfl (lv_at hl 1 rfl) ?_
          refine th_get hx hb (ly_X11 hE) hown hK hP ha0.1 he5 rfl 12 (by decide) (wd_371 hE) (fun _ h9 => h9) rfl dX11_way_67 ?_
          refine lv_iload_n hx hb dX11_way_70 rfl (lv_at hl 4 rfl) ?_
          refine lv_iconst (v := 1) hx hb dX11_way_71 (by decide) ?_
          obtain ⟨j11, hj11, rfl⟩ : ∃ j : Nat, j ≤ 72 ∧ v3 = nI j := i_nat (by first | omega | (simp only [i_lt, i_le, i_eq, ti_m9, ti_m1, ti_0, ti_1, ti_2, ti_3, ti_4, ti_5, ti_6, ti_7, ti_9, ti_12, ti_20, ti_99, ti_700, ti_24, ti_156, ti_72, ti_8, ti_60, ti_543, ti_10, ti_33, ti_51, ti_178, ti_119, ti_111, ti_114, ti_100, ti_32, ti_62, ti_59, ti_48, ti_701, ti_97, ti_122, ti_57, ti_73, ti_128, ti_61, nt8] at c1 c4 c9 c10 ⊢; omega)) (by first | omega | (simp only [i_lt, i_le, i_eq, ti_m9, ti_m1, ti_0, ti_1, ti_2, ti_3, ti_4, ti_5, ti_6, ti_7, ti_9, ti_12, ti_20, ti_99, ti_700, ti_24, ti_156, ti_72, ti_8, ti_60, ti_543, ti_10, ti_33, ti_51, ti_178, ti_119, ti_111, ti_114, ti_100, ti_32, ti_62, ti_59, ti_48, ti_701, ti_97, ti_122, ti_57, ti_73, ti_128, ti_61, nt8] at c1 c4 c9 c10 ⊢; omega))
          have nt12 : (nI j11).toInt = ((j11 : Nat) : Int) := nI_toInt (by omega)
          refine lv_isub hx hb dX11_way_72 ?_
          refine W.eq (g2 := F0 m 73 ls [.int (nI (j11 - 1)), .ref (gR G a0 12), .ref (gR G a0 0), .ref a0]) (congrArg (fun z : Int32 => F0 m 73 ls (.int z :: [.ref (gR G a0 12), .ref (gR G a0 0), .ref a0])) (pk_sub (a := j11) (b := 1) (by first | omega | (simp only [i_lt, i_le, i_eq, ti_m9, ti_m1, ti_0, ti_1, ti_2, ti_3, ti_4, ti_5, ti_6, ti_7, ti_9, ti_12, ti_20, ti_99, ti_700, ti_24, ti_156, ti_72, ti_8, ti_60, ti_543, ti_10, ti_33, ti_51, ti_178, ti_119, ti_111, ti_114, ti_100, ti_32, ti_62, ti_59, ti_48, ti_701, ti_97, ti_122, ti_57, ti_73, ti_128, ti_61, nt8, nt12] at c1 c4 c9 c10 ⊢; omega)))) ?_
          refine vp_callSi (va_Run.run (va_runV (As := [.int (nI (j11 - 1))]) (rest := [.ref (gR G a0 0), .ref a0]) ⟨hx, hb, hml, hown, noTs⟩ (t_X10_stepAt l dC dI H.size G cs tt mm (gR G a0 12) ((wt_X11_12 hWT ha0)) (nI (j11 - 1))) ⟨cbE 1 (wd_721 hE) (wd_120 hE) (wd_894 hE) rfl rfl (by decide +kernel) ⟨Nat.le_of_ble_eq_true rfl, Nat.le_of_ble_eq_true rfl⟩, (wd_719 hE), (wd_720 hE)⟩ ⟨PT.blind, th_recv hK hP (wt_X11_12 hWT ha0).1 he6 rfl, (th_pre (av := [.ref (gR G a0 12), .int (nI (j11 - 1))]) trivial hK hP hok hnd hWT hE)⟩ rfl rfl hl.1 rfl (lv_room (Nat.le_of_ble_eq_true rfl)) dX11_way_73 ⟨Nat.le_of_ble_eq_true rfl, Nat.le_of_ble_eq_true rfl⟩)) (fun r13 hr13 => ?_)
          have he14 := ok_X7 hok (wt_X11_0 hWT ha0)
          refine vp_callSi (va_Run.run (va_runV (As := [.int r13]) (rest := [.ref a0]) ⟨hx, hb, hml, hown, noTs⟩ (t_X7_toVertex l dC dI H.size G cs tt mm (gR G a0 0) ((wt_X11_0 hWT ha0)) r13) ⟨cbE 1 (wd_692 hE) (wd_116 hE) (wd_1263 hE) rfl rfl (by decide +kernel) ⟨Nat.le_of_ble_eq_true rfl, Nat.le_of_ble_eq_true rfl⟩, (wd_690 hE), (wd_691 hE)⟩ ⟨PT.blind, th_recv hK hP (wt_X11_0 hWT ha0).1 he14 rfl, (th_pre (av := [.ref (gR G a0 0), .int r13]) trivial hK hP hok hnd hWT hE)⟩ rfl rfl hl.1 rfl (lv_room (Nat.le_of_ble_eq_true rfl)) dX11_way_76 ⟨Nat.le_of_ble_eq_true rfl, Nat.le_of_ble_eq_true rfl⟩)) (fun r15 hr15 => ?_)
          refine tc_i hAL hS hA (va_runV (As := [.int r15]) (rest := []) ⟨hx, hb, hml, hown, noTs⟩ (t_X11_answer l dC dI H.size G cs tt mm a0 ha0 r15) ⟨cbE 1 (wd_748 hE) (wd_115 hE) (wd_745 hE) rfl rfl (by decide +kernel) ⟨Nat.le_of_ble_eq_true rfl, Nat.le_of_ble_eq_true rfl⟩, (wd_747 hE), (wd_23 hE)⟩ ⟨PT.blind, th_recv hK hP ha0.1 he5 rfl, (th_pre (av := [.ref a0, .int r15]) trivial hK hP hok hnd hWT hE)⟩ rfl rfl hl.1 rfl (lv_room (Nat.le_of_ble_eq_true rfl)) dX11_way_79 ⟨Nat.le_of_ble_eq_true rfl, Nat.le_of_ble_eq_true rfl⟩) (fun r16 f16 H locs hr16 hok hP hS => ?_)
          refine W.eq (g2 := F0 m 82 ls [.int r15]) (by rw [hr16]) ?_
          exact W.iret (v := r15) hx hb hr (fun t ht hW => ⟨⟨r15, f16, rfl, trivial, hok, by rw [ht]; exact hP⟩, hS.F ht⟩) hS.2.2 dX11_way_82
        · refine lv_aload_n hx hb dX11_way_52 rfl (lv_at hl 1 rfl) ?_
          refine th_get hx hb (ly_X11 hE) hown hK hP ha0.1 he5 rfl 12 (by decide) (wd_371 hE) (fun _ h9 => h9) rfl dX11_way_53 ?_
          refine vp_callSi (va_Run.run (va_runV (As := []) (rest := [.ref a0]) ⟨hx, hb, hml, hown, noTs⟩ (t_X10_begin l dC dI H.size G cs tt mm (gR G a0 12) ((wt_X11_12 hWT ha0))) ⟨cbE 0 (wd_713 hE) (wd_120 hE) (wd_824 hE) rfl rfl (by decide +kernel) ⟨Nat.le_of_ble_eq_true rfl, Nat.le_of_ble_eq_true rfl⟩, (wd_711 hE), (wd_712 hE)⟩ ⟨PT.blind, th_recv hK hP (wt_X11_12 hWT ha0).1 he6 rfl, (th_pre (av := [.ref (gR G a0 12)]) trivial hK hP hok hnd hWT hE)⟩ rfl rfl hl.1 rfl (lv_room (Nat.le_of_ble_eq_true rfl)) dX11_way_56 ⟨Nat.le_of_ble_eq_true rfl, Nat.le_of_ble_eq_true rfl⟩)) (fun r17 hr17 => ?_)
          refine lv_goto (tgt := 79) hx hb dX11_way_59 (by decide) ?_
          refine tc_i hAL hS hA (va_runV (As := [.int r17]) (rest := []) ⟨hx, hb, hml, hown, noTs⟩ (t_X11_answer l dC dI H.size G cs tt mm a0 ha0 r17) ⟨cbE 1 (wd_748 hE) (wd_115 hE) (wd_745 hE) rfl rfl (by decide +kernel) ⟨Nat.le_of_ble_eq_true rfl, Nat.le_of_ble_eq_true rfl⟩, (wd_747 hE), (wd_23 hE)⟩ ⟨PT.blind, th_recv hK hP ha0.1 he5 rfl, (th_pre (av := [.ref a0, .int r17]) trivial hK hP hok hnd hWT hE)⟩ rfl rfl hl.1 rfl (lv_room (Nat.le_of_ble_eq_true rfl)) dX11_way_79 ⟨Nat.le_of_ble_eq_true rfl, Nat.le_of_ble_eq_true rfl⟩) (fun r18 f18 H locs hr18 hok hP hS => ?_)
          refine W.eq (g2 := F0 m 82 ls [.int r17]) (by rw [hr18]) ?_
          exact W.iret (v := r17) hx hb hr (fun t ht hW => ⟨⟨r17, f18, rfl, trivial, hok, by rw [ht]; exact hP⟩, hS.F ht⟩) hS.2.2 dX11_way_82
      · refine lv_aload_n hx hb dX11_way_41 rfl (lv_at hl 1 rfl) ?_
        refine lv_iconst (v := 5) hx hb dX11_way_42 (by decide) ?_
        refine tc_i hAL hS hA (va_runV (As := [.int 5]) (rest := []) ⟨hx, hb, hml, hown, noTs⟩ (t_X11_fail l dC dI H.size G cs tt mm a0 ha0 5) ⟨cbE 1 (wd_436 hE) (wd_115 hE) (wd_433 hE) rfl rfl (by decide +kernel) ⟨Nat.le_of_ble_eq_true rfl, Nat.le_of_ble_eq_true rfl⟩, (wd_435 hE), (wd_1 hE)⟩ ⟨PT.blind, th_recv hK hP ha0.1 he5 rfl, (th_pre (av := [.ref a0, .int 5]) trivial hK hP hok hnd hWT hE)⟩ rfl rfl hl.1 rfl (lv_room (Nat.le_of_ble_eq_true rfl)) dX11_way_43 ⟨Nat.le_of_ble_eq_true rfl, Nat.le_of_ble_eq_true rfl⟩) (fun r19 f19 H locs hr19 hok hP hS => ?_)
        subst hr19
        exact W.iret (v := -1) hx hb hr (fun t ht hW => ⟨⟨-1, f19, rfl, trivial, hok, by rw [ht]; exact hP⟩, hS.F ht⟩) hS.2.2 dX11_way_46
    · refine lv_aload_n hx hb dX11_way_23 rfl (lv_at hl 1 rfl) ?_
      refine lv_iload hx hb dX11_way_24 (lv_at hl 0 rfl) ?_
      obtain ⟨y5_20, hy4_20, hy7_20, he20⟩ := ok_X11 hok ha0
      refine tc_i hAL hS hA (va_runV (As := [.int r3]) (rest := []) ⟨hx, hb, hml, hown, noTs⟩ (t_X11_fail l dC dI H.size G cs tt mm a0 ha0 r3) ⟨cbE 1 (wd_436 hE) (wd_115 hE) (wd_433 hE) rfl rfl (by decide +kernel) ⟨Nat.le_of_ble_eq_true rfl, Nat.le_of_ble_eq_true rfl⟩, (wd_435 hE), (wd_1 hE)⟩ ⟨PT.blind, th_recv hK hP ha0.1 he20 rfl, (th_pre (av := [.ref a0, .int r3]) trivial hK hP hok hnd hWT hE)⟩ rfl rfl hl.1 rfl (lv_room (Nat.le_of_ble_eq_true rfl)) dX11_way_26 ⟨Nat.le_of_ble_eq_true rfl, Nat.le_of_ble_eq_true rfl⟩) (fun r21 f21 H locs hr21 hok hP hS => ?_)
      subst hr21
      exact W.iret (v := -1) hx hb hr (fun t ht hW => ⟨⟨-1, f21, rfl, trivial, hok, by rw [ht]; exact hP⟩, hS.F ht⟩) hS.2.2 dX11_way_29
  · refine lv_aload_n hx hb dX11_way_4 rfl (lv_at hl 0 rfl) ?_
    refine lv_iconst (v := 1) hx hb dX11_way_5 (by decide) ?_
    obtain ⟨y5_22, hy4_22, hy7_22, he22⟩ := ok_X11 hok ha0
    refine tc_i hAL hS hA (va_runV (As := [.int 1]) (rest := []) ⟨hx, hb, hml, hown, noTs⟩ (t_X11_fail l dC dI s.heap.size G cs tt mm a0 ha0 1) ⟨cbE 1 (wd_436 hE) (wd_115 hE) (wd_433 hE) rfl rfl (by decide +kernel) ⟨Nat.le_of_ble_eq_true rfl, Nat.le_of_ble_eq_true rfl⟩, (wd_435 hE), (wd_1 hE)⟩ ⟨PT.blind, th_recv hK hP ha0.1 he22 rfl, (th_pre (av := [.ref a0, .int 1]) trivial hK hP hok hnd hWT hE)⟩ rfl rfl hl.1 rfl (lv_room (Nat.le_of_ble_eq_true rfl)) dX11_way_6 ⟨Nat.le_of_ble_eq_true rfl, Nat.le_of_ble_eq_true rfl⟩) (fun r23 f23 H locs hr23 hok hP hS => ?_)
    subst hr23
    exact W.iret (v := -1) hx hb hr (fun t ht hW => ⟨⟨-1, f23, rfl, trivial, hok, by rw [ht]; exact hP⟩, hS.F ht⟩) hS.2.2 dX11_way_9

set_option maxHeartbeats 4000000 in
set_option maxRecDepth 100000 in
theorem t_X11_answerLong (l : Launch) (dC : Nat → ClassId) (dI : Nat → Nat → Nat) (sz : Nat) (G : GT) (cs : Nat → ClassId) (tt mm : Nat) (a0 : Nat) (ha0 : Ty G a0 11) (v1 : Int64) : Met l yX11_answerLong [.code yX11_answerLong cX11_answerLong 3 (some .long)] ({ frames := 0, cells := 0, slots := 0, locals := 0 }) (PT [.ref a0, .long v1] sz dC dI G cs tt mm (fun _ => True)) (va_Ql (fun (r : Int64) (u : Nat → va_E) => True) (BT dC dI G cs tt mm) (AT G sz)) 0 0 (AT G sz) := by
  refine Met.ofW (cc := cX11_answerLong) (maxL := 3) (ret := (some .long)) (by decide) rfl ?_
  intro p e s m args below meth c s₁ B hml hv
  obtain ⟨rfl, hsz, ⟨f0, hok, hP, hX⟩, hK, hnd, hWT, hE⟩ := hv
  have hx := B.exec
  have hb := B.bytes
  have hr := B.returns
  have hown : s.vm.findClass RX11 = some m.cls := findClass_of_methodNamed B.named
  have hlocks := B.notSynchronized
  subst hsz
  have hAL : ∀ a, a ∈ gL G → AT G s.heap.size a := fun a h => Or.inl h
  have hA : ∀ q : Nat, s.heap.size ≤ q → AT G s.heap.size q := fun q h => Or.inr h
  have hS : va_S (AT G s.heap.size) s.heap s.heap [] := va_S.rf
  have hl := lv_entry ([.ref a0, .long v1]) (n := 3) (Nat.le_of_ble_eq_true rfl)
  rw [lg_entry_eq]
  generalize (lg_sl ([.ref a0, .long v1]) ++ List.replicate (3 - (lg_sl ([.ref a0, .long v1])).length) Slot.unset).toArray = ls at hl ⊢
  have hl : lv_has ls 3 [(0, .ref a0), (1, .long v1)] := hl
  refine lv_aload_n hx hb dX11_answerLong_0 rfl (lv_at hl 0 rfl) ?_
  refine lv_iconst (v := 0) hx hb dX11_answerLong_1 (by decide) ?_
  obtain ⟨y5_1, hy4_1, hy7_1, he1⟩ := ok_X11 hok ha0
  refine th_put (v := .int 0) (ty := .int) hx hb (ly_X11 hE) tyX11 tyX11_ok nmX11 hown hK hP hnd hAL hS ha0.1 he1 rfl 5 (by decide) (wd_364 hE) (fun _ h9 => h9) rfl (by decide +kernel) rfl rfl (Nat.le_of_ble_eq_true rfl) (up_X11 hok ha0 ⟨0, (by omega), (by omega), rfl⟩) dX11_answerLong_2 (fun f2 H locs hfa2 hfo2 hok hP hS => ?_)
  refine lv_lload_n hx hb dX11_answerLong_5 rfl (lv_at hl 1 rfl) ?_
  exact W.lret (v := v1) hx hb hr (fun t ht hW => ⟨⟨v1, f2, rfl, trivial, hok, by rw [ht]; exact hP⟩, hS.F ht⟩) hS.2.2 dX11_answerLong_6

set_option maxHeartbeats 4000000 in
set_option maxRecDepth 100000 in
theorem t_X11_holds (l : Launch) (dC : Nat → ClassId) (dI : Nat → Nat → Nat) (sz : Nat) (G : GT) (cs : Nat → ClassId) (tt mm : Nat) (a0 : Nat) (ha0 : Ty G a0 11) (v1 : Int32) (v2 : Int32) : Met l yX11_holds [.code yX11_holds cX11_holds 5 (some .long)] ({ frames := 6, cells := 0, slots := 0, locals := 240 }) (PT [.ref a0, .int v1, .int v2] sz dC dI G cs tt mm (fun _ => True)) (va_Ql (fun (r : Int64) (u : Nat → va_E) => True) (BT dC dI G cs tt mm) (AT G sz)) 0 0 (AT G sz) := by
  refine Met.ofW (cc := cX11_holds) (maxL := 5) (ret := (some .long)) (by decide) rfl ?_
  intro p e s m args below meth c s₁ B hml hv
  obtain ⟨rfl, hsz, ⟨f0, hok, hP, hX⟩, hK, hnd, hWT, hE⟩ := hv
  have hx := B.exec
  have hb := B.bytes
  have hr := B.returns
  have hown : s.vm.findClass RX11 = some m.cls := findClass_of_methodNamed B.named
  have hlocks := B.notSynchronized
  subst hsz
  have hAL : ∀ a, a ∈ gL G → AT G s.heap.size a := fun a h => Or.inl h
  have hA : ∀ q : Nat, s.heap.size ≤ q → AT G s.heap.size q := fun q h => Or.inr h
  have hS : va_S (AT G s.heap.size) s.heap s.heap [] := va_S.rf
  have hl := lv_entry ([.ref a0, .int v1, .int v2]) (n := 5) (Nat.le_of_ble_eq_true rfl)
  rw [lg_entry_eq]
  generalize (lg_sl ([.ref a0, .int v1, .int v2]) ++ List.replicate (5 - (lg_sl ([.ref a0, .int v1, .int v2])).length) Slot.unset).toArray = ls at hl ⊢
  have hl : lv_has ls 5 [(0, .ref a0), (1, .int v1), (2, .int v2)] := hl
  refine lv_iload_n hx hb dX11_holds_0 rfl (lv_at hl 2 rfl) ?_
  refine lv_if_lt (tgt := 10) hx hb dX11_holds_1 (by decide) (fun c1 => ?_) (fun c1 => ?_)
  · refine lv_aload_n hx hb dX11_holds_10 rfl (lv_at hl 0 rfl) ?_
    refine lv_iconst (v := 1) hx hb dX11_holds_11 (by decide) ?_
    obtain ⟨y5_2, hy4_2, hy7_2, he2⟩ := ok_X11 hok ha0
    refine tc_i hAL hS hA (va_runV (As := [.int 1]) (rest := []) ⟨hx, hb, hml, hown, noTs⟩ (t_X11_fail l dC dI s.heap.size G cs tt mm a0 ha0 1) ⟨cbE 1 (wd_436 hE) (wd_115 hE) (wd_433 hE) rfl rfl (by decide +kernel) ⟨Nat.le_of_ble_eq_true rfl, Nat.le_of_ble_eq_true rfl⟩, (wd_435 hE), (wd_1 hE)⟩ ⟨PT.blind, th_recv hK hP ha0.1 he2 rfl, (th_pre (av := [.ref a0, .int 1]) trivial hK hP hok hnd hWT hE)⟩ rfl rfl hl.1 rfl (lv_room (Nat.le_of_ble_eq_true rfl)) dX11_holds_12 ⟨Nat.le_of_ble_eq_true rfl, Nat.le_of_ble_eq_true rfl⟩) (fun r3 f3 H locs hr3 hok hP hS => ?_)
    subst hr3
    refine lv_i2l hx hb dX11_holds_15 rfl ?_
    refine lv_topl (fun x4 _ => ?_)
    exact W.lret (v := x4) hx hb hr (fun t ht hW => ⟨⟨x4, f3, rfl, trivial, hok, by rw [ht]; exact hP⟩, hS.F ht⟩) hS.2.2 dX11_holds_16
  · refine lv_iload_n hx hb dX11_holds_4 rfl (lv_at hl 2 rfl) ?_
    refine lv_bipush (v := 12) hx hb dX11_holds_5 (by decide) ?_
    refine lv_icmp_le (tgt := 17) hx hb dX11_holds_7 (by decide) (fun c5 => ?_) (fun c5 => ?_)
    · refine lv_aload_n hx hb dX11_holds_17 rfl (lv_at hl 0 rfl) ?_
      refine lv_iload_n hx hb dX11_holds_18 rfl (lv_at hl 1 rfl) ?_
      obtain ⟨y5_6, hy4_6, hy7_6, he6⟩ := ok_X11 hok ha0
      refine tc_i hAL hS hA (va_runV (As := [.int v1]) (rest := []) ⟨hx, hb, hml, hown, noTs⟩ (t_X11_readCore l dC dI s.heap.size G cs tt mm a0 ha0 v1) ⟨cbE 1 (wd_1079 hE) (wd_115 hE) (wd_1076 hE) rfl rfl (by decide +kernel) ⟨Nat.le_of_ble_eq_true rfl, Nat.le_of_ble_eq_true rfl⟩, (wd_1078 hE), (wd_38 hE)⟩ ⟨PT.blind, th_recv hK hP ha0.1 he6 rfl, (th_pre (av := [.ref a0, .int v1]) trivial hK hP hok hnd hWT hE)⟩ rfl rfl hl.1 rfl (lv_room (Nat.le_of_ble_eq_true rfl)) dX11_holds_19 ⟨Nat.le_of_ble_eq_true rfl, Nat.le_of_ble_eq_true rfl⟩) (fun r7 f7 H locs hr7 hok hP hS => ?_)
      refine lv_istore_n (lv' := [(3, .int r7), (0, .ref a0), (1, .int v1), (2, .int v2)]) hx hb dX11_holds_22 rfl hl (by decide) rfl (fun ls hl => ?_)
      refine lv_iload_n hx hb dX11_holds_23 rfl (lv_at hl 0 rfl) ?_
      refine lv_if_eq (tgt := 34) hx hb dX11_holds_24 (by decide) (fun c8 => ?_) (fun c8 => ?_)
      · refine lv_aload_n hx hb dX11_holds_34 rfl (lv_at hl 1 rfl) ?_
        obtain ⟨y5_9, hy4_9, hy7_9, he9⟩ := ok_X11 hok ha0
        refine th_get hx hb (ly_X11 hE) hown hK hP ha0.1 he9 rfl 12 (by decide) (wd_371 hE) (fun _ h9 => h9) rfl dX11_holds_35 ?_
        obtain ⟨y2_10, y3_10, hy3_10, he10⟩ := ok_X10 hok (wt_X11_12 hWT ha0)
        refine vp_callSi (va_Run.run (va_runV (As := []) (rest := []) ⟨hx, hb, hml, hown, noTs⟩ (t_X10_size l dC dI H.size G cs tt mm (gR G a0 12) ((wt_X11_12 hWT ha0)) y2_10 y3_10) ⟨cbE 0 (wd_666 hE) (wd_120 hE) (wd_834 hE) rfl rfl (by decide +kernel) ⟨Nat.le_of_ble_eq_true rfl, Nat.le_of_ble_eq_true rfl⟩, (wd_664 hE), (wd_665 hE)⟩ ⟨PT.blind, th_recv hK hP (wt_X11_12 hWT ha0).1 he10 rfl, (th_pre (av := [.ref (gR G a0 12)]) he10 hK hP hok hnd hWT hE)⟩ rfl rfl hl.1 rfl (lv_room (Nat.le_of_ble_eq_true rfl)) dX11_holds_38 ⟨Nat.le_of_ble_eq_true rfl, Nat.le_of_ble_eq_true rfl⟩)) (fun r11 hr11 => ?_)
        subst hr11
        have nt12 : (nI y3_10).toInt = ((y3_10 : Nat) : Int) := nI_toInt (by omega)
        refine lv_if_le (tgt := 51) hx hb dX11_holds_41 (by decide) (fun c13 => ?_) (fun c13 => ?_)
        · refine lv_aload_n hx hb dX11_holds_51 rfl (lv_at hl 1 rfl) ?_
          refine th_get hx hb (ly_X11 hE) hown hK hP ha0.1 he9 rfl 12 (by decide) (wd_371 hE) (fun _ h9 => h9) rfl dX11_holds_52 ?_
          refine lv_iconst (v := 0) hx hb dX11_holds_55 (by decide) ?_
          refine vp_callSi (va_Run.run (va_runV (As := [.int 0]) (rest := []) ⟨hx, hb, hml, hown, noTs⟩ (t_X10_numberAt l dC dI H.size G cs tt mm (gR G a0 12) ((wt_X11_12 hWT ha0)) 0) ⟨cbE 1 (wd_717 hE) (wd_120 hE) (wd_889 hE) rfl rfl (by decide +kernel) ⟨Nat.le_of_ble_eq_true rfl, Nat.le_of_ble_eq_true rfl⟩, (wd_715 hE), (wd_716 hE)⟩ ⟨PT.blind, th_recv hK hP (wt_X11_12 hWT ha0).1 he10 rfl, (th_pre (av := [.ref (gR G a0 12), .int 0]) trivial hK hP hok hnd hWT hE)⟩ rfl rfl hl.1 rfl (lv_room (Nat.le_of_ble_eq_true rfl)) dX11_holds_56 ⟨Nat.le_of_ble_eq_true rfl, Nat.le_of_ble_eq_true rfl⟩)) (fun r14 hr14 => ?_)
          refine lv_aload_n hx hb dX11_holds_59 rfl (lv_at hl 1 rfl) ?_
          refine th_get hx hb (ly_X11 hE) hown hK hP ha0.1 he9 rfl 0 (by decide) (wd_359 hE) (fun _ h9 => h9) rfl dX11_holds_60 ?_
          refine lv_aload_n hx hb dX11_holds_63 rfl (lv_at hl 1 rfl) ?_
          refine th_get hx hb (ly_X11 hE) hown hK hP ha0.1 he9 rfl 12 (by decide) (wd_371 hE) (fun _ h9 => h9) rfl dX11_holds_64 ?_
          refine vp_callSi (va_Run.run (va_runV (As := []) (rest := [.ref (gR G a0 0), .int r14]) ⟨hx, hb, hml, hown, noTs⟩ (t_X10_begin l dC dI H.size G cs tt mm (gR G a0 12) ((wt_X11_12 hWT ha0))) ⟨cbE 0 (wd_713 hE) (wd_120 hE) (wd_824 hE) rfl rfl (by decide +kernel) ⟨Nat.le_of_ble_eq_true rfl, Nat.le_of_ble_eq_true rfl⟩, (wd_711 hE), (wd_712 hE)⟩ ⟨PT.blind, th_recv hK hP (wt_X11_12 hWT ha0).1 he10 rfl, (th_pre (av := [.ref (gR G a0 12)]) trivial hK hP hok hnd hWT hE)⟩ rfl rfl hl.1 rfl (lv_room (Nat.le_of_ble_eq_true rfl)) dX11_holds_67 ⟨Nat.le_of_ble_eq_true rfl, Nat.le_of_ble_eq_true rfl⟩)) (fun r15 hr15 => ?_)
          have he16 := ok_X7 hok (wt_X11_0 hWT ha0)
          refine vp_callSi (va_Run.run (va_runV (As := [.int r15]) (rest := [.int r14]) ⟨hx, hb, hml, hown, noTs⟩ (t_X7_orderAt l dC dI H.size G cs tt mm (gR G a0 0) ((wt_X11_0 hWT ha0)) r15) ⟨cbE 1 (wd_614 hE) (wd_116 hE) (wd_797 hE) rfl rfl (by decide +kernel) ⟨Nat.le_of_ble_eq_true rfl, Nat.le_of_ble_eq_true rfl⟩, (wd_612 hE), (wd_613 hE)⟩ ⟨PT.blind, th_recv hK hP (wt_X11_0 hWT ha0).1 he16 rfl, (th_pre (av := [.ref (gR G a0 0), .int r15]) trivial hK hP hok hnd hWT hE)⟩ rfl rfl hl.1 rfl (lv_room (Nat.le_of_ble_eq_true rfl)) dX11_holds_70 ⟨Nat.le_of_ble_eq_true rfl, Nat.le_of_ble_eq_true rfl⟩)) (fun r17 hr17 => ?_)
          refine vp_callSi (va_Run.run (va_runS (As := [.int r14, .int r17]) (rest := []) ⟨hx, hb, hml, hown, noTs⟩ (t_X11_orderIn l dC dI H.size G cs tt mm r14 r17) ⟨cbE 2 (wd_1086 hE) (wd_115 hE) (wd_1084 hE) rfl rfl (by decide +kernel) ⟨Nat.le_of_ble_eq_true rfl, Nat.le_of_ble_eq_true rfl⟩, (wd_1085 hE)⟩ ⟨PT.blind, (th_pre (av := [.int r14, .int r17]) trivial hK hP hok hnd hWT hE)⟩ rfl rfl hl.1 rfl (lv_room (Nat.le_of_ble_eq_true rfl)) dX11_holds_73 ⟨Nat.le_of_ble_eq_true rfl, Nat.le_of_ble_eq_true rfl⟩)) (fun r18 hr18 => ?_)
          refine lv_istore (lv' := [(4, .int r18), (3, .int r7), (0, .ref a0), (1, .int v1), (2, .int v2)]) hx hb dX11_holds_76 hl (by decide) rfl (fun ls hl => ?_)
          refine lv_aload_n hx hb dX11_holds_78 rfl (lv_at hl 2 rfl) ?_
          refine lv_aload_n hx hb dX11_holds_79 rfl (lv_at hl 2 rfl) ?_
          refine th_get hx hb (ly_X11 hE) hown hK hP ha0.1 he9 rfl 18 (by decide) (wd_377 hE) (fun _ h9 => h9) rfl dX11_holds_80 ?_
          refine lv_aload_n hx hb dX11_holds_83 rfl (lv_at hl 2 rfl) ?_
          refine th_get hx hb (ly_X11 hE) hown hK hP ha0.1 he9 rfl 0 (by decide) (wd_359 hE) (fun _ h9 => h9) rfl dX11_holds_84 ?_
          refine lv_aload_n hx hb dX11_holds_87 rfl (lv_at hl 2 rfl) ?_
          refine th_get hx hb (ly_X11 hE) hown hK hP ha0.1 he9 rfl 12 (by decide) (wd_371 hE) (fun _ h9 => h9) rfl dX11_holds_88 ?_
          refine vp_callSi (va_Run.run (va_runV (As := []) (rest := [.ref (gR G a0 0), .ref (gR G a0 18), .ref a0]) ⟨hx, hb, hml, hown, noTs⟩ (t_X10_begin l dC dI H.size G cs tt mm (gR G a0 12) ((wt_X11_12 hWT ha0))) ⟨cbE 0 (wd_713 hE) (wd_120 hE) (wd_824 hE) rfl rfl (by decide +kernel) ⟨Nat.le_of_ble_eq_true rfl, Nat.le_of_ble_eq_true rfl⟩, (wd_711 hE), (wd_712 hE)⟩ ⟨PT.blind, th_recv hK hP (wt_X11_12 hWT ha0).1 he10 rfl, (th_pre (av := [.ref (gR G a0 12)]) trivial hK hP hok hnd hWT hE)⟩ rfl rfl hl.1 rfl (lv_room (Nat.le_of_ble_eq_true rfl)) dX11_holds_91 ⟨Nat.le_of_ble_eq_true rfl, Nat.le_of_ble_eq_true rfl⟩)) (fun r19 hr19 => ?_)
          refine lv_iload hx hb dX11_holds_94 (lv_at hl 0 rfl) ?_
          refine lv_iload_n hx hb dX11_holds_96 rfl (lv_at hl 4 rfl) ?_
          have he20 := ok_X1 hok (wt_X11_18 hWT ha0)
          refine tc_l hAL hS hA (va_runV (As := [.ref (gR G a0 0), .int r19, .int r18, .int v2]) (rest := [.ref a0]) ⟨hx, hb, hml, hown, noTs⟩ (t_X1_held l dC dI H.size G cs tt mm (gR G a0 18) ((wt_X11_18 hWT ha0)) (gR G a0 0) ((wt_X11_0 hWT ha0)) r19 r18 v2 (by first | omega | (simp only [i_lt, i_le, i_eq, ti_m9, ti_m1, ti_0, ti_1, ti_2, ti_3, ti_4, ti_5, ti_6, ti_7, ti_9, ti_12, ti_20, ti_99, ti_700, ti_24, ti_156, ti_72, ti_8, ti_60, ti_543, ti_10, ti_33, ti_51, ti_178, ti_119, ti_111, ti_114, ti_100, ti_32, ti_62, ti_59, ti_48, ti_701, ti_97, ti_122, ti_57, ti_73, ti_128, ti_61, nt12] at c1 c5 c8 c13 ⊢; omega)) (by first | omega | (simp only [i_lt, i_le, i_eq, ti_m9, ti_m1, ti_0, ti_1, ti_2, ti_3, ti_4, ti_5, ti_6, ti_7, ti_9, ti_12, ti_20, ti_99, ti_700, ti_24, ti_156, ti_72, ti_8, ti_60, ti_543, ti_10, ti_33, ti_51, ti_178, ti_119, ti_111, ti_114, ti_100, ti_32, ti_62, ti_59, ti_48, ti_701, ti_97, ti_122, ti_57, ti_73, ti_128, ti_61, nt12] at c1 c5 c8 c13 ⊢; omega))) ⟨cbE 4 (wd_1271 hE) (wd_125 hE) (wd_1268 hE) rfl rfl (by decide +kernel) ⟨Nat.le_of_ble_eq_true rfl, Nat.le_of_ble_eq_true rfl⟩, (wd_1269 hE), (wd_1270 hE)⟩ ⟨PT.blind, th_recv hK hP (wt_X11_18 hWT ha0).1 he20 rfl, (th_pre (av := [.ref (gR G a0 18), .ref (gR G a0 0), .int r19, .int r18, .int v2]) trivial hK hP hok hnd hWT hE)⟩ rfl rfl hl.1 rfl (lv_room (Nat.le_of_ble_eq_true rfl)) dX11_holds_97 ⟨Nat.le_of_ble_eq_true rfl, Nat.le_of_ble_eq_true rfl⟩) (fun r21 f21 H locs hr21 hok hP hS => ?_)
          obtain ⟨y5_22, hy4_22, hy7_22, he22⟩ := ok_X11 hok ha0
          refine tc_l hAL hS hA (va_runV (As := [.long r21]) (rest := []) ⟨hx, hb, hml, hown, noTs⟩ (t_X11_answerLong l dC dI H.size G cs tt mm a0 ha0 r21) ⟨cbE 1 (wd_1277 hE) (wd_115 hE) (wd_1274 hE) rfl rfl (by decide +kernel) ⟨Nat.le_of_ble_eq_true rfl, Nat.le_of_ble_eq_true rfl⟩, (wd_1276 hE), (wd_49 hE)⟩ ⟨PT.blind, th_recv hK hP ha0.1 he22 rfl, (th_pre (av := [.ref a0, .long r21]) trivial hK hP hok hnd hWT hE)⟩ rfl rfl hl.1 rfl (lv_room (Nat.le_of_ble_eq_true rfl)) dX11_holds_100 ⟨Nat.le_of_ble_eq_true rfl, Nat.le_of_ble_eq_true rfl⟩) (fun r23 f23 H locs hr23 hok hP hS => ?_)
          exact W.lret (v := r23) hx hb hr (fun t ht hW => ⟨⟨r23, f23, rfl, trivial, hok, by rw [ht]; exact hP⟩, hS.F ht⟩) hS.2.2 dX11_holds_103
        · refine lv_aload_n hx hb dX11_holds_44 rfl (lv_at hl 1 rfl) ?_
          refine lv_iconst (v := 5) hx hb dX11_holds_45 (by decide) ?_
          refine tc_i hAL hS hA (va_runV (As := [.int 5]) (rest := []) ⟨hx, hb, hml, hown, noTs⟩ (t_X11_fail l dC dI H.size G cs tt mm a0 ha0 5) ⟨cbE 1 (wd_436 hE) (wd_115 hE) (wd_433 hE) rfl rfl (by decide +kernel) ⟨Nat.le_of_ble_eq_true rfl, Nat.le_of_ble_eq_true rfl⟩, (wd_435 hE), (wd_1 hE)⟩ ⟨PT.blind, th_recv hK hP ha0.1 he9 rfl, (th_pre (av := [.ref a0, .int 5]) trivial hK hP hok hnd hWT hE)⟩ rfl rfl hl.1 rfl (lv_room (Nat.le_of_ble_eq_true rfl)) dX11_holds_46 ⟨Nat.le_of_ble_eq_true rfl, Nat.le_of_ble_eq_true rfl⟩) (fun r24 f24 H locs hr24 hok hP hS => ?_)
          subst hr24
          refine lv_i2l hx hb dX11_holds_49 rfl ?_
          refine lv_topl (fun x25 _ => ?_)
          exact W.lret (v := x25) hx hb hr (fun t ht hW => ⟨⟨x25, f24, rfl, trivial, hok, by rw [ht]; exact hP⟩, hS.F ht⟩) hS.2.2 dX11_holds_50
      · refine lv_aload_n hx hb dX11_holds_27 rfl (lv_at hl 1 rfl) ?_
        refine lv_iload_n hx hb dX11_holds_28 rfl (lv_at hl 0 rfl) ?_
        obtain ⟨y5_26, hy4_26, hy7_26, he26⟩ := ok_X11 hok ha0
        refine tc_i hAL hS hA (va_runV (As := [.int r7]) (rest := []) ⟨hx, hb, hml, hown, noTs⟩ (t_X11_fail l dC dI H.size G cs tt mm a0 ha0 r7) ⟨cbE 1 (wd_436 hE) (wd_115 hE) (wd_433 hE) rfl rfl (by decide +kernel) ⟨Nat.le_of_ble_eq_true rfl, Nat.le_of_ble_eq_true rfl⟩, (wd_435 hE), (wd_1 hE)⟩ ⟨PT.blind, th_recv hK hP ha0.1 he26 rfl, (th_pre (av := [.ref a0, .int r7]) trivial hK hP hok hnd hWT hE)⟩ rfl rfl hl.1 rfl (lv_room (Nat.le_of_ble_eq_true rfl)) dX11_holds_29 ⟨Nat.le_of_ble_eq_true rfl, Nat.le_of_ble_eq_true rfl⟩) (fun r27 f27 H locs hr27 hok hP hS => ?_)
        subst hr27
        refine lv_i2l hx hb dX11_holds_32 rfl ?_
        refine lv_topl (fun x28 _ => ?_)
        exact W.lret (v := x28) hx hb hr (fun t ht hW => ⟨⟨x28, f27, rfl, trivial, hok, by rw [ht]; exact hP⟩, hS.F ht⟩) hS.2.2 dX11_holds_33
    · refine lv_aload_n hx hb dX11_holds_10 rfl (lv_at hl 0 rfl) ?_
      refine lv_iconst (v := 1) hx hb dX11_holds_11 (by decide) ?_
      obtain ⟨y5_29, hy4_29, hy7_29, he29⟩ := ok_X11 hok ha0
      refine tc_i hAL hS hA (va_runV (As := [.int 1]) (rest := []) ⟨hx, hb, hml, hown, noTs⟩ (t_X11_fail l dC dI s.heap.size G cs tt mm a0 ha0 1) ⟨cbE 1 (wd_436 hE) (wd_115 hE) (wd_433 hE) rfl rfl (by decide +kernel) ⟨Nat.le_of_ble_eq_true rfl, Nat.le_of_ble_eq_true rfl⟩, (wd_435 hE), (wd_1 hE)⟩ ⟨PT.blind, th_recv hK hP ha0.1 he29 rfl, (th_pre (av := [.ref a0, .int 1]) trivial hK hP hok hnd hWT hE)⟩ rfl rfl hl.1 rfl (lv_room (Nat.le_of_ble_eq_true rfl)) dX11_holds_12 ⟨Nat.le_of_ble_eq_true rfl, Nat.le_of_ble_eq_true rfl⟩) (fun r30 f30 H locs hr30 hok hP hS => ?_)
      subst hr30
      refine lv_i2l hx hb dX11_holds_15 rfl ?_
      refine lv_topl (fun x31 _ => ?_)
      exact W.lret (v := x31) hx hb hr (fun t ht hW => ⟨⟨x31, f30, rfl, trivial, hok, by rw [ht]; exact hP⟩, hS.F ht⟩) hS.2.2 dX11_holds_16

set_option maxHeartbeats 4000000 in
set_option maxRecDepth 100000 in
theorem t_X11_axis (l : Launch) (dC : Nat → ClassId) (dI : Nat → Nat → Nat) (sz : Nat) (G : GT) (cs : Nat → ClassId) (tt mm : Nat) (a0 : Nat) (ha0 : Ty G a0 11) (v1 : Int32) (v2 : Int32) : Met l yX11_axis [.code yX11_axis cX11_axis 4 (some .int)] ({ frames := 6, cells := 0, slots := 0, locals := 240 }) (PT [.ref a0, .int v1, .int v2] sz dC dI G cs tt mm (fun _ => True)) (va_Qi (fun (r : Int32) (u : Nat → va_E) => True) (BT dC dI G cs tt mm) (AT G sz)) 0 0 (AT G sz) := by
  refine Met.ofW (cc := cX11_axis) (maxL := 4) (ret := (some .int)) (by decide) rfl ?_
  intro p e s m args below meth c s₁ B hml hv
  obtain ⟨rfl, hsz, ⟨f0, hok, hP, hX⟩, hK, hnd, hWT, hE⟩ := hv
  have hx := B.exec
  have hb := B.bytes
  have hr := B.returns
  have hown : s.vm.findClass RX11 = some m.cls := findClass_of_methodNamed B.named
  have hlocks := B.notSynchronized
  subst hsz
  have hAL : ∀ a, a ∈ gL G → AT G s.heap.size a := fun a h => Or.inl h
  have hA : ∀ q : Nat, s.heap.size ≤ q → AT G s.heap.size q := fun q h => Or.inr h
  have hS : va_S (AT G s.heap.size) s.heap s.heap [] := va_S.rf
  have hl := lv_entry ([.ref a0, .int v1, .int v2]) (n := 4) (Nat.le_of_ble_eq_true rfl)
  rw [lg_entry_eq]
  generalize (lg_sl ([.ref a0, .int v1, .int v2]) ++ List.replicate (4 - (lg_sl ([.ref a0, .int v1, .int v2])).length) Slot.unset).toArray = ls at hl ⊢
  have hl : lv_has ls 4 [(0, .ref a0), (1, .int v1), (2, .int v2)] := hl
  refine lv_iload_n hx hb dX11_axis_0 rfl (lv_at hl 2 rfl) ?_
  refine lv_if_ge (tgt := 10) hx hb dX11_axis_1 (by decide) (fun c1 => ?_) (fun c1 => ?_)
  · refine lv_aload_n hx hb dX11_axis_10 rfl (lv_at hl 0 rfl) ?_
    refine lv_iload_n hx hb dX11_axis_11 rfl (lv_at hl 1 rfl) ?_
    obtain ⟨y5_2, hy4_2, hy7_2, he2⟩ := ok_X11 hok ha0
    refine tc_i hAL hS hA (va_runV (As := [.int v1]) (rest := []) ⟨hx, hb, hml, hown, noTs⟩ (t_X11_readCore l dC dI s.heap.size G cs tt mm a0 ha0 v1) ⟨cbE 1 (wd_1079 hE) (wd_115 hE) (wd_1076 hE) rfl rfl (by decide +kernel) ⟨Nat.le_of_ble_eq_true rfl, Nat.le_of_ble_eq_true rfl⟩, (wd_1078 hE), (wd_38 hE)⟩ ⟨PT.blind, th_recv hK hP ha0.1 he2 rfl, (th_pre (av := [.ref a0, .int v1]) trivial hK hP hok hnd hWT hE)⟩ rfl rfl hl.1 rfl (lv_room (Nat.le_of_ble_eq_true rfl)) dX11_axis_12 ⟨Nat.le_of_ble_eq_true rfl, Nat.le_of_ble_eq_true rfl⟩) (fun r3 f3 H locs hr3 hok hP hS => ?_)
    refine lv_istore_n (lv' := [(3, .int r3), (0, .ref a0), (1, .int v1), (2, .int v2)]) hx hb dX11_axis_15 rfl hl (by decide) rfl (fun ls hl => ?_)
    refine lv_iload_n hx hb dX11_axis_16 rfl (lv_at hl 0 rfl) ?_
    refine lv_if_eq (tgt := 26) hx hb dX11_axis_17 (by decide) (fun c4 => ?_) (fun c4 => ?_)
    · refine lv_aload_n hx hb dX11_axis_26 rfl (lv_at hl 1 rfl) ?_
      obtain ⟨y5_5, hy4_5, hy7_5, he5⟩ := ok_X11 hok ha0
      refine th_get hx hb (ly_X11 hE) hown hK hP ha0.1 he5 rfl 12 (by decide) (wd_371 hE) (fun _ h9 => h9) rfl dX11_axis_27 ?_
      obtain ⟨y2_6, y3_6, hy3_6, he6⟩ := ok_X10 hok (wt_X11_12 hWT ha0)
      refine vp_callSi (va_Run.run (va_runV (As := []) (rest := []) ⟨hx, hb, hml, hown, noTs⟩ (t_X10_size l dC dI H.size G cs tt mm (gR G a0 12) ((wt_X11_12 hWT ha0)) y2_6 y3_6) ⟨cbE 0 (wd_666 hE) (wd_120 hE) (wd_834 hE) rfl rfl (by decide +kernel) ⟨Nat.le_of_ble_eq_true rfl, Nat.le_of_ble_eq_true rfl⟩, (wd_664 hE), (wd_665 hE)⟩ ⟨PT.blind, th_recv hK hP (wt_X11_12 hWT ha0).1 he6 rfl, (th_pre (av := [.ref (gR G a0 12)]) he6 hK hP hok hnd hWT hE)⟩ rfl rfl hl.1 rfl (lv_room (Nat.le_of_ble_eq_true rfl)) dX11_axis_30 ⟨Nat.le_of_ble_eq_true rfl, Nat.le_of_ble_eq_true rfl⟩)) (fun r7 hr7 => ?_)
      subst hr7
      have nt8 : (nI y3_6).toInt = ((y3_6 : Nat) : Int) := nI_toInt (by omega)
      refine lv_if_ne (tgt := 42) hx hb dX11_axis_33 (by decide) (fun c9 => ?_) (fun c9 => ?_)
      · refine lv_aload_n hx hb dX11_axis_42 rfl (lv_at hl 1 rfl) ?_
        refine lv_aload_n hx hb dX11_axis_43 rfl (lv_at hl 1 rfl) ?_
        refine th_get hx hb (ly_X11 hE) hown hK hP ha0.1 he5 rfl 0 (by decide) (wd_359 hE) (fun _ h9 => h9) rfl dX11_axis_44 ?_
        refine lv_aload_n hx hb dX11_axis_47 rfl (lv_at hl 1 rfl) ?_
        refine th_get hx hb (ly_X11 hE) hown hK hP ha0.1 he5 rfl 12 (by decide) (wd_371 hE) (fun _ h9 => h9) rfl dX11_axis_48 ?_
        refine lv_iload_n hx hb dX11_axis_51 rfl (lv_at hl 3 rfl) ?_
        refine lv_aload_n hx hb dX11_axis_52 rfl (lv_at hl 1 rfl) ?_
        refine th_get hx hb (ly_X11 hE) hown hK hP ha0.1 he5 rfl 12 (by decide) (wd_371 hE) (fun _ h9 => h9) rfl dX11_axis_53 ?_
        refine vp_callSi (va_Run.run (va_runV (As := []) (rest := [.int v2, .ref (gR G a0 12), .ref (gR G a0 0), .ref a0]) ⟨hx, hb, hml, hown, noTs⟩ (t_X10_size l dC dI H.size G cs tt mm (gR G a0 12) ((wt_X11_12 hWT ha0)) y2_6 y3_6) ⟨cbE 0 (wd_666 hE) (wd_120 hE) (wd_834 hE) rfl rfl (by decide +kernel) ⟨Nat.le_of_ble_eq_true rfl, Nat.le_of_ble_eq_true rfl⟩, (wd_664 hE), (wd_665 hE)⟩ ⟨PT.blind, th_recv hK hP (wt_X11_12 hWT ha0).1 he6 rfl, (th_pre (av := [.ref (gR G a0 12)]) he6 hK hP hok hnd hWT hE)⟩ rfl rfl hl.1 rfl (lv_room (Nat.le_of_ble_eq_true rfl)) dX11_axis_56 ⟨Nat.le_of_ble_eq_true rfl, Nat.le_of_ble_eq_true rfl⟩)) (fun r10 hr10 => ?_)
        subst hr10
        refine vp_callSi (va_Run.run (va_runS (As := [.int v2, .int (nI y3_6)]) (rest := [.ref (gR G a0 12), .ref (gR G a0 0), .ref a0]) ⟨hx, hb, hml, hown, noTs⟩ (t_X11_rest l dC dI H.size G cs tt mm v2 (nI y3_6)) ⟨cbE 2 (wd_617 hE) (wd_115 hE) (wd_900 hE) rfl rfl (by decide +kernel) ⟨Nat.le_of_ble_eq_true rfl, Nat.le_of_ble_eq_true rfl⟩, (wd_616 hE)⟩ ⟨PT.blind, (th_pre (av := [.int v2, .int (nI y3_6)]) trivial hK hP hok hnd hWT hE)⟩ rfl rfl hl.1 rfl (lv_room (Nat.le_of_ble_eq_true rfl)) dX11_axis_59 ⟨Nat.le_of_ble_eq_true rfl, Nat.le_of_ble_eq_true rfl⟩)) (fun r11 hr11 => ?_)
        obtain ⟨hra11, hrb11⟩ := hr11
        refine vp_callSi (va_Run.run (va_runV (As := [.int r11]) (rest := [.ref (gR G a0 0), .ref a0]) ⟨hx, hb, hml, hown, noTs⟩ (t_X10_stepAt l dC dI H.size G cs tt mm (gR G a0 12) ((wt_X11_12 hWT ha0)) r11) ⟨cbE 1 (wd_721 hE) (wd_120 hE) (wd_894 hE) rfl rfl (by decide +kernel) ⟨Nat.le_of_ble_eq_true rfl, Nat.le_of_ble_eq_true rfl⟩, (wd_719 hE), (wd_720 hE)⟩ ⟨PT.blind, th_recv hK hP (wt_X11_12 hWT ha0).1 he6 rfl, (th_pre (av := [.ref (gR G a0 12), .int r11]) trivial hK hP hok hnd hWT hE)⟩ rfl rfl hl.1 rfl (lv_room (Nat.le_of_ble_eq_true rfl)) dX11_axis_62 ⟨Nat.le_of_ble_eq_true rfl, Nat.le_of_ble_eq_true rfl⟩)) (fun r12 hr12 => ?_)
        have he13 := ok_X7 hok (wt_X11_0 hWT ha0)
        refine vp_callSi (va_Run.run (va_runV (As := [.int r12]) (rest := [.ref a0]) ⟨hx, hb, hml, hown, noTs⟩ (t_X7_fromVertex l dC dI H.size G cs tt mm (gR G a0 0) ((wt_X11_0 hWT ha0)) r12) ⟨cbE 1 (wd_677 hE) (wd_116 hE) (wd_1282 hE) rfl rfl (by decide +kernel) ⟨Nat.le_of_ble_eq_true rfl, Nat.le_of_ble_eq_true rfl⟩, (wd_675 hE), (wd_676 hE)⟩ ⟨PT.blind, th_recv hK hP (wt_X11_0 hWT ha0).1 he13 rfl, (th_pre (av := [.ref (gR G a0 0), .int r12]) trivial hK hP hok hnd hWT hE)⟩ rfl rfl hl.1 rfl (lv_room (Nat.le_of_ble_eq_true rfl)) dX11_axis_65 ⟨Nat.le_of_ble_eq_true rfl, Nat.le_of_ble_eq_true rfl⟩)) (fun r14 hr14 => ?_)
        refine tc_i hAL hS hA (va_runV (As := [.int r14]) (rest := []) ⟨hx, hb, hml, hown, noTs⟩ (t_X11_answer l dC dI H.size G cs tt mm a0 ha0 r14) ⟨cbE 1 (wd_748 hE) (wd_115 hE) (wd_745 hE) rfl rfl (by decide +kernel) ⟨Nat.le_of_ble_eq_true rfl, Nat.le_of_ble_eq_true rfl⟩, (wd_747 hE), (wd_23 hE)⟩ ⟨PT.blind, th_recv hK hP ha0.1 he5 rfl, (th_pre (av := [.ref a0, .int r14]) trivial hK hP hok hnd hWT hE)⟩ rfl rfl hl.1 rfl (lv_room (Nat.le_of_ble_eq_true rfl)) dX11_axis_68 ⟨Nat.le_of_ble_eq_true rfl, Nat.le_of_ble_eq_true rfl⟩) (fun r15 f15 H locs hr15 hok hP hS => ?_)
        refine W.eq (g2 := F0 m 71 ls [.int r14]) (by rw [hr15]) ?_
        exact W.iret (v := r14) hx hb hr (fun t ht hW => ⟨⟨r14, f15, rfl, trivial, hok, by rw [ht]; exact hP⟩, hS.F ht⟩) hS.2.2 dX11_axis_71
      · refine lv_aload_n hx hb dX11_axis_36 rfl (lv_at hl 1 rfl) ?_
        refine lv_iconst (v := 5) hx hb dX11_axis_37 (by decide) ?_
        refine tc_i hAL hS hA (va_runV (As := [.int 5]) (rest := []) ⟨hx, hb, hml, hown, noTs⟩ (t_X11_fail l dC dI H.size G cs tt mm a0 ha0 5) ⟨cbE 1 (wd_436 hE) (wd_115 hE) (wd_433 hE) rfl rfl (by decide +kernel) ⟨Nat.le_of_ble_eq_true rfl, Nat.le_of_ble_eq_true rfl⟩, (wd_435 hE), (wd_1 hE)⟩ ⟨PT.blind, th_recv hK hP ha0.1 he5 rfl, (th_pre (av := [.ref a0, .int 5]) trivial hK hP hok hnd hWT hE)⟩ rfl rfl hl.1 rfl (lv_room (Nat.le_of_ble_eq_true rfl)) dX11_axis_38 ⟨Nat.le_of_ble_eq_true rfl, Nat.le_of_ble_eq_true rfl⟩) (fun r16 f16 H locs hr16 hok hP hS => ?_)
        subst hr16
        exact W.iret (v := -1) hx hb hr (fun t ht hW => ⟨⟨-1, f16, rfl, trivial, hok, by rw [ht]; exact hP⟩, hS.F ht⟩) hS.2.2 dX11_axis_41
    · refine lv_aload_n hx hb dX11_axis_20 rfl (lv_at hl 1 rfl) ?_
      refine lv_iload_n hx hb dX11_axis_21 rfl (lv_at hl 0 rfl) ?_
      obtain ⟨y5_17, hy4_17, hy7_17, he17⟩ := ok_X11 hok ha0
      refine tc_i hAL hS hA (va_runV (As := [.int r3]) (rest := []) ⟨hx, hb, hml, hown, noTs⟩ (t_X11_fail l dC dI H.size G cs tt mm a0 ha0 r3) ⟨cbE 1 (wd_436 hE) (wd_115 hE) (wd_433 hE) rfl rfl (by decide +kernel) ⟨Nat.le_of_ble_eq_true rfl, Nat.le_of_ble_eq_true rfl⟩, (wd_435 hE), (wd_1 hE)⟩ ⟨PT.blind, th_recv hK hP ha0.1 he17 rfl, (th_pre (av := [.ref a0, .int r3]) trivial hK hP hok hnd hWT hE)⟩ rfl rfl hl.1 rfl (lv_room (Nat.le_of_ble_eq_true rfl)) dX11_axis_22 ⟨Nat.le_of_ble_eq_true rfl, Nat.le_of_ble_eq_true rfl⟩) (fun r18 f18 H locs hr18 hok hP hS => ?_)
      subst hr18
      exact W.iret (v := -1) hx hb hr (fun t ht hW => ⟨⟨-1, f18, rfl, trivial, hok, by rw [ht]; exact hP⟩, hS.F ht⟩) hS.2.2 dX11_axis_25
  · refine lv_aload_n hx hb dX11_axis_4 rfl (lv_at hl 0 rfl) ?_
    refine lv_iconst (v := 1) hx hb dX11_axis_5 (by decide) ?_
    obtain ⟨y5_19, hy4_19, hy7_19, he19⟩ := ok_X11 hok ha0
    refine tc_i hAL hS hA (va_runV (As := [.int 1]) (rest := []) ⟨hx, hb, hml, hown, noTs⟩ (t_X11_fail l dC dI s.heap.size G cs tt mm a0 ha0 1) ⟨cbE 1 (wd_436 hE) (wd_115 hE) (wd_433 hE) rfl rfl (by decide +kernel) ⟨Nat.le_of_ble_eq_true rfl, Nat.le_of_ble_eq_true rfl⟩, (wd_435 hE), (wd_1 hE)⟩ ⟨PT.blind, th_recv hK hP ha0.1 he19 rfl, (th_pre (av := [.ref a0, .int 1]) trivial hK hP hok hnd hWT hE)⟩ rfl rfl hl.1 rfl (lv_room (Nat.le_of_ble_eq_true rfl)) dX11_axis_6 ⟨Nat.le_of_ble_eq_true rfl, Nat.le_of_ble_eq_true rfl⟩) (fun r20 f20 H locs hr20 hok hP hS => ?_)
    subst hr20
    exact W.iret (v := -1) hx hb hr (fun t ht hW => ⟨⟨-1, f20, rfl, trivial, hok, by rw [ht]; exact hP⟩, hS.F ht⟩) hS.2.2 dX11_axis_9

set_option maxHeartbeats 4000000 in
set_option maxRecDepth 100000 in
theorem t_X11_ball (l : Launch) (dC : Nat → ClassId) (dI : Nat → Nat → Nat) (sz : Nat) (G : GT) (cs : Nat → ClassId) (tt mm : Nat) (a0 : Nat) (ha0 : Ty G a0 11) (v1 : Int32) (v2 : Int32) : Met l yX11_ball [.code yX11_ball cX11_ball 3 (some .long)] ({ frames := 5, cells := 0, slots := 0, locals := 200 }) (PT [.ref a0, .int v1, .int v2] sz dC dI G cs tt mm (fun _ => True)) (va_Ql (fun (r : Int64) (u : Nat → va_E) => True) (BT dC dI G cs tt mm) (AT G sz)) 0 0 (AT G sz) := by
  refine Met.ofW (cc := cX11_ball) (maxL := 3) (ret := (some .long)) (by decide) rfl ?_
  intro p e s m args below meth c s₁ B hml hv
  obtain ⟨rfl, hsz, ⟨f0, hok, hP, hX⟩, hK, hnd, hWT, hE⟩ := hv
  have hx := B.exec
  have hb := B.bytes
  have hr := B.returns
  have hown : s.vm.findClass RX11 = some m.cls := findClass_of_methodNamed B.named
  have hlocks := B.notSynchronized
  subst hsz
  have hAL : ∀ a, a ∈ gL G → AT G s.heap.size a := fun a h => Or.inl h
  have hA : ∀ q : Nat, s.heap.size ≤ q → AT G s.heap.size q := fun q h => Or.inr h
  have hS : va_S (AT G s.heap.size) s.heap s.heap [] := va_S.rf
  have hl := lv_entry ([.ref a0, .int v1, .int v2]) (n := 3) (Nat.le_of_ble_eq_true rfl)
  rw [lg_entry_eq]
  generalize (lg_sl ([.ref a0, .int v1, .int v2]) ++ List.replicate (3 - (lg_sl ([.ref a0, .int v1, .int v2])).length) Slot.unset).toArray = ls at hl ⊢
  have hl : lv_has ls 3 [(0, .ref a0), (1, .int v1), (2, .int v2)] := hl
  refine lv_iload_n hx hb dX11_ball_0 rfl (lv_at hl 2 rfl) ?_
  refine lv_if_lt (tgt := 10) hx hb dX11_ball_1 (by decide) (fun c1 => ?_) (fun c1 => ?_)
  · refine lv_aload_n hx hb dX11_ball_10 rfl (lv_at hl 0 rfl) ?_
    refine lv_iconst (v := 1) hx hb dX11_ball_11 (by decide) ?_
    obtain ⟨y5_2, hy4_2, hy7_2, he2⟩ := ok_X11 hok ha0
    refine tc_i hAL hS hA (va_runV (As := [.int 1]) (rest := []) ⟨hx, hb, hml, hown, noTs⟩ (t_X11_fail l dC dI s.heap.size G cs tt mm a0 ha0 1) ⟨cbE 1 (wd_436 hE) (wd_115 hE) (wd_433 hE) rfl rfl (by decide +kernel) ⟨Nat.le_of_ble_eq_true rfl, Nat.le_of_ble_eq_true rfl⟩, (wd_435 hE), (wd_1 hE)⟩ ⟨PT.blind, th_recv hK hP ha0.1 he2 rfl, (th_pre (av := [.ref a0, .int 1]) trivial hK hP hok hnd hWT hE)⟩ rfl rfl hl.1 rfl (lv_room (Nat.le_of_ble_eq_true rfl)) dX11_ball_12 ⟨Nat.le_of_ble_eq_true rfl, Nat.le_of_ble_eq_true rfl⟩) (fun r3 f3 H locs hr3 hok hP hS => ?_)
    subst hr3
    refine lv_i2l hx hb dX11_ball_15 rfl ?_
    refine lv_topl (fun x4 _ => ?_)
    exact W.lret (v := x4) hx hb hr (fun t ht hW => ⟨⟨x4, f3, rfl, trivial, hok, by rw [ht]; exact hP⟩, hS.F ht⟩) hS.2.2 dX11_ball_16
  · refine lv_iload_n hx hb dX11_ball_4 rfl (lv_at hl 2 rfl) ?_
    refine lv_bipush (v := 12) hx hb dX11_ball_5 (by decide) ?_
    refine lv_icmp_le (tgt := 17) hx hb dX11_ball_7 (by decide) (fun c5 => ?_) (fun c5 => ?_)
    · refine lv_aload_n hx hb dX11_ball_17 rfl (lv_at hl 0 rfl) ?_
      obtain ⟨y5_6, hy4_6, hy7_6, he6⟩ := ok_X11 hok ha0
      refine th_get hx hb (ly_X11 hE) hown hK hP ha0.1 he6 rfl 0 (by decide) (wd_359 hE) (fun _ h9 => h9) rfl dX11_ball_18 ?_
      refine lv_iload_n hx hb dX11_ball_21 rfl (lv_at hl 1 rfl) ?_
      have he7 := ok_X7 hok (wt_X11_0 hWT ha0)
      refine vp_callSi (va_Run.run (va_runV (As := [.int v1]) (rest := []) ⟨hx, hb, hml, hown, noTs⟩ (t_X7_hasVertex l dC dI s.heap.size G cs tt mm (gR G a0 0) ((wt_X11_0 hWT ha0)) v1) ⟨cbE 1 (wd_606 hE) (wd_116 hE) (wd_796 hE) rfl rfl (by decide +kernel) ⟨Nat.le_of_ble_eq_true rfl, Nat.le_of_ble_eq_true rfl⟩, (wd_604 hE), (wd_605 hE)⟩ ⟨PT.blind, th_recv hK hP (wt_X11_0 hWT ha0).1 he7 rfl, (th_pre (av := [.ref (gR G a0 0), .int v1]) trivial hK hP hok hnd hWT hE)⟩ rfl rfl hl.1 rfl (lv_room (Nat.le_of_ble_eq_true rfl)) dX11_ball_22 ⟨Nat.le_of_ble_eq_true rfl, Nat.le_of_ble_eq_true rfl⟩)) (fun r8 hr8 => ?_)
      refine lv_if_eq (tgt := 49) hx hb dX11_ball_25 (by decide) (fun c9 => ?_) (fun c9 => ?_)
      · refine lv_aload_n hx hb dX11_ball_49 rfl (lv_at hl 0 rfl) ?_
        refine lv_iconst (v := 2) hx hb dX11_ball_50 (by decide) ?_
        refine tc_i hAL hS hA (va_runV (As := [.int 2]) (rest := []) ⟨hx, hb, hml, hown, noTs⟩ (t_X11_fail l dC dI s.heap.size G cs tt mm a0 ha0 2) ⟨cbE 1 (wd_436 hE) (wd_115 hE) (wd_433 hE) rfl rfl (by decide +kernel) ⟨Nat.le_of_ble_eq_true rfl, Nat.le_of_ble_eq_true rfl⟩, (wd_435 hE), (wd_1 hE)⟩ ⟨PT.blind, th_recv hK hP ha0.1 he6 rfl, (th_pre (av := [.ref a0, .int 2]) trivial hK hP hok hnd hWT hE)⟩ rfl rfl hl.1 rfl (lv_room (Nat.le_of_ble_eq_true rfl)) dX11_ball_51 ⟨Nat.le_of_ble_eq_true rfl, Nat.le_of_ble_eq_true rfl⟩) (fun r10 f10 H locs hr10 hok hP hS => ?_)
        subst hr10
        refine lv_i2l hx hb dX11_ball_54 rfl ?_
        refine lv_topl (fun x11 _ => ?_)
        exact W.lret (v := x11) hx hb hr (fun t ht hW => ⟨⟨x11, f10, rfl, trivial, hok, by rw [ht]; exact hP⟩, hS.F ht⟩) hS.2.2 dX11_ball_55
      · refine lv_aload_n hx hb dX11_ball_28 rfl (lv_at hl 0 rfl) ?_
        refine lv_aload_n hx hb dX11_ball_29 rfl (lv_at hl 0 rfl) ?_
        refine th_get hx hb (ly_X11 hE) hown hK hP ha0.1 he6 rfl 18 (by decide) (wd_377 hE) (fun _ h9 => h9) rfl dX11_ball_30 ?_
        refine lv_aload_n hx hb dX11_ball_33 rfl (lv_at hl 0 rfl) ?_
        refine th_get hx hb (ly_X11 hE) hown hK hP ha0.1 he6 rfl 0 (by decide) (wd_359 hE) (fun _ h9 => h9) rfl dX11_ball_34 ?_
        refine lv_iload_n hx hb dX11_ball_37 rfl (lv_at hl 1 rfl) ?_
        refine lv_iconst (v := 1) hx hb dX11_ball_38 (by decide) ?_
        refine lv_iload_n hx hb dX11_ball_39 rfl (lv_at hl 2 rfl) ?_
        have he12 := ok_X1 hok (wt_X11_18 hWT ha0)
        refine tc_l hAL hS hA (va_runV (As := [.ref (gR G a0 0), .int v1, .int 1, .int v2]) (rest := [.ref a0]) ⟨hx, hb, hml, hown, noTs⟩ (t_X1_held l dC dI s.heap.size G cs tt mm (gR G a0 18) ((wt_X11_18 hWT ha0)) (gR G a0 0) ((wt_X11_0 hWT ha0)) v1 1 v2 (by first | omega | (simp only [i_lt, i_le, i_eq, ti_m9, ti_m1, ti_0, ti_1, ti_2, ti_3, ti_4, ti_5, ti_6, ti_7, ti_9, ti_12, ti_20, ti_99, ti_700, ti_24, ti_156, ti_72, ti_8, ti_60, ti_543, ti_10, ti_33, ti_51, ti_178, ti_119, ti_111, ti_114, ti_100, ti_32, ti_62, ti_59, ti_48, ti_701, ti_97, ti_122, ti_57, ti_73, ti_128, ti_61] at c1 c5 c9 ⊢; omega)) (by first | omega | (simp only [i_lt, i_le, i_eq, ti_m9, ti_m1, ti_0, ti_1, ti_2, ti_3, ti_4, ti_5, ti_6, ti_7, ti_9, ti_12, ti_20, ti_99, ti_700, ti_24, ti_156, ti_72, ti_8, ti_60, ti_543, ti_10, ti_33, ti_51, ti_178, ti_119, ti_111, ti_114, ti_100, ti_32, ti_62, ti_59, ti_48, ti_701, ti_97, ti_122, ti_57, ti_73, ti_128, ti_61] at c1 c5 c9 ⊢; omega))) ⟨cbE 4 (wd_1271 hE) (wd_125 hE) (wd_1268 hE) rfl rfl (by decide +kernel) ⟨Nat.le_of_ble_eq_true rfl, Nat.le_of_ble_eq_true rfl⟩, (wd_1269 hE), (wd_1270 hE)⟩ ⟨PT.blind, th_recv hK hP (wt_X11_18 hWT ha0).1 he12 rfl, (th_pre (av := [.ref (gR G a0 18), .ref (gR G a0 0), .int v1, .int 1, .int v2]) trivial hK hP hok hnd hWT hE)⟩ rfl rfl hl.1 rfl (lv_room (Nat.le_of_ble_eq_true rfl)) dX11_ball_40 ⟨Nat.le_of_ble_eq_true rfl, Nat.le_of_ble_eq_true rfl⟩) (fun r13 f13 H locs hr13 hok hP hS => ?_)
        obtain ⟨y5_14, hy4_14, hy7_14, he14⟩ := ok_X11 hok ha0
        refine tc_l hAL hS hA (va_runV (As := [.long r13]) (rest := []) ⟨hx, hb, hml, hown, noTs⟩ (t_X11_answerLong l dC dI H.size G cs tt mm a0 ha0 r13) ⟨cbE 1 (wd_1277 hE) (wd_115 hE) (wd_1274 hE) rfl rfl (by decide +kernel) ⟨Nat.le_of_ble_eq_true rfl, Nat.le_of_ble_eq_true rfl⟩, (wd_1276 hE), (wd_49 hE)⟩ ⟨PT.blind, th_recv hK hP ha0.1 he14 rfl, (th_pre (av := [.ref a0, .long r13]) trivial hK hP hok hnd hWT hE)⟩ rfl rfl hl.1 rfl (lv_room (Nat.le_of_ble_eq_true rfl)) dX11_ball_43 ⟨Nat.le_of_ble_eq_true rfl, Nat.le_of_ble_eq_true rfl⟩) (fun r15 f15 H locs hr15 hok hP hS => ?_)
        refine lv_goto (tgt := 55) hx hb dX11_ball_46 (by decide) ?_
        exact W.lret (v := r15) hx hb hr (fun t ht hW => ⟨⟨r15, f15, rfl, trivial, hok, by rw [ht]; exact hP⟩, hS.F ht⟩) hS.2.2 dX11_ball_55
    · refine lv_aload_n hx hb dX11_ball_10 rfl (lv_at hl 0 rfl) ?_
      refine lv_iconst (v := 1) hx hb dX11_ball_11 (by decide) ?_
      obtain ⟨y5_16, hy4_16, hy7_16, he16⟩ := ok_X11 hok ha0
      refine tc_i hAL hS hA (va_runV (As := [.int 1]) (rest := []) ⟨hx, hb, hml, hown, noTs⟩ (t_X11_fail l dC dI s.heap.size G cs tt mm a0 ha0 1) ⟨cbE 1 (wd_436 hE) (wd_115 hE) (wd_433 hE) rfl rfl (by decide +kernel) ⟨Nat.le_of_ble_eq_true rfl, Nat.le_of_ble_eq_true rfl⟩, (wd_435 hE), (wd_1 hE)⟩ ⟨PT.blind, th_recv hK hP ha0.1 he16 rfl, (th_pre (av := [.ref a0, .int 1]) trivial hK hP hok hnd hWT hE)⟩ rfl rfl hl.1 rfl (lv_room (Nat.le_of_ble_eq_true rfl)) dX11_ball_12 ⟨Nat.le_of_ble_eq_true rfl, Nat.le_of_ble_eq_true rfl⟩) (fun r17 f17 H locs hr17 hok hP hS => ?_)
      subst hr17
      refine lv_i2l hx hb dX11_ball_15 rfl ?_
      refine lv_topl (fun x18 _ => ?_)
      exact W.lret (v := x18) hx hb hr (fun t ht hW => ⟨⟨x18, f17, rfl, trivial, hok, by rw [ht]; exact hP⟩, hS.F ht⟩) hS.2.2 dX11_ball_16

set_option maxHeartbeats 4000000 in
set_option maxRecDepth 100000 in
theorem t_X11_sphere (l : Launch) (dC : Nat → ClassId) (dI : Nat → Nat → Nat) (sz : Nat) (G : GT) (cs : Nat → ClassId) (tt mm : Nat) (a0 : Nat) (ha0 : Ty G a0 11) (v1 : Int32) (v2 : Int32) : Met l yX11_sphere [.code yX11_sphere cX11_sphere 3 (some .long)] ({ frames := 6, cells := 0, slots := 0, locals := 240 }) (PT [.ref a0, .int v1, .int v2] sz dC dI G cs tt mm (fun _ => True)) (va_Ql (fun (r : Int64) (u : Nat → va_E) => True) (BT dC dI G cs tt mm) (AT G sz)) 0 0 (AT G sz) := by
  refine Met.ofW (cc := cX11_sphere) (maxL := 3) (ret := (some .long)) (by decide) rfl ?_
  intro p e s m args below meth c s₁ B hml hv
  obtain ⟨rfl, hsz, ⟨f0, hok, hP, hX⟩, hK, hnd, hWT, hE⟩ := hv
  have hx := B.exec
  have hb := B.bytes
  have hr := B.returns
  have hown : s.vm.findClass RX11 = some m.cls := findClass_of_methodNamed B.named
  have hlocks := B.notSynchronized
  subst hsz
  have hAL : ∀ a, a ∈ gL G → AT G s.heap.size a := fun a h => Or.inl h
  have hA : ∀ q : Nat, s.heap.size ≤ q → AT G s.heap.size q := fun q h => Or.inr h
  have hS : va_S (AT G s.heap.size) s.heap s.heap [] := va_S.rf
  have hl := lv_entry ([.ref a0, .int v1, .int v2]) (n := 3) (Nat.le_of_ble_eq_true rfl)
  rw [lg_entry_eq]
  generalize (lg_sl ([.ref a0, .int v1, .int v2]) ++ List.replicate (3 - (lg_sl ([.ref a0, .int v1, .int v2])).length) Slot.unset).toArray = ls at hl ⊢
  have hl : lv_has ls 3 [(0, .ref a0), (1, .int v1), (2, .int v2)] := hl
  refine lv_iload_n hx hb dX11_sphere_0 rfl (lv_at hl 2 rfl) ?_
  refine lv_if_lt (tgt := 10) hx hb dX11_sphere_1 (by decide) (fun c1 => ?_) (fun c1 => ?_)
  · refine lv_aload_n hx hb dX11_sphere_10 rfl (lv_at hl 0 rfl) ?_
    refine lv_iconst (v := 1) hx hb dX11_sphere_11 (by decide) ?_
    obtain ⟨y5_2, hy4_2, hy7_2, he2⟩ := ok_X11 hok ha0
    refine tc_i hAL hS hA (va_runV (As := [.int 1]) (rest := []) ⟨hx, hb, hml, hown, noTs⟩ (t_X11_fail l dC dI s.heap.size G cs tt mm a0 ha0 1) ⟨cbE 1 (wd_436 hE) (wd_115 hE) (wd_433 hE) rfl rfl (by decide +kernel) ⟨Nat.le_of_ble_eq_true rfl, Nat.le_of_ble_eq_true rfl⟩, (wd_435 hE), (wd_1 hE)⟩ ⟨PT.blind, th_recv hK hP ha0.1 he2 rfl, (th_pre (av := [.ref a0, .int 1]) trivial hK hP hok hnd hWT hE)⟩ rfl rfl hl.1 rfl (lv_room (Nat.le_of_ble_eq_true rfl)) dX11_sphere_12 ⟨Nat.le_of_ble_eq_true rfl, Nat.le_of_ble_eq_true rfl⟩) (fun r3 f3 H locs hr3 hok hP hS => ?_)
    subst hr3
    refine lv_i2l hx hb dX11_sphere_15 rfl ?_
    refine lv_topl (fun x4 _ => ?_)
    exact W.lret (v := x4) hx hb hr (fun t ht hW => ⟨⟨x4, f3, rfl, trivial, hok, by rw [ht]; exact hP⟩, hS.F ht⟩) hS.2.2 dX11_sphere_16
  · refine lv_iload_n hx hb dX11_sphere_4 rfl (lv_at hl 2 rfl) ?_
    refine lv_bipush (v := 12) hx hb dX11_sphere_5 (by decide) ?_
    refine lv_icmp_le (tgt := 17) hx hb dX11_sphere_7 (by decide) (fun c5 => ?_) (fun c5 => ?_)
    · refine lv_aload_n hx hb dX11_sphere_17 rfl (lv_at hl 0 rfl) ?_
      obtain ⟨y5_6, hy4_6, hy7_6, he6⟩ := ok_X11 hok ha0
      refine th_get hx hb (ly_X11 hE) hown hK hP ha0.1 he6 rfl 0 (by decide) (wd_359 hE) (fun _ h9 => h9) rfl dX11_sphere_18 ?_
      refine lv_iload_n hx hb dX11_sphere_21 rfl (lv_at hl 1 rfl) ?_
      have he7 := ok_X7 hok (wt_X11_0 hWT ha0)
      refine vp_callSi (va_Run.run (va_runV (As := [.int v1]) (rest := []) ⟨hx, hb, hml, hown, noTs⟩ (t_X7_hasVertex l dC dI s.heap.size G cs tt mm (gR G a0 0) ((wt_X11_0 hWT ha0)) v1) ⟨cbE 1 (wd_606 hE) (wd_116 hE) (wd_796 hE) rfl rfl (by decide +kernel) ⟨Nat.le_of_ble_eq_true rfl, Nat.le_of_ble_eq_true rfl⟩, (wd_604 hE), (wd_605 hE)⟩ ⟨PT.blind, th_recv hK hP (wt_X11_0 hWT ha0).1 he7 rfl, (th_pre (av := [.ref (gR G a0 0), .int v1]) trivial hK hP hok hnd hWT hE)⟩ rfl rfl hl.1 rfl (lv_room (Nat.le_of_ble_eq_true rfl)) dX11_sphere_22 ⟨Nat.le_of_ble_eq_true rfl, Nat.le_of_ble_eq_true rfl⟩)) (fun r8 hr8 => ?_)
      refine lv_if_eq (tgt := 48) hx hb dX11_sphere_25 (by decide) (fun c9 => ?_) (fun c9 => ?_)
      · refine lv_aload_n hx hb dX11_sphere_48 rfl (lv_at hl 0 rfl) ?_
        refine lv_iconst (v := 2) hx hb dX11_sphere_49 (by decide) ?_
        refine tc_i hAL hS hA (va_runV (As := [.int 2]) (rest := []) ⟨hx, hb, hml, hown, noTs⟩ (t_X11_fail l dC dI s.heap.size G cs tt mm a0 ha0 2) ⟨cbE 1 (wd_436 hE) (wd_115 hE) (wd_433 hE) rfl rfl (by decide +kernel) ⟨Nat.le_of_ble_eq_true rfl, Nat.le_of_ble_eq_true rfl⟩, (wd_435 hE), (wd_1 hE)⟩ ⟨PT.blind, th_recv hK hP ha0.1 he6 rfl, (th_pre (av := [.ref a0, .int 2]) trivial hK hP hok hnd hWT hE)⟩ rfl rfl hl.1 rfl (lv_room (Nat.le_of_ble_eq_true rfl)) dX11_sphere_50 ⟨Nat.le_of_ble_eq_true rfl, Nat.le_of_ble_eq_true rfl⟩) (fun r10 f10 H locs hr10 hok hP hS => ?_)
        subst hr10
        refine lv_i2l hx hb dX11_sphere_53 rfl ?_
        refine lv_topl (fun x11 _ => ?_)
        exact W.lret (v := x11) hx hb hr (fun t ht hW => ⟨⟨x11, f10, rfl, trivial, hok, by rw [ht]; exact hP⟩, hS.F ht⟩) hS.2.2 dX11_sphere_54
      · refine lv_aload_n hx hb dX11_sphere_28 rfl (lv_at hl 0 rfl) ?_
        refine lv_aload_n hx hb dX11_sphere_29 rfl (lv_at hl 0 rfl) ?_
        refine th_get hx hb (ly_X11 hE) hown hK hP ha0.1 he6 rfl 18 (by decide) (wd_377 hE) (fun _ h9 => h9) rfl dX11_sphere_30 ?_
        refine lv_aload_n hx hb dX11_sphere_33 rfl (lv_at hl 0 rfl) ?_
        refine th_get hx hb (ly_X11 hE) hown hK hP ha0.1 he6 rfl 0 (by decide) (wd_359 hE) (fun _ h9 => h9) rfl dX11_sphere_34 ?_
        refine lv_iload_n hx hb dX11_sphere_37 rfl (lv_at hl 1 rfl) ?_
        refine lv_iload_n hx hb dX11_sphere_38 rfl (lv_at hl 2 rfl) ?_
        have he12 := ok_X1 hok (wt_X11_18 hWT ha0)
        refine tc_l hAL hS hA (va_runV (As := [.ref (gR G a0 0), .int v1, .int v2]) (rest := [.ref a0]) ⟨hx, hb, hml, hown, noTs⟩ (t_X1_loops l dC dI s.heap.size G cs tt mm (gR G a0 18) ((wt_X11_18 hWT ha0)) (gR G a0 0) ((wt_X11_0 hWT ha0)) v1 v2 (by first | omega | (simp only [i_lt, i_le, i_eq, ti_m9, ti_m1, ti_0, ti_1, ti_2, ti_3, ti_4, ti_5, ti_6, ti_7, ti_9, ti_12, ti_20, ti_99, ti_700, ti_24, ti_156, ti_72, ti_8, ti_60, ti_543, ti_10, ti_33, ti_51, ti_178, ti_119, ti_111, ti_114, ti_100, ti_32, ti_62, ti_59, ti_48, ti_701, ti_97, ti_122, ti_57, ti_73, ti_128, ti_61] at c1 c5 c9 ⊢; omega)) (by first | omega | (simp only [i_lt, i_le, i_eq, ti_m9, ti_m1, ti_0, ti_1, ti_2, ti_3, ti_4, ti_5, ti_6, ti_7, ti_9, ti_12, ti_20, ti_99, ti_700, ti_24, ti_156, ti_72, ti_8, ti_60, ti_543, ti_10, ti_33, ti_51, ti_178, ti_119, ti_111, ti_114, ti_100, ti_32, ti_62, ti_59, ti_48, ti_701, ti_97, ti_122, ti_57, ti_73, ti_128, ti_61] at c1 c5 c9 ⊢; omega))) ⟨cbE 3 (wd_979 hE) (wd_125 hE) (wd_976 hE) rfl rfl (by decide +kernel) ⟨Nat.le_of_ble_eq_true rfl, Nat.le_of_ble_eq_true rfl⟩, (wd_977 hE), (wd_978 hE)⟩ ⟨PT.blind, th_recv hK hP (wt_X11_18 hWT ha0).1 he12 rfl, (th_pre (av := [.ref (gR G a0 18), .ref (gR G a0 0), .int v1, .int v2]) trivial hK hP hok hnd hWT hE)⟩ rfl rfl hl.1 rfl (lv_room (Nat.le_of_ble_eq_true rfl)) dX11_sphere_39 ⟨Nat.le_of_ble_eq_true rfl, Nat.le_of_ble_eq_true rfl⟩) (fun r13 f13 H locs hr13 hok hP hS => ?_)
        obtain ⟨y5_14, hy4_14, hy7_14, he14⟩ := ok_X11 hok ha0
        refine tc_l hAL hS hA (va_runV (As := [.long r13]) (rest := []) ⟨hx, hb, hml, hown, noTs⟩ (t_X11_answerLong l dC dI H.size G cs tt mm a0 ha0 r13) ⟨cbE 1 (wd_1277 hE) (wd_115 hE) (wd_1274 hE) rfl rfl (by decide +kernel) ⟨Nat.le_of_ble_eq_true rfl, Nat.le_of_ble_eq_true rfl⟩, (wd_1276 hE), (wd_49 hE)⟩ ⟨PT.blind, th_recv hK hP ha0.1 he14 rfl, (th_pre (av := [.ref a0, .long r13]) trivial hK hP hok hnd hWT hE)⟩ rfl rfl hl.1 rfl (lv_room (Nat.le_of_ble_eq_true rfl)) dX11_sphere_42 ⟨Nat.le_of_ble_eq_true rfl, Nat.le_of_ble_eq_true rfl⟩) (fun r15 f15 H locs hr15 hok hP hS => ?_)
        refine lv_goto (tgt := 54) hx hb dX11_sphere_45 (by decide) ?_
        exact W.lret (v := r15) hx hb hr (fun t ht hW => ⟨⟨r15, f15, rfl, trivial, hok, by rw [ht]; exact hP⟩, hS.F ht⟩) hS.2.2 dX11_sphere_54
    · refine lv_aload_n hx hb dX11_sphere_10 rfl (lv_at hl 0 rfl) ?_
      refine lv_iconst (v := 1) hx hb dX11_sphere_11 (by decide) ?_
      obtain ⟨y5_16, hy4_16, hy7_16, he16⟩ := ok_X11 hok ha0
      refine tc_i hAL hS hA (va_runV (As := [.int 1]) (rest := []) ⟨hx, hb, hml, hown, noTs⟩ (t_X11_fail l dC dI s.heap.size G cs tt mm a0 ha0 1) ⟨cbE 1 (wd_436 hE) (wd_115 hE) (wd_433 hE) rfl rfl (by decide +kernel) ⟨Nat.le_of_ble_eq_true rfl, Nat.le_of_ble_eq_true rfl⟩, (wd_435 hE), (wd_1 hE)⟩ ⟨PT.blind, th_recv hK hP ha0.1 he16 rfl, (th_pre (av := [.ref a0, .int 1]) trivial hK hP hok hnd hWT hE)⟩ rfl rfl hl.1 rfl (lv_room (Nat.le_of_ble_eq_true rfl)) dX11_sphere_12 ⟨Nat.le_of_ble_eq_true rfl, Nat.le_of_ble_eq_true rfl⟩) (fun r17 f17 H locs hr17 hok hP hS => ?_)
      subst hr17
      refine lv_i2l hx hb dX11_sphere_15 rfl ?_
      refine lv_topl (fun x18 _ => ?_)
      exact W.lret (v := x18) hx hb hr (fun t ht hW => ⟨⟨x18, f17, rfl, trivial, hok, by rw [ht]; exact hP⟩, hS.F ht⟩) hS.2.2 dX11_sphere_16

set_option maxHeartbeats 4000000 in
set_option maxRecDepth 100000 in
theorem t_X11_listed (l : Launch) (dC : Nat → ClassId) (dI : Nat → Nat → Nat) (sz : Nat) (G : GT) (cs : Nat → ClassId) (tt mm : Nat) (a0 : Nat) (ha0 : Ty G a0 11) (v1 : Int32) : Met l yX11_listed [.code yX11_listed cX11_listed 3 (some .long)] ({ frames := 6, cells := 0, slots := 0, locals := 240 }) (PT [.ref a0, .int v1] sz dC dI G cs tt mm (fun _ => True)) (va_Ql (fun (r : Int64) (u : Nat → va_E) => True) (BT dC dI G cs tt mm) (AT G sz)) 0 0 (AT G sz) := by
  refine Met.ofW (cc := cX11_listed) (maxL := 3) (ret := (some .long)) (by decide) rfl ?_
  intro p e s m args below meth c s₁ B hml hv
  obtain ⟨rfl, hsz, ⟨f0, hok, hP, hX⟩, hK, hnd, hWT, hE⟩ := hv
  have hx := B.exec
  have hb := B.bytes
  have hr := B.returns
  have hown : s.vm.findClass RX11 = some m.cls := findClass_of_methodNamed B.named
  have hlocks := B.notSynchronized
  subst hsz
  have hAL : ∀ a, a ∈ gL G → AT G s.heap.size a := fun a h => Or.inl h
  have hA : ∀ q : Nat, s.heap.size ≤ q → AT G s.heap.size q := fun q h => Or.inr h
  have hS : va_S (AT G s.heap.size) s.heap s.heap [] := va_S.rf
  have hl := lv_entry ([.ref a0, .int v1]) (n := 3) (Nat.le_of_ble_eq_true rfl)
  rw [lg_entry_eq]
  generalize (lg_sl ([.ref a0, .int v1]) ++ List.replicate (3 - (lg_sl ([.ref a0, .int v1])).length) Slot.unset).toArray = ls at hl ⊢
  have hl : lv_has ls 3 [(0, .ref a0), (1, .int v1)] := hl
  refine lv_aload_n hx hb dX11_listed_0 rfl (lv_at hl 0 rfl) ?_
  refine lv_iload_n hx hb dX11_listed_1 rfl (lv_at hl 1 rfl) ?_
  obtain ⟨y5_1, hy4_1, hy7_1, he1⟩ := ok_X11 hok ha0
  refine tc_i hAL hS hA (va_runV (As := [.int v1]) (rest := []) ⟨hx, hb, hml, hown, noTs⟩ (t_X11_readLoop l dC dI s.heap.size G cs tt mm a0 ha0 v1) ⟨cbE 1 (wd_945 hE) (wd_115 hE) (wd_942 hE) rfl rfl (by decide +kernel) ⟨Nat.le_of_ble_eq_true rfl, Nat.le_of_ble_eq_true rfl⟩, (wd_944 hE), (wd_31 hE)⟩ ⟨PT.blind, th_recv hK hP ha0.1 he1 rfl, (th_pre (av := [.ref a0, .int v1]) trivial hK hP hok hnd hWT hE)⟩ rfl rfl hl.1 rfl (lv_room (Nat.le_of_ble_eq_true rfl)) dX11_listed_2 ⟨Nat.le_of_ble_eq_true rfl, Nat.le_of_ble_eq_true rfl⟩) (fun r2 f2 H locs hr2 hok hP hS => ?_)
  refine lv_istore_n (lv' := [(2, .int r2), (0, .ref a0), (1, .int v1)]) hx hb dX11_listed_5 rfl hl (by decide) rfl (fun ls hl => ?_)
  refine lv_iload_n hx hb dX11_listed_6 rfl (lv_at hl 0 rfl) ?_
  refine lv_if_eq (tgt := 17) hx hb dX11_listed_7 (by decide) (fun c3 => ?_) (fun c3 => ?_)
  · refine lv_aload_n hx hb dX11_listed_17 rfl (lv_at hl 1 rfl) ?_
    obtain ⟨y5_4, hy4_4, hy7_4, he4⟩ := ok_X11 hok ha0
    refine th_get hx hb (ly_X11 hE) hown hK hP ha0.1 he4 rfl 0 (by decide) (wd_359 hE) (fun _ h9 => h9) rfl dX11_listed_18 ?_
    refine lv_aload_n hx hb dX11_listed_21 rfl (lv_at hl 1 rfl) ?_
    refine th_get hx hb (ly_X11 hE) hown hK hP ha0.1 he4 rfl 10 (by decide) (wd_369 hE) (fun _ h9 => h9) rfl dX11_listed_22 ?_
    refine lv_aload_n hx hb dX11_listed_25 rfl (lv_at hl 1 rfl) ?_
    refine th_get hx hb (ly_X11 hE) hown hK hP ha0.1 he4 rfl 12 (by decide) (wd_371 hE) (fun _ h9 => h9) rfl dX11_listed_26 ?_
    refine tc_i hAL hS hA (va_runS (As := [.ref (gR G a0 0), .ref (gR G a0 10), .ref (gR G a0 12)]) (rest := []) ⟨hx, hb, hml, hown, noTs⟩ (t_X2_reduce l dC dI H.size G cs tt mm (gR G a0 0) ((wt_X11_0 hWT ha0)) (gR G a0 10) ((wt_X11_10 hWT ha0)) (gR G a0 12) ((wt_X11_12 hWT ha0))) ⟨cbE 3 (wd_837 hE) (wd_134 hE) (wd_835 hE) rfl rfl (by decide +kernel) ⟨Nat.le_of_ble_eq_true rfl, Nat.le_of_ble_eq_true rfl⟩, (wd_836 hE)⟩ ⟨PT.blind, (th_pre (av := [.ref (gR G a0 0), .ref (gR G a0 10), .ref (gR G a0 12)]) trivial hK hP hok hnd hWT hE)⟩ rfl rfl hl.1 rfl (lv_room (Nat.le_of_ble_eq_true rfl)) dX11_listed_29 ⟨Nat.le_of_ble_eq_true rfl, Nat.le_of_ble_eq_true rfl⟩) (fun r5 f5 H locs hr5 hok hP hS => ?_)
    refine lv_pop hx hb dX11_listed_32 rfl ?_
    refine lv_aload_n hx hb dX11_listed_33 rfl (lv_at hl 1 rfl) ?_
    obtain ⟨y5_6, hy4_6, hy7_6, he6⟩ := ok_X11 hok ha0
    refine th_get hx hb (ly_X11 hE) hown hK hP ha0.1 he6 rfl 12 (by decide) (wd_371 hE) (fun _ h9 => h9) rfl dX11_listed_34 ?_
    obtain ⟨y2_7, y3_7, hy3_7, he7⟩ := ok_X10 hok (wt_X11_12 hWT ha0)
    refine vp_callSi (va_Run.run (va_runV (As := []) (rest := []) ⟨hx, hb, hml, hown, noTs⟩ (t_X10_size l dC dI H.size G cs tt mm (gR G a0 12) ((wt_X11_12 hWT ha0)) y2_7 y3_7) ⟨cbE 0 (wd_666 hE) (wd_120 hE) (wd_834 hE) rfl rfl (by decide +kernel) ⟨Nat.le_of_ble_eq_true rfl, Nat.le_of_ble_eq_true rfl⟩, (wd_664 hE), (wd_665 hE)⟩ ⟨PT.blind, th_recv hK hP (wt_X11_12 hWT ha0).1 he7 rfl, (th_pre (av := [.ref (gR G a0 12)]) he7 hK hP hok hnd hWT hE)⟩ rfl rfl hl.1 rfl (lv_room (Nat.le_of_ble_eq_true rfl)) dX11_listed_37 ⟨Nat.le_of_ble_eq_true rfl, Nat.le_of_ble_eq_true rfl⟩)) (fun r8 hr8 => ?_)
    subst hr8
    refine lv_bipush (v := 12) hx hb dX11_listed_40 (by decide) ?_
    have nt9 : (nI y3_7).toInt = ((y3_7 : Nat) : Int) := nI_toInt (by omega)
    refine lv_icmp_le (tgt := 54) hx hb dX11_listed_42 (by decide) (fun c10 => ?_) (fun c10 => ?_)
    · refine lv_aload_n hx hb dX11_listed_54 rfl (lv_at hl 1 rfl) ?_
      refine lv_aload_n hx hb dX11_listed_55 rfl (lv_at hl 1 rfl) ?_
      refine th_get hx hb (ly_X11 hE) hown hK hP ha0.1 he6 rfl 18 (by decide) (wd_377 hE) (fun _ h9 => h9) rfl dX11_listed_56 ?_
      refine lv_aload_n hx hb dX11_listed_59 rfl (lv_at hl 1 rfl) ?_
      refine th_get hx hb (ly_X11 hE) hown hK hP ha0.1 he6 rfl 0 (by decide) (wd_359 hE) (fun _ h9 => h9) rfl dX11_listed_60 ?_
      refine lv_aload_n hx hb dX11_listed_63 rfl (lv_at hl 1 rfl) ?_
      refine th_get hx hb (ly_X11 hE) hown hK hP ha0.1 he6 rfl 12 (by decide) (wd_371 hE) (fun _ h9 => h9) rfl dX11_listed_64 ?_
      have he11 := ok_X1 hok (wt_X11_18 hWT ha0)
      refine tc_l hAL hS hA (va_runV (As := [.ref (gR G a0 0), .ref (gR G a0 12)]) (rest := [.ref a0]) ⟨hx, hb, hml, hown, noTs⟩ (t_X1_placeOf l dC dI H.size G cs tt mm (gR G a0 18) ((wt_X11_18 hWT ha0)) (gR G a0 0) ((wt_X11_0 hWT ha0)) (gR G a0 12) ((wt_X11_12 hWT ha0))) ⟨cbE 2 (wd_1298 hE) (wd_125 hE) (wd_1295 hE) rfl rfl (by decide +kernel) ⟨Nat.le_of_ble_eq_true rfl, Nat.le_of_ble_eq_true rfl⟩, (wd_1296 hE), (wd_1297 hE)⟩ ⟨PT.blind, th_recv hK hP (wt_X11_18 hWT ha0).1 he11 rfl, (th_pre (av := [.ref (gR G a0 18), .ref (gR G a0 0), .ref (gR G a0 12)]) ⟨_, _, (by first | omega | (simp only [i_lt, i_le, i_eq, ti_m9, ti_m1, ti_0, ti_1, ti_2, ti_3, ti_4, ti_5, ti_6, ti_7, ti_9, ti_12, ti_20, ti_99, ti_700, ti_24, ti_156, ti_72, ti_8, ti_60, ti_543, ti_10, ti_33, ti_51, ti_178, ti_119, ti_111, ti_114, ti_100, ti_32, ti_62, ti_59, ti_48, ti_701, ti_97, ti_122, ti_57, ti_73, ti_128, ti_61, nt9] at c3 c10 ⊢; omega)), he7⟩ hK hP hok hnd hWT hE)⟩ rfl rfl hl.1 rfl (lv_room (Nat.le_of_ble_eq_true rfl)) dX11_listed_67 ⟨Nat.le_of_ble_eq_true rfl, Nat.le_of_ble_eq_true rfl⟩) (fun r12 f12 H locs hr12 hok hP hS => ?_)
      obtain ⟨y5_13, hy4_13, hy7_13, he13⟩ := ok_X11 hok ha0
      refine tc_l hAL hS hA (va_runV (As := [.long r12]) (rest := []) ⟨hx, hb, hml, hown, noTs⟩ (t_X11_answerLong l dC dI H.size G cs tt mm a0 ha0 r12) ⟨cbE 1 (wd_1277 hE) (wd_115 hE) (wd_1274 hE) rfl rfl (by decide +kernel) ⟨Nat.le_of_ble_eq_true rfl, Nat.le_of_ble_eq_true rfl⟩, (wd_1276 hE), (wd_49 hE)⟩ ⟨PT.blind, th_recv hK hP ha0.1 he13 rfl, (th_pre (av := [.ref a0, .long r12]) trivial hK hP hok hnd hWT hE)⟩ rfl rfl hl.1 rfl (lv_room (Nat.le_of_ble_eq_true rfl)) dX11_listed_70 ⟨Nat.le_of_ble_eq_true rfl, Nat.le_of_ble_eq_true rfl⟩) (fun r14 f14 H locs hr14 hok hP hS => ?_)
      exact W.lret (v := r14) hx hb hr (fun t ht hW => ⟨⟨r14, f14, rfl, trivial, hok, by rw [ht]; exact hP⟩, hS.F ht⟩) hS.2.2 dX11_listed_73
    · refine lv_aload_n hx hb dX11_listed_45 rfl (lv_at hl 1 rfl) ?_
      refine lv_iconst (v := 5) hx hb dX11_listed_46 (by decide) ?_
      refine tc_i hAL hS hA (va_runV (As := [.int 5]) (rest := []) ⟨hx, hb, hml, hown, noTs⟩ (t_X11_fail l dC dI H.size G cs tt mm a0 ha0 5) ⟨cbE 1 (wd_436 hE) (wd_115 hE) (wd_433 hE) rfl rfl (by decide +kernel) ⟨Nat.le_of_ble_eq_true rfl, Nat.le_of_ble_eq_true rfl⟩, (wd_435 hE), (wd_1 hE)⟩ ⟨PT.blind, th_recv hK hP ha0.1 he6 rfl, (th_pre (av := [.ref a0, .int 5]) trivial hK hP hok hnd hWT hE)⟩ rfl rfl hl.1 rfl (lv_room (Nat.le_of_ble_eq_true rfl)) dX11_listed_47 ⟨Nat.le_of_ble_eq_true rfl, Nat.le_of_ble_eq_true rfl⟩) (fun r15 f15 H locs hr15 hok hP hS => ?_)
      subst hr15
      refine lv_i2l hx hb dX11_listed_50 rfl ?_
      refine lv_topl (fun x16 _ => ?_)
      refine lv_goto (tgt := 73) hx hb dX11_listed_51 (by decide) ?_
      exact W.lret (v := x16) hx hb hr (fun t ht hW => ⟨⟨x16, f15, rfl, trivial, hok, by rw [ht]; exact hP⟩, hS.F ht⟩) hS.2.2 dX11_listed_73
  · refine lv_aload_n hx hb dX11_listed_10 rfl (lv_at hl 1 rfl) ?_
    refine lv_iload_n hx hb dX11_listed_11 rfl (lv_at hl 0 rfl) ?_
    obtain ⟨y5_17, hy4_17, hy7_17, he17⟩ := ok_X11 hok ha0
    refine tc_i hAL hS hA (va_runV (As := [.int r2]) (rest := []) ⟨hx, hb, hml, hown, noTs⟩ (t_X11_fail l dC dI H.size G cs tt mm a0 ha0 r2) ⟨cbE 1 (wd_436 hE) (wd_115 hE) (wd_433 hE) rfl rfl (by decide +kernel) ⟨Nat.le_of_ble_eq_true rfl, Nat.le_of_ble_eq_true rfl⟩, (wd_435 hE), (wd_1 hE)⟩ ⟨PT.blind, th_recv hK hP ha0.1 he17 rfl, (th_pre (av := [.ref a0, .int r2]) trivial hK hP hok hnd hWT hE)⟩ rfl rfl hl.1 rfl (lv_room (Nat.le_of_ble_eq_true rfl)) dX11_listed_12 ⟨Nat.le_of_ble_eq_true rfl, Nat.le_of_ble_eq_true rfl⟩) (fun r18 f18 H locs hr18 hok hP hS => ?_)
    subst hr18
    refine lv_i2l hx hb dX11_listed_15 rfl ?_
    refine lv_topl (fun x19 _ => ?_)
    exact W.lret (v := x19) hx hb hr (fun t ht hW => ⟨⟨x19, f18, rfl, trivial, hok, by rw [ht]; exact hP⟩, hS.F ht⟩) hS.2.2 dX11_listed_16

set_option maxHeartbeats 4000000 in
set_option maxRecDepth 100000 in
theorem t_X11_near (l : Launch) (dC : Nat → ClassId) (dI : Nat → Nat → Nat) (sz : Nat) (G : GT) (cs : Nat → ClassId) (tt mm : Nat) (a0 : Nat) (ha0 : Ty G a0 11) (v1 : Int32) (v2 : Int32) : Met l yX11_near [.code yX11_near cX11_near 5 (some .int)] ({ frames := 6, cells := 0, slots := 0, locals := 240 }) (PT [.ref a0, .int v1, .int v2] sz dC dI G cs tt mm (fun _ => True)) (va_Qi (fun (r : Int32) (u : Nat → va_E) => True) (BT dC dI G cs tt mm) (AT G sz)) 0 0 (AT G sz) := by
  refine Met.ofW (cc := cX11_near) (maxL := 5) (ret := (some .int)) (by decide) rfl ?_
  intro p e s m args below meth c s₁ B hml hv
  obtain ⟨rfl, hsz, ⟨f0, hok, hP, hX⟩, hK, hnd, hWT, hE⟩ := hv
  have hx := B.exec
  have hb := B.bytes
  have hr := B.returns
  have hown : s.vm.findClass RX11 = some m.cls := findClass_of_methodNamed B.named
  have hlocks := B.notSynchronized
  subst hsz
  have hAL : ∀ a, a ∈ gL G → AT G s.heap.size a := fun a h => Or.inl h
  have hA : ∀ q : Nat, s.heap.size ≤ q → AT G s.heap.size q := fun q h => Or.inr h
  have hS : va_S (AT G s.heap.size) s.heap s.heap [] := va_S.rf
  have hl := lv_entry ([.ref a0, .int v1, .int v2]) (n := 5) (Nat.le_of_ble_eq_true rfl)
  rw [lg_entry_eq]
  generalize (lg_sl ([.ref a0, .int v1, .int v2]) ++ List.replicate (5 - (lg_sl ([.ref a0, .int v1, .int v2])).length) Slot.unset).toArray = ls at hl ⊢
  have hl : lv_has ls 5 [(0, .ref a0), (1, .int v1), (2, .int v2)] := hl
  refine lv_iload_n hx hb dX11_near_0 rfl (lv_at hl 2 rfl) ?_
  refine lv_if_lt (tgt := 10) hx hb dX11_near_1 (by decide) (fun c1 => ?_) (fun c1 => ?_)
  · refine lv_aload_n hx hb dX11_near_10 rfl (lv_at hl 0 rfl) ?_
    refine lv_iconst (v := 1) hx hb dX11_near_11 (by decide) ?_
    obtain ⟨y5_2, hy4_2, hy7_2, he2⟩ := ok_X11 hok ha0
    refine tc_i hAL hS hA (va_runV (As := [.int 1]) (rest := []) ⟨hx, hb, hml, hown, noTs⟩ (t_X11_fail l dC dI s.heap.size G cs tt mm a0 ha0 1) ⟨cbE 1 (wd_436 hE) (wd_115 hE) (wd_433 hE) rfl rfl (by decide +kernel) ⟨Nat.le_of_ble_eq_true rfl, Nat.le_of_ble_eq_true rfl⟩, (wd_435 hE), (wd_1 hE)⟩ ⟨PT.blind, th_recv hK hP ha0.1 he2 rfl, (th_pre (av := [.ref a0, .int 1]) trivial hK hP hok hnd hWT hE)⟩ rfl rfl hl.1 rfl (lv_room (Nat.le_of_ble_eq_true rfl)) dX11_near_12 ⟨Nat.le_of_ble_eq_true rfl, Nat.le_of_ble_eq_true rfl⟩) (fun r3 f3 H locs hr3 hok hP hS => ?_)
    subst hr3
    exact W.iret (v := -1) hx hb hr (fun t ht hW => ⟨⟨-1, f3, rfl, trivial, hok, by rw [ht]; exact hP⟩, hS.F ht⟩) hS.2.2 dX11_near_15
  · refine lv_iload_n hx hb dX11_near_4 rfl (lv_at hl 2 rfl) ?_
    refine lv_bipush (v := 99) hx hb dX11_near_5 (by decide) ?_
    refine lv_icmp_le (tgt := 16) hx hb dX11_near_7 (by decide) (fun c4 => ?_) (fun c4 => ?_)
    · refine lv_aload_n hx hb dX11_near_16 rfl (lv_at hl 0 rfl) ?_
      obtain ⟨y5_5, hy4_5, hy7_5, he5⟩ := ok_X11 hok ha0
      refine th_get hx hb (ly_X11 hE) hown hK hP ha0.1 he5 rfl 0 (by decide) (wd_359 hE) (fun _ h9 => h9) rfl dX11_near_17 ?_
      refine lv_iload_n hx hb dX11_near_20 rfl (lv_at hl 1 rfl) ?_
      have he6 := ok_X7 hok (wt_X11_0 hWT ha0)
      refine vp_callSi (va_Run.run (va_runV (As := [.int v1]) (rest := []) ⟨hx, hb, hml, hown, noTs⟩ (t_X7_hasWord l dC dI s.heap.size G cs tt mm (gR G a0 0) ((wt_X11_0 hWT ha0)) v1) ⟨cbE 1 (wd_708 hE) (wd_116 hE) (wd_1034 hE) rfl rfl (by decide +kernel) ⟨Nat.le_of_ble_eq_true rfl, Nat.le_of_ble_eq_true rfl⟩, (wd_706 hE), (wd_707 hE)⟩ ⟨PT.blind, th_recv hK hP (wt_X11_0 hWT ha0).1 he6 rfl, (th_pre (av := [.ref (gR G a0 0), .int v1]) trivial hK hP hok hnd hWT hE)⟩ rfl rfl hl.1 rfl (lv_room (Nat.le_of_ble_eq_true rfl)) dX11_near_21 ⟨Nat.le_of_ble_eq_true rfl, Nat.le_of_ble_eq_true rfl⟩)) (fun r7 hr7 => ?_)
      refine lv_if_ne (tgt := 33) hx hb dX11_near_24 (by decide) (fun c8 => ?_) (fun c8 => ?_)
      · refine lv_iconst (v := 0) hx hb dX11_near_33 (by decide) ?_
        refine lv_istore_n (lv' := [(3, .int 0), (0, .ref a0), (1, .int v1), (2, .int v2)]) hx hb dX11_near_34 rfl hl (by decide) rfl (fun ls hl => ?_)
        refine lv_iconst (v := 0) hx hb dX11_near_35 (by decide) ?_
        refine lv_istore (lv' := [(4, .int 0), (3, .int 0), (0, .ref a0), (1, .int v1), (2, .int v2)]) hx hb dX11_near_36 hl (by decide) rfl (fun ls hl => ?_)
        refine w_ind (I := fun n f H locs ls => OKT G cs tt mm f ∧ va_P (dC, dI) vwCl (va_pl (gL G) f) H ∧ va_S (AT G s.heap.size) s.heap H locs ∧ ∃ (w3_9 : Int32) (w4_9 : Int32), n = (2147483647 - w4_9.toInt).toNat ∧ 0 ≤ w4_9 ∧ lv_has ls 5 [(0, .ref a0), (1, .int v1), (2, .int v2), (3, .int w3_9), (4, .int w4_9)]) (fun n f9 H locs ls hI ih9 => ?_) _ f0 _ _ _ ⟨hok, hP, hS, 0, 0, rfl, (by first | omega | (simp only [i_lt, i_le, i_eq, ti_m9, ti_m1, ti_0, ti_1, ti_2, ti_3, ti_4, ti_5, ti_6, ti_7, ti_9, ti_12, ti_20, ti_99, ti_700, ti_24, ti_156, ti_72, ti_8, ti_60, ti_543, ti_10, ti_33, ti_51, ti_178, ti_119, ti_111, ti_114, ti_100, ti_32, ti_62, ti_59, ti_48, ti_701, ti_97, ti_122, ti_57, ti_73, ti_128, ti_61] at c1 c4 c8 ⊢; omega)), lv_sub hl [2, 3, 4, 1, 0] rfl⟩
        obtain ⟨hok, hP, hS, w3_9, w4_9, hmu9, hlo9, hl⟩ := hI
        subst hmu9
        refine lv_iload hx hb dX11_near_38 (lv_at hl 4 rfl) ?_
        refine lv_aload_n hx hb dX11_near_40 rfl (lv_at hl 0 rfl) ?_
        obtain ⟨y5_10, hy4_10, hy7_10, he10⟩ := ok_X11 hok ha0
        refine th_get hx hb (ly_X11 hE) hown hK hP ha0.1 he10 rfl 0 (by decide) (wd_359 hE) (fun _ h9 => h9) rfl dX11_near_41 ?_
        have he11 := ok_X7 hok (wt_X11_0 hWT ha0)
        refine vp_callSi (va_Run.run (va_runV (As := []) (rest := [.int w4_9]) ⟨hx, hb, hml, hown, noTs⟩ (t_X7_words l dC dI H.size G cs tt mm (gR G a0 0) ((wt_X11_0 hWT ha0))) ⟨cbE 0 (wd_700 hE) (wd_116 hE) (wd_744 hE) rfl rfl (by decide +kernel) ⟨Nat.le_of_ble_eq_true rfl, Nat.le_of_ble_eq_true rfl⟩, (wd_698 hE), (wd_699 hE)⟩ ⟨PT.blind, th_recv hK hP (wt_X11_0 hWT ha0).1 he11 rfl, (th_pre (av := [.ref (gR G a0 0)]) trivial hK hP hok hnd hWT hE)⟩ rfl rfl hl.1 rfl (lv_room (Nat.le_of_ble_eq_true rfl)) dX11_near_44 ⟨Nat.le_of_ble_eq_true rfl, Nat.le_of_ble_eq_true rfl⟩)) (fun r12 hr12 => ?_)
        refine lv_icmp_ge (tgt := 84) hx hb dX11_near_47 (by decide) (fun c13 => ?_) (fun c13 => ?_)
        · refine lv_aload_n hx hb dX11_near_84 rfl (lv_at hl 0 rfl) ?_
          refine lv_iload_n hx hb dX11_near_85 rfl (lv_at hl 3 rfl) ?_
          refine tc_i hAL hS hA (va_runV (As := [.int w3_9]) (rest := []) ⟨hx, hb, hml, hown, noTs⟩ (t_X11_answer l dC dI H.size G cs tt mm a0 ha0 w3_9) ⟨cbE 1 (wd_748 hE) (wd_115 hE) (wd_745 hE) rfl rfl (by decide +kernel) ⟨Nat.le_of_ble_eq_true rfl, Nat.le_of_ble_eq_true rfl⟩, (wd_747 hE), (wd_23 hE)⟩ ⟨PT.blind, th_recv hK hP ha0.1 he10 rfl, (th_pre (av := [.ref a0, .int w3_9]) trivial hK hP hok hnd hWT hE)⟩ rfl rfl hl.1 rfl (lv_room (Nat.le_of_ble_eq_true rfl)) dX11_near_86 ⟨Nat.le_of_ble_eq_true rfl, Nat.le_of_ble_eq_true rfl⟩) (fun r14 f14 H locs hr14 hok hP hS => ?_)
          refine W.eq (g2 := F0 m 89 ls [.int w3_9]) (by rw [hr14]) ?_
          exact W.iret (v := w3_9) hx hb hr (fun t ht hW => ⟨⟨w3_9, f14, rfl, trivial, hok, by rw [ht]; exact hP⟩, hS.F ht⟩) hS.2.2 dX11_near_89
        · refine lv_aload_n hx hb dX11_near_50 rfl (lv_at hl 0 rfl) ?_
          refine lv_iload_n hx hb dX11_near_51 rfl (lv_at hl 1 rfl) ?_
          refine lv_iload hx hb dX11_near_52 (lv_at hl 4 rfl) ?_
          refine tc_i hAL hS hA (va_runV (As := [.int v1, .int w4_9]) (rest := []) ⟨hx, hb, hml, hown, noTs⟩ (t_X11_readWay l dC dI H.size G cs tt mm a0 ha0 v1 w4_9) ⟨cbE 2 (wd_1254 hE) (wd_115 hE) (wd_1251 hE) rfl rfl (by decide +kernel) ⟨Nat.le_of_ble_eq_true rfl, Nat.le_of_ble_eq_true rfl⟩, (wd_1253 hE), (wd_48 hE)⟩ ⟨PT.blind, th_recv hK hP ha0.1 he10 rfl, (th_pre (av := [.ref a0, .int v1, .int w4_9]) trivial hK hP hok hnd hWT hE)⟩ rfl rfl hl.1 rfl (lv_room (Nat.le_of_ble_eq_true rfl)) dX11_near_54 ⟨Nat.le_of_ble_eq_true rfl, Nat.le_of_ble_eq_true rfl⟩) (fun r15 f15 H locs hr15 hok hP hS => ?_)
          refine lv_if_ne (tgt := 78) hx hb dX11_near_57 (by decide) (fun c16 => ?_) (fun c16 => ?_)
          · obtain ⟨z17, ez17⟩ : ∃ z : Int32, z = w4_9 + 1 := ⟨_, rfl⟩
            refine lv_iinc (v := z17) (lv' := [(4, .int z17), (0, .ref a0), (1, .int v1), (2, .int v2), (3, .int w3_9)]) hx hb dX11_near_78 hl (k := 4) rfl (by rw [ez17]; rfl) (by decide) rfl (fun ls hl => ?_)
            have ic17 : z17.toInt = w4_9.toInt + 1 := by rw [ez17]; exact ic_up (by have := i_rng v2; have := i_rng r7; have := i_rng w4_9; have := i_rng r12; have := i_rng r15; simp only [i_lt, i_le, i_eq, ti_m9, ti_m1, ti_0, ti_1, ti_2, ti_3, ti_4, ti_5, ti_6, ti_7, ti_9, ti_12, ti_20, ti_99, ti_700, ti_24, ti_156, ti_72, ti_8, ti_60, ti_543, ti_10, ti_33, ti_51, ti_178, ti_119, ti_111, ti_114, ti_100, ti_32, ti_62, ti_59, ti_48, ti_701, ti_97, ti_122, ti_57, ti_73, ti_128, ti_61] at c1 c4 c8 hlo9 c13 c16 ⊢; omega)
            refine lv_goto (tgt := 38) hx hb dX11_near_81 (by decide) ?_
            exact ih9 _ f15 _ _ _ (by have := i_rng z17; first | omega | (simp only [i_lt, i_le, i_eq, ti_m9, ti_m1, ti_0, ti_1, ti_2, ti_3, ti_4, ti_5, ti_6, ti_7, ti_9, ti_12, ti_20, ti_99, ti_700, ti_24, ti_156, ti_72, ti_8, ti_60, ti_543, ti_10, ti_33, ti_51, ti_178, ti_119, ti_111, ti_114, ti_100, ti_32, ti_62, ti_59, ti_48, ti_701, ti_97, ti_122, ti_57, ti_73, ti_128, ti_61, ic17] at c1 c4 c8 hlo9 c13 c16 ic17 ⊢; omega)) ⟨hok, hP, hS, w3_9, z17, rfl, (by first | omega | (simp only [i_lt, i_le, i_eq, ti_m9, ti_m1, ti_0, ti_1, ti_2, ti_3, ti_4, ti_5, ti_6, ti_7, ti_9, ti_12, ti_20, ti_99, ti_700, ti_24, ti_156, ti_72, ti_8, ti_60, ti_543, ti_10, ti_33, ti_51, ti_178, ti_119, ti_111, ti_114, ti_100, ti_32, ti_62, ti_59, ti_48, ti_701, ti_97, ti_122, ti_57, ti_73, ti_128, ti_61, ic17] at c1 c4 c8 hlo9 c13 c16 ⊢; omega)), lv_sub hl [1, 2, 3, 4, 0] rfl⟩
          · refine lv_aload_n hx hb dX11_near_60 rfl (lv_at hl 0 rfl) ?_
            obtain ⟨y5_18, hy4_18, hy7_18, he18⟩ := ok_X11 hok ha0
            refine th_get hx hb (ly_X11 hE) hown hK hP ha0.1 he18 rfl 12 (by decide) (wd_371 hE) (fun _ h9 => h9) rfl dX11_near_61 ?_
            obtain ⟨y2_19, y3_19, hy3_19, he19⟩ := ok_X10 hok (wt_X11_12 hWT ha0)
            refine vp_callSi (va_Run.run (va_runV (As := []) (rest := []) ⟨hx, hb, hml, hown, noTs⟩ (t_X10_size l dC dI H.size G cs tt mm (gR G a0 12) ((wt_X11_12 hWT ha0)) y2_19 y3_19) ⟨cbE 0 (wd_666 hE) (wd_120 hE) (wd_834 hE) rfl rfl (by decide +kernel) ⟨Nat.le_of_ble_eq_true rfl, Nat.le_of_ble_eq_true rfl⟩, (wd_664 hE), (wd_665 hE)⟩ ⟨PT.blind, th_recv hK hP (wt_X11_12 hWT ha0).1 he19 rfl, (th_pre (av := [.ref (gR G a0 12)]) he19 hK hP hok hnd hWT hE)⟩ rfl rfl hl.1 rfl (lv_room (Nat.le_of_ble_eq_true rfl)) dX11_near_64 ⟨Nat.le_of_ble_eq_true rfl, Nat.le_of_ble_eq_true rfl⟩)) (fun r20 hr20 => ?_)
            subst hr20
            refine lv_iload_n hx hb dX11_near_67 rfl (lv_at hl 2 rfl) ?_
            have nt21 : (nI y3_19).toInt = ((y3_19 : Nat) : Int) := nI_toInt (by omega)
            refine lv_icmp_gt (tgt := 78) hx hb dX11_near_68 (by decide) (fun c22 => ?_) (fun c22 => ?_)
            · obtain ⟨z23, ez23⟩ : ∃ z : Int32, z = w4_9 + 1 := ⟨_, rfl⟩
              refine lv_iinc (v := z23) (lv' := [(4, .int z23), (0, .ref a0), (1, .int v1), (2, .int v2), (3, .int w3_9)]) hx hb dX11_near_78 hl (k := 4) rfl (by rw [ez23]; rfl) (by decide) rfl (fun ls hl => ?_)
              have ic23 : z23.toInt = w4_9.toInt + 1 := by rw [ez23]; exact ic_up (by have := i_rng v2; have := i_rng r7; have := i_rng w4_9; have := i_rng r12; have := i_rng r15; have := i_rng (nI y3_19); simp only [i_lt, i_le, i_eq, ti_m9, ti_m1, ti_0, ti_1, ti_2, ti_3, ti_4, ti_5, ti_6, ti_7, ti_9, ti_12, ti_20, ti_99, ti_700, ti_24, ti_156, ti_72, ti_8, ti_60, ti_543, ti_10, ti_33, ti_51, ti_178, ti_119, ti_111, ti_114, ti_100, ti_32, ti_62, ti_59, ti_48, ti_701, ti_97, ti_122, ti_57, ti_73, ti_128, ti_61, nt21] at c1 c4 c8 hlo9 c13 c16 c22 ⊢; omega)
              refine lv_goto (tgt := 38) hx hb dX11_near_81 (by decide) ?_
              exact ih9 _ f15 _ _ _ (by have := i_rng z23; first | omega | (simp only [i_lt, i_le, i_eq, ti_m9, ti_m1, ti_0, ti_1, ti_2, ti_3, ti_4, ti_5, ti_6, ti_7, ti_9, ti_12, ti_20, ti_99, ti_700, ti_24, ti_156, ti_72, ti_8, ti_60, ti_543, ti_10, ti_33, ti_51, ti_178, ti_119, ti_111, ti_114, ti_100, ti_32, ti_62, ti_59, ti_48, ti_701, ti_97, ti_122, ti_57, ti_73, ti_128, ti_61, nt21, ic23] at c1 c4 c8 hlo9 c13 c16 c22 ic23 ⊢; omega)) ⟨hok, hP, hS, w3_9, z23, rfl, (by first | omega | (simp only [i_lt, i_le, i_eq, ti_m9, ti_m1, ti_0, ti_1, ti_2, ti_3, ti_4, ti_5, ti_6, ti_7, ti_9, ti_12, ti_20, ti_99, ti_700, ti_24, ti_156, ti_72, ti_8, ti_60, ti_543, ti_10, ti_33, ti_51, ti_178, ti_119, ti_111, ti_114, ti_100, ti_32, ti_62, ti_59, ti_48, ti_701, ti_97, ti_122, ti_57, ti_73, ti_128, ti_61, nt21, ic23] at c1 c4 c8 hlo9 c13 c16 c22 ⊢; omega)), lv_sub hl [1, 2, 3, 4, 0] rfl⟩
            · refine lv_iload_n hx hb dX11_near_71 rfl (lv_at hl 3 rfl) ?_
              refine lv_iconst (v := 1) hx hb dX11_near_72 (by decide) ?_
              refine lv_iload hx hb dX11_near_73 (lv_at hl 4 rfl) ?_
              refine lv_ishl hx hb dX11_near_75 ?_
              refine lv_topi (fun x24 _ => ?_)
              refine lv_ior hx hb dX11_near_76 ?_
              refine lv_topi (fun x25 _ => ?_)
              refine lv_istore_n (lv' := [(3, .int x25), (0, .ref a0), (1, .int v1), (2, .int v2), (4, .int w4_9)]) hx hb dX11_near_77 rfl hl (by decide) rfl (fun ls hl => ?_)
              obtain ⟨z26, ez26⟩ : ∃ z : Int32, z = w4_9 + 1 := ⟨_, rfl⟩
              refine lv_iinc (v := z26) (lv' := [(4, .int z26), (3, .int x25), (0, .ref a0), (1, .int v1), (2, .int v2)]) hx hb dX11_near_78 hl (k := 4) rfl (by rw [ez26]; rfl) (by decide) rfl (fun ls hl => ?_)
              have ic26 : z26.toInt = w4_9.toInt + 1 := by rw [ez26]; exact ic_up (by have := i_rng v2; have := i_rng r7; have := i_rng w4_9; have := i_rng r12; have := i_rng r15; have := i_rng (nI y3_19); simp only [i_lt, i_le, i_eq, ti_m9, ti_m1, ti_0, ti_1, ti_2, ti_3, ti_4, ti_5, ti_6, ti_7, ti_9, ti_12, ti_20, ti_99, ti_700, ti_24, ti_156, ti_72, ti_8, ti_60, ti_543, ti_10, ti_33, ti_51, ti_178, ti_119, ti_111, ti_114, ti_100, ti_32, ti_62, ti_59, ti_48, ti_701, ti_97, ti_122, ti_57, ti_73, ti_128, ti_61, nt21] at c1 c4 c8 hlo9 c13 c16 c22 ⊢; omega)
              refine lv_goto (tgt := 38) hx hb dX11_near_81 (by decide) ?_
              exact ih9 _ f15 _ _ _ (by have := i_rng z26; first | omega | (simp only [i_lt, i_le, i_eq, ti_m9, ti_m1, ti_0, ti_1, ti_2, ti_3, ti_4, ti_5, ti_6, ti_7, ti_9, ti_12, ti_20, ti_99, ti_700, ti_24, ti_156, ti_72, ti_8, ti_60, ti_543, ti_10, ti_33, ti_51, ti_178, ti_119, ti_111, ti_114, ti_100, ti_32, ti_62, ti_59, ti_48, ti_701, ti_97, ti_122, ti_57, ti_73, ti_128, ti_61, nt21, ic26] at c1 c4 c8 hlo9 c13 c16 c22 ic26 ⊢; omega)) ⟨hok, hP, hS, x25, z26, rfl, (by first | omega | (simp only [i_lt, i_le, i_eq, ti_m9, ti_m1, ti_0, ti_1, ti_2, ti_3, ti_4, ti_5, ti_6, ti_7, ti_9, ti_12, ti_20, ti_99, ti_700, ti_24, ti_156, ti_72, ti_8, ti_60, ti_543, ti_10, ti_33, ti_51, ti_178, ti_119, ti_111, ti_114, ti_100, ti_32, ti_62, ti_59, ti_48, ti_701, ti_97, ti_122, ti_57, ti_73, ti_128, ti_61, nt21, ic26] at c1 c4 c8 hlo9 c13 c16 c22 ⊢; omega)), lv_sub hl [2, 3, 4, 1, 0] rfl⟩
      · refine lv_aload_n hx hb dX11_near_27 rfl (lv_at hl 0 rfl) ?_
        refine lv_iconst (v := 2) hx hb dX11_near_28 (by decide) ?_
        refine tc_i hAL hS hA (va_runV (As := [.int 2]) (rest := []) ⟨hx, hb, hml, hown, noTs⟩ (t_X11_fail l dC dI s.heap.size G cs tt mm a0 ha0 2) ⟨cbE 1 (wd_436 hE) (wd_115 hE) (wd_433 hE) rfl rfl (by decide +kernel) ⟨Nat.le_of_ble_eq_true rfl, Nat.le_of_ble_eq_true rfl⟩, (wd_435 hE), (wd_1 hE)⟩ ⟨PT.blind, th_recv hK hP ha0.1 he5 rfl, (th_pre (av := [.ref a0, .int 2]) trivial hK hP hok hnd hWT hE)⟩ rfl rfl hl.1 rfl (lv_room (Nat.le_of_ble_eq_true rfl)) dX11_near_29 ⟨Nat.le_of_ble_eq_true rfl, Nat.le_of_ble_eq_true rfl⟩) (fun r27 f27 H locs hr27 hok hP hS => ?_)
        subst hr27
        exact W.iret (v := -1) hx hb hr (fun t ht hW => ⟨⟨-1, f27, rfl, trivial, hok, by rw [ht]; exact hP⟩, hS.F ht⟩) hS.2.2 dX11_near_32
    · refine lv_aload_n hx hb dX11_near_10 rfl (lv_at hl 0 rfl) ?_
      refine lv_iconst (v := 1) hx hb dX11_near_11 (by decide) ?_
      obtain ⟨y5_28, hy4_28, hy7_28, he28⟩ := ok_X11 hok ha0
      refine tc_i hAL hS hA (va_runV (As := [.int 1]) (rest := []) ⟨hx, hb, hml, hown, noTs⟩ (t_X11_fail l dC dI s.heap.size G cs tt mm a0 ha0 1) ⟨cbE 1 (wd_436 hE) (wd_115 hE) (wd_433 hE) rfl rfl (by decide +kernel) ⟨Nat.le_of_ble_eq_true rfl, Nat.le_of_ble_eq_true rfl⟩, (wd_435 hE), (wd_1 hE)⟩ ⟨PT.blind, th_recv hK hP ha0.1 he28 rfl, (th_pre (av := [.ref a0, .int 1]) trivial hK hP hok hnd hWT hE)⟩ rfl rfl hl.1 rfl (lv_room (Nat.le_of_ble_eq_true rfl)) dX11_near_12 ⟨Nat.le_of_ble_eq_true rfl, Nat.le_of_ble_eq_true rfl⟩) (fun r29 f29 H locs hr29 hok hP hS => ?_)
      subst hr29
      exact W.iret (v := -1) hx hb hr (fun t ht hW => ⟨⟨-1, f29, rfl, trivial, hok, by rw [ht]; exact hP⟩, hS.F ht⟩) hS.2.2 dX11_near_15

set_option maxHeartbeats 4000000 in
set_option maxRecDepth 100000 in
theorem t_X11_meet (l : Launch) (dC : Nat → ClassId) (dI : Nat → Nat → Nat) (sz : Nat) (G : GT) (cs : Nat → ClassId) (tt mm : Nat) (a0 : Nat) (ha0 : Ty G a0 11) (v1 : Int32) : Met l yX11_meet [.code yX11_meet cX11_meet 4 (some .int)] ({ frames := 2, cells := 0, slots := 0, locals := 80 }) (PT [.ref a0, .int v1] sz dC dI G cs tt mm (fun _ => True)) (va_Qi (fun (r : Int32) (u : Nat → va_E) => True) (BT dC dI G cs tt mm) (AT G sz)) 0 0 (AT G sz) := by
  refine Met.ofW (cc := cX11_meet) (maxL := 4) (ret := (some .int)) (by decide) rfl ?_
  intro p e s m args below meth c s₁ B hml hv
  obtain ⟨rfl, hsz, ⟨f0, hok, hP, hX⟩, hK, hnd, hWT, hE⟩ := hv
  have hx := B.exec
  have hb := B.bytes
  have hr := B.returns
  have hown : s.vm.findClass RX11 = some m.cls := findClass_of_methodNamed B.named
  have hlocks := B.notSynchronized
  subst hsz
  have hAL : ∀ a, a ∈ gL G → AT G s.heap.size a := fun a h => Or.inl h
  have hA : ∀ q : Nat, s.heap.size ≤ q → AT G s.heap.size q := fun q h => Or.inr h
  have hS : va_S (AT G s.heap.size) s.heap s.heap [] := va_S.rf
  have hl := lv_entry ([.ref a0, .int v1]) (n := 4) (Nat.le_of_ble_eq_true rfl)
  rw [lg_entry_eq]
  generalize (lg_sl ([.ref a0, .int v1]) ++ List.replicate (4 - (lg_sl ([.ref a0, .int v1])).length) Slot.unset).toArray = ls at hl ⊢
  have hl : lv_has ls 4 [(0, .ref a0), (1, .int v1)] := hl
  refine lv_aload_n hx hb dX11_meet_0 rfl (lv_at hl 0 rfl) ?_
  obtain ⟨y5_1, hy4_1, hy7_1, he1⟩ := ok_X11 hok ha0
  refine th_get hx hb (ly_X11 hE) hown hK hP ha0.1 he1 rfl 0 (by decide) (wd_359 hE) (fun _ h9 => h9) rfl dX11_meet_1 ?_
  refine lv_iload_n hx hb dX11_meet_4 rfl (lv_at hl 1 rfl) ?_
  have he2 := ok_X7 hok (wt_X11_0 hWT ha0)
  refine vp_callSi (va_Run.run (va_runV (As := [.int v1]) (rest := []) ⟨hx, hb, hml, hown, noTs⟩ (t_X7_hasVertex l dC dI s.heap.size G cs tt mm (gR G a0 0) ((wt_X11_0 hWT ha0)) v1) ⟨cbE 1 (wd_606 hE) (wd_116 hE) (wd_796 hE) rfl rfl (by decide +kernel) ⟨Nat.le_of_ble_eq_true rfl, Nat.le_of_ble_eq_true rfl⟩, (wd_604 hE), (wd_605 hE)⟩ ⟨PT.blind, th_recv hK hP (wt_X11_0 hWT ha0).1 he2 rfl, (th_pre (av := [.ref (gR G a0 0), .int v1]) trivial hK hP hok hnd hWT hE)⟩ rfl rfl hl.1 rfl (lv_room (Nat.le_of_ble_eq_true rfl)) dX11_meet_5 ⟨Nat.le_of_ble_eq_true rfl, Nat.le_of_ble_eq_true rfl⟩)) (fun r3 hr3 => ?_)
  refine lv_if_ne (tgt := 17) hx hb dX11_meet_8 (by decide) (fun c4 => ?_) (fun c4 => ?_)
  · refine lv_iconst (v := 0) hx hb dX11_meet_17 (by decide) ?_
    refine lv_istore_n (lv' := [(2, .int 0), (0, .ref a0), (1, .int v1)]) hx hb dX11_meet_18 rfl hl (by decide) rfl (fun ls hl => ?_)
    refine lv_iconst (v := 0) hx hb dX11_meet_19 (by decide) ?_
    refine lv_istore_n (lv' := [(3, .int 0), (2, .int 0), (0, .ref a0), (1, .int v1)]) hx hb dX11_meet_20 rfl hl (by decide) rfl (fun ls hl => ?_)
    refine w_ind (I := fun n f H locs ls => OKT G cs tt mm f ∧ va_P (dC, dI) vwCl (va_pl (gL G) f) H ∧ va_S (AT G s.heap.size) s.heap H locs ∧ ∃ (w2_5 : Int32) (w3_5 : Int32), n = (2147483647 - w3_5.toInt).toNat ∧ 0 ≤ w3_5 ∧ lv_has ls 4 [(0, .ref a0), (1, .int v1), (2, .int w2_5), (3, .int w3_5)]) (fun n f5 H locs ls hI ih5 => ?_) _ f0 _ _ _ ⟨hok, hP, hS, 0, 0, rfl, (by first | omega | (simp only [i_lt, i_le, i_eq, ti_m9, ti_m1, ti_0, ti_1, ti_2, ti_3, ti_4, ti_5, ti_6, ti_7, ti_9, ti_12, ti_20, ti_99, ti_700, ti_24, ti_156, ti_72, ti_8, ti_60, ti_543, ti_10, ti_33, ti_51, ti_178, ti_119, ti_111, ti_114, ti_100, ti_32, ti_62, ti_59, ti_48, ti_701, ti_97, ti_122, ti_57, ti_73, ti_128, ti_61] at c4 ⊢; omega)), lv_sub hl [2, 3, 1, 0] rfl⟩
    obtain ⟨hok, hP, hS, w2_5, w3_5, hmu5, hlo5, hl⟩ := hI
    subst hmu5
    refine lv_iload_n hx hb dX11_meet_21 rfl (lv_at hl 3 rfl) ?_
    refine lv_aload_n hx hb dX11_meet_22 rfl (lv_at hl 0 rfl) ?_
    obtain ⟨y5_6, hy4_6, hy7_6, he6⟩ := ok_X11 hok ha0
    refine th_get hx hb (ly_X11 hE) hown hK hP ha0.1 he6 rfl 0 (by decide) (wd_359 hE) (fun _ h9 => h9) rfl dX11_meet_23 ?_
    have he7 := ok_X7 hok (wt_X11_0 hWT ha0)
    refine vp_callSi (va_Run.run (va_runV (As := []) (rest := [.int w3_5]) ⟨hx, hb, hml, hown, noTs⟩ (t_X7_stepKinds l dC dI H.size G cs tt mm (gR G a0 0) ((wt_X11_0 hWT ha0))) ⟨cbE 0 (wd_783 hE) (wd_116 hE) (wd_1311 hE) rfl rfl (by decide +kernel) ⟨Nat.le_of_ble_eq_true rfl, Nat.le_of_ble_eq_true rfl⟩, (wd_781 hE), (wd_782 hE)⟩ ⟨PT.blind, th_recv hK hP (wt_X11_0 hWT ha0).1 he7 rfl, (th_pre (av := [.ref (gR G a0 0)]) trivial hK hP hok hnd hWT hE)⟩ rfl rfl hl.1 rfl (lv_room (Nat.le_of_ble_eq_true rfl)) dX11_meet_26 ⟨Nat.le_of_ble_eq_true rfl, Nat.le_of_ble_eq_true rfl⟩)) (fun r8 hr8 => ?_)
    refine lv_icmp_ge (tgt := 65) hx hb dX11_meet_29 (by decide) (fun c9 => ?_) (fun c9 => ?_)
    · refine lv_aload_n hx hb dX11_meet_65 rfl (lv_at hl 0 rfl) ?_
      refine lv_iload_n hx hb dX11_meet_66 rfl (lv_at hl 2 rfl) ?_
      refine tc_i hAL hS hA (va_runV (As := [.int w2_5]) (rest := []) ⟨hx, hb, hml, hown, noTs⟩ (t_X11_answer l dC dI H.size G cs tt mm a0 ha0 w2_5) ⟨cbE 1 (wd_748 hE) (wd_115 hE) (wd_745 hE) rfl rfl (by decide +kernel) ⟨Nat.le_of_ble_eq_true rfl, Nat.le_of_ble_eq_true rfl⟩, (wd_747 hE), (wd_23 hE)⟩ ⟨PT.blind, th_recv hK hP ha0.1 he6 rfl, (th_pre (av := [.ref a0, .int w2_5]) trivial hK hP hok hnd hWT hE)⟩ rfl rfl hl.1 rfl (lv_room (Nat.le_of_ble_eq_true rfl)) dX11_meet_67 ⟨Nat.le_of_ble_eq_true rfl, Nat.le_of_ble_eq_true rfl⟩) (fun r10 f10 H locs hr10 hok hP hS => ?_)
      refine W.eq (g2 := F0 m 70 ls [.int w2_5]) (by rw [hr10]) ?_
      exact W.iret (v := w2_5) hx hb hr (fun t ht hW => ⟨⟨w2_5, f10, rfl, trivial, hok, by rw [ht]; exact hP⟩, hS.F ht⟩) hS.2.2 dX11_meet_70
    · refine lv_iload_n hx hb dX11_meet_32 rfl (lv_at hl 2 rfl) ?_
      refine lv_aload_n hx hb dX11_meet_33 rfl (lv_at hl 0 rfl) ?_
      refine th_get hx hb (ly_X11 hE) hown hK hP ha0.1 he6 rfl 0 (by decide) (wd_359 hE) (fun _ h9 => h9) rfl dX11_meet_34 ?_
      refine lv_iload_n hx hb dX11_meet_37 rfl (lv_at hl 3 rfl) ?_
      refine vp_callSi (va_Run.run (va_runV (As := [.int w3_5]) (rest := [.int w2_5]) ⟨hx, hb, hml, hown, noTs⟩ (t_X7_fromVertex l dC dI H.size G cs tt mm (gR G a0 0) ((wt_X11_0 hWT ha0)) w3_5) ⟨cbE 1 (wd_677 hE) (wd_116 hE) (wd_1282 hE) rfl rfl (by decide +kernel) ⟨Nat.le_of_ble_eq_true rfl, Nat.le_of_ble_eq_true rfl⟩, (wd_675 hE), (wd_676 hE)⟩ ⟨PT.blind, th_recv hK hP (wt_X11_0 hWT ha0).1 he7 rfl, (th_pre (av := [.ref (gR G a0 0), .int w3_5]) trivial hK hP hok hnd hWT hE)⟩ rfl rfl hl.1 rfl (lv_room (Nat.le_of_ble_eq_true rfl)) dX11_meet_38 ⟨Nat.le_of_ble_eq_true rfl, Nat.le_of_ble_eq_true rfl⟩)) (fun r11 hr11 => ?_)
      refine lv_iload_n hx hb dX11_meet_41 rfl (lv_at hl 1 rfl) ?_
      refine lv_icmp_ne (tgt := 56) hx hb dX11_meet_42 (by decide) (fun c12 => ?_) (fun c12 => ?_)
      · refine lv_iconst (v := 0) hx hb dX11_meet_56 (by decide) ?_
        refine lv_iadd hx hb dX11_meet_57 ?_
        refine lv_topi (fun x13 ex13 => ?_)
        refine lv_istore_n (lv' := [(2, .int x13), (0, .ref a0), (1, .int v1), (3, .int w3_5)]) hx hb dX11_meet_58 rfl hl (by decide) rfl (fun ls hl => ?_)
        obtain ⟨z14, ez14⟩ : ∃ z : Int32, z = w3_5 + 1 := ⟨_, rfl⟩
        refine lv_iinc (v := z14) (lv' := [(3, .int z14), (2, .int x13), (0, .ref a0), (1, .int v1)]) hx hb dX11_meet_59 hl (k := 3) rfl (by rw [ez14]; rfl) (by decide) rfl (fun ls hl => ?_)
        have ic14 : z14.toInt = w3_5.toInt + 1 := by rw [ez14]; exact ic_up (by have := i_rng r3; have := i_rng w3_5; have := i_rng r8; have := i_rng r11; have := i_rng v1; simp only [i_lt, i_le, i_eq, ti_m9, ti_m1, ti_0, ti_1, ti_2, ti_3, ti_4, ti_5, ti_6, ti_7, ti_9, ti_12, ti_20, ti_99, ti_700, ti_24, ti_156, ti_72, ti_8, ti_60, ti_543, ti_10, ti_33, ti_51, ti_178, ti_119, ti_111, ti_114, ti_100, ti_32, ti_62, ti_59, ti_48, ti_701, ti_97, ti_122, ti_57, ti_73, ti_128, ti_61] at c4 hlo5 c9 c12 ⊢; omega)
        refine lv_goto (tgt := 21) hx hb dX11_meet_62 (by decide) ?_
        exact ih5 _ f5 _ _ _ (by have := i_rng z14; first | omega | (simp only [i_lt, i_le, i_eq, ti_m9, ti_m1, ti_0, ti_1, ti_2, ti_3, ti_4, ti_5, ti_6, ti_7, ti_9, ti_12, ti_20, ti_99, ti_700, ti_24, ti_156, ti_72, ti_8, ti_60, ti_543, ti_10, ti_33, ti_51, ti_178, ti_119, ti_111, ti_114, ti_100, ti_32, ti_62, ti_59, ti_48, ti_701, ti_97, ti_122, ti_57, ti_73, ti_128, ti_61, ic14] at c4 hlo5 c9 c12 ic14 ⊢; omega)) ⟨hok, hP, hS, x13, z14, rfl, (by first | omega | (simp only [i_lt, i_le, i_eq, ti_m9, ti_m1, ti_0, ti_1, ti_2, ti_3, ti_4, ti_5, ti_6, ti_7, ti_9, ti_12, ti_20, ti_99, ti_700, ti_24, ti_156, ti_72, ti_8, ti_60, ti_543, ti_10, ti_33, ti_51, ti_178, ti_119, ti_111, ti_114, ti_100, ti_32, ti_62, ti_59, ti_48, ti_701, ti_97, ti_122, ti_57, ti_73, ti_128, ti_61, ic14] at c4 hlo5 c9 c12 ⊢; omega)), lv_sub hl [2, 3, 1, 0] rfl⟩
      · refine lv_aload_n hx hb dX11_meet_45 rfl (lv_at hl 0 rfl) ?_
        refine th_get hx hb (ly_X11 hE) hown hK hP ha0.1 he6 rfl 0 (by decide) (wd_359 hE) (fun _ h9 => h9) rfl dX11_meet_46 ?_
        refine lv_iload_n hx hb dX11_meet_49 rfl (lv_at hl 3 rfl) ?_
        refine vp_callSi (va_Run.run (va_runV (As := [.int w3_5]) (rest := [.int w2_5]) ⟨hx, hb, hml, hown, noTs⟩ (t_X7_fromIndex l dC dI H.size G cs tt mm (gR G a0 0) ((wt_X11_0 hWT ha0)) w3_5) ⟨cbE 1 (wd_855 hE) (wd_116 hE) (wd_1312 hE) rfl rfl (by decide +kernel) ⟨Nat.le_of_ble_eq_true rfl, Nat.le_of_ble_eq_true rfl⟩, (wd_853 hE), (wd_854 hE)⟩ ⟨PT.blind, th_recv hK hP (wt_X11_0 hWT ha0).1 he7 rfl, (th_pre (av := [.ref (gR G a0 0), .int w3_5]) trivial hK hP hok hnd hWT hE)⟩ rfl rfl hl.1 rfl (lv_room (Nat.le_of_ble_eq_true rfl)) dX11_meet_50 ⟨Nat.le_of_ble_eq_true rfl, Nat.le_of_ble_eq_true rfl⟩)) (fun r15 hr15 => ?_)
        refine lv_goto (tgt := 57) hx hb dX11_meet_53 (by decide) ?_
        refine lv_iadd hx hb dX11_meet_57 ?_
        refine lv_topi (fun x16 ex16 => ?_)
        refine lv_istore_n (lv' := [(2, .int x16), (0, .ref a0), (1, .int v1), (3, .int w3_5)]) hx hb dX11_meet_58 rfl hl (by decide) rfl (fun ls hl => ?_)
        obtain ⟨z17, ez17⟩ : ∃ z : Int32, z = w3_5 + 1 := ⟨_, rfl⟩
        refine lv_iinc (v := z17) (lv' := [(3, .int z17), (2, .int x16), (0, .ref a0), (1, .int v1)]) hx hb dX11_meet_59 hl (k := 3) rfl (by rw [ez17]; rfl) (by decide) rfl (fun ls hl => ?_)
        have ic17 : z17.toInt = w3_5.toInt + 1 := by rw [ez17]; exact ic_up (by have := i_rng r3; have := i_rng w3_5; have := i_rng r8; have := i_rng r11; have := i_rng v1; simp only [i_lt, i_le, i_eq, ti_m9, ti_m1, ti_0, ti_1, ti_2, ti_3, ti_4, ti_5, ti_6, ti_7, ti_9, ti_12, ti_20, ti_99, ti_700, ti_24, ti_156, ti_72, ti_8, ti_60, ti_543, ti_10, ti_33, ti_51, ti_178, ti_119, ti_111, ti_114, ti_100, ti_32, ti_62, ti_59, ti_48, ti_701, ti_97, ti_122, ti_57, ti_73, ti_128, ti_61] at c4 hlo5 c9 c12 ⊢; omega)
        refine lv_goto (tgt := 21) hx hb dX11_meet_62 (by decide) ?_
        exact ih5 _ f5 _ _ _ (by have := i_rng z17; first | omega | (simp only [i_lt, i_le, i_eq, ti_m9, ti_m1, ti_0, ti_1, ti_2, ti_3, ti_4, ti_5, ti_6, ti_7, ti_9, ti_12, ti_20, ti_99, ti_700, ti_24, ti_156, ti_72, ti_8, ti_60, ti_543, ti_10, ti_33, ti_51, ti_178, ti_119, ti_111, ti_114, ti_100, ti_32, ti_62, ti_59, ti_48, ti_701, ti_97, ti_122, ti_57, ti_73, ti_128, ti_61, ic17] at c4 hlo5 c9 c12 ic17 ⊢; omega)) ⟨hok, hP, hS, x16, z17, rfl, (by first | omega | (simp only [i_lt, i_le, i_eq, ti_m9, ti_m1, ti_0, ti_1, ti_2, ti_3, ti_4, ti_5, ti_6, ti_7, ti_9, ti_12, ti_20, ti_99, ti_700, ti_24, ti_156, ti_72, ti_8, ti_60, ti_543, ti_10, ti_33, ti_51, ti_178, ti_119, ti_111, ti_114, ti_100, ti_32, ti_62, ti_59, ti_48, ti_701, ti_97, ti_122, ti_57, ti_73, ti_128, ti_61, ic17] at c4 hlo5 c9 c12 ⊢; omega)), lv_sub hl [2, 3, 1, 0] rfl⟩
  · refine lv_aload_n hx hb dX11_meet_11 rfl (lv_at hl 0 rfl) ?_
    refine lv_iconst (v := 2) hx hb dX11_meet_12 (by decide) ?_
    refine tc_i hAL hS hA (va_runV (As := [.int 2]) (rest := []) ⟨hx, hb, hml, hown, noTs⟩ (t_X11_fail l dC dI s.heap.size G cs tt mm a0 ha0 2) ⟨cbE 1 (wd_436 hE) (wd_115 hE) (wd_433 hE) rfl rfl (by decide +kernel) ⟨Nat.le_of_ble_eq_true rfl, Nat.le_of_ble_eq_true rfl⟩, (wd_435 hE), (wd_1 hE)⟩ ⟨PT.blind, th_recv hK hP ha0.1 he1 rfl, (th_pre (av := [.ref a0, .int 2]) trivial hK hP hok hnd hWT hE)⟩ rfl rfl hl.1 rfl (lv_room (Nat.le_of_ble_eq_true rfl)) dX11_meet_13 ⟨Nat.le_of_ble_eq_true rfl, Nat.le_of_ble_eq_true rfl⟩) (fun r18 f18 H locs hr18 hok hP hS => ?_)
    subst hr18
    exact W.iret (v := -1) hx hb hr (fun t ht hW => ⟨⟨-1, f18, rfl, trivial, hok, by rw [ht]; exact hP⟩, hS.F ht⟩) hS.2.2 dX11_meet_16
