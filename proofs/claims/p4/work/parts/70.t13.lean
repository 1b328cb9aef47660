set_option maxHeartbeats 4000000 in
set_option maxRecDepth 100000 in
theorem t_X11_tell (l : Launch) (dC : Nat → ClassId) (dI : Nat → Nat → Nat) (sz : Nat) (G : GT) (cs : Nat → ClassId) (tt mm : Nat) (a0 : Nat) (ha0 : Ty G a0 11) (v1 : Int32) : Met l yX11_tell [.code yX11_tell cX11_tell 2 (some .int)] ({ frames := 3, cells := 0, slots := 0, locals := 120 }) (PT [.ref a0, .int v1] sz dC dI G cs tt mm (fun _ => True)) (va_Qi (fun (r : Int32) (u : Nat → va_E) => True) (BT dC dI G cs tt mm) (AT G sz)) 0 0 (AT G sz) := by
  refine Met.ofW (cc := cX11_tell) (maxL := 2) (ret := (some .int)) (by decide) rfl ?_
  intro p e s m args below meth c s₁ B hml hv
  obtain ⟨rfl, hsz, ⟨f0, hok, hP, hX⟩, hK, hnd, hWT, hE⟩ := hv
  have hx := B.exec
  have hb := B.bytes
  have hr := B.returns
  have hown : s.vm.findClass RX11 = some m.cls := findClass_of_methodNamed B.named
  have hlocks := B.notSynchronized
  subst hsz
  have hAL : ∀ a, a ∈ gL G → AT G s.heap.size a := fun a h => Or.inl h
  have hA : ∀ q : Nat, s.heap.size ≤ q → AT G s.heap.size q := fun q h => Or.inr h
  have hS : va_S (AT G s.heap.size) s.heap s.heap [] := va_S.rf
  have hl := lv_entry ([.ref a0, .int v1]) (n := 2) (Nat.le_of_ble_eq_true rfl)
  rw [lg_entry_eq]
  generalize (lg_sl ([.ref a0, .int v1]) ++ List.replicate (2 - (lg_sl ([.ref a0, .int v1])).length) Slot.unset).toArray = ls at hl ⊢
  have hl : lv_has ls 2 [(0, .ref a0), (1, .int v1)] := hl
  refine lv_aload_n hx hb dX11_tell_0 rfl (lv_at hl 0 rfl) ?_
  obtain ⟨y5_1, hy4_1, hy7_1, he1⟩ := ok_X11 hok ha0
  refine th_get hx hb (ly_X11 hE) hown hK hP ha0.1 he1 rfl 0 (by decide) (wd_359 hE) (fun _ h9 => h9) rfl dX11_tell_1 ?_
  refine lv_iload_n hx hb dX11_tell_4 rfl (lv_at hl 1 rfl) ?_
  refine lv_aload_n hx hb dX11_tell_5 rfl (lv_at hl 0 rfl) ?_
  refine th_get hx hb (ly_X11 hE) hown hK hP ha0.1 he1 rfl 10 (by decide) (wd_369 hE) (fun _ h9 => h9) rfl dX11_tell_6 ?_
  have he2 := ok_X7 hok (wt_X11_0 hWT ha0)
  refine tc_i hAL hS hA (va_runV (As := [.int v1, .ref (gR G a0 10)]) (rest := []) ⟨hx, hb, hml, hown, noTs⟩ (t_X7_readWord l dC dI s.heap.size G cs tt mm (gR G a0 0) ((wt_X11_0 hWT ha0)) v1 (gR G a0 10) ((wt_X11_10 hWT ha0))) ⟨cbE 2 (wd_817 hE) (wd_116 hE) (wd_814 hE) rfl rfl (by decide +kernel) ⟨Nat.le_of_ble_eq_true rfl, Nat.le_of_ble_eq_true rfl⟩, (wd_815 hE), (wd_816 hE)⟩ ⟨PT.blind, th_recv hK hP (wt_X11_0 hWT ha0).1 he2 rfl, (th_pre (av := [.ref (gR G a0 0), .int v1, .ref (gR G a0 10)]) trivial hK hP hok hnd hWT hE)⟩ rfl rfl hl.1 rfl (lv_room (Nat.le_of_ble_eq_true rfl)) dX11_tell_9 ⟨Nat.le_of_ble_eq_true rfl, Nat.le_of_ble_eq_true rfl⟩) (fun r3 f3 H locs hr3 hok hP hS => ?_)
  refine lv_if_ne (tgt := 21) hx hb dX11_tell_12 (by decide) (fun c4 => ?_) (fun c4 => ?_)
  · refine lv_aload_n hx hb dX11_tell_21 rfl (lv_at hl 0 rfl) ?_
    refine lv_aload_n hx hb dX11_tell_22 rfl (lv_at hl 0 rfl) ?_
    obtain ⟨y5_5, hy4_5, hy7_5, he5⟩ := ok_X11 hok ha0
    refine th_get hx hb (ly_X11 hE) hown hK hP ha0.1 he5 rfl 9 (by decide) (wd_368 hE) (fun _ h9 => h9) rfl dX11_tell_23 ?_
    refine lv_aload_n hx hb dX11_tell_26 rfl (lv_at hl 0 rfl) ?_
    refine th_get hx hb (ly_X11 hE) hown hK hP ha0.1 he5 rfl 10 (by decide) (wd_369 hE) (fun _ h9 => h9) rfl dX11_tell_27 ?_
    obtain ⟨y1_6, he6⟩ := ok_X8 hok (wt_X11_9 hWT ha0)
    refine tc_i hAL hS hA (va_runV (As := [.ref (gR G a0 10)]) (rest := [.ref a0]) ⟨hx, hb, hml, hown, noTs⟩ (t_X8_tellWord l dC dI H.size G cs tt mm (gR G a0 9) ((wt_X11_9 hWT ha0)) (gR G a0 10) ((wt_X11_10 hWT ha0))) ⟨cbE 1 (wd_1320 hE) (wd_121 hE) (wd_1317 hE) rfl rfl (by decide +kernel) ⟨Nat.le_of_ble_eq_true rfl, Nat.le_of_ble_eq_true rfl⟩, (wd_1318 hE), (wd_1319 hE)⟩ ⟨PT.blind, th_recv hK hP (wt_X11_9 hWT ha0).1 he6 rfl, (th_pre (av := [.ref (gR G a0 9), .ref (gR G a0 10)]) trivial hK hP hok hnd hWT hE)⟩ rfl rfl hl.1 rfl (lv_room (Nat.le_of_ble_eq_true rfl)) dX11_tell_30 ⟨Nat.le_of_ble_eq_true rfl, Nat.le_of_ble_eq_true rfl⟩) (fun r7 f7 H locs hr7 hok hP hS => ?_)
    obtain ⟨y5_8, hy4_8, hy7_8, he8⟩ := ok_X11 hok ha0
    refine tc_i hAL hS hA (va_runV (As := [.int r7]) (rest := []) ⟨hx, hb, hml, hown, noTs⟩ (t_X11_answer l dC dI H.size G cs tt mm a0 ha0 r7) ⟨cbE 1 (wd_748 hE) (wd_115 hE) (wd_745 hE) rfl rfl (by decide +kernel) ⟨Nat.le_of_ble_eq_true rfl, Nat.le_of_ble_eq_true rfl⟩, (wd_747 hE), (wd_23 hE)⟩ ⟨PT.blind, th_recv hK hP ha0.1 he8 rfl, (th_pre (av := [.ref a0, .int r7]) trivial hK hP hok hnd hWT hE)⟩ rfl rfl hl.1 rfl (lv_room (Nat.le_of_ble_eq_true rfl)) dX11_tell_33 ⟨Nat.le_of_ble_eq_true rfl, Nat.le_of_ble_eq_true rfl⟩) (fun r9 f9 H locs hr9 hok hP hS => ?_)
    refine W.eq (g2 := F0 m 36 ls [.int r7]) (by rw [hr9]) ?_
    exact W.iret (v := r7) hx hb hr (fun t ht hW => ⟨⟨r7, f9, rfl, trivial, hok, by rw [ht]; exact hP⟩, hS.F ht⟩) hS.2.2 dX11_tell_36
  · refine lv_aload_n hx hb dX11_tell_15 rfl (lv_at hl 0 rfl) ?_
    refine lv_iconst (v := 2) hx hb dX11_tell_16 (by decide) ?_
    obtain ⟨y5_10, hy4_10, hy7_10, he10⟩ := ok_X11 hok ha0
    refine tc_i hAL hS hA (va_runV (As := [.int 2]) (rest := []) ⟨hx, hb, hml, hown, noTs⟩ (t_X11_fail l dC dI H.size G cs tt mm a0 ha0 2) ⟨cbE 1 (wd_436 hE) (wd_115 hE) (wd_433 hE) rfl rfl (by decide +kernel) ⟨Nat.le_of_ble_eq_true rfl, Nat.le_of_ble_eq_true rfl⟩, (wd_435 hE), (wd_1 hE)⟩ ⟨PT.blind, th_recv hK hP ha0.1 he10 rfl, (th_pre (av := [.ref a0, .int 2]) trivial hK hP hok hnd hWT hE)⟩ rfl rfl hl.1 rfl (lv_room (Nat.le_of_ble_eq_true rfl)) dX11_tell_17 ⟨Nat.le_of_ble_eq_true rfl, Nat.le_of_ble_eq_true rfl⟩) (fun r11 f11 H locs hr11 hok hP hS => ?_)
    subst hr11
    exact W.iret (v := -1) hx hb hr (fun t ht hW => ⟨⟨-1, f11, rfl, trivial, hok, by rw [ht]; exact hP⟩, hS.F ht⟩) hS.2.2 dX11_tell_20

set_option maxHeartbeats 4000000 in
set_option maxRecDepth 100000 in
theorem t_X11_out (l : Launch) (dC : Nat → ClassId) (dI : Nat → Nat → Nat) (sz : Nat) (G : GT) (cs : Nat → ClassId) (tt mm : Nat) (a0 : Nat) (ha0 : Ty G a0 11) (v1 : Int32) : Met l yX11_out [.code yX11_out cX11_out 2 (some .int)] ({ frames := 1, cells := 0, slots := 0, locals := 40 }) (PT [.ref a0, .int v1] sz dC dI G cs tt mm (fun _ => True)) (va_Qi (fun (r : Int32) (u : Nat → va_E) => True) (BT dC dI G cs tt mm) (AT G sz)) 0 0 (AT G sz) := by
  refine Met.ofW (cc := cX11_out) (maxL := 2) (ret := (some .int)) (by decide) rfl ?_
  intro p e s m args below meth c s₁ B hml hv
  obtain ⟨rfl, hsz, ⟨f0, hok, hP, hX⟩, hK, hnd, hWT, hE⟩ := hv
  have hx := B.exec
  have hb := B.bytes
  have hr := B.returns
  have hown : s.vm.findClass RX11 = some m.cls := findClass_of_methodNamed B.named
  have hlocks := B.notSynchronized
  subst hsz
  have hAL : ∀ a, a ∈ gL G → AT G s.heap.size a := fun a h => Or.inl h
  have hA : ∀ q : Nat, s.heap.size ≤ q → AT G s.heap.size q := fun q h => Or.inr h
  have hS : va_S (AT G s.heap.size) s.heap s.heap [] := va_S.rf
  have hl := lv_entry ([.ref a0, .int v1]) (n := 2) (Nat.le_of_ble_eq_true rfl)
  rw [lg_entry_eq]
  generalize (lg_sl ([.ref a0, .int v1]) ++ List.replicate (2 - (lg_sl ([.ref a0, .int v1])).length) Slot.unset).toArray = ls at hl ⊢
  have hl : lv_has ls 2 [(0, .ref a0), (1, .int v1)] := hl
  refine lv_iload_n hx hb dX11_out_0 rfl (lv_at hl 1 rfl) ?_
  refine lv_if_ge (tgt := 10) hx hb dX11_out_1 (by decide) (fun c1 => ?_) (fun c1 => ?_)
  · refine lv_iload_n hx hb dX11_out_10 rfl (lv_at hl 1 rfl) ?_
    refine lv_aload_n hx hb dX11_out_11 rfl (lv_at hl 0 rfl) ?_
    obtain ⟨y5_2, hy4_2, hy7_2, he2⟩ := ok_X11 hok ha0
    refine th_get hx hb (ly_X11 hE) hown hK hP ha0.1 he2 rfl 9 (by decide) (wd_368 hE) (fun _ h9 => h9) rfl dX11_out_12 ?_
    obtain ⟨y1_3, he3⟩ := ok_X8 hok (wt_X11_9 hWT ha0)
    refine vp_callSi (va_Run.run (va_runV (As := []) (rest := [.int v1]) ⟨hx, hb, hml, hown, noTs⟩ (t_X8_size l dC dI s.heap.size G cs tt mm (gR G a0 9) ((wt_X11_9 hWT ha0))) ⟨cbE 0 (wd_1343 hE) (wd_121 hE) (wd_1340 hE) rfl rfl (by decide +kernel) ⟨Nat.le_of_ble_eq_true rfl, Nat.le_of_ble_eq_true rfl⟩, (wd_1341 hE), (wd_1342 hE)⟩ ⟨PT.blind, th_recv hK hP (wt_X11_9 hWT ha0).1 he3 rfl, (th_pre (av := [.ref (gR G a0 9)]) trivial hK hP hok hnd hWT hE)⟩ rfl rfl hl.1 rfl (lv_room (Nat.le_of_ble_eq_true rfl)) dX11_out_15 ⟨Nat.le_of_ble_eq_true rfl, Nat.le_of_ble_eq_true rfl⟩)) (fun r4 hr4 => ?_)
    refine lv_icmp_lt (tgt := 29) hx hb dX11_out_18 (by decide) (fun c5 => ?_) (fun c5 => ?_)
    · refine lv_aload_n hx hb dX11_out_29 rfl (lv_at hl 0 rfl) ?_
      refine lv_aload_n hx hb dX11_out_30 rfl (lv_at hl 0 rfl) ?_
      refine th_get hx hb (ly_X11 hE) hown hK hP ha0.1 he2 rfl 9 (by decide) (wd_368 hE) (fun _ h9 => h9) rfl dX11_out_31 ?_
      refine lv_iload_n hx hb dX11_out_34 rfl (lv_at hl 1 rfl) ?_
      refine vp_callSi (va_Run.run (va_runV (As := [.int v1]) (rest := [.ref a0]) ⟨hx, hb, hml, hown, noTs⟩ (t_X8_byteAt l dC dI s.heap.size G cs tt mm (gR G a0 9) ((wt_X11_9 hWT ha0)) v1) ⟨cbE 1 (wd_1347 hE) (wd_121 hE) (wd_1344 hE) rfl rfl (by decide +kernel) ⟨Nat.le_of_ble_eq_true rfl, Nat.le_of_ble_eq_true rfl⟩, (wd_1345 hE), (wd_1346 hE)⟩ ⟨PT.blind, th_recv hK hP (wt_X11_9 hWT ha0).1 he3 rfl, (th_pre (av := [.ref (gR G a0 9), .int v1]) trivial hK hP hok hnd hWT hE)⟩ rfl rfl hl.1 rfl (lv_room (Nat.le_of_ble_eq_true rfl)) dX11_out_35 ⟨Nat.le_of_ble_eq_true rfl, Nat.le_of_ble_eq_true rfl⟩)) (fun r6 hr6 => ?_)
      refine tc_i hAL hS hA (va_runV (As := [.int r6]) (rest := []) ⟨hx, hb, hml, hown, noTs⟩ (t_X11_answer l dC dI s.heap.size G cs tt mm a0 ha0 r6) ⟨cbE 1 (wd_748 hE) (wd_115 hE) (wd_745 hE) rfl rfl (by decide +kernel) ⟨Nat.le_of_ble_eq_true rfl, Nat.le_of_ble_eq_true rfl⟩, (wd_747 hE), (wd_23 hE)⟩ ⟨PT.blind, th_recv hK hP ha0.1 he2 rfl, (th_pre (av := [.ref a0, .int r6]) trivial hK hP hok hnd hWT hE)⟩ rfl rfl hl.1 rfl (lv_room (Nat.le_of_ble_eq_true rfl)) dX11_out_38 ⟨Nat.le_of_ble_eq_true rfl, Nat.le_of_ble_eq_true rfl⟩) (fun r7 f7 H locs hr7 hok hP hS => ?_)
      refine W.eq (g2 := F0 m 41 ls [.int r6]) (by rw [hr7]) ?_
      exact W.iret (v := r6) hx hb hr (fun t ht hW => ⟨⟨r6, f7, rfl, trivial, hok, by rw [ht]; exact hP⟩, hS.F ht⟩) hS.2.2 dX11_out_41
    · refine lv_aload_n hx hb dX11_out_21 rfl (lv_at hl 0 rfl) ?_
      refine lv_iconst (v := 5) hx hb dX11_out_22 (by decide) ?_
      refine tc_i hAL hS hA (va_runV (As := [.int 5]) (rest := []) ⟨hx, hb, hml, hown, noTs⟩ (t_X11_fail l dC dI s.heap.size G cs tt mm a0 ha0 5) ⟨cbE 1 (wd_436 hE) (wd_115 hE) (wd_433 hE) rfl rfl (by decide +kernel) ⟨Nat.le_of_ble_eq_true rfl, Nat.le_of_ble_eq_true rfl⟩, (wd_435 hE), (wd_1 hE)⟩ ⟨PT.blind, th_recv hK hP ha0.1 he2 rfl, (th_pre (av := [.ref a0, .int 5]) trivial hK hP hok hnd hWT hE)⟩ rfl rfl hl.1 rfl (lv_room (Nat.le_of_ble_eq_true rfl)) dX11_out_23 ⟨Nat.le_of_ble_eq_true rfl, Nat.le_of_ble_eq_true rfl⟩) (fun r8 f8 H locs hr8 hok hP hS => ?_)
      subst hr8
      refine lv_goto (tgt := 41) hx hb dX11_out_26 (by decide) ?_
      exact W.iret (v := -1) hx hb hr (fun t ht hW => ⟨⟨-1, f8, rfl, trivial, hok, by rw [ht]; exact hP⟩, hS.F ht⟩) hS.2.2 dX11_out_41
  · refine lv_aload_n hx hb dX11_out_4 rfl (lv_at hl 0 rfl) ?_
    refine lv_iconst (v := 1) hx hb dX11_out_5 (by decide) ?_
    obtain ⟨y5_9, hy4_9, hy7_9, he9⟩ := ok_X11 hok ha0
    refine tc_i hAL hS hA (va_runV (As := [.int 1]) (rest := []) ⟨hx, hb, hml, hown, noTs⟩ (t_X11_fail l dC dI s.heap.size G cs tt mm a0 ha0 1) ⟨cbE 1 (wd_436 hE) (wd_115 hE) (wd_433 hE) rfl rfl (by decide +kernel) ⟨Nat.le_of_ble_eq_true rfl, Nat.le_of_ble_eq_true rfl⟩, (wd_435 hE), (wd_1 hE)⟩ ⟨PT.blind, th_recv hK hP ha0.1 he9 rfl, (th_pre (av := [.ref a0, .int 1]) trivial hK hP hok hnd hWT hE)⟩ rfl rfl hl.1 rfl (lv_room (Nat.le_of_ble_eq_true rfl)) dX11_out_6 ⟨Nat.le_of_ble_eq_true rfl, Nat.le_of_ble_eq_true rfl⟩) (fun r10 f10 H locs hr10 hok hP hS => ?_)
    subst hr10
    exact W.iret (v := -1) hx hb hr (fun t ht hW => ⟨⟨-1, f10, rfl, trivial, hok, by rw [ht]; exact hP⟩, hS.F ht⟩) hS.2.2 dX11_out_9

set_option maxHeartbeats 4000000 in
set_option maxRecDepth 100000 in
theorem t_X11_chi (l : Launch) (dC : Nat → ClassId) (dI : Nat → Nat → Nat) (sz : Nat) (G : GT) (cs : Nat → ClassId) (tt mm : Nat) (a0 : Nat) (ha0 : Ty G a0 11) (v1 : Int32) : Met l yX11_chi [.code yX11_chi cX11_chi 2 (some .int)] ({ frames := 4, cells := 0, slots := 0, locals := 160 }) (PT [.ref a0, .int v1] sz dC dI G cs tt mm (fun _ => True)) (va_Qi (fun (r : Int32) (u : Nat → va_E) => True) (BT dC dI G cs tt mm) (AT G sz)) 0 0 (AT G sz) := by
  refine Met.ofW (cc := cX11_chi) (maxL := 2) (ret := (some .int)) (by decide) rfl ?_
  intro p e s m args below meth c s₁ B hml hv
  obtain ⟨rfl, hsz, ⟨f0, hok, hP, hX⟩, hK, hnd, hWT, hE⟩ := hv
  have hx := B.exec
  have hb := B.bytes
  have hr := B.returns
  have hown : s.vm.findClass RX11 = some m.cls := findClass_of_methodNamed B.named
  have hlocks := B.notSynchronized
  subst hsz
  have hAL : ∀ a, a ∈ gL G → AT G s.heap.size a := fun a h => Or.inl h
  have hA : ∀ q : Nat, s.heap.size ≤ q → AT G s.heap.size q := fun q h => Or.inr h
  have hS : va_S (AT G s.heap.size) s.heap s.heap [] := va_S.rf
  have hl := lv_entry ([.ref a0, .int v1]) (n := 2) (Nat.le_of_ble_eq_true rfl)
  rw [lg_entry_eq]
  generalize (lg_sl ([.ref a0, .int v1]) ++ List.replicate (2 - (lg_sl ([.ref a0, .int v1])).length) Slot.unset).toArray = ls at hl ⊢
  have hl : lv_has ls 2 [(0, .ref a0), (1, .int v1)] := hl
  refine lv_iload_n hx hb dX11_chi_0 rfl (lv_at hl 1 rfl) ?_
  refine lv_if_lt (tgt := 9) hx hb dX11_chi_1 (by decide) (fun c1 => ?_) (fun c1 => ?_)
  · refine lv_aload_n hx hb dX11_chi_9 rfl (lv_at hl 0 rfl) ?_
    refine lv_iconst (v := 1) hx hb dX11_chi_10 (by decide) ?_
    obtain ⟨y5_2, hy4_2, hy7_2, he2⟩ := ok_X11 hok ha0
    refine tc_i hAL hS hA (va_runV (As := [.int 1]) (rest := []) ⟨hx, hb, hml, hown, noTs⟩ (t_X11_fail l dC dI s.heap.size G cs tt mm a0 ha0 1) ⟨cbE 1 (wd_436 hE) (wd_115 hE) (wd_433 hE) rfl rfl (by decide +kernel) ⟨Nat.le_of_ble_eq_true rfl, Nat.le_of_ble_eq_true rfl⟩, (wd_435 hE), (wd_1 hE)⟩ ⟨PT.blind, th_recv hK hP ha0.1 he2 rfl, (th_pre (av := [.ref a0, .int 1]) trivial hK hP hok hnd hWT hE)⟩ rfl rfl hl.1 rfl (lv_room (Nat.le_of_ble_eq_true rfl)) dX11_chi_11 ⟨Nat.le_of_ble_eq_true rfl, Nat.le_of_ble_eq_true rfl⟩) (fun r3 f3 H locs hr3 hok hP hS => ?_)
    subst hr3
    exact W.iret (v := -1) hx hb hr (fun t ht hW => ⟨⟨-1, f3, rfl, trivial, hok, by rw [ht]; exact hP⟩, hS.F ht⟩) hS.2.2 dX11_chi_14
  · refine lv_iload_n hx hb dX11_chi_4 rfl (lv_at hl 1 rfl) ?_
    refine lv_iconst (v := 1) hx hb dX11_chi_5 (by decide) ?_
    refine lv_icmp_le (tgt := 15) hx hb dX11_chi_6 (by decide) (fun c4 => ?_) (fun c4 => ?_)
    · refine lv_aload_n hx hb dX11_chi_15 rfl (lv_at hl 0 rfl) ?_
      obtain ⟨y5_5, hy4_5, hy7_5, he5⟩ := ok_X11 hok ha0
      refine th_get hx hb (ly_X11 hE) hown hK hP ha0.1 he5 rfl 17 (by decide) (wd_376 hE) (fun _ h9 => h9) rfl dX11_chi_16 ?_
      refine lv_aload_n hx hb dX11_chi_19 rfl (lv_at hl 0 rfl) ?_
      refine th_get hx hb (ly_X11 hE) hown hK hP ha0.1 he5 rfl 0 (by decide) (wd_359 hE) (fun _ h9 => h9) rfl dX11_chi_20 ?_
      obtain ⟨y1_6, y2_6, he6⟩ := ok_X6 hok (wt_X11_17 hWT ha0)
      refine tc_v hAL hS hA (va_runV (As := [.ref (gR G a0 0)]) (rest := []) ⟨hx, hb, hml, hown, noTs⟩ (t_X6_weigh l dC dI s.heap.size G cs tt mm (gR G a0 17) ((wt_X11_17 hWT ha0)) (gR G a0 0) ((wt_X11_0 hWT ha0))) ⟨cbE 1 (wd_1355 hE) (wd_124 hE) (wd_1352 hE) rfl rfl (by decide +kernel) ⟨Nat.le_of_ble_eq_true rfl, Nat.le_of_ble_eq_true rfl⟩, (wd_1353 hE), (wd_1354 hE)⟩ ⟨PT.blind, th_recv hK hP (wt_X11_17 hWT ha0).1 he6 rfl, (th_pre (av := [.ref (gR G a0 17), .ref (gR G a0 0)]) trivial hK hP hok hnd hWT hE)⟩ rfl rfl hl.1 rfl (lv_room (Nat.le_of_ble_eq_true rfl)) dX11_chi_23 ⟨Nat.le_of_ble_eq_true rfl, Nat.le_of_ble_eq_true rfl⟩) (fun f7 H locs hr7 hok hP hS => ?_)
      refine lv_aload_n hx hb dX11_chi_26 rfl (lv_at hl 0 rfl) ?_
      refine lv_iload_n hx hb dX11_chi_27 rfl (lv_at hl 1 rfl) ?_
      refine lv_if_ne (tgt := 41) hx hb dX11_chi_28 (by decide) (fun c8 => ?_) (fun c8 => ?_)
      · refine lv_aload_n hx hb dX11_chi_41 rfl (lv_at hl 0 rfl) ?_
        obtain ⟨y5_9, hy4_9, hy7_9, he9⟩ := ok_X11 hok ha0
        refine th_get hx hb (ly_X11 hE) hown hK hP ha0.1 he9 rfl 17 (by decide) (wd_376 hE) (fun _ h9 => h9) rfl dX11_chi_42 ?_
        obtain ⟨y1_10, y2_10, he10⟩ := ok_X6 hok (wt_X11_17 hWT ha0)
        refine vp_callSl (va_Run.run (va_runV (As := []) (rest := [.ref a0]) ⟨hx, hb, hml, hown, noTs⟩ (t_X6_below l dC dI H.size G cs tt mm (gR G a0 17) ((wt_X11_17 hWT ha0))) ⟨cbE 0 (wd_1368 hE) (wd_124 hE) (wd_1365 hE) rfl rfl (by decide +kernel) ⟨Nat.le_of_ble_eq_true rfl, Nat.le_of_ble_eq_true rfl⟩, (wd_1366 hE), (wd_1367 hE)⟩ ⟨PT.blind, th_recv hK hP (wt_X11_17 hWT ha0).1 he10 rfl, (th_pre (av := [.ref (gR G a0 17)]) trivial hK hP hok hnd hWT hE)⟩ rfl rfl hl.1 rfl (lv_room (Nat.le_of_ble_eq_true rfl)) dX11_chi_45 ⟨Nat.le_of_ble_eq_true rfl, Nat.le_of_ble_eq_true rfl⟩)) (fun r11 hr11 => ?_)
        refine lv_l2i hx hb dX11_chi_48 rfl ?_
        refine lv_topi (fun x12 _ => ?_)
        refine tc_i hAL hS hA (va_runV (As := [.int x12]) (rest := []) ⟨hx, hb, hml, hown, noTs⟩ (t_X11_answer l dC dI H.size G cs tt mm a0 ha0 x12) ⟨cbE 1 (wd_748 hE) (wd_115 hE) (wd_745 hE) rfl rfl (by decide +kernel) ⟨Nat.le_of_ble_eq_true rfl, Nat.le_of_ble_eq_true rfl⟩, (wd_747 hE), (wd_23 hE)⟩ ⟨PT.blind, th_recv hK hP ha0.1 he9 rfl, (th_pre (av := [.ref a0, .int x12]) trivial hK hP hok hnd hWT hE)⟩ rfl rfl hl.1 rfl (lv_room (Nat.le_of_ble_eq_true rfl)) dX11_chi_49 ⟨Nat.le_of_ble_eq_true rfl, Nat.le_of_ble_eq_true rfl⟩) (fun r13 f13 H locs hr13 hok hP hS => ?_)
        refine W.eq (g2 := F0 m 52 ls [.int x12]) (by rw [hr13]) ?_
        exact W.iret (v := x12) hx hb hr (fun t ht hW => ⟨⟨x12, f13, rfl, trivial, hok, by rw [ht]; exact hP⟩, hS.F ht⟩) hS.2.2 dX11_chi_52
      · refine lv_aload_n hx hb dX11_chi_31 rfl (lv_at hl 0 rfl) ?_
        obtain ⟨y5_14, hy4_14, hy7_14, he14⟩ := ok_X11 hok ha0
        refine th_get hx hb (ly_X11 hE) hown hK hP ha0.1 he14 rfl 17 (by decide) (wd_376 hE) (fun _ h9 => h9) rfl dX11_chi_32 ?_
        obtain ⟨y1_15, y2_15, he15⟩ := ok_X6 hok (wt_X11_17 hWT ha0)
        refine vp_callSl (va_Run.run (va_runV (As := []) (rest := [.ref a0]) ⟨hx, hb, hml, hown, noTs⟩ (t_X6_above l dC dI H.size G cs tt mm (gR G a0 17) ((wt_X11_17 hWT ha0))) ⟨cbE 0 (wd_1364 hE) (wd_124 hE) (wd_1361 hE) rfl rfl (by decide +kernel) ⟨Nat.le_of_ble_eq_true rfl, Nat.le_of_ble_eq_true rfl⟩, (wd_1362 hE), (wd_1363 hE)⟩ ⟨PT.blind, th_recv hK hP (wt_X11_17 hWT ha0).1 he15 rfl, (th_pre (av := [.ref (gR G a0 17)]) trivial hK hP hok hnd hWT hE)⟩ rfl rfl hl.1 rfl (lv_room (Nat.le_of_ble_eq_true rfl)) dX11_chi_35 ⟨Nat.le_of_ble_eq_true rfl, Nat.le_of_ble_eq_true rfl⟩)) (fun r16 hr16 => ?_)
        refine lv_goto (tgt := 48) hx hb dX11_chi_38 (by decide) ?_
        refine lv_l2i hx hb dX11_chi_48 rfl ?_
        refine lv_topi (fun x17 _ => ?_)
        refine tc_i hAL hS hA (va_runV (As := [.int x17]) (rest := []) ⟨hx, hb, hml, hown, noTs⟩ (t_X11_answer l dC dI H.size G cs tt mm a0 ha0 x17) ⟨cbE 1 (wd_748 hE) (wd_115 hE) (wd_745 hE) rfl rfl (by decide +kernel) ⟨Nat.le_of_ble_eq_true rfl, Nat.le_of_ble_eq_true rfl⟩, (wd_747 hE), (wd_23 hE)⟩ ⟨PT.blind, th_recv hK hP ha0.1 he14 rfl, (th_pre (av := [.ref a0, .int x17]) trivial hK hP hok hnd hWT hE)⟩ rfl rfl hl.1 rfl (lv_room (Nat.le_of_ble_eq_true rfl)) dX11_chi_49 ⟨Nat.le_of_ble_eq_true rfl, Nat.le_of_ble_eq_true rfl⟩) (fun r18 f18 H locs hr18 hok hP hS => ?_)
        refine W.eq (g2 := F0 m 52 ls [.int x17]) (by rw [hr18]) ?_
        exact W.iret (v := x17) hx hb hr (fun t ht hW => ⟨⟨x17, f18, rfl, trivial, hok, by rw [ht]; exact hP⟩, hS.F ht⟩) hS.2.2 dX11_chi_52
    · refine lv_aload_n hx hb dX11_chi_9 rfl (lv_at hl 0 rfl) ?_
      refine lv_iconst (v := 1) hx hb dX11_chi_10 (by decide) ?_
      obtain ⟨y5_19, hy4_19, hy7_19, he19⟩ := ok_X11 hok ha0
      refine tc_i hAL hS hA (va_runV (As := [.int 1]) (rest := []) ⟨hx, hb, hml, hown, noTs⟩ (t_X11_fail l dC dI s.heap.size G cs tt mm a0 ha0 1) ⟨cbE 1 (wd_436 hE) (wd_115 hE) (wd_433 hE) rfl rfl (by decide +kernel) ⟨Nat.le_of_ble_eq_true rfl, Nat.le_of_ble_eq_true rfl⟩, (wd_435 hE), (wd_1 hE)⟩ ⟨PT.blind, th_recv hK hP ha0.1 he19 rfl, (th_pre (av := [.ref a0, .int 1]) trivial hK hP hok hnd hWT hE)⟩ rfl rfl hl.1 rfl (lv_room (Nat.le_of_ble_eq_true rfl)) dX11_chi_11 ⟨Nat.le_of_ble_eq_true rfl, Nat.le_of_ble_eq_true rfl⟩) (fun r20 f20 H locs hr20 hok hP hS => ?_)
      subst hr20
      exact W.iret (v := -1) hx hb hr (fun t ht hW => ⟨⟨-1, f20, rfl, trivial, hok, by rw [ht]; exact hP⟩, hS.F ht⟩) hS.2.2 dX11_chi_14
