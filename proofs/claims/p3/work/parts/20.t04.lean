set_option maxHeartbeats 4000000 in
set_option maxRecDepth 100000 in
theorem t_X4_start (l : Launch) (dC : Nat → ClassId) (dI : Nat → Nat → Nat) (sz : Nat) (G : GT) (cs : Nat → ClassId) (tt mm : Nat) (a0 : Nat) (ha0 : Ty G a0 4) (a1 : Nat) (ha1 : Ty G a1 7) (a2 : Nat) (ha2 : Ty G a2 10) : Met l yX4_start [.code yX4_start cX4_start 3 none] ({ frames := 5, cells := 0, slots := 0, locals := 200 }) (PT [.ref a0, .ref a1, .ref a2] sz dC dI G cs tt mm (fun _ => True)) (va_Qv (fun (u : Nat → va_E) => True) (BT dC dI G cs tt mm) (AT G sz)) 0 0 (AT G sz) := by
  refine Met.ofW (cc := cX4_start) (maxL := 3) (ret := none) (by decide) rfl ?_
  intro p e s m args below meth c s₁ B hml hv
  obtain ⟨rfl, hsz, ⟨f0, hok, hP, hX⟩, hK, hnd, hWT, hE⟩ := hv
  have hx := B.exec
  have hb := B.bytes
  have hr := B.returns
  have hown : s.vm.findClass RX4 = some m.cls := findClass_of_methodNamed B.named
  have hlocks := B.notSynchronized
  subst hsz
  have hAL : ∀ a, a ∈ gL G → AT G s.heap.size a := fun a h => Or.inl h
  have hA : ∀ q : Nat, s.heap.size ≤ q → AT G s.heap.size q := fun q h => Or.inr h
  have hS : va_S (AT G s.heap.size) s.heap s.heap [] := va_S.rf
  have hl := lv_entry ([.ref a0, .ref a1, .ref a2]) (n := 3) (Nat.le_of_ble_eq_true rfl)
  rw [lg_entry_eq]
  generalize (lg_sl ([.ref a0, .ref a1, .ref a2]) ++ List.replicate (3 - (lg_sl ([.ref a0, .ref a1, .ref a2])).length) Slot.unset).toArray = ls at hl ⊢
  have hl : lv_has ls 3 [(0, .ref a0), (1, .ref a1), (2, .ref a2)] := hl
  refine lv_aload_n hx hb dX4_start_0 rfl (lv_at hl 1 rfl) ?_
  refine lv_aload_n hx hb dX4_start_1 rfl (lv_at hl 2 rfl) ?_
  refine lv_aload_n hx hb dX4_start_2 rfl (lv_at hl 0 rfl) ?_
  obtain ⟨y6_1, y7_1, he1⟩ := ok_X4 hok ha0
  refine th_get hx hb (ly_X4 hE) hown hK hP ha0.1 he1 rfl 0 (by decide) (wd_305 hE) (fun _ h9 => h9) rfl dX4_start_3 ?_
  refine lv_aload_n hx hb dX4_start_6 rfl (lv_at hl 0 rfl) ?_
  refine th_get hx hb (ly_X4 hE) hown hK hP ha0.1 he1 rfl 3 (by decide) (wd_308 hE) (fun _ h9 => h9) rfl dX4_start_7 ?_
  refine tc_v hAL hS hA (va_runS (As := [.ref a1, .ref a2, .ref (gR G a0 0), .ref (gR G a0 3)]) (rest := []) ⟨hx, hb, hml, hown, noTs⟩ (t_X2_shrink l dC dI s.heap.size G cs tt mm a1 ha1 a2 ha2 (gR G a0 0) ((wt_X4_0 hWT ha0)) (gR G a0 3) ((wt_X4_3 hWT ha0))) ⟨cbE 4 (wd_962 hE) (wd_134 hE) (wd_1106 hE) rfl rfl (by decide +kernel) ⟨Nat.le_of_ble_eq_true rfl, Nat.le_of_ble_eq_true rfl⟩, (wd_961 hE)⟩ ⟨PT.blind, (th_pre (av := [.ref a1, .ref a2, .ref (gR G a0 0), .ref (gR G a0 3)]) trivial hK hP hok hnd hWT hE)⟩ rfl rfl hl.1 rfl (lv_room (Nat.le_of_ble_eq_true rfl)) dX4_start_10 ⟨Nat.le_of_ble_eq_true rfl, Nat.le_of_ble_eq_true rfl⟩) (fun f2 H locs hr2 hok hP hS => ?_)
  refine lv_aload_n hx hb dX4_start_13 rfl (lv_at hl 0 rfl) ?_
  obtain ⟨y6_3, y7_3, he3⟩ := ok_X4 hok ha0
  refine th_get hx hb (ly_X4 hE) hown hK hP ha0.1 he3 rfl 0 (by decide) (wd_305 hE) (fun _ h9 => h9) rfl dX4_start_14 ?_
  obtain ⟨y2_4, y3_4, hy3_4, he4⟩ := ok_X10 hok (wt_X4_0 hWT ha0)
  refine vp_callSi (va_Run.run (va_runV (As := []) (rest := []) ⟨hx, hb, hml, hown, noTs⟩ (t_X10_size l dC dI H.size G cs tt mm (gR G a0 0) ((wt_X4_0 hWT ha0)) y2_4 y3_4) ⟨cbE 0 (wd_666 hE) (wd_120 hE) (wd_1107 hE) rfl rfl (by decide +kernel) ⟨Nat.le_of_ble_eq_true rfl, Nat.le_of_ble_eq_true rfl⟩, (wd_664 hE), (wd_665 hE)⟩ ⟨PT.blind, th_recv hK hP (wt_X4_0 hWT ha0).1 he4 rfl, (th_pre (av := [.ref (gR G a0 0)]) he4 hK hP hok hnd hWT hE)⟩ rfl rfl hl.1 rfl (lv_room (Nat.le_of_ble_eq_true rfl)) dX4_start_17 ⟨Nat.le_of_ble_eq_true rfl, Nat.le_of_ble_eq_true rfl⟩)) (fun r5 hr5 => ?_)
  subst hr5
  have nt6 : (nI y3_4).toInt = ((y3_4 : Nat) : Int) := nI_toInt (by omega)
  refine lv_if_ne (tgt := 28) hx hb dX4_start_20 (by decide) (fun c7 => ?_) (fun c7 => ?_)
  · exact W.vret hx hb hr (fun t ht hW => ⟨⟨f2, rfl, trivial, hok, by rw [ht]; exact hP⟩, hS.F ht⟩) hS.2.2 dX4_start_28
  · refine lv_aload_n hx hb dX4_start_23 rfl (lv_at hl 0 rfl) ?_
    refine lv_aload_n hx hb dX4_start_24 rfl (lv_at hl 1 rfl) ?_
    refine tc_v hAL hS hA (va_runV (As := [.ref a1]) (rest := []) ⟨hx, hb, hml, hown, noTs⟩ (t_X4_spread l dC dI H.size G cs tt mm a0 ha0 a1 ha1) ⟨cbE 1 (wd_1111 hE) (wd_122 hE) (wd_1108 hE) rfl rfl (by decide +kernel) ⟨Nat.le_of_ble_eq_true rfl, Nat.le_of_ble_eq_true rfl⟩, (wd_1110 hE), (wd_40 hE)⟩ ⟨PT.blind, th_recv hK hP ha0.1 he3 rfl, (th_pre (av := [.ref a0, .ref a1]) trivial hK hP hok hnd hWT hE)⟩ rfl rfl hl.1 rfl (lv_room (Nat.le_of_ble_eq_true rfl)) dX4_start_25 ⟨Nat.le_of_ble_eq_true rfl, Nat.le_of_ble_eq_true rfl⟩) (fun f8 H locs hr8 hok hP hS => ?_)
    exact W.vret hx hb hr (fun t ht hW => ⟨⟨f8, rfl, trivial, hok, by rw [ht]; exact hP⟩, hS.F ht⟩) hS.2.2 dX4_start_28

set_option maxHeartbeats 4000000 in
set_option maxRecDepth 100000 in
theorem t_X4_begunBehind (l : Launch) (dC : Nat → ClassId) (dI : Nat → Nat → Nat) (sz : Nat) (G : GT) (cs : Nat → ClassId) (tt mm : Nat) (a0 : Nat) (ha0 : Ty G a0 4) : Met l yX4_begunBehind [.code yX4_begunBehind cX4_begunBehind 1 (some .int)] ({ frames := 0, cells := 0, slots := 0, locals := 0 }) (PT [.ref a0] sz dC dI G cs tt mm (fun _ => True)) (vp_Si (fun (r : Int32) => True)) 0 0 (fun _ => False) := by
  refine Met.ofW (cc := cX4_begunBehind) (maxL := 1) (ret := (some .int)) (by decide) rfl ?_
  intro p e s m args below meth c s₁ B hml hv
  obtain ⟨rfl, hsz, ⟨f0, hok, hP, hX⟩, hK, hnd, hWT, hE⟩ := hv
  have hx := B.exec
  have hb := B.bytes
  have hr := B.returns
  have hown : s.vm.findClass RX4 = some m.cls := findClass_of_methodNamed B.named
  have hlocks := B.notSynchronized
  subst hsz
  have hl := lv_entry ([.ref a0]) (n := 1) (Nat.le_of_ble_eq_true rfl)
  rw [lg_entry_eq]
  generalize (lg_sl ([.ref a0]) ++ List.replicate (1 - (lg_sl ([.ref a0])).length) Slot.unset).toArray = ls at hl ⊢
  have hl : lv_has ls 1 [(0, .ref a0)] := hl
  refine lv_aload_n hx hb dX4_begunBehind_0 rfl (lv_at hl 0 rfl) ?_
  obtain ⟨y6_1, y7_1, he1⟩ := ok_X4 hok ha0
  refine th_get hx hb (ly_X4 hE) hown hK hP ha0.1 he1 rfl 6 (by decide) (wd_311 hE) (fun _ h9 => h9) rfl dX4_begunBehind_1 ?_
  exact W.iret (v := y6_1) hx hb hr (fun t ht hW => ⟨y6_1, rfl, trivial, ht⟩) (fun _ h => absurd h List.not_mem_nil) dX4_begunBehind_4

set_option maxHeartbeats 4000000 in
set_option maxRecDepth 100000 in
theorem t_X4_numberTaken (l : Launch) (dC : Nat → ClassId) (dI : Nat → Nat → Nat) (sz : Nat) (G : GT) (cs : Nat → ClassId) (tt mm : Nat) (a0 : Nat) (ha0 : Ty G a0 4) : Met l yX4_numberTaken [.code yX4_numberTaken cX4_numberTaken 1 (some .int)] ({ frames := 0, cells := 0, slots := 0, locals := 0 }) (PT [.ref a0] sz dC dI G cs tt mm (fun _ => True)) (vp_Si (fun (r : Int32) => True)) 0 0 (fun _ => False) := by
  refine Met.ofW (cc := cX4_numberTaken) (maxL := 1) (ret := (some .int)) (by decide) rfl ?_
  intro p e s m args below meth c s₁ B hml hv
  obtain ⟨rfl, hsz, ⟨f0, hok, hP, hX⟩, hK, hnd, hWT, hE⟩ := hv
  have hx := B.exec
  have hb := B.bytes
  have hr := B.returns
  have hown : s.vm.findClass RX4 = some m.cls := findClass_of_methodNamed B.named
  have hlocks := B.notSynchronized
  subst hsz
  have hl := lv_entry ([.ref a0]) (n := 1) (Nat.le_of_ble_eq_true rfl)
  rw [lg_entry_eq]
  generalize (lg_sl ([.ref a0]) ++ List.replicate (1 - (lg_sl ([.ref a0])).length) Slot.unset).toArray = ls at hl ⊢
  have hl : lv_has ls 1 [(0, .ref a0)] := hl
  refine lv_aload_n hx hb dX4_numberTaken_0 rfl (lv_at hl 0 rfl) ?_
  obtain ⟨y6_1, y7_1, he1⟩ := ok_X4 hok ha0
  refine th_get hx hb (ly_X4 hE) hown hK hP ha0.1 he1 rfl 7 (by decide) (wd_312 hE) (fun _ h9 => h9) rfl dX4_numberTaken_1 ?_
  exact W.iret (v := y7_1) hx hb hr (fun t ht hW => ⟨y7_1, rfl, trivial, ht⟩) (fun _ h => absurd h List.not_mem_nil) dX4_numberTaken_4

set_option maxHeartbeats 4000000 in
set_option maxRecDepth 100000 in
theorem t_X4_reachesNumber (l : Launch) (dC : Nat → ClassId) (dI : Nat → Nat → Nat) (sz : Nat) (G : GT) (cs : Nat → ClassId) (tt mm : Nat) (a0 : Nat) (ha0 : Ty G a0 4) (a1 : Nat) (ha1 : Ty G a1 7) : Met l yX4_reachesNumber [.code yX4_reachesNumber cX4_reachesNumber 4 (some .boolean)] ({ frames := 1, cells := 0, slots := 0, locals := 40 }) (PT [.ref a0, .ref a1] sz dC dI G cs tt mm (fun _ => True)) (va_Qi (fun (r : Int32) (u : Nat → va_E) => r = 0 ∨ r = 1) (BT dC dI G cs tt mm) (AT G sz)) 0 0 (AT G sz) := by
  refine Met.ofW (cc := cX4_reachesNumber) (maxL := 4) (ret := (some .boolean)) (by decide) rfl ?_
  intro p e s m args below meth c s₁ B hml hv
  obtain ⟨rfl, hsz, ⟨f0, hok, hP, hX⟩, hK, hnd, hWT, hE⟩ := hv
  have hx := B.exec
  have hb := B.bytes
  have hr := B.returns
  have hown : s.vm.findClass RX4 = some m.cls := findClass_of_methodNamed B.named
  have hlocks := B.notSynchronized
  subst hsz
  have hAL : ∀ a, a ∈ gL G → AT G s.heap.size a := fun a h => Or.inl h
  have hA : ∀ q : Nat, s.heap.size ≤ q → AT G s.heap.size q := fun q h => Or.inr h
  have hS : va_S (AT G s.heap.size) s.heap s.heap [] := va_S.rf
  have hl := lv_entry ([.ref a0, .ref a1]) (n := 4) (Nat.le_of_ble_eq_true rfl)
  rw [lg_entry_eq]
  generalize (lg_sl ([.ref a0, .ref a1]) ++ List.replicate (4 - (lg_sl ([.ref a0, .ref a1])).length) Slot.unset).toArray = ls at hl ⊢
  have hl : lv_has ls 4 [(0, .ref a0), (1, .ref a1)] := hl
  refine lv_aload_n hx hb dX4_reachesNumber_0 rfl (lv_at hl 0 rfl) ?_
  obtain ⟨y6_1, y7_1, he1⟩ := ok_X4 hok ha0
  refine th_get hx hb (ly_X4 hE) hown hK hP ha0.1 he1 rfl 1 (by decide) (wd_306 hE) (fun _ h9 => h9) rfl dX4_reachesNumber_1 ?_
  refine lv_iconst (v := 0) hx hb dX4_reachesNumber_4 (by decide) ?_
  obtain ⟨y2_2, y3_2, hy3_2, he2⟩ := ok_X10 hok (wt_X4_1 hWT ha0)
  refine vp_callSi (va_Run.run (va_runV (As := [.int 0]) (rest := []) ⟨hx, hb, hml, hown, noTs⟩ (t_X10_numberAt l dC dI s.heap.size G cs tt mm (gR G a0 1) ((wt_X4_1 hWT ha0)) 0) ⟨cbE 1 (wd_717 hE) (wd_120 hE) (wd_1112 hE) rfl rfl (by decide +kernel) ⟨Nat.le_of_ble_eq_true rfl, Nat.le_of_ble_eq_true rfl⟩, (wd_715 hE), (wd_716 hE)⟩ ⟨PT.blind, th_recv hK hP (wt_X4_1 hWT ha0).1 he2 rfl, (th_pre (av := [.ref (gR G a0 1), .int 0]) trivial hK hP hok hnd hWT hE)⟩ rfl rfl hl.1 rfl (lv_room (Nat.le_of_ble_eq_true rfl)) dX4_reachesNumber_5 ⟨Nat.le_of_ble_eq_true rfl, Nat.le_of_ble_eq_true rfl⟩)) (fun r3 hr3 => ?_)
  refine lv_aload_n hx hb dX4_reachesNumber_8 rfl (lv_at hl 1 rfl) ?_
  refine lv_aload_n hx hb dX4_reachesNumber_9 rfl (lv_at hl 0 rfl) ?_
  refine th_get hx hb (ly_X4 hE) hown hK hP ha0.1 he1 rfl 0 (by decide) (wd_305 hE) (fun _ h9 => h9) rfl dX4_reachesNumber_10 ?_
  obtain ⟨y2_4, y3_4, hy3_4, he4⟩ := ok_X10 hok (wt_X4_0 hWT ha0)
  refine vp_callSi (va_Run.run (va_runV (As := []) (rest := [.ref a1, .int r3]) ⟨hx, hb, hml, hown, noTs⟩ (t_X10_begin l dC dI s.heap.size G cs tt mm (gR G a0 0) ((wt_X4_0 hWT ha0))) ⟨cbE 0 (wd_713 hE) (wd_120 hE) (wd_1113 hE) rfl rfl (by decide +kernel) ⟨Nat.le_of_ble_eq_true rfl, Nat.le_of_ble_eq_true rfl⟩, (wd_711 hE), (wd_712 hE)⟩ ⟨PT.blind, th_recv hK hP (wt_X4_0 hWT ha0).1 he4 rfl, (th_pre (av := [.ref (gR G a0 0)]) trivial hK hP hok hnd hWT hE)⟩ rfl rfl hl.1 rfl (lv_room (Nat.le_of_ble_eq_true rfl)) dX4_reachesNumber_13 ⟨Nat.le_of_ble_eq_true rfl, Nat.le_of_ble_eq_true rfl⟩)) (fun r5 hr5 => ?_)
  have he6 := ok_X7 hok ha1
  refine vp_callSi (va_Run.run (va_runV (As := [.int r5]) (rest := [.int r3]) ⟨hx, hb, hml, hown, noTs⟩ (t_X7_orderAt l dC dI s.heap.size G cs tt mm a1 ha1 r5) ⟨cbE 1 (wd_614 hE) (wd_116 hE) (wd_1114 hE) rfl rfl (by decide +kernel) ⟨Nat.le_of_ble_eq_true rfl, Nat.le_of_ble_eq_true rfl⟩, (wd_612 hE), (wd_613 hE)⟩ ⟨PT.blind, th_recv hK hP ha1.1 he6 rfl, (th_pre (av := [.ref a1, .int r5]) trivial hK hP hok hnd hWT hE)⟩ rfl rfl hl.1 rfl (lv_room (Nat.le_of_ble_eq_true rfl)) dX4_reachesNumber_16 ⟨Nat.le_of_ble_eq_true rfl, Nat.le_of_ble_eq_true rfl⟩)) (fun r7 hr7 => ?_)
  refine lv_imul hx hb dX4_reachesNumber_19 ?_
  refine lv_topi (fun x8 ex8 => ?_)
  refine lv_istore_n (lv' := [(2, .int x8), (0, .ref a0), (1, .ref a1)]) hx hb dX4_reachesNumber_20 rfl hl (by decide) rfl (fun ls hl => ?_)
  refine lv_aload_n hx hb dX4_reachesNumber_21 rfl (lv_at hl 1 rfl) ?_
  refine th_get hx hb (ly_X4 hE) hown hK hP ha0.1 he1 rfl 0 (by decide) (wd_305 hE) (fun _ h9 => h9) rfl dX4_reachesNumber_22 ?_
  refine lv_iconst (v := 0) hx hb dX4_reachesNumber_25 (by decide) ?_
  refine vp_callSi (va_Run.run (va_runV (As := [.int 0]) (rest := []) ⟨hx, hb, hml, hown, noTs⟩ (t_X10_numberAt l dC dI s.heap.size G cs tt mm (gR G a0 0) ((wt_X4_0 hWT ha0)) 0) ⟨cbE 1 (wd_717 hE) (wd_120 hE) (wd_1112 hE) rfl rfl (by decide +kernel) ⟨Nat.le_of_ble_eq_true rfl, Nat.le_of_ble_eq_true rfl⟩, (wd_715 hE), (wd_716 hE)⟩ ⟨PT.blind, th_recv hK hP (wt_X4_0 hWT ha0).1 he4 rfl, (th_pre (av := [.ref (gR G a0 0), .int 0]) trivial hK hP hok hnd hWT hE)⟩ rfl rfl hl.1 rfl (lv_room (Nat.le_of_ble_eq_true rfl)) dX4_reachesNumber_26 ⟨Nat.le_of_ble_eq_true rfl, Nat.le_of_ble_eq_true rfl⟩)) (fun r9 hr9 => ?_)
  refine lv_aload_n hx hb dX4_reachesNumber_29 rfl (lv_at hl 2 rfl) ?_
  refine lv_aload_n hx hb dX4_reachesNumber_30 rfl (lv_at hl 1 rfl) ?_
  refine th_get hx hb (ly_X4 hE) hown hK hP ha0.1 he1 rfl 1 (by decide) (wd_306 hE) (fun _ h9 => h9) rfl dX4_reachesNumber_31 ?_
  refine vp_callSi (va_Run.run (va_runV (As := []) (rest := [.ref a1, .int r9]) ⟨hx, hb, hml, hown, noTs⟩ (t_X10_begin l dC dI s.heap.size G cs tt mm (gR G a0 1) ((wt_X4_1 hWT ha0))) ⟨cbE 0 (wd_713 hE) (wd_120 hE) (wd_1113 hE) rfl rfl (by decide +kernel) ⟨Nat.le_of_ble_eq_true rfl, Nat.le_of_ble_eq_true rfl⟩, (wd_711 hE), (wd_712 hE)⟩ ⟨PT.blind, th_recv hK hP (wt_X4_1 hWT ha0).1 he2 rfl, (th_pre (av := [.ref (gR G a0 1)]) trivial hK hP hok hnd hWT hE)⟩ rfl rfl hl.1 rfl (lv_room (Nat.le_of_ble_eq_true rfl)) dX4_reachesNumber_34 ⟨Nat.le_of_ble_eq_true rfl, Nat.le_of_ble_eq_true rfl⟩)) (fun r10 hr10 => ?_)
  refine vp_callSi (va_Run.run (va_runV (As := [.int r10]) (rest := [.int r9]) ⟨hx, hb, hml, hown, noTs⟩ (t_X7_orderAt l dC dI s.heap.size G cs tt mm a1 ha1 r10) ⟨cbE 1 (wd_614 hE) (wd_116 hE) (wd_1114 hE) rfl rfl (by decide +kernel) ⟨Nat.le_of_ble_eq_true rfl, Nat.le_of_ble_eq_true rfl⟩, (wd_612 hE), (wd_613 hE)⟩ ⟨PT.blind, th_recv hK hP ha1.1 he6 rfl, (th_pre (av := [.ref a1, .int r10]) trivial hK hP hok hnd hWT hE)⟩ rfl rfl hl.1 rfl (lv_room (Nat.le_of_ble_eq_true rfl)) dX4_reachesNumber_37 ⟨Nat.le_of_ble_eq_true rfl, Nat.le_of_ble_eq_true rfl⟩)) (fun r11 hr11 => ?_)
  refine lv_imul hx hb dX4_reachesNumber_40 ?_
  refine lv_topi (fun x12 ex12 => ?_)
  refine lv_istore_n (lv' := [(3, .int x12), (2, .int x8), (0, .ref a0), (1, .ref a1)]) hx hb dX4_reachesNumber_41 rfl hl (by decide) rfl (fun ls hl => ?_)
  refine lv_aload_n hx hb dX4_reachesNumber_42 rfl (lv_at hl 2 rfl) ?_
  refine lv_aload_n hx hb dX4_reachesNumber_43 rfl (lv_at hl 2 rfl) ?_
  refine lv_aload_n hx hb dX4_reachesNumber_44 rfl (lv_at hl 2 rfl) ?_
  refine th_get hx hb (ly_X4 hE) hown hK hP ha0.1 he1 rfl 1 (by decide) (wd_306 hE) (fun _ h9 => h9) rfl dX4_reachesNumber_45 ?_
  refine vp_callSi (va_Run.run (va_runV (As := []) (rest := [.ref a0, .ref a0]) ⟨hx, hb, hml, hown, noTs⟩ (t_X10_begin l dC dI s.heap.size G cs tt mm (gR G a0 1) ((wt_X4_1 hWT ha0))) ⟨cbE 0 (wd_713 hE) (wd_120 hE) (wd_1113 hE) rfl rfl (by decide +kernel) ⟨Nat.le_of_ble_eq_true rfl, Nat.le_of_ble_eq_true rfl⟩, (wd_711 hE), (wd_712 hE)⟩ ⟨PT.blind, th_recv hK hP (wt_X4_1 hWT ha0).1 he2 rfl, (th_pre (av := [.ref (gR G a0 1)]) trivial hK hP hok hnd hWT hE)⟩ rfl rfl hl.1 rfl (lv_room (Nat.le_of_ble_eq_true rfl)) dX4_reachesNumber_48 ⟨Nat.le_of_ble_eq_true rfl, Nat.le_of_ble_eq_true rfl⟩)) (fun r13 hr13 => ?_)
  refine vp_callSi (va_Run.run (va_runV (As := [.int r13]) (rest := [.ref a0]) ⟨hx, hb, hml, hown, noTs⟩ (t_X4_farOf l dC dI s.heap.size G cs tt mm a0 ha0 r13) ⟨cbE 1 (wd_1126 hE) (wd_122 hE) (wd_1123 hE) rfl rfl (by decide +kernel) ⟨Nat.le_of_ble_eq_true rfl, Nat.le_of_ble_eq_true rfl⟩, (wd_1125 hE), (wd_42 hE)⟩ ⟨PT.blind, th_recv hK hP ha0.1 he1 rfl, (th_pre (av := [.ref a0, .int r13]) trivial hK hP hok hnd hWT hE)⟩ rfl rfl hl.1 rfl (lv_room (Nat.le_of_ble_eq_true rfl)) dX4_reachesNumber_51 ⟨Nat.le_of_ble_eq_true rfl, Nat.le_of_ble_eq_true rfl⟩)) (fun r14 hr14 => ?_)
  refine th_put (v := .int r14) (ty := .int) hx hb (ly_X4 hE) tyX4 tyX4_ok nmX4 hown hK hP hnd hAL hS ha0.1 he1 rfl 6 (by decide) (wd_311 hE) (fun _ h9 => h9) rfl (by decide +kernel) rfl rfl (Nat.le_of_ble_eq_true rfl) (up_X4 hok ha0 ⟨r14, y7_1, rfl⟩) dX4_reachesNumber_54 (fun f15 H locs hfa15 hfo15 hok hP hS => ?_)
  have he16 := (hfo15 (gR G a0 1) (Ty.ne (wt_X4_1 hWT ha0) ha0 (by decide))).trans he2
  have he17 := (hfo15 (gR G a0 0) (Ty.ne (wt_X4_0 hWT ha0) ha0 (by decide))).trans he4
  have he18 := (hfo15 a1 (Ty.ne ha1 ha0 (by decide))).trans he6
  refine lv_aload_n hx hb dX4_reachesNumber_57 rfl (lv_at hl 2 rfl) ?_
  refine lv_iconst (v := 0) hx hb dX4_reachesNumber_58 (by decide) ?_
  refine th_put (v := .int 0) (ty := .int) hx hb (ly_X4 hE) tyX4 tyX4_ok nmX4 hown hK hP hnd hAL hS ha0.1 hfa15 rfl 7 (by decide) (wd_312 hE) (fun _ h9 => h9) rfl (by decide +kernel) rfl rfl (Nat.le_of_ble_eq_true rfl) (up_X4 hok ha0 ⟨r14, 0, rfl⟩) dX4_reachesNumber_59 (fun f19 H locs hfa19 hfo19 hok hP hS => ?_)
  have he20 := (hfo19 (gR G a0 1) (Ty.ne (wt_X4_1 hWT ha0) ha0 (by decide))).trans he16
  have he21 := (hfo19 (gR G a0 0) (Ty.ne (wt_X4_0 hWT ha0) ha0 (by decide))).trans he17
  have he22 := (hfo19 a1 (Ty.ne ha1 ha0 (by decide))).trans he18
  refine lv_aload_n hx hb dX4_reachesNumber_62 rfl (lv_at hl 2 rfl) ?_
  refine th_get hx hb (ly_X4 hE) hown hK hP ha0.1 hfa19 rfl 6 (by decide) (wd_311 hE) (fun _ h9 => h9) rfl dX4_reachesNumber_63 ?_
  refine lv_if_lt (tgt := 78) hx hb dX4_reachesNumber_66 (by decide) (fun c23 => ?_) (fun c23 => ?_)
  · refine lv_iconst (v := 0) hx hb dX4_reachesNumber_78 (by decide) ?_
    exact W.zret (v := 0) hx hb hr rfl (fun t ht hW => ⟨⟨0, f19, rfl, Or.inl rfl, hok, by rw [ht]; exact hP⟩, hS.F ht⟩) hS.2.2 dX4_reachesNumber_79
  · refine lv_iload_n hx hb dX4_reachesNumber_69 rfl (lv_at hl 1 rfl) ?_
    refine lv_iload_n hx hb dX4_reachesNumber_70 rfl (lv_at hl 0 rfl) ?_
    refine lv_icmp_ne (tgt := 78) hx hb dX4_reachesNumber_71 (by decide) (fun c24 => ?_) (fun c24 => ?_)
    · refine lv_iconst (v := 0) hx hb dX4_reachesNumber_78 (by decide) ?_
      exact W.zret (v := 0) hx hb hr rfl (fun t ht hW => ⟨⟨0, f19, rfl, Or.inl rfl, hok, by rw [ht]; exact hP⟩, hS.F ht⟩) hS.2.2 dX4_reachesNumber_79
    · refine lv_iconst (v := 1) hx hb dX4_reachesNumber_74 (by decide) ?_
      refine lv_goto (tgt := 79) hx hb dX4_reachesNumber_75 (by decide) ?_
      exact W.zret (v := 1) hx hb hr rfl (fun t ht hW => ⟨⟨1, f19, rfl, Or.inr rfl, hok, by rw [ht]; exact hP⟩, hS.F ht⟩) hS.2.2 dX4_reachesNumber_79

set_option maxHeartbeats 4000000 in
set_option maxRecDepth 100000 in
theorem t_X4_findNumber (l : Launch) (dC : Nat → ClassId) (dI : Nat → Nat → Nat) (sz : Nat) (G : GT) (cs : Nat → ClassId) (tt mm : Nat) (a0 : Nat) (ha0 : Ty G a0 4) (a1 : Nat) (ha1 : Ty G a1 7) : Met l yX4_findNumber [.code yX4_findNumber cX4_findNumber 6 (some .boolean)] ({ frames := 2, cells := 0, slots := 0, locals := 80 }) (PT [.ref a0, .ref a1] sz dC dI G cs tt mm (fun _ => True)) (va_Qi (fun (r : Int32) (u : Nat → va_E) => r = 0 ∨ r = 1) (BT dC dI G cs tt mm) (AT G sz)) 0 0 (AT G sz) := by
  refine Met.ofW (cc := cX4_findNumber) (maxL := 6) (ret := (some .boolean)) (by decide) rfl ?_
  intro p e s m args below meth c s₁ B hml hv
  obtain ⟨rfl, hsz, ⟨f0, hok, hP, hX⟩, hK, hnd, hWT, hE⟩ := hv
  have hx := B.exec
  have hb := B.bytes
  have hr := B.returns
  have hown : s.vm.findClass RX4 = some m.cls := findClass_of_methodNamed B.named
  have hlocks := B.notSynchronized
  subst hsz
  have hAL : ∀ a, a ∈ gL G → AT G s.heap.size a := fun a h => Or.inl h
  have hA : ∀ q : Nat, s.heap.size ≤ q → AT G s.heap.size q := fun q h => Or.inr h
  have hS : va_S (AT G s.heap.size) s.heap s.heap [] := va_S.rf
  have hl := lv_entry ([.ref a0, .ref a1]) (n := 6) (Nat.le_of_ble_eq_true rfl)
  rw [lg_entry_eq]
  generalize (lg_sl ([.ref a0, .ref a1]) ++ List.replicate (6 - (lg_sl ([.ref a0, .ref a1])).length) Slot.unset).toArray = ls at hl ⊢
  have hl : lv_has ls 6 [(0, .ref a0), (1, .ref a1)] := hl
  refine lv_aload_n hx hb dX4_findNumber_0 rfl (lv_at hl 1 rfl) ?_
  refine lv_aload_n hx hb dX4_findNumber_1 rfl (lv_at hl 0 rfl) ?_
  obtain ⟨y6_1, y7_1, he1⟩ := ok_X4 hok ha0
  refine th_get hx hb (ly_X4 hE) hown hK hP ha0.1 he1 rfl 2 (by decide) (wd_307 hE) (fun _ h9 => h9) rfl dX4_findNumber_2 ?_
  obtain ⟨y2_2, y3_2, hy3_2, he2⟩ := ok_X10 hok (wt_X4_2 hWT ha0)
  refine vp_callSi (va_Run.run (va_runV (As := []) (rest := [.ref a1]) ⟨hx, hb, hml, hown, noTs⟩ (t_X10_begin l dC dI s.heap.size G cs tt mm (gR G a0 2) ((wt_X4_2 hWT ha0))) ⟨cbE 0 (wd_713 hE) (wd_120 hE) (wd_1113 hE) rfl rfl (by decide +kernel) ⟨Nat.le_of_ble_eq_true rfl, Nat.le_of_ble_eq_true rfl⟩, (wd_711 hE), (wd_712 hE)⟩ ⟨PT.blind, th_recv hK hP (wt_X4_2 hWT ha0).1 he2 rfl, (th_pre (av := [.ref (gR G a0 2)]) trivial hK hP hok hnd hWT hE)⟩ rfl rfl hl.1 rfl (lv_room (Nat.le_of_ble_eq_true rfl)) dX4_findNumber_5 ⟨Nat.le_of_ble_eq_true rfl, Nat.le_of_ble_eq_true rfl⟩)) (fun r3 hr3 => ?_)
  have he4 := ok_X7 hok ha1
  refine vp_callSi (va_Run.run (va_runV (As := [.int r3]) (rest := []) ⟨hx, hb, hml, hown, noTs⟩ (t_X7_orderAt l dC dI s.heap.size G cs tt mm a1 ha1 r3) ⟨cbE 1 (wd_614 hE) (wd_116 hE) (wd_1114 hE) rfl rfl (by decide +kernel) ⟨Nat.le_of_ble_eq_true rfl, Nat.le_of_ble_eq_true rfl⟩, (wd_612 hE), (wd_613 hE)⟩ ⟨PT.blind, th_recv hK hP ha1.1 he4 rfl, (th_pre (av := [.ref a1, .int r3]) trivial hK hP hok hnd hWT hE)⟩ rfl rfl hl.1 rfl (lv_room (Nat.le_of_ble_eq_true rfl)) dX4_findNumber_8 ⟨Nat.le_of_ble_eq_true rfl, Nat.le_of_ble_eq_true rfl⟩)) (fun r5 hr5 => ?_)
  refine lv_istore_n (lv' := [(2, .int r5), (0, .ref a0), (1, .ref a1)]) hx hb dX4_findNumber_11 rfl hl (by decide) rfl (fun ls hl => ?_)
  refine lv_aload_n hx hb dX4_findNumber_12 rfl (lv_at hl 1 rfl) ?_
  refine th_get hx hb (ly_X4 hE) hown hK hP ha0.1 he1 rfl 2 (by decide) (wd_307 hE) (fun _ h9 => h9) rfl dX4_findNumber_13 ?_
  refine lv_iconst (v := 0) hx hb dX4_findNumber_16 (by decide) ?_
  refine vp_callSi (va_Run.run (va_runV (As := [.int 0]) (rest := []) ⟨hx, hb, hml, hown, noTs⟩ (t_X10_numberAt l dC dI s.heap.size G cs tt mm (gR G a0 2) ((wt_X4_2 hWT ha0)) 0) ⟨cbE 1 (wd_717 hE) (wd_120 hE) (wd_1112 hE) rfl rfl (by decide +kernel) ⟨Nat.le_of_ble_eq_true rfl, Nat.le_of_ble_eq_true rfl⟩, (wd_715 hE), (wd_716 hE)⟩ ⟨PT.blind, th_recv hK hP (wt_X4_2 hWT ha0).1 he2 rfl, (th_pre (av := [.ref (gR G a0 2), .int 0]) trivial hK hP hok hnd hWT hE)⟩ rfl rfl hl.1 rfl (lv_room (Nat.le_of_ble_eq_true rfl)) dX4_findNumber_17 ⟨Nat.le_of_ble_eq_true rfl, Nat.le_of_ble_eq_true rfl⟩)) (fun r6 hr6 => ?_)
  refine lv_istore_n (lv' := [(3, .int r6), (2, .int r5), (0, .ref a0), (1, .ref a1)]) hx hb dX4_findNumber_20 rfl hl (by decide) rfl (fun ls hl => ?_)
  refine lv_aload_n hx hb dX4_findNumber_21 rfl (lv_at hl 2 rfl) ?_
  refine th_get hx hb (ly_X4 hE) hown hK hP ha0.1 he1 rfl 2 (by decide) (wd_307 hE) (fun _ h9 => h9) rfl dX4_findNumber_22 ?_
  refine vp_callSi (va_Run.run (va_runV (As := []) (rest := []) ⟨hx, hb, hml, hown, noTs⟩ (t_X10_lastNumber l dC dI s.heap.size G cs tt mm (gR G a0 2) ((wt_X4_2 hWT ha0))) ⟨cbE 0 (wd_649 hE) (wd_120 hE) (wd_1160 hE) rfl rfl (by decide +kernel) ⟨Nat.le_of_ble_eq_true rfl, Nat.le_of_ble_eq_true rfl⟩, (wd_647 hE), (wd_648 hE)⟩ ⟨PT.blind, th_recv hK hP (wt_X4_2 hWT ha0).1 he2 rfl, (th_pre (av := [.ref (gR G a0 2)]) trivial hK hP hok hnd hWT hE)⟩ rfl rfl hl.1 rfl (lv_room (Nat.le_of_ble_eq_true rfl)) dX4_findNumber_25 ⟨Nat.le_of_ble_eq_true rfl, Nat.le_of_ble_eq_true rfl⟩)) (fun r7 hr7 => ?_)
  refine lv_istore (lv' := [(4, .int r7), (3, .int r6), (2, .int r5), (0, .ref a0), (1, .ref a1)]) hx hb dX4_findNumber_28 hl (by decide) rfl (fun ls hl => ?_)
  refine lv_iconst (v := 0) hx hb dX4_findNumber_30 (by decide) ?_
  refine lv_istore (lv' := [(5, .int 0), (4, .int r7), (3, .int r6), (2, .int r5), (0, .ref a0), (1, .ref a1)]) hx hb dX4_findNumber_31 hl (by decide) rfl (fun ls hl => ?_)
  refine w_ind (I := fun n f H locs ls => OKT G cs tt mm f ∧ va_P (dC, dI) vwCl (va_pl (gL G) f) H ∧ va_S (AT G s.heap.size) s.heap H locs ∧ ∃ (w5_8 : Int32), n = (2147483647 - w5_8.toInt).toNat ∧ 0 ≤ w5_8 ∧ lv_has ls 6 [(0, .ref a0), (1, .ref a1), (2, .int r5), (3, .int r6), (4, .int r7), (5, .int w5_8)]) (fun n f8 H locs ls hI ih8 => ?_) _ f0 _ _ _ ⟨hok, hP, hS, 0, rfl, (by first | omega | (simp only [i_lt, i_le, i_eq, ti_m9, ti_m1, ti_0, ti_1, ti_2, ti_3, ti_4, ti_5, ti_6, ti_7, ti_9, ti_12, ti_20, ti_99, ti_700, ti_24, ti_156, ti_72, ti_8, ti_60, ti_543, ti_10, ti_33, ti_51, ti_178, ti_119, ti_111, ti_114, ti_100, ti_32, ti_62, ti_59, ti_48, ti_701, ti_97, ti_122, ti_57, ti_73, ti_128]; omega)), lv_sub hl [4, 5, 3, 2, 1, 0] rfl⟩
  obtain ⟨hok, hP, hS, w5_8, hmu8, hlo8, hl⟩ := hI
  subst hmu8
  refine lv_iload hx hb dX4_findNumber_33 (lv_at hl 5 rfl) ?_
  refine lv_iload_n hx hb dX4_findNumber_35 rfl (lv_at hl 2 rfl) ?_
  refine lv_icmp_ge (tgt := 106) hx hb dX4_findNumber_36 (by decide) (fun c9 => ?_) (fun c9 => ?_)
  · refine lv_iconst (v := 0) hx hb dX4_findNumber_106 (by decide) ?_
    exact W.zret (v := 0) hx hb hr rfl (fun t ht hW => ⟨⟨0, f8, rfl, Or.inl rfl, hok, by rw [ht]; exact hP⟩, hS.F ht⟩) hS.2.2 dX4_findNumber_107
  · refine lv_aload_n hx hb dX4_findNumber_39 rfl (lv_at hl 0 rfl) ?_
    obtain ⟨y6_10, y7_10, he10⟩ := ok_X4 hok ha0
    refine th_get hx hb (ly_X4 hE) hown hK hP ha0.1 he10 rfl 2 (by decide) (wd_307 hE) (fun _ h9 => h9) rfl dX4_findNumber_40 ?_
    refine lv_iconst (v := 0) hx hb dX4_findNumber_43 (by decide) ?_
    refine lv_iload_n hx hb dX4_findNumber_44 rfl (lv_at hl 3 rfl) ?_
    refine lv_iload hx hb dX4_findNumber_45 (lv_at hl 5 rfl) ?_
    refine lv_isub hx hb dX4_findNumber_47 ?_
    refine lv_topi (fun x11 ex11 => ?_)
    refine lv_iload_n hx hb dX4_findNumber_48 rfl (lv_at hl 2 rfl) ?_
    refine vp_callSi (va_Run.run (va_runSN (As := [.int x11, .int r5]) (rest := [.int 0, .ref (gR G a0 2)]) ⟨hx, hb, hml, hown, noTs⟩ (t_X11_rest l dC dI H.size G cs tt mm x11 r5) ⟨cnE 2 (wd_617 hE) (wd_115 hE) (wd_1129 hE) rfl rfl (by decide +kernel) ⟨Nat.le_of_ble_eq_true rfl, Nat.le_of_ble_eq_true rfl⟩, (wd_616 hE), trivial⟩ ⟨PT.blind, (th_pre (av := [.int x11, .int r5]) trivial hK hP hok hnd hWT hE)⟩ rfl rfl hl.1 rfl (lv_room (Nat.le_of_ble_eq_true rfl)) dX4_findNumber_49 ⟨Nat.le_of_ble_eq_true rfl, Nat.le_of_ble_eq_true rfl⟩)) (fun r12 hr12 => ?_)
    obtain ⟨hra12, hrb12⟩ := hr12
    obtain ⟨y2_13, y3_13, hy3_13, he13⟩ := ok_X10 hok (wt_X4_2 hWT ha0)
    refine tc_v hAL hS hA (va_runV (As := [.int 0, .int r12]) (rest := []) ⟨hx, hb, hml, hown, noTs⟩ (t_X10_putNumber l dC dI H.size G cs tt mm (gR G a0 2) ((wt_X4_2 hWT ha0)) 0 r12) ⟨cbE 2 (wd_654 hE) (wd_120 hE) (wd_1161 hE) rfl rfl (by decide +kernel) ⟨Nat.le_of_ble_eq_true rfl, Nat.le_of_ble_eq_true rfl⟩, (wd_652 hE), (wd_653 hE)⟩ ⟨PT.blind, th_recv hK hP (wt_X4_2 hWT ha0).1 he13 rfl, (th_pre (av := [.ref (gR G a0 2), .int 0, .int r12]) trivial hK hP hok hnd hWT hE)⟩ rfl rfl hl.1 rfl (lv_room (Nat.le_of_ble_eq_true rfl)) dX4_findNumber_52 ⟨Nat.le_of_ble_eq_true rfl, Nat.le_of_ble_eq_true rfl⟩) (fun f14 H locs hr14 hok hP hS => ?_)
    refine lv_aload_n hx hb dX4_findNumber_55 rfl (lv_at hl 0 rfl) ?_
    obtain ⟨y6_15, y7_15, he15⟩ := ok_X4 hok ha0
    refine th_get hx hb (ly_X4 hE) hown hK hP ha0.1 he15 rfl 2 (by decide) (wd_307 hE) (fun _ h9 => h9) rfl dX4_findNumber_56 ?_
    refine lv_aload_n hx hb dX4_findNumber_59 rfl (lv_at hl 0 rfl) ?_
    refine th_get hx hb (ly_X4 hE) hown hK hP ha0.1 he15 rfl 2 (by decide) (wd_307 hE) (fun _ h9 => h9) rfl dX4_findNumber_60 ?_
    obtain ⟨y2_16, y3_16, hy3_16, he16⟩ := ok_X10 hok (wt_X4_2 hWT ha0)
    refine vp_callSi (va_Run.run (va_runV (As := []) (rest := [.ref (gR G a0 2)]) ⟨hx, hb, hml, hown, noTs⟩ (t_X10_size l dC dI H.size G cs tt mm (gR G a0 2) ((wt_X4_2 hWT ha0)) y2_16 y3_16) ⟨cbE 0 (wd_666 hE) (wd_120 hE) (wd_1107 hE) rfl rfl (by decide +kernel) ⟨Nat.le_of_ble_eq_true rfl, Nat.le_of_ble_eq_true rfl⟩, (wd_664 hE), (wd_665 hE)⟩ ⟨PT.blind, th_recv hK hP (wt_X4_2 hWT ha0).1 he16 rfl, (th_pre (av := [.ref (gR G a0 2)]) he16 hK hP hok hnd hWT hE)⟩ rfl rfl hl.1 rfl (lv_room (Nat.le_of_ble_eq_true rfl)) dX4_findNumber_63 ⟨Nat.le_of_ble_eq_true rfl, Nat.le_of_ble_eq_true rfl⟩)) (fun r17 hr17 => ?_)
    subst hr17
    refine lv_iload hx hb dX4_findNumber_66 (lv_at hl 4 rfl) ?_
    refine lv_iload hx hb dX4_findNumber_68 (lv_at hl 5 rfl) ?_
    refine lv_iadd hx hb dX4_findNumber_70 ?_
    refine lv_topi (fun x18 ex18 => ?_)
    refine lv_iload_n hx hb dX4_findNumber_71 rfl (lv_at hl 2 rfl) ?_
    refine vp_callSi (va_Run.run (va_runSN (As := [.int x18, .int r5]) (rest := [.int (nI y3_16), .ref (gR G a0 2)]) ⟨hx, hb, hml, hown, noTs⟩ (t_X11_rest l dC dI H.size G cs tt mm x18 r5) ⟨cnE 2 (wd_617 hE) (wd_115 hE) (wd_1129 hE) rfl rfl (by decide +kernel) ⟨Nat.le_of_ble_eq_true rfl, Nat.le_of_ble_eq_true rfl⟩, (wd_616 hE), trivial⟩ ⟨PT.blind, (th_pre (av := [.int x18, .int r5]) trivial hK hP hok hnd hWT hE)⟩ rfl rfl hl.1 rfl (lv_room (Nat.le_of_ble_eq_true rfl)) dX4_findNumber_72 ⟨Nat.le_of_ble_eq_true rfl, Nat.le_of_ble_eq_true rfl⟩)) (fun r19 hr19 => ?_)
    obtain ⟨hra19, hrb19⟩ := hr19
    refine tc_v hAL hS hA (va_runV (As := [.int (nI y3_16), .int r19]) (rest := []) ⟨hx, hb, hml, hown, noTs⟩ (t_X10_putNumber l dC dI H.size G cs tt mm (gR G a0 2) ((wt_X4_2 hWT ha0)) (nI y3_16) r19) ⟨cbE 2 (wd_654 hE) (wd_120 hE) (wd_1161 hE) rfl rfl (by decide +kernel) ⟨Nat.le_of_ble_eq_true rfl, Nat.le_of_ble_eq_true rfl⟩, (wd_652 hE), (wd_653 hE)⟩ ⟨PT.blind, th_recv hK hP (wt_X4_2 hWT ha0).1 he16 rfl, (th_pre (av := [.ref (gR G a0 2), .int (nI y3_16), .int r19]) trivial hK hP hok hnd hWT hE)⟩ rfl rfl hl.1 rfl (lv_room (Nat.le_of_ble_eq_true rfl)) dX4_findNumber_75 ⟨Nat.le_of_ble_eq_true rfl, Nat.le_of_ble_eq_true rfl⟩) (fun f20 H locs hr20 hok hP hS => ?_)
    refine lv_aload_n hx hb dX4_findNumber_78 rfl (lv_at hl 0 rfl) ?_
    obtain ⟨y6_21, y7_21, he21⟩ := ok_X4 hok ha0
    refine th_get hx hb (ly_X4 hE) hown hK hP ha0.1 he21 rfl 4 (by decide) (wd_309 hE) (fun _ h9 => h9) rfl dX4_findNumber_79 ?_
    refine lv_aload_n hx hb dX4_findNumber_82 rfl (lv_at hl 0 rfl) ?_
    refine th_get hx hb (ly_X4 hE) hown hK hP ha0.1 he21 rfl 2 (by decide) (wd_307 hE) (fun _ h9 => h9) rfl dX4_findNumber_83 ?_
    obtain ⟨y4_22, hy4_22, he22⟩ := ok_X0 hok (wt_X4_4 hWT ha0)
    refine vp_callSi (va_Run.run (va_runV (As := [.ref (gR G a0 2)]) (rest := []) ⟨hx, hb, hml, hown, noTs⟩ (t_X0_hits l dC dI H.size G cs tt mm (gR G a0 4) ((wt_X4_4 hWT ha0)) (gR G a0 2) ((wt_X4_2 hWT ha0))) ⟨cbE 1 (wd_1165 hE) (wd_123 hE) (wd_1162 hE) rfl rfl (by decide +kernel) ⟨Nat.le_of_ble_eq_true rfl, Nat.le_of_ble_eq_true rfl⟩, (wd_1163 hE), (wd_1164 hE)⟩ ⟨PT.blind, th_recv hK hP (wt_X4_4 hWT ha0).1 he22 rfl, (th_pre (av := [.ref (gR G a0 4), .ref (gR G a0 2)]) trivial hK hP hok hnd hWT hE)⟩ rfl rfl hl.1 rfl (lv_room (Nat.le_of_ble_eq_true rfl)) dX4_findNumber_86 ⟨Nat.le_of_ble_eq_true rfl, Nat.le_of_ble_eq_true rfl⟩)) (fun r23 hr23 => ?_)
    refine lv_if_eq (tgt := 100) hx hb dX4_findNumber_89 (by decide) (fun c24 => ?_) (fun c24 => ?_)
    · obtain ⟨z25, ez25⟩ : ∃ z : Int32, z = w5_8 + 1 := ⟨_, rfl⟩
      refine lv_iinc (v := z25) (lv' := [(5, .int z25), (0, .ref a0), (1, .ref a1), (2, .int r5), (3, .int r6), (4, .int r7)]) hx hb dX4_findNumber_100 hl (k := 5) rfl (by rw [ez25]; rfl) (by decide) rfl (fun ls hl => ?_)
      have ic25 : z25.toInt = w5_8.toInt + 1 := by rw [ez25]; exact ic_up (by have := i_rng w5_8; have := i_rng r5; have := i_rng r12; have := i_rng r19; have := i_rng r23; simp only [i_lt, i_le, i_eq, ti_m9, ti_m1, ti_0, ti_1, ti_2, ti_3, ti_4, ti_5, ti_6, ti_7, ti_9, ti_12, ti_20, ti_99, ti_700, ti_24, ti_156, ti_72, ti_8, ti_60, ti_543, ti_10, ti_33, ti_51, ti_178, ti_119, ti_111, ti_114, ti_100, ti_32, ti_62, ti_59, ti_48, ti_701, ti_97, ti_122, ti_57, ti_73, ti_128] at hlo8 c9 hra12 hrb12 hra19 hrb19 c24 ⊢; omega)
      refine lv_goto (tgt := 33) hx hb dX4_findNumber_103 (by decide) ?_
      exact ih8 _ f20 _ _ _ (by have := i_rng z25; first | omega | (simp only [i_lt, i_le, i_eq, ti_m9, ti_m1, ti_0, ti_1, ti_2, ti_3, ti_4, ti_5, ti_6, ti_7, ti_9, ti_12, ti_20, ti_99, ti_700, ti_24, ti_156, ti_72, ti_8, ti_60, ti_543, ti_10, ti_33, ti_51, ti_178, ti_119, ti_111, ti_114, ti_100, ti_32, ti_62, ti_59, ti_48, ti_701, ti_97, ti_122, ti_57, ti_73, ti_128, ic25] at hlo8 c9 hra12 hrb12 hra19 hrb19 c24 ic25 ⊢; omega)) ⟨hok, hP, hS, z25, rfl, (by first | omega | (simp only [i_lt, i_le, i_eq, ti_m9, ti_m1, ti_0, ti_1, ti_2, ti_3, ti_4, ti_5, ti_6, ti_7, ti_9, ti_12, ti_20, ti_99, ti_700, ti_24, ti_156, ti_72, ti_8, ti_60, ti_543, ti_10, ti_33, ti_51, ti_178, ti_119, ti_111, ti_114, ti_100, ti_32, ti_62, ti_59, ti_48, ti_701, ti_97, ti_122, ti_57, ti_73, ti_128, ic25] at hlo8 c9 hra12 hrb12 hra19 hrb19 c24 ⊢; omega)), lv_sub hl [1, 2, 3, 4, 5, 0] rfl⟩
    · refine lv_aload_n hx hb dX4_findNumber_92 rfl (lv_at hl 0 rfl) ?_
      refine lv_iload hx hb dX4_findNumber_93 (lv_at hl 5 rfl) ?_
      refine th_put (v := .int w5_8) (ty := .int) hx hb (ly_X4 hE) tyX4 tyX4_ok nmX4 hown hK hP hnd hAL hS ha0.1 he21 rfl 7 (by decide) (wd_312 hE) (fun _ h9 => h9) rfl (by decide +kernel) rfl rfl (Nat.le_of_ble_eq_true rfl) (up_X4 hok ha0 ⟨y6_21, w5_8, rfl⟩) dX4_findNumber_95 (fun f26 H locs hfa26 hfo26 hok hP hS => ?_)
      have he27 := (hfo26 (gR G a0 4) (Ty.ne (wt_X4_4 hWT ha0) ha0 (by decide))).trans he22
      refine lv_iconst (v := 1) hx hb dX4_findNumber_98 (by decide) ?_
      exact W.zret (v := 1) hx hb hr rfl (fun t ht hW => ⟨⟨1, f26, rfl, Or.inr rfl, hok, by rw [ht]; exact hP⟩, hS.F ht⟩) hS.2.2 dX4_findNumber_99

set_option maxHeartbeats 4000000 in
set_option maxRecDepth 100000 in
theorem t_X4_reachesSteps (l : Launch) (dC : Nat → ClassId) (dI : Nat → Nat → Nat) (sz : Nat) (G : GT) (cs : Nat → ClassId) (tt mm : Nat) (a0 : Nat) (ha0 : Ty G a0 4) (a1 : Nat) (ha1 : Ty G a1 7) : Met l yX4_reachesSteps [.code yX4_reachesSteps cX4_reachesSteps 3 (some .boolean)] ({ frames := 3, cells := 0, slots := 0, locals := 120 }) (PT [.ref a0, .ref a1] sz dC dI G cs tt mm (fun _ => True)) (va_Qi (fun (r : Int32) (u : Nat → va_E) => r = 0 ∨ r = 1) (BT dC dI G cs tt mm) (AT G sz)) 0 0 (AT G sz) := by
  refine Met.ofW (cc := cX4_reachesSteps) (maxL := 3) (ret := (some .boolean)) (by decide) rfl ?_
  intro p e s m args below meth c s₁ B hml hv
  obtain ⟨rfl, hsz, ⟨f0, hok, hP, hX⟩, hK, hnd, hWT, hE⟩ := hv
  have hx := B.exec
  have hb := B.bytes
  have hr := B.returns
  have hown : s.vm.findClass RX4 = some m.cls := findClass_of_methodNamed B.named
  have hlocks := B.notSynchronized
  subst hsz
  have hAL : ∀ a, a ∈ gL G → AT G s.heap.size a := fun a h => Or.inl h
  have hA : ∀ q : Nat, s.heap.size ≤ q → AT G s.heap.size q := fun q h => Or.inr h
  have hS : va_S (AT G s.heap.size) s.heap s.heap [] := va_S.rf
  have hl := lv_entry ([.ref a0, .ref a1]) (n := 3) (Nat.le_of_ble_eq_true rfl)
  rw [lg_entry_eq]
  generalize (lg_sl ([.ref a0, .ref a1]) ++ List.replicate (3 - (lg_sl ([.ref a0, .ref a1])).length) Slot.unset).toArray = ls at hl ⊢
  have hl : lv_has ls 3 [(0, .ref a0), (1, .ref a1)] := hl
  refine lv_aload_n hx hb dX4_reachesSteps_0 rfl (lv_at hl 0 rfl) ?_
  obtain ⟨y6_1, y7_1, he1⟩ := ok_X4 hok ha0
  refine th_get hx hb (ly_X4 hE) hown hK hP ha0.1 he1 rfl 4 (by decide) (wd_309 hE) (fun _ h9 => h9) rfl dX4_reachesSteps_1 ?_
  refine lv_aload_n hx hb dX4_reachesSteps_4 rfl (lv_at hl 1 rfl) ?_
  refine lv_aload_n hx hb dX4_reachesSteps_5 rfl (lv_at hl 0 rfl) ?_
  refine th_get hx hb (ly_X4 hE) hown hK hP ha0.1 he1 rfl 1 (by decide) (wd_306 hE) (fun _ h9 => h9) rfl dX4_reachesSteps_6 ?_
  obtain ⟨y4_2, hy4_2, he2⟩ := ok_X0 hok (wt_X4_4 hWT ha0)
  refine tc_v hAL hS hA (va_runV (As := [.ref a1, .ref (gR G a0 1)]) (rest := []) ⟨hx, hb, hml, hown, noTs⟩ (t_X0_aim l dC dI s.heap.size G cs tt mm (gR G a0 4) ((wt_X4_4 hWT ha0)) a1 ha1 (gR G a0 1) ((wt_X4_1 hWT ha0))) ⟨cbE 2 (wd_1145 hE) (wd_123 hE) (wd_1142 hE) rfl rfl (by decide +kernel) ⟨Nat.le_of_ble_eq_true rfl, Nat.le_of_ble_eq_true rfl⟩, (wd_1143 hE), (wd_1144 hE)⟩ ⟨PT.blind, th_recv hK hP (wt_X4_4 hWT ha0).1 he2 rfl, (th_pre (av := [.ref (gR G a0 4), .ref a1, .ref (gR G a0 1)]) trivial hK hP hok hnd hWT hE)⟩ rfl rfl hl.1 rfl (lv_room (Nat.le_of_ble_eq_true rfl)) dX4_reachesSteps_9 ⟨Nat.le_of_ble_eq_true rfl, Nat.le_of_ble_eq_true rfl⟩) (fun f3 H locs hr3 hok hP hS => ?_)
  refine lv_iconst (v := 0) hx hb dX4_reachesSteps_12 (by decide) ?_
  refine lv_istore_n (lv' := [(2, .int 0), (0, .ref a0), (1, .ref a1)]) hx hb dX4_reachesSteps_13 rfl hl (by decide) rfl (fun ls hl => ?_)
  refine w_ind (I := fun n f H locs ls => OKT G cs tt mm f ∧ va_P (dC, dI) vwCl (va_pl (gL G) f) H ∧ va_S (AT G s.heap.size) s.heap H locs ∧ ∃ (w2_4 : Int32), n = (2147483647 - w2_4.toInt).toNat ∧ 0 ≤ w2_4 ∧ lv_has ls 3 [(0, .ref a0), (1, .ref a1), (2, .int w2_4)]) (fun n f4 H locs ls hI ih4 => ?_) _ f3 _ _ _ ⟨hok, hP, hS, 0, rfl, (by first | omega | (simp only [i_lt, i_le, i_eq, ti_m9, ti_m1, ti_0, ti_1, ti_2, ti_3, ti_4, ti_5, ti_6, ti_7, ti_9, ti_12, ti_20, ti_99, ti_700, ti_24, ti_156, ti_72, ti_8, ti_60, ti_543, ti_10, ti_33, ti_51, ti_178, ti_119, ti_111, ti_114, ti_100, ti_32, ti_62, ti_59, ti_48, ti_701, ti_97, ti_122, ti_57, ti_73, ti_128]; omega)), lv_sub hl [1, 2, 0] rfl⟩
  obtain ⟨hok, hP, hS, w2_4, hmu4, hlo4, hl⟩ := hI
  subst hmu4
  refine lv_iload_n hx hb dX4_reachesSteps_14 rfl (lv_at hl 2 rfl) ?_
  refine lv_aload_n hx hb dX4_reachesSteps_15 rfl (lv_at hl 0 rfl) ?_
  obtain ⟨y6_5, y7_5, he5⟩ := ok_X4 hok ha0
  refine th_get hx hb (ly_X4 hE) hown hK hP ha0.1 he5 rfl 0 (by decide) (wd_305 hE) (fun _ h9 => h9) rfl dX4_reachesSteps_16 ?_
  obtain ⟨y2_6, y3_6, hy3_6, he6⟩ := ok_X10 hok (wt_X4_0 hWT ha0)
  refine vp_callSi (va_Run.run (va_runV (As := []) (rest := [.int w2_4]) ⟨hx, hb, hml, hown, noTs⟩ (t_X10_size l dC dI H.size G cs tt mm (gR G a0 0) ((wt_X4_0 hWT ha0)) y2_6 y3_6) ⟨cbE 0 (wd_666 hE) (wd_120 hE) (wd_1107 hE) rfl rfl (by decide +kernel) ⟨Nat.le_of_ble_eq_true rfl, Nat.le_of_ble_eq_true rfl⟩, (wd_664 hE), (wd_665 hE)⟩ ⟨PT.blind, th_recv hK hP (wt_X4_0 hWT ha0).1 he6 rfl, (th_pre (av := [.ref (gR G a0 0)]) he6 hK hP hok hnd hWT hE)⟩ rfl rfl hl.1 rfl (lv_room (Nat.le_of_ble_eq_true rfl)) dX4_reachesSteps_19 ⟨Nat.le_of_ble_eq_true rfl, Nat.le_of_ble_eq_true rfl⟩)) (fun r7 hr7 => ?_)
  subst hr7
  have nt8 : (nI y3_6).toInt = ((y3_6 : Nat) : Int) := nI_toInt (by omega)
  refine lv_icmp_ge (tgt := 73) hx hb dX4_reachesSteps_22 (by decide) (fun c9 => ?_) (fun c9 => ?_)
  · refine lv_iconst (v := 0) hx hb dX4_reachesSteps_73 (by decide) ?_
    exact W.zret (v := 0) hx hb hr rfl (fun t ht hW => ⟨⟨0, f4, rfl, Or.inl rfl, hok, by rw [ht]; exact hP⟩, hS.F ht⟩) hS.2.2 dX4_reachesSteps_74
  · refine lv_aload_n hx hb dX4_reachesSteps_25 rfl (lv_at hl 1 rfl) ?_
    refine lv_aload_n hx hb dX4_reachesSteps_26 rfl (lv_at hl 0 rfl) ?_
    refine th_get hx hb (ly_X4 hE) hown hK hP ha0.1 he5 rfl 0 (by decide) (wd_305 hE) (fun _ h9 => h9) rfl dX4_reachesSteps_27 ?_
    refine lv_iload_n hx hb dX4_reachesSteps_30 rfl (lv_at hl 2 rfl) ?_
    refine lv_aload_n hx hb dX4_reachesSteps_31 rfl (lv_at hl 0 rfl) ?_
    refine th_get hx hb (ly_X4 hE) hown hK hP ha0.1 he5 rfl 2 (by decide) (wd_307 hE) (fun _ h9 => h9) rfl dX4_reachesSteps_32 ?_
    refine tc_v hAL hS hA (va_runS (As := [.ref a1, .ref (gR G a0 0), .int w2_4, .ref (gR G a0 2)]) (rest := []) ⟨hx, hb, hml, hown, noTs⟩ (t_X2_beginBehind l dC dI H.size G cs tt mm a1 ha1 (gR G a0 0) ((wt_X4_0 hWT ha0)) w2_4 (gR G a0 2) ((wt_X4_2 hWT ha0))) ⟨cbE 4 (wd_1154 hE) (wd_134 hE) (wd_1152 hE) rfl rfl (by decide +kernel) ⟨Nat.le_of_ble_eq_true rfl, Nat.le_of_ble_eq_true rfl⟩, (wd_1153 hE)⟩ ⟨PT.blind, (th_pre (av := [.ref a1, .ref (gR G a0 0), .int w2_4, .ref (gR G a0 2)]) trivial hK hP hok hnd hWT hE)⟩ rfl rfl hl.1 rfl (lv_room (Nat.le_of_ble_eq_true rfl)) dX4_reachesSteps_35 ⟨Nat.le_of_ble_eq_true rfl, Nat.le_of_ble_eq_true rfl⟩) (fun f10 H locs hr10 hok hP hS => ?_)
    refine lv_aload_n hx hb dX4_reachesSteps_38 rfl (lv_at hl 0 rfl) ?_
    obtain ⟨y6_11, y7_11, he11⟩ := ok_X4 hok ha0
    refine th_get hx hb (ly_X4 hE) hown hK hP ha0.1 he11 rfl 2 (by decide) (wd_307 hE) (fun _ h9 => h9) rfl dX4_reachesSteps_39 ?_
    refine lv_aload_n hx hb dX4_reachesSteps_42 rfl (lv_at hl 0 rfl) ?_
    refine th_get hx hb (ly_X4 hE) hown hK hP ha0.1 he11 rfl 1 (by decide) (wd_306 hE) (fun _ h9 => h9) rfl dX4_reachesSteps_43 ?_
    obtain ⟨y2_12, y3_12, hy3_12, he12⟩ := ok_X10 hok (wt_X4_2 hWT ha0)
    refine vp_callSi (va_Run.run (va_runV (As := [.ref (gR G a0 1)]) (rest := []) ⟨hx, hb, hml, hown, noTs⟩ (t_X10_sameSteps l dC dI H.size G cs tt mm (gR G a0 2) ((wt_X4_2 hWT ha0)) (gR G a0 1) ((wt_X4_1 hWT ha0))) ⟨cbE 1 (wd_881 hE) (wd_120 hE) (wd_1155 hE) rfl rfl (by decide +kernel) ⟨Nat.le_of_ble_eq_true rfl, Nat.le_of_ble_eq_true rfl⟩, (wd_879 hE), (wd_880 hE)⟩ ⟨PT.blind, th_recv hK hP (wt_X4_2 hWT ha0).1 he12 rfl, (th_pre (av := [.ref (gR G a0 2), .ref (gR G a0 1)]) trivial hK hP hok hnd hWT hE)⟩ rfl rfl hl.1 rfl (lv_room (Nat.le_of_ble_eq_true rfl)) dX4_reachesSteps_46 ⟨Nat.le_of_ble_eq_true rfl, Nat.le_of_ble_eq_true rfl⟩)) (fun r13 hr13 => ?_)
    refine lv_if_eq (tgt := 67) hx hb dX4_reachesSteps_49 (by decide) (fun c14 => ?_) (fun c14 => ?_)
    · obtain ⟨z15, ez15⟩ : ∃ z : Int32, z = w2_4 + 1 := ⟨_, rfl⟩
      refine lv_iinc (v := z15) (lv' := [(2, .int z15), (0, .ref a0), (1, .ref a1)]) hx hb dX4_reachesSteps_67 hl (k := 2) rfl (by rw [ez15]; rfl) (by decide) rfl (fun ls hl => ?_)
      have ic15 : z15.toInt = w2_4.toInt + 1 := by rw [ez15]; exact ic_up (by have := i_rng w2_4; have := i_rng (nI y3_6); have := i_rng r13; simp only [i_lt, i_le, i_eq, ti_m9, ti_m1, ti_0, ti_1, ti_2, ti_3, ti_4, ti_5, ti_6, ti_7, ti_9, ti_12, ti_20, ti_99, ti_700, ti_24, ti_156, ti_72, ti_8, ti_60, ti_543, ti_10, ti_33, ti_51, ti_178, ti_119, ti_111, ti_114, ti_100, ti_32, ti_62, ti_59, ti_48, ti_701, ti_97, ti_122, ti_57, ti_73, ti_128, nt8] at hlo4 c9 c14 ⊢; omega)
      refine lv_goto (tgt := 14) hx hb dX4_reachesSteps_70 (by decide) ?_
      exact ih4 _ f10 _ _ _ (by have := i_rng z15; first | omega | (simp only [i_lt, i_le, i_eq, ti_m9, ti_m1, ti_0, ti_1, ti_2, ti_3, ti_4, ti_5, ti_6, ti_7, ti_9, ti_12, ti_20, ti_99, ti_700, ti_24, ti_156, ti_72, ti_8, ti_60, ti_543, ti_10, ti_33, ti_51, ti_178, ti_119, ti_111, ti_114, ti_100, ti_32, ti_62, ti_59, ti_48, ti_701, ti_97, ti_122, ti_57, ti_73, ti_128, nt8, ic15] at hlo4 c9 c14 ic15 ⊢; omega)) ⟨hok, hP, hS, z15, rfl, (by first | omega | (simp only [i_lt, i_le, i_eq, ti_m9, ti_m1, ti_0, ti_1, ti_2, ti_3, ti_4, ti_5, ti_6, ti_7, ti_9, ti_12, ti_20, ti_99, ti_700, ti_24, ti_156, ti_72, ti_8, ti_60, ti_543, ti_10, ti_33, ti_51, ti_178, ti_119, ti_111, ti_114, ti_100, ti_32, ti_62, ti_59, ti_48, ti_701, ti_97, ti_122, ti_57, ti_73, ti_128, nt8, ic15] at hlo4 c9 c14 ⊢; omega)), lv_sub hl [1, 2, 0] rfl⟩
    · refine lv_aload_n hx hb dX4_reachesSteps_52 rfl (lv_at hl 0 rfl) ?_
      refine lv_aload_n hx hb dX4_reachesSteps_53 rfl (lv_at hl 1 rfl) ?_
      refine tc_i hAL hS hA (va_runV (As := [.ref a1]) (rest := []) ⟨hx, hb, hml, hown, noTs⟩ (t_X4_findNumber l dC dI H.size G cs tt mm a0 ha0 a1 ha1) ⟨cbE 1 (wd_1159 hE) (wd_122 hE) (wd_1156 hE) rfl rfl (by decide +kernel) ⟨Nat.le_of_ble_eq_true rfl, Nat.le_of_ble_eq_true rfl⟩, (wd_1158 hE), (wd_45 hE)⟩ ⟨PT.blind, th_recv hK hP ha0.1 he11 rfl, (th_pre (av := [.ref a0, .ref a1]) trivial hK hP hok hnd hWT hE)⟩ rfl rfl hl.1 rfl (lv_room (Nat.le_of_ble_eq_true rfl)) dX4_reachesSteps_54 ⟨Nat.le_of_ble_eq_true rfl, Nat.le_of_ble_eq_true rfl⟩) (fun r16 f16 H locs hr16 hok hP hS => ?_)
      refine lv_if_eq (tgt := 67) hx hb dX4_reachesSteps_57 (by decide) (fun c17 => ?_) (fun c17 => ?_)
      · obtain ⟨z18, ez18⟩ : ∃ z : Int32, z = w2_4 + 1 := ⟨_, rfl⟩
        refine lv_iinc (v := z18) (lv' := [(2, .int z18), (0, .ref a0), (1, .ref a1)]) hx hb dX4_reachesSteps_67 hl (k := 2) rfl (by rw [ez18]; rfl) (by decide) rfl (fun ls hl => ?_)
        have ic18 : z18.toInt = w2_4.toInt + 1 := by rw [ez18]; exact ic_up (by have := i_rng w2_4; have := i_rng (nI y3_6); have := i_rng r13; have := i_rng r16; simp only [i_lt, i_le, i_eq, ti_m9, ti_m1, ti_0, ti_1, ti_2, ti_3, ti_4, ti_5, ti_6, ti_7, ti_9, ti_12, ti_20, ti_99, ti_700, ti_24, ti_156, ti_72, ti_8, ti_60, ti_543, ti_10, ti_33, ti_51, ti_178, ti_119, ti_111, ti_114, ti_100, ti_32, ti_62, ti_59, ti_48, ti_701, ti_97, ti_122, ti_57, ti_73, ti_128, nt8] at hlo4 c9 c14 c17 ⊢; omega)
        refine lv_goto (tgt := 14) hx hb dX4_reachesSteps_70 (by decide) ?_
        exact ih4 _ f16 _ _ _ (by have := i_rng z18; first | omega | (simp only [i_lt, i_le, i_eq, ti_m9, ti_m1, ti_0, ti_1, ti_2, ti_3, ti_4, ti_5, ti_6, ti_7, ti_9, ti_12, ti_20, ti_99, ti_700, ti_24, ti_156, ti_72, ti_8, ti_60, ti_543, ti_10, ti_33, ti_51, ti_178, ti_119, ti_111, ti_114, ti_100, ti_32, ti_62, ti_59, ti_48, ti_701, ti_97, ti_122, ti_57, ti_73, ti_128, nt8, ic18] at hlo4 c9 c14 c17 ic18 ⊢; omega)) ⟨hok, hP, hS, z18, rfl, (by first | omega | (simp only [i_lt, i_le, i_eq, ti_m9, ti_m1, ti_0, ti_1, ti_2, ti_3, ti_4, ti_5, ti_6, ti_7, ti_9, ti_12, ti_20, ti_99, ti_700, ti_24, ti_156, ti_72, ti_8, ti_60, ti_543, ti_10, ti_33, ti_51, ti_178, ti_119, ti_111, ti_114, ti_100, ti_32, ti_62, ti_59, ti_48, ti_701, ti_97, ti_122, ti_57, ti_73, ti_128, nt8, ic18] at hlo4 c9 c14 c17 ⊢; omega)), lv_sub hl [1, 2, 0] rfl⟩
      · refine lv_aload_n hx hb dX4_reachesSteps_60 rfl (lv_at hl 0 rfl) ?_
        refine lv_iload_n hx hb dX4_reachesSteps_61 rfl (lv_at hl 2 rfl) ?_
        obtain ⟨y6_19, y7_19, he19⟩ := ok_X4 hok ha0
        refine th_put (v := .int w2_4) (ty := .int) hx hb (ly_X4 hE) tyX4 tyX4_ok nmX4 hown hK hP hnd hAL hS ha0.1 he19 rfl 6 (by decide) (wd_311 hE) (fun _ h9 => h9) rfl (by decide +kernel) rfl rfl (Nat.le_of_ble_eq_true rfl) (up_X4 hok ha0 ⟨w2_4, y7_19, rfl⟩) dX4_reachesSteps_62 (fun f20 H locs hfa20 hfo20 hok hP hS => ?_)
        refine lv_iconst (v := 1) hx hb dX4_reachesSteps_65 (by decide) ?_
        exact W.zret (v := 1) hx hb hr rfl (fun t ht hW => ⟨⟨1, f20, rfl, Or.inr rfl, hok, by rw [ht]; exact hP⟩, hS.F ht⟩) hS.2.2 dX4_reachesSteps_66

set_option maxHeartbeats 4000000 in
set_option maxRecDepth 100000 in
theorem t_X4_reaches (l : Launch) (dC : Nat → ClassId) (dI : Nat → Nat → Nat) (sz : Nat) (G : GT) (cs : Nat → ClassId) (tt mm : Nat) (a0 : Nat) (ha0 : Ty G a0 4) (a1 : Nat) (ha1 : Ty G a1 7) (a2 : Nat) (ha2 : Ty G a2 10) : Met l yX4_reaches [.code yX4_reaches cX4_reaches 3 (some .boolean)] ({ frames := 5, cells := 0, slots := 0, locals := 200 }) (PT [.ref a0, .ref a1, .ref a2] sz dC dI G cs tt mm (fun _ => True)) (va_Qi (fun (r : Int32) (u : Nat → va_E) => r = 0 ∨ r = 1) (BT dC dI G cs tt mm) (AT G sz)) 0 0 (AT G sz) := by
  refine Met.ofW (cc := cX4_reaches) (maxL := 3) (ret := (some .boolean)) (by decide) rfl ?_
  intro p e s m args below meth c s₁ B hml hv
  obtain ⟨rfl, hsz, ⟨f0, hok, hP, hX⟩, hK, hnd, hWT, hE⟩ := hv
  have hx := B.exec
  have hb := B.bytes
  have hr := B.returns
  have hown : s.vm.findClass RX4 = some m.cls := findClass_of_methodNamed B.named
  have hlocks := B.notSynchronized
  subst hsz
  have hAL : ∀ a, a ∈ gL G → AT G s.heap.size a := fun a h => Or.inl h
  have hA : ∀ q : Nat, s.heap.size ≤ q → AT G s.heap.size q := fun q h => Or.inr h
  have hS : va_S (AT G s.heap.size) s.heap s.heap [] := va_S.rf
  have hl := lv_entry ([.ref a0, .ref a1, .ref a2]) (n := 3) (Nat.le_of_ble_eq_true rfl)
  rw [lg_entry_eq]
  generalize (lg_sl ([.ref a0, .ref a1, .ref a2]) ++ List.replicate (3 - (lg_sl ([.ref a0, .ref a1, .ref a2])).length) Slot.unset).toArray = ls at hl ⊢
  have hl : lv_has ls 3 [(0, .ref a0), (1, .ref a1), (2, .ref a2)] := hl
  refine lv_aload_n hx hb dX4_reaches_0 rfl (lv_at hl 1 rfl) ?_
  refine lv_aload_n hx hb dX4_reaches_1 rfl (lv_at hl 2 rfl) ?_
  refine lv_aload_n hx hb dX4_reaches_2 rfl (lv_at hl 0 rfl) ?_
  obtain ⟨y6_1, y7_1, he1⟩ := ok_X4 hok ha0
  refine th_get hx hb (ly_X4 hE) hown hK hP ha0.1 he1 rfl 1 (by decide) (wd_306 hE) (fun _ h9 => h9) rfl dX4_reaches_3 ?_
  refine lv_aload_n hx hb dX4_reaches_6 rfl (lv_at hl 0 rfl) ?_
  refine th_get hx hb (ly_X4 hE) hown hK hP ha0.1 he1 rfl 3 (by decide) (wd_308 hE) (fun _ h9 => h9) rfl dX4_reaches_7 ?_
  refine tc_v hAL hS hA (va_runS (As := [.ref a1, .ref a2, .ref (gR G a0 1), .ref (gR G a0 3)]) (rest := []) ⟨hx, hb, hml, hown, noTs⟩ (t_X2_shrink l dC dI s.heap.size G cs tt mm a1 ha1 a2 ha2 (gR G a0 1) ((wt_X4_1 hWT ha0)) (gR G a0 3) ((wt_X4_3 hWT ha0))) ⟨cbE 4 (wd_962 hE) (wd_134 hE) (wd_1106 hE) rfl rfl (by decide +kernel) ⟨Nat.le_of_ble_eq_true rfl, Nat.le_of_ble_eq_true rfl⟩, (wd_961 hE)⟩ ⟨PT.blind, (th_pre (av := [.ref a1, .ref a2, .ref (gR G a0 1), .ref (gR G a0 3)]) trivial hK hP hok hnd hWT hE)⟩ rfl rfl hl.1 rfl (lv_room (Nat.le_of_ble_eq_true rfl)) dX4_reaches_10 ⟨Nat.le_of_ble_eq_true rfl, Nat.le_of_ble_eq_true rfl⟩) (fun f2 H locs hr2 hok hP hS => ?_)
  refine lv_aload_n hx hb dX4_reaches_13 rfl (lv_at hl 0 rfl) ?_
  obtain ⟨y6_3, y7_3, he3⟩ := ok_X4 hok ha0
  refine th_get hx hb (ly_X4 hE) hown hK hP ha0.1 he3 rfl 1 (by decide) (wd_306 hE) (fun _ h9 => h9) rfl dX4_reaches_14 ?_
  obtain ⟨y2_4, y3_4, hy3_4, he4⟩ := ok_X10 hok (wt_X4_1 hWT ha0)
  refine vp_callSi (va_Run.run (va_runV (As := []) (rest := []) ⟨hx, hb, hml, hown, noTs⟩ (t_X10_size l dC dI H.size G cs tt mm (gR G a0 1) ((wt_X4_1 hWT ha0)) y2_4 y3_4) ⟨cbE 0 (wd_666 hE) (wd_120 hE) (wd_1107 hE) rfl rfl (by decide +kernel) ⟨Nat.le_of_ble_eq_true rfl, Nat.le_of_ble_eq_true rfl⟩, (wd_664 hE), (wd_665 hE)⟩ ⟨PT.blind, th_recv hK hP (wt_X4_1 hWT ha0).1 he4 rfl, (th_pre (av := [.ref (gR G a0 1)]) he4 hK hP hok hnd hWT hE)⟩ rfl rfl hl.1 rfl (lv_room (Nat.le_of_ble_eq_true rfl)) dX4_reaches_17 ⟨Nat.le_of_ble_eq_true rfl, Nat.le_of_ble_eq_true rfl⟩)) (fun r5 hr5 => ?_)
  subst hr5
  refine lv_aload_n hx hb dX4_reaches_20 rfl (lv_at hl 0 rfl) ?_
  refine th_get hx hb (ly_X4 hE) hown hK hP ha0.1 he3 rfl 0 (by decide) (wd_305 hE) (fun _ h9 => h9) rfl dX4_reaches_21 ?_
  obtain ⟨y2_6, y3_6, hy3_6, he6⟩ := ok_X10 hok (wt_X4_0 hWT ha0)
  refine vp_callSi (va_Run.run (va_runV (As := []) (rest := [.int (nI y3_4)]) ⟨hx, hb, hml, hown, noTs⟩ (t_X10_size l dC dI H.size G cs tt mm (gR G a0 0) ((wt_X4_0 hWT ha0)) y2_6 y3_6) ⟨cbE 0 (wd_666 hE) (wd_120 hE) (wd_1107 hE) rfl rfl (by decide +kernel) ⟨Nat.le_of_ble_eq_true rfl, Nat.le_of_ble_eq_true rfl⟩, (wd_664 hE), (wd_665 hE)⟩ ⟨PT.blind, th_recv hK hP (wt_X4_0 hWT ha0).1 he6 rfl, (th_pre (av := [.ref (gR G a0 0)]) he6 hK hP hok hnd hWT hE)⟩ rfl rfl hl.1 rfl (lv_room (Nat.le_of_ble_eq_true rfl)) dX4_reaches_24 ⟨Nat.le_of_ble_eq_true rfl, Nat.le_of_ble_eq_true rfl⟩)) (fun r7 hr7 => ?_)
  subst hr7
  have nt8 : (nI y3_4).toInt = ((y3_4 : Nat) : Int) := nI_toInt (by omega)
  have nt9 : (nI y3_6).toInt = ((y3_6 : Nat) : Int) := nI_toInt (by omega)
  refine lv_icmp_eq (tgt := 32) hx hb dX4_reaches_27 (by decide) (fun c10 => ?_) (fun c10 => ?_)
  · refine lv_aload_n hx hb dX4_reaches_32 rfl (lv_at hl 0 rfl) ?_
    refine th_get hx hb (ly_X4 hE) hown hK hP ha0.1 he3 rfl 0 (by decide) (wd_305 hE) (fun _ h9 => h9) rfl dX4_reaches_33 ?_
    refine vp_callSi (va_Run.run (va_runV (As := []) (rest := []) ⟨hx, hb, hml, hown, noTs⟩ (t_X10_size l dC dI H.size G cs tt mm (gR G a0 0) ((wt_X4_0 hWT ha0)) y2_6 y3_6) ⟨cbE 0 (wd_666 hE) (wd_120 hE) (wd_1107 hE) rfl rfl (by decide +kernel) ⟨Nat.le_of_ble_eq_true rfl, Nat.le_of_ble_eq_true rfl⟩, (wd_664 hE), (wd_665 hE)⟩ ⟨PT.blind, th_recv hK hP (wt_X4_0 hWT ha0).1 he6 rfl, (th_pre (av := [.ref (gR G a0 0)]) he6 hK hP hok hnd hWT hE)⟩ rfl rfl hl.1 rfl (lv_room (Nat.le_of_ble_eq_true rfl)) dX4_reaches_36 ⟨Nat.le_of_ble_eq_true rfl, Nat.le_of_ble_eq_true rfl⟩)) (fun r11 hr11 => ?_)
    subst hr11
    refine lv_if_ne (tgt := 50) hx hb dX4_reaches_39 (by decide) (fun c12 => ?_) (fun c12 => ?_)
    · refine lv_aload_n hx hb dX4_reaches_50 rfl (lv_at hl 0 rfl) ?_
      refine lv_aload_n hx hb dX4_reaches_51 rfl (lv_at hl 1 rfl) ?_
      refine tc_i hAL hS hA (va_runV (As := [.ref a1]) (rest := []) ⟨hx, hb, hml, hown, noTs⟩ (t_X4_reachesSteps l dC dI H.size G cs tt mm a0 ha0 a1 ha1) ⟨cbE 1 (wd_1141 hE) (wd_122 hE) (wd_1138 hE) rfl rfl (by decide +kernel) ⟨Nat.le_of_ble_eq_true rfl, Nat.le_of_ble_eq_true rfl⟩, (wd_1140 hE), (wd_44 hE)⟩ ⟨PT.blind, th_recv hK hP ha0.1 he3 rfl, (th_pre (av := [.ref a0, .ref a1]) trivial hK hP hok hnd hWT hE)⟩ rfl rfl hl.1 rfl (lv_room (Nat.le_of_ble_eq_true rfl)) dX4_reaches_52 ⟨Nat.le_of_ble_eq_true rfl, Nat.le_of_ble_eq_true rfl⟩) (fun r13 f13 H locs hr13 hok hP hS => ?_)
      exact W.zret (v := r13) hx hb hr (z_fit hr13) (fun t ht hW => ⟨⟨r13, f13, rfl, hr13, hok, by rw [ht]; exact hP⟩, hS.F ht⟩) hS.2.2 dX4_reaches_55
    · refine lv_aload_n hx hb dX4_reaches_42 rfl (lv_at hl 0 rfl) ?_
      refine lv_aload_n hx hb dX4_reaches_43 rfl (lv_at hl 1 rfl) ?_
      refine tc_i hAL hS hA (va_runV (As := [.ref a1]) (rest := []) ⟨hx, hb, hml, hown, noTs⟩ (t_X4_reachesNumber l dC dI H.size G cs tt mm a0 ha0 a1 ha1) ⟨cbE 1 (wd_1137 hE) (wd_122 hE) (wd_1134 hE) rfl rfl (by decide +kernel) ⟨Nat.le_of_ble_eq_true rfl, Nat.le_of_ble_eq_true rfl⟩, (wd_1136 hE), (wd_43 hE)⟩ ⟨PT.blind, th_recv hK hP ha0.1 he3 rfl, (th_pre (av := [.ref a0, .ref a1]) trivial hK hP hok hnd hWT hE)⟩ rfl rfl hl.1 rfl (lv_room (Nat.le_of_ble_eq_true rfl)) dX4_reaches_44 ⟨Nat.le_of_ble_eq_true rfl, Nat.le_of_ble_eq_true rfl⟩) (fun r14 f14 H locs hr14 hok hP hS => ?_)
      refine lv_goto (tgt := 55) hx hb dX4_reaches_47 (by decide) ?_
      exact W.zret (v := r14) hx hb hr (z_fit hr14) (fun t ht hW => ⟨⟨r14, f14, rfl, hr14, hok, by rw [ht]; exact hP⟩, hS.F ht⟩) hS.2.2 dX4_reaches_55
  · refine lv_iconst (v := 0) hx hb dX4_reaches_30 (by decide) ?_
    exact W.zret (v := 0) hx hb hr rfl (fun t ht hW => ⟨⟨0, f2, rfl, Or.inl rfl, hok, by rw [ht]; exact hP⟩, hS.F ht⟩) hS.2.2 dX4_reaches_31

set_option maxHeartbeats 4000000 in
set_option maxRecDepth 100000 in
theorem t_X7_clear (l : Launch) (dC : Nat → ClassId) (dI : Nat → Nat → Nat) (sz : Nat) (G : GT) (cs : Nat → ClassId) (tt mm : Nat) (a0 : Nat) (ha0 : Ty G a0 7) : Met l yX7_clear [.code yX7_clear cX7_clear 1 none] ({ frames := 1, cells := 0, slots := 0, locals := 40 }) (PT [.ref a0] sz dC dI G cs tt mm (fun _ => True)) (va_Qv (fun (u : Nat → va_E) => True) (BT dC dI G cs tt mm) (AT G sz)) 0 0 (AT G sz) := by
  refine Met.ofW (cc := cX7_clear) (maxL := 1) (ret := none) (by decide) rfl ?_
  intro p e s m args below meth c s₁ B hml hv
  obtain ⟨rfl, hsz, ⟨f0, hok, hP, hX⟩, hK, hnd, hWT, hE⟩ := hv
  have hx := B.exec
  have hb := B.bytes
  have hr := B.returns
  have hown : s.vm.findClass RX7 = some m.cls := findClass_of_methodNamed B.named
  have hlocks := B.notSynchronized
  subst hsz
  have hAL : ∀ a, a ∈ gL G → AT G s.heap.size a := fun a h => Or.inl h
  have hA : ∀ q : Nat, s.heap.size ≤ q → AT G s.heap.size q := fun q h => Or.inr h
  have hS : va_S (AT G s.heap.size) s.heap s.heap [] := va_S.rf
  have hl := lv_entry ([.ref a0]) (n := 1) (Nat.le_of_ble_eq_true rfl)
  rw [lg_entry_eq]
  generalize (lg_sl ([.ref a0]) ++ List.replicate (1 - (lg_sl ([.ref a0])).length) Slot.unset).toArray = ls at hl ⊢
  have hl : lv_has ls 1 [(0, .ref a0)] := hl
  refine lv_aload_n hx hb dX7_clear_0 rfl (lv_at hl 0 rfl) ?_
  have he1 := ok_X7 hok ha0
  refine th_get hx hb (ly_X7 hE) hown hK hP ha0.1 he1 rfl 0 (by decide) (wd_149 hE) (fun _ h9 => h9) rfl dX7_clear_1 ?_
  refine lv_iconst (v := 0) hx hb dX7_clear_4 (by decide) ?_
  refine tc_v hAL hS hA (va_runS (As := [.ref (gR G a0 0), .int 0]) (rest := []) ⟨hx, hb, hml, hown, noTs⟩ (t_J7_fill_53178 l dC dI s.heap.size G cs tt mm (gR G a0 0) ((wt_X7_0 hWT ha0)) 543 ((wl_X7_0 hWT ha0)) (by omega) 0) ⟨cbE 2 (wd_447 hE) (wd_127 hE) (wd_445 hE) rfl rfl (by decide +kernel) ⟨Nat.le_of_ble_eq_true rfl, Nat.le_of_ble_eq_true rfl⟩, (wd_446 hE)⟩ ⟨PT.blind, (th_pre (av := [.ref (gR G a0 0), .int 0]) trivial hK hP hok hnd hWT hE)⟩ rfl rfl hl.1 rfl (lv_room (Nat.le_of_ble_eq_true rfl)) dX7_clear_5 ⟨Nat.le_of_ble_eq_true rfl, Nat.le_of_ble_eq_true rfl⟩) (fun f2 H locs hr2 hok hP hS => ?_)
  exact W.vret hx hb hr (fun t ht hW => ⟨⟨f2, rfl, trivial, hok, by rw [ht]; exact hP⟩, hS.F ht⟩) hS.2.2 dX7_clear_8

set_option maxHeartbeats 4000000 in
set_option maxRecDepth 100000 in
theorem t_X9_byteAt (l : Launch) (dC : Nat → ClassId) (dI : Nat → Nat → Nat) (sz : Nat) (G : GT) (cs : Nat → ClassId) (tt mm : Nat) (a0 : Nat) (ha0 : Ty G a0 9) (v1 : Int32) : Met l yX9_byteAt [.code yX9_byteAt cX9_byteAt 2 (some .int)] ({ frames := 0, cells := 0, slots := 0, locals := 0 }) (PT [.ref a0, .int v1] sz dC dI G cs tt mm (fun _ => True)) (vp_Si (fun (r : Int32) => True)) 0 0 (fun _ => False) := by
  refine Met.ofW (cc := cX9_byteAt) (maxL := 2) (ret := (some .int)) (by decide) rfl ?_
  intro p e s m args below meth c s₁ B hml hv
  obtain ⟨rfl, hsz, ⟨f0, hok, hP, hX⟩, hK, hnd, hWT, hE⟩ := hv
  have hx := B.exec
  have hb := B.bytes
  have hr := B.returns
  have hown : s.vm.findClass RX9 = some m.cls := findClass_of_methodNamed B.named
  have hlocks := B.notSynchronized
  subst hsz
  have hl := lv_entry ([.ref a0, .int v1]) (n := 2) (Nat.le_of_ble_eq_true rfl)
  rw [lg_entry_eq]
  generalize (lg_sl ([.ref a0, .int v1]) ++ List.replicate (2 - (lg_sl ([.ref a0, .int v1])).length) Slot.unset).toArray = ls at hl ⊢
  have hl : lv_has ls 2 [(0, .ref a0), (1, .int v1)] := hl
  refine lv_iload_n hx hb dX9_byteAt_0 rfl (lv_at hl 1 rfl) ?_
  refine lv_if_lt (tgt := 21) hx hb dX9_byteAt_1 (by decide) (fun c1 => ?_) (fun c1 => ?_)
  · refine lv_iconst (v := -1) hx hb dX9_byteAt_21 (by decide) ?_
    refine lv_goto (tgt := 31) hx hb dX9_byteAt_22 (by decide) ?_
    exact W.iret (v := -1) hx hb hr (fun t ht hW => ⟨-1, rfl, trivial, ht⟩) (fun _ h => absurd h List.not_mem_nil) dX9_byteAt_31
  · refine lv_iload_n hx hb dX9_byteAt_4 rfl (lv_at hl 1 rfl) ?_
    refine lv_aload_n hx hb dX9_byteAt_5 rfl (lv_at hl 0 rfl) ?_
    obtain ⟨y3_2, y4_2, y5_2, hy4_2, he2⟩ := ok_X9 hok ha0
    refine th_get hx hb (ly_X9 hE) hown hK hP ha0.1 he2 rfl 5 (by decide) (wd_191 hE) (fun _ h9 => h9) rfl dX9_byteAt_6 ?_
    refine lv_icmp_ge (tgt := 21) hx hb dX9_byteAt_9 (by decide) (fun c3 => ?_) (fun c3 => ?_)
    · refine lv_iconst (v := -1) hx hb dX9_byteAt_21 (by decide) ?_
      refine lv_goto (tgt := 31) hx hb dX9_byteAt_22 (by decide) ?_
      exact W.iret (v := -1) hx hb hr (fun t ht hW => ⟨-1, rfl, trivial, ht⟩) (fun _ h => absurd h List.not_mem_nil) dX9_byteAt_31
    · refine lv_iload_n hx hb dX9_byteAt_12 rfl (lv_at hl 1 rfl) ?_
      refine lv_aload_n hx hb dX9_byteAt_13 rfl (lv_at hl 0 rfl) ?_
      refine th_get hx hb (ly_X9 hE) hown hK hP ha0.1 he2 rfl 4 (by decide) (wd_190 hE) (fun _ h9 => h9) rfl dX9_byteAt_14 ?_
      refine th_len1 hx hb hK hP hok (n := gN G y4_2) rfl (Or.inr (Or.inl hy4_2)) dX9_byteAt_17 ?_
      have := wt_bytes hWT hy4_2
      have nt4 : (nI (gN G y4_2)).toInt = ((gN G y4_2 : Nat) : Int) := nI_toInt (by omega)
      refine lv_icmp_lt (tgt := 25) hx hb dX9_byteAt_18 (by decide) (fun c5 => ?_) (fun c5 => ?_)
      · refine lv_aload_n hx hb dX9_byteAt_25 rfl (lv_at hl 0 rfl) ?_
        refine th_get hx hb (ly_X9 hE) hown hK hP ha0.1 he2 rfl 4 (by decide) (wd_190 hE) (fun _ h9 => h9) rfl dX9_byteAt_26 ?_
        refine lv_iload_n hx hb dX9_byteAt_29 rfl (lv_at hl 1 rfl) ?_
        refine th_bald hx hb hK hP hok hy4_2 (n := gN G y4_2) rfl (vp_in_iff.mpr (by first | omega | (simp only [i_lt, i_le, i_eq, ti_m9, ti_m1, ti_0, ti_1, ti_2, ti_3, ti_4, ti_5, ti_6, ti_7, ti_9, ti_12, ti_20, ti_99, ti_700, ti_24, ti_156, ti_72, ti_8, ti_60, ti_543, ti_10, ti_33, ti_51, ti_178, ti_119, ti_111, ti_114, ti_100, ti_32, ti_62, ti_59, ti_48, ti_701, ti_97, ti_122, ti_57, ti_73, ti_128, nt4] at c1 c3 c5 ⊢; omega))) dX9_byteAt_30 (fun x6 => ?_)
        exact W.iret (v := x6) hx hb hr (fun t ht hW => ⟨x6, rfl, trivial, ht⟩) (fun _ h => absurd h List.not_mem_nil) dX9_byteAt_31
      · refine lv_iconst (v := -1) hx hb dX9_byteAt_21 (by decide) ?_
        refine lv_goto (tgt := 31) hx hb dX9_byteAt_22 (by decide) ?_
        exact W.iret (v := -1) hx hb hr (fun t ht hW => ⟨-1, rfl, trivial, ht⟩) (fun _ h => absurd h List.not_mem_nil) dX9_byteAt_31

set_option maxHeartbeats 4000000 in
set_option maxRecDepth 100000 in
theorem t_X9_isLetter (l : Launch) (dC : Nat → ClassId) (dI : Nat → Nat → Nat) (sz : Nat) (G : GT) (cs : Nat → ClassId) (tt mm : Nat) (v0 : Int32) : Met l yX9_isLetter [.code yX9_isLetter cX9_isLetter 1 (some .boolean)] ({ frames := 0, cells := 0, slots := 0, locals := 0 }) (PT [.int v0] sz dC dI G cs tt mm (fun _ => True)) (vp_Si (fun (r : Int32) => r = 0 ∨ r = 1)) 0 0 (fun _ => False) := by
  refine Met.ofW (cc := cX9_isLetter) (maxL := 1) (ret := (some .boolean)) (by decide) rfl ?_
  intro p e s m args below meth c s₁ B hml hv
  obtain ⟨rfl, hsz, ⟨f0, hok, hP, hX⟩, hK, hnd, hWT, hE⟩ := hv
  have hx := B.exec
  have hb := B.bytes
  have hr := B.returns
  have hown : s.vm.findClass RX9 = some m.cls := findClass_of_methodNamed B.named
  have hlocks := B.notSynchronized
  subst hsz
  have hl := lv_entry ([.int v0]) (n := 1) (Nat.le_of_ble_eq_true rfl)
  rw [lg_entry_eq]
  generalize (lg_sl ([.int v0]) ++ List.replicate (1 - (lg_sl ([.int v0])).length) Slot.unset).toArray = ls at hl ⊢
  have hl : lv_has ls 1 [(0, .int v0)] := hl
  refine lv_iload_n hx hb dX9_isLetter_0 rfl (lv_at hl 0 rfl) ?_
  refine lv_bipush (v := 97) hx hb dX9_isLetter_1 (by decide) ?_
  refine lv_icmp_lt (tgt := 16) hx hb dX9_isLetter_3 (by decide) (fun c1 => ?_) (fun c1 => ?_)
  · refine lv_iconst (v := 0) hx hb dX9_isLetter_16 (by decide) ?_
    exact W.zret (v := 0) hx hb hr rfl (fun t ht hW => ⟨0, rfl, Or.inl rfl, ht⟩) (fun _ h => absurd h List.not_mem_nil) dX9_isLetter_17
  · refine lv_iload_n hx hb dX9_isLetter_6 rfl (lv_at hl 0 rfl) ?_
    refine lv_bipush (v := 122) hx hb dX9_isLetter_7 (by decide) ?_
    refine lv_icmp_gt (tgt := 16) hx hb dX9_isLetter_9 (by decide) (fun c2 => ?_) (fun c2 => ?_)
    · refine lv_iconst (v := 0) hx hb dX9_isLetter_16 (by decide) ?_
      exact W.zret (v := 0) hx hb hr rfl (fun t ht hW => ⟨0, rfl, Or.inl rfl, ht⟩) (fun _ h => absurd h List.not_mem_nil) dX9_isLetter_17
    · refine lv_iconst (v := 1) hx hb dX9_isLetter_12 (by decide) ?_
      refine lv_goto (tgt := 17) hx hb dX9_isLetter_13 (by decide) ?_
      exact W.zret (v := 1) hx hb hr rfl (fun t ht hW => ⟨1, rfl, Or.inr rfl, ht⟩) (fun _ h => absurd h List.not_mem_nil) dX9_isLetter_17

set_option maxHeartbeats 4000000 in
set_option maxRecDepth 100000 in
theorem t_X9_isDigit (l : Launch) (dC : Nat → ClassId) (dI : Nat → Nat → Nat) (sz : Nat) (G : GT) (cs : Nat → ClassId) (tt mm : Nat) (v0 : Int32) : Met l yX9_isDigit [.code yX9_isDigit cX9_isDigit 1 (some .boolean)] ({ frames := 0, cells := 0, slots := 0, locals := 0 }) (PT [.int v0] sz dC dI G cs tt mm (fun _ => True)) (vp_Si (fun (r : Int32) => r = 0 ∨ r = 1)) 0 0 (fun _ => False) := by
  refine Met.ofW (cc := cX9_isDigit) (maxL := 1) (ret := (some .boolean)) (by decide) rfl ?_
  intro p e s m args below meth c s₁ B hml hv
  obtain ⟨rfl, hsz, ⟨f0, hok, hP, hX⟩, hK, hnd, hWT, hE⟩ := hv
  have hx := B.exec
  have hb := B.bytes
  have hr := B.returns
  have hown : s.vm.findClass RX9 = some m.cls := findClass_of_methodNamed B.named
  have hlocks := B.notSynchronized
  subst hsz
  have hl := lv_entry ([.int v0]) (n := 1) (Nat.le_of_ble_eq_true rfl)
  rw [lg_entry_eq]
  generalize (lg_sl ([.int v0]) ++ List.replicate (1 - (lg_sl ([.int v0])).length) Slot.unset).toArray = ls at hl ⊢
  have hl : lv_has ls 1 [(0, .int v0)] := hl
  refine lv_iload_n hx hb dX9_isDigit_0 rfl (lv_at hl 0 rfl) ?_
  refine lv_bipush (v := 48) hx hb dX9_isDigit_1 (by decide) ?_
  refine lv_icmp_lt (tgt := 16) hx hb dX9_isDigit_3 (by decide) (fun c1 => ?_) (fun c1 => ?_)
  · refine lv_iconst (v := 0) hx hb dX9_isDigit_16 (by decide) ?_
    exact W.zret (v := 0) hx hb hr rfl (fun t ht hW => ⟨0, rfl, Or.inl rfl, ht⟩) (fun _ h => absurd h List.not_mem_nil) dX9_isDigit_17
  · refine lv_iload_n hx hb dX9_isDigit_6 rfl (lv_at hl 0 rfl) ?_
    refine lv_bipush (v := 57) hx hb dX9_isDigit_7 (by decide) ?_
    refine lv_icmp_gt (tgt := 16) hx hb dX9_isDigit_9 (by decide) (fun c2 => ?_) (fun c2 => ?_)
    · refine lv_iconst (v := 0) hx hb dX9_isDigit_16 (by decide) ?_
      exact W.zret (v := 0) hx hb hr rfl (fun t ht hW => ⟨0, rfl, Or.inl rfl, ht⟩) (fun _ h => absurd h List.not_mem_nil) dX9_isDigit_17
    · refine lv_iconst (v := 1) hx hb dX9_isDigit_12 (by decide) ?_
      refine lv_goto (tgt := 17) hx hb dX9_isDigit_13 (by decide) ?_
      exact W.zret (v := 1) hx hb hr rfl (fun t ht hW => ⟨1, rfl, Or.inr rfl, ht⟩) (fun _ h => absurd h List.not_mem_nil) dX9_isDigit_17

set_option maxHeartbeats 4000000 in
set_option maxRecDepth 100000 in
theorem t_X9_endOfToken (l : Launch) (dC : Nat → ClassId) (dI : Nat → Nat → Nat) (sz : Nat) (G : GT) (cs : Nat → ClassId) (tt mm : Nat) (a0 : Nat) (ha0 : Ty G a0 9) (v1 : Int32) : Met l yX9_endOfToken [.code yX9_endOfToken cX9_endOfToken 3 (some .int)] ({ frames := 1, cells := 0, slots := 0, locals := 40 }) (PT [.ref a0, .int v1] sz dC dI G cs tt mm (fun _ => True)) (vp_Si (fun (r : Int32) => True)) 0 0 (fun _ => False) := by
  refine Met.ofW (cc := cX9_endOfToken) (maxL := 3) (ret := (some .int)) (by decide) rfl ?_
  intro p e s m args below meth c s₁ B hml hv
  obtain ⟨rfl, hsz, ⟨f0, hok, hP, hX⟩, hK, hnd, hWT, hE⟩ := hv
  have hx := B.exec
  have hb := B.bytes
  have hr := B.returns
  have hown : s.vm.findClass RX9 = some m.cls := findClass_of_methodNamed B.named
  have hlocks := B.notSynchronized
  subst hsz
  have hl := lv_entry ([.ref a0, .int v1]) (n := 3) (Nat.le_of_ble_eq_true rfl)
  rw [lg_entry_eq]
  generalize (lg_sl ([.ref a0, .int v1]) ++ List.replicate (3 - (lg_sl ([.ref a0, .int v1])).length) Slot.unset).toArray = ls at hl ⊢
  have hl : lv_has ls 3 [(0, .ref a0), (1, .int v1)] := hl
  refine lv_iload_n hx hb dX9_endOfToken_0 rfl (lv_at hl 1 rfl) ?_
  refine lv_iconst (v := 1) hx hb dX9_endOfToken_1 (by decide) ?_
  refine lv_iadd hx hb dX9_endOfToken_2 ?_
  refine lv_topi (fun x1 ex1 => ?_)
  refine lv_istore_n (lv' := [(2, .int x1), (0, .ref a0), (1, .int v1)]) hx hb dX9_endOfToken_3 rfl hl (by decide) rfl (fun ls hl => ?_)
  refine lv_aload_n hx hb dX9_endOfToken_4 rfl (lv_at hl 1 rfl) ?_
  refine lv_iload_n hx hb dX9_endOfToken_5 rfl (lv_at hl 2 rfl) ?_
  obtain ⟨y3_2, y4_2, y5_2, hy4_2, he2⟩ := ok_X9 hok ha0
  refine vp_callSi (va_Run.run (va_runV (As := [.int v1]) (rest := []) ⟨hx, hb, hml, hown, noTs⟩ (t_X9_byteAt l dC dI s.heap.size G cs tt mm a0 ha0 v1) ⟨cbE 1 (wd_458 hE) (wd_119 hE) (wd_455 hE) rfl rfl (by decide +kernel) ⟨Nat.le_of_ble_eq_true rfl, Nat.le_of_ble_eq_true rfl⟩, (wd_457 hE), (wd_2 hE)⟩ ⟨PT.blind, th_recv hK hP ha0.1 he2 rfl, (th_pre (av := [.ref a0, .int v1]) trivial hK hP hok hnd hWT hE)⟩ rfl rfl hl.1 rfl (lv_room (Nat.le_of_ble_eq_true rfl)) dX9_endOfToken_6 ⟨Nat.le_of_ble_eq_true rfl, Nat.le_of_ble_eq_true rfl⟩)) (fun r3 hr3 => ?_)
  refine vp_callSi (va_Run.run (va_runS (As := [.int r3]) (rest := []) ⟨hx, hb, hml, hown, noTs⟩ (t_X9_isLetter l dC dI s.heap.size G cs tt mm r3) ⟨cbE 1 (wd_465 hE) (wd_119 hE) (wd_463 hE) rfl rfl (by decide +kernel) ⟨Nat.le_of_ble_eq_true rfl, Nat.le_of_ble_eq_true rfl⟩, (wd_464 hE)⟩ ⟨PT.blind, (th_pre (av := [.int r3]) trivial hK hP hok hnd hWT hE)⟩ rfl rfl hl.1 rfl (lv_room (Nat.le_of_ble_eq_true rfl)) dX9_endOfToken_9 ⟨Nat.le_of_ble_eq_true rfl, Nat.le_of_ble_eq_true rfl⟩)) (fun r4 hr4 => ?_)
  refine lv_if_eq (tgt := 40) hx hb dX9_endOfToken_12 (by decide) (fun c5 => ?_) (fun c5 => ?_)
  · refine lv_aload_n hx hb dX9_endOfToken_40 rfl (lv_at hl 1 rfl) ?_
    refine lv_iload_n hx hb dX9_endOfToken_41 rfl (lv_at hl 2 rfl) ?_
    refine vp_callSi (va_Run.run (va_runV (As := [.int v1]) (rest := []) ⟨hx, hb, hml, hown, noTs⟩ (t_X9_byteAt l dC dI s.heap.size G cs tt mm a0 ha0 v1) ⟨cbE 1 (wd_458 hE) (wd_119 hE) (wd_455 hE) rfl rfl (by decide +kernel) ⟨Nat.le_of_ble_eq_true rfl, Nat.le_of_ble_eq_true rfl⟩, (wd_457 hE), (wd_2 hE)⟩ ⟨PT.blind, th_recv hK hP ha0.1 he2 rfl, (th_pre (av := [.ref a0, .int v1]) trivial hK hP hok hnd hWT hE)⟩ rfl rfl hl.1 rfl (lv_room (Nat.le_of_ble_eq_true rfl)) dX9_endOfToken_42 ⟨Nat.le_of_ble_eq_true rfl, Nat.le_of_ble_eq_true rfl⟩)) (fun r6 hr6 => ?_)
    refine vp_callSi (va_Run.run (va_runS (As := [.int r6]) (rest := []) ⟨hx, hb, hml, hown, noTs⟩ (t_X9_isDigit l dC dI s.heap.size G cs tt mm r6) ⟨cbE 1 (wd_468 hE) (wd_119 hE) (wd_466 hE) rfl rfl (by decide +kernel) ⟨Nat.le_of_ble_eq_true rfl, Nat.le_of_ble_eq_true rfl⟩, (wd_467 hE)⟩ ⟨PT.blind, (th_pre (av := [.int r6]) trivial hK hP hok hnd hWT hE)⟩ rfl rfl hl.1 rfl (lv_room (Nat.le_of_ble_eq_true rfl)) dX9_endOfToken_45 ⟨Nat.le_of_ble_eq_true rfl, Nat.le_of_ble_eq_true rfl⟩)) (fun r7 hr7 => ?_)
    refine lv_if_eq (tgt := 76) hx hb dX9_endOfToken_48 (by decide) (fun c8 => ?_) (fun c8 => ?_)
    · refine lv_iload_n hx hb dX9_endOfToken_76 rfl (lv_at hl 0 rfl) ?_
      exact W.iret (v := x1) hx hb hr (fun t ht hW => ⟨x1, rfl, trivial, ht⟩) (fun _ h => absurd h List.not_mem_nil) dX9_endOfToken_77
    · refine w_indP (I := fun n ls => ∃ (w2_9 : Int32), n = (2147483647 - w2_9.toInt).toNat ∧ lv_has ls 3 [(0, .ref a0), (1, .int v1), (2, .int w2_9)]) (fun n ls hI ih9 => ?_) _ _ ⟨x1, rfl, lv_sub hl [1, 2, 0] rfl⟩
      obtain ⟨w2_9, hmu9, hl⟩ := hI
      subst hmu9
      refine lv_iload_n hx hb dX9_endOfToken_51 rfl (lv_at hl 2 rfl) ?_
      refine lv_aload_n hx hb dX9_endOfToken_52 rfl (lv_at hl 0 rfl) ?_
      refine th_get hx hb (ly_X9 hE) hown hK hP ha0.1 he2 rfl 5 (by decide) (wd_191 hE) (fun _ h9 => h9) rfl dX9_endOfToken_53 ?_
      refine lv_icmp_ge (tgt := 76) hx hb dX9_endOfToken_56 (by decide) (fun c10 => ?_) (fun c10 => ?_)
      · refine lv_iload_n hx hb dX9_endOfToken_76 rfl (lv_at hl 2 rfl) ?_
        exact W.iret (v := w2_9) hx hb hr (fun t ht hW => ⟨w2_9, rfl, trivial, ht⟩) (fun _ h => absurd h List.not_mem_nil) dX9_endOfToken_77
      · refine lv_aload_n hx hb dX9_endOfToken_59 rfl (lv_at hl 0 rfl) ?_
        refine lv_iload_n hx hb dX9_endOfToken_60 rfl (lv_at hl 2 rfl) ?_
        refine vp_callSi (va_Run.run (va_runV (As := [.int w2_9]) (rest := []) ⟨hx, hb, hml, hown, noTs⟩ (t_X9_byteAt l dC dI s.heap.size G cs tt mm a0 ha0 w2_9) ⟨cbE 1 (wd_458 hE) (wd_119 hE) (wd_455 hE) rfl rfl (by decide +kernel) ⟨Nat.le_of_ble_eq_true rfl, Nat.le_of_ble_eq_true rfl⟩, (wd_457 hE), (wd_2 hE)⟩ ⟨PT.blind, th_recv hK hP ha0.1 he2 rfl, (th_pre (av := [.ref a0, .int w2_9]) trivial hK hP hok hnd hWT hE)⟩ rfl rfl hl.1 rfl (lv_room (Nat.le_of_ble_eq_true rfl)) dX9_endOfToken_61 ⟨Nat.le_of_ble_eq_true rfl, Nat.le_of_ble_eq_true rfl⟩)) (fun r11 hr11 => ?_)
        refine vp_callSi (va_Run.run (va_runS (As := [.int r11]) (rest := []) ⟨hx, hb, hml, hown, noTs⟩ (t_X9_isDigit l dC dI s.heap.size G cs tt mm r11) ⟨cbE 1 (wd_468 hE) (wd_119 hE) (wd_466 hE) rfl rfl (by decide +kernel) ⟨Nat.le_of_ble_eq_true rfl, Nat.le_of_ble_eq_true rfl⟩, (wd_467 hE)⟩ ⟨PT.blind, (th_pre (av := [.int r11]) trivial hK hP hok hnd hWT hE)⟩ rfl rfl hl.1 rfl (lv_room (Nat.le_of_ble_eq_true rfl)) dX9_endOfToken_64 ⟨Nat.le_of_ble_eq_true rfl, Nat.le_of_ble_eq_true rfl⟩)) (fun r12 hr12 => ?_)
        refine lv_if_eq (tgt := 76) hx hb dX9_endOfToken_67 (by decide) (fun c13 => ?_) (fun c13 => ?_)
        · refine lv_iload_n hx hb dX9_endOfToken_76 rfl (lv_at hl 2 rfl) ?_
          exact W.iret (v := w2_9) hx hb hr (fun t ht hW => ⟨w2_9, rfl, trivial, ht⟩) (fun _ h => absurd h List.not_mem_nil) dX9_endOfToken_77
        · obtain ⟨z14, ez14⟩ : ∃ z : Int32, z = w2_9 + 1 := ⟨_, rfl⟩
          refine lv_iinc (v := z14) (lv' := [(2, .int z14), (0, .ref a0), (1, .int v1)]) hx hb dX9_endOfToken_70 hl (k := 2) rfl (by rw [ez14]; rfl) (by decide) rfl (fun ls hl => ?_)
          have ic14 : z14.toInt = w2_9.toInt + 1 := by rw [ez14]; exact ic_up (by have := i_rng r4; have := i_rng r7; have := i_rng w2_9; have := i_rng y5_2; have := i_rng r12; simp only [i_lt, i_le, i_eq, ti_m9, ti_m1, ti_0, ti_1, ti_2, ti_3, ti_4, ti_5, ti_6, ti_7, ti_9, ti_12, ti_20, ti_99, ti_700, ti_24, ti_156, ti_72, ti_8, ti_60, ti_543, ti_10, ti_33, ti_51, ti_178, ti_119, ti_111, ti_114, ti_100, ti_32, ti_62, ti_59, ti_48, ti_701, ti_97, ti_122, ti_57, ti_73, ti_128] at c5 c8 c10 c13 ⊢; omega)
          refine lv_goto (tgt := 51) hx hb dX9_endOfToken_73 (by decide) ?_
          exact ih9 _ _ (by have := i_rng z14; first | omega | (simp only [i_lt, i_le, i_eq, ti_m9, ti_m1, ti_0, ti_1, ti_2, ti_3, ti_4, ti_5, ti_6, ti_7, ti_9, ti_12, ti_20, ti_99, ti_700, ti_24, ti_156, ti_72, ti_8, ti_60, ti_543, ti_10, ti_33, ti_51, ti_178, ti_119, ti_111, ti_114, ti_100, ti_32, ti_62, ti_59, ti_48, ti_701, ti_97, ti_122, ti_57, ti_73, ti_128, ic14] at c5 c8 c10 c13 ic14 ⊢; omega)) ⟨z14, rfl, lv_sub hl [1, 2, 0] rfl⟩
  · refine w_indP (I := fun n ls => ∃ (w2_15 : Int32), n = (2147483647 - w2_15.toInt).toNat ∧ lv_has ls 3 [(0, .ref a0), (1, .int v1), (2, .int w2_15)]) (fun n ls hI ih15 => ?_) _ _ ⟨x1, rfl, lv_sub hl [1, 2, 0] rfl⟩
    obtain ⟨w2_15, hmu15, hl⟩ := hI
    subst hmu15
    refine lv_iload_n hx hb dX9_endOfToken_15 rfl (lv_at hl 2 rfl) ?_
    refine lv_aload_n hx hb dX9_endOfToken_16 rfl (lv_at hl 0 rfl) ?_
    refine th_get hx hb (ly_X9 hE) hown hK hP ha0.1 he2 rfl 5 (by decide) (wd_191 hE) (fun _ h9 => h9) rfl dX9_endOfToken_17 ?_
    refine lv_icmp_ge (tgt := 76) hx hb dX9_endOfToken_20 (by decide) (fun c16 => ?_) (fun c16 => ?_)
    · refine lv_iload_n hx hb dX9_endOfToken_76 rfl (lv_at hl 2 rfl) ?_
      exact W.iret (v := w2_15) hx hb hr (fun t ht hW => ⟨w2_15, rfl, trivial, ht⟩) (fun _ h => absurd h List.not_mem_nil) dX9_endOfToken_77
    · refine lv_aload_n hx hb dX9_endOfToken_23 rfl (lv_at hl 0 rfl) ?_
      refine lv_iload_n hx hb dX9_endOfToken_24 rfl (lv_at hl 2 rfl) ?_
      refine vp_callSi (va_Run.run (va_runV (As := [.int w2_15]) (rest := []) ⟨hx, hb, hml, hown, noTs⟩ (t_X9_byteAt l dC dI s.heap.size G cs tt mm a0 ha0 w2_15) ⟨cbE 1 (wd_458 hE) (wd_119 hE) (wd_455 hE) rfl rfl (by decide +kernel) ⟨Nat.le_of_ble_eq_true rfl, Nat.le_of_ble_eq_true rfl⟩, (wd_457 hE), (wd_2 hE)⟩ ⟨PT.blind, th_recv hK hP ha0.1 he2 rfl, (th_pre (av := [.ref a0, .int w2_15]) trivial hK hP hok hnd hWT hE)⟩ rfl rfl hl.1 rfl (lv_room (Nat.le_of_ble_eq_true rfl)) dX9_endOfToken_25 ⟨Nat.le_of_ble_eq_true rfl, Nat.le_of_ble_eq_true rfl⟩)) (fun r17 hr17 => ?_)
      refine vp_callSi (va_Run.run (va_runS (As := [.int r17]) (rest := []) ⟨hx, hb, hml, hown, noTs⟩ (t_X9_isLetter l dC dI s.heap.size G cs tt mm r17) ⟨cbE 1 (wd_465 hE) (wd_119 hE) (wd_463 hE) rfl rfl (by decide +kernel) ⟨Nat.le_of_ble_eq_true rfl, Nat.le_of_ble_eq_true rfl⟩, (wd_464 hE)⟩ ⟨PT.blind, (th_pre (av := [.int r17]) trivial hK hP hok hnd hWT hE)⟩ rfl rfl hl.1 rfl (lv_room (Nat.le_of_ble_eq_true rfl)) dX9_endOfToken_28 ⟨Nat.le_of_ble_eq_true rfl, Nat.le_of_ble_eq_true rfl⟩)) (fun r18 hr18 => ?_)
      refine lv_if_eq (tgt := 76) hx hb dX9_endOfToken_31 (by decide) (fun c19 => ?_) (fun c19 => ?_)
      · refine lv_iload_n hx hb dX9_endOfToken_76 rfl (lv_at hl 2 rfl) ?_
        exact W.iret (v := w2_15) hx hb hr (fun t ht hW => ⟨w2_15, rfl, trivial, ht⟩) (fun _ h => absurd h List.not_mem_nil) dX9_endOfToken_77
      · obtain ⟨z20, ez20⟩ : ∃ z : Int32, z = w2_15 + 1 := ⟨_, rfl⟩
        refine lv_iinc (v := z20) (lv' := [(2, .int z20), (0, .ref a0), (1, .int v1)]) hx hb dX9_endOfToken_34 hl (k := 2) rfl (by rw [ez20]; rfl) (by decide) rfl (fun ls hl => ?_)
        have ic20 : z20.toInt = w2_15.toInt + 1 := by rw [ez20]; exact ic_up (by have := i_rng r4; have := i_rng w2_15; have := i_rng y5_2; have := i_rng r18; simp only [i_lt, i_le, i_eq, ti_m9, ti_m1, ti_0, ti_1, ti_2, ti_3, ti_4, ti_5, ti_6, ti_7, ti_9, ti_12, ti_20, ti_99, ti_700, ti_24, ti_156, ti_72, ti_8, ti_60, ti_543, ti_10, ti_33, ti_51, ti_178, ti_119, ti_111, ti_114, ti_100, ti_32, ti_62, ti_59, ti_48, ti_701, ti_97, ti_122, ti_57, ti_73, ti_128] at c5 c16 c19 ⊢; omega)
        refine lv_goto (tgt := 15) hx hb dX9_endOfToken_37 (by decide) ?_
        exact ih15 _ _ (by have := i_rng z20; first | omega | (simp only [i_lt, i_le, i_eq, ti_m9, ti_m1, ti_0, ti_1, ti_2, ti_3, ti_4, ti_5, ti_6, ti_7, ti_9, ti_12, ti_20, ti_99, ti_700, ti_24, ti_156, ti_72, ti_8, ti_60, ti_543, ti_10, ti_33, ti_51, ti_178, ti_119, ti_111, ti_114, ti_100, ti_32, ti_62, ti_59, ti_48, ti_701, ti_97, ti_122, ti_57, ti_73, ti_128, ic20] at c5 c16 c19 ic20 ⊢; omega)) ⟨z20, rfl, lv_sub hl [1, 2, 0] rfl⟩

set_option maxHeartbeats 4000000 in
set_option maxRecDepth 100000 in
theorem t_X9_signOf (l : Launch) (dC : Nat → ClassId) (dI : Nat → Nat → Nat) (sz : Nat) (G : GT) (cs : Nat → ClassId) (tt mm : Nat) (v0 : Int32) : Met l yX9_signOf [.code yX9_signOf cX9_signOf 1 (some .int)] ({ frames := 0, cells := 0, slots := 0, locals := 0 }) (PT [.int v0] sz dC dI G cs tt mm (fun _ => True)) (vp_Si (fun (r : Int32) => True)) 0 0 (fun _ => False) := sorry

set_option maxHeartbeats 4000000 in
set_option maxRecDepth 100000 in
theorem t_X9_numberIn (l : Launch) (dC : Nat → ClassId) (dI : Nat → Nat → Nat) (sz : Nat) (G : GT) (cs : Nat → ClassId) (tt mm : Nat) (a0 : Nat) (ha0 : Ty G a0 9) (v1 : Int32) (v2 : Int32) : Met l yX9_numberIn [.code yX9_numberIn cX9_numberIn 5 (some .int)] ({ frames := 1, cells := 0, slots := 0, locals := 40 }) (PT [.ref a0, .int v1, .int v2] sz dC dI G cs tt mm (fun _ => True)) (vp_Si (fun (r : Int32) => True)) 0 0 (fun _ => False) := by
  refine Met.ofW (cc := cX9_numberIn) (maxL := 5) (ret := (some .int)) (by decide) rfl ?_
  intro p e s m args below meth c s₁ B hml hv
  obtain ⟨rfl, hsz, ⟨f0, hok, hP, hX⟩, hK, hnd, hWT, hE⟩ := hv
  have hx := B.exec
  have hb := B.bytes
  have hr := B.returns
  have hown : s.vm.findClass RX9 = some m.cls := findClass_of_methodNamed B.named
  have hlocks := B.notSynchronized
  subst hsz
  have hl := lv_entry ([.ref a0, .int v1, .int v2]) (n := 5) (Nat.le_of_ble_eq_true rfl)
  rw [lg_entry_eq]
  generalize (lg_sl ([.ref a0, .int v1, .int v2]) ++ List.replicate (5 - (lg_sl ([.ref a0, .int v1, .int v2])).length) Slot.unset).toArray = ls at hl ⊢
  have hl : lv_has ls 5 [(0, .ref a0), (1, .int v1), (2, .int v2)] := hl
  refine lv_iconst (v := 0) hx hb dX9_numberIn_0 (by decide) ?_
  refine lv_istore_n (lv' := [(3, .int 0), (0, .ref a0), (1, .int v1), (2, .int v2)]) hx hb dX9_numberIn_1 rfl hl (by decide) rfl (fun ls hl => ?_)
  refine lv_iload_n hx hb dX9_numberIn_2 rfl (lv_at hl 2 rfl) ?_
  refine lv_istore (lv' := [(4, .int v1), (3, .int 0), (0, .ref a0), (1, .int v1), (2, .int v2)]) hx hb dX9_numberIn_3 hl (by decide) rfl (fun ls hl => ?_)
  refine w_indP (I := fun n ls => ∃ (w3_1 : Int32) (w4_1 : Int32), n = (2147483647 - w4_1.toInt).toNat ∧ lv_has ls 5 [(0, .ref a0), (1, .int v1), (2, .int v2), (3, .int w3_1), (4, .int w4_1)]) (fun n ls hI ih1 => ?_) _ _ ⟨0, v1, rfl, lv_sub hl [2, 3, 4, 1, 0] rfl⟩
  obtain ⟨w3_1, w4_1, hmu1, hl⟩ := hI
  subst hmu1
  refine lv_iload hx hb dX9_numberIn_5 (lv_at hl 4 rfl) ?_
  refine lv_iload_n hx hb dX9_numberIn_7 rfl (lv_at hl 2 rfl) ?_
  refine lv_icmp_ge (tgt := 32) hx hb dX9_numberIn_8 (by decide) (fun c2 => ?_) (fun c2 => ?_)
  · refine lv_iload_n hx hb dX9_numberIn_32 rfl (lv_at hl 3 rfl) ?_
    exact W.iret (v := w3_1) hx hb hr (fun t ht hW => ⟨w3_1, rfl, trivial, ht⟩) (fun _ h => absurd h List.not_mem_nil) dX9_numberIn_33
  · refine lv_bipush (v := 10) hx hb dX9_numberIn_11 (by decide) ?_
    refine lv_iload_n hx hb dX9_numberIn_13 rfl (lv_at hl 3 rfl) ?_
    refine lv_imul hx hb dX9_numberIn_14 ?_
    refine lv_topi (fun x3 ex3 => ?_)
    refine lv_aload_n hx hb dX9_numberIn_15 rfl (lv_at hl 0 rfl) ?_
    refine lv_iload hx hb dX9_numberIn_16 (lv_at hl 4 rfl) ?_
    obtain ⟨y3_4, y4_4, y5_4, hy4_4, he4⟩ := ok_X9 hok ha0
    refine vp_callSi (va_Run.run (va_runV (As := [.int w4_1]) (rest := [.int x3]) ⟨hx, hb, hml, hown, noTs⟩ (t_X9_byteAt l dC dI s.heap.size G cs tt mm a0 ha0 w4_1) ⟨cbE 1 (wd_458 hE) (wd_119 hE) (wd_455 hE) rfl rfl (by decide +kernel) ⟨Nat.le_of_ble_eq_true rfl, Nat.le_of_ble_eq_true rfl⟩, (wd_457 hE), (wd_2 hE)⟩ ⟨PT.blind, th_recv hK hP ha0.1 he4 rfl, (th_pre (av := [.ref a0, .int w4_1]) trivial hK hP hok hnd hWT hE)⟩ rfl rfl hl.1 rfl (lv_room (Nat.le_of_ble_eq_true rfl)) dX9_numberIn_18 ⟨Nat.le_of_ble_eq_true rfl, Nat.le_of_ble_eq_true rfl⟩)) (fun r5 hr5 => ?_)
    refine lv_iadd hx hb dX9_numberIn_21 ?_
    refine lv_topi (fun x6 ex6 => ?_)
    refine lv_bipush (v := 48) hx hb dX9_numberIn_22 (by decide) ?_
    refine lv_isub hx hb dX9_numberIn_24 ?_
    refine lv_topi (fun x7 ex7 => ?_)
    refine lv_istore_n (lv' := [(3, .int x7), (0, .ref a0), (1, .int v1), (2, .int v2), (4, .int w4_1)]) hx hb dX9_numberIn_25 rfl hl (by decide) rfl (fun ls hl => ?_)
    obtain ⟨z8, ez8⟩ : ∃ z : Int32, z = w4_1 + 1 := ⟨_, rfl⟩
    refine lv_iinc (v := z8) (lv' := [(4, .int z8), (3, .int x7), (0, .ref a0), (1, .int v1), (2, .int v2)]) hx hb dX9_numberIn_26 hl (k := 4) rfl (by rw [ez8]; rfl) (by decide) rfl (fun ls hl => ?_)
    have ic8 : z8.toInt = w4_1.toInt + 1 := by rw [ez8]; exact ic_up (by have := i_rng w4_1; have := i_rng v2; simp only [i_lt, i_le, i_eq, ti_m9, ti_m1, ti_0, ti_1, ti_2, ti_3, ti_4, ti_5, ti_6, ti_7, ti_9, ti_12, ti_20, ti_99, ti_700, ti_24, ti_156, ti_72, ti_8, ti_60, ti_543, ti_10, ti_33, ti_51, ti_178, ti_119, ti_111, ti_114, ti_100, ti_32, ti_62, ti_59, ti_48, ti_701, ti_97, ti_122, ti_57, ti_73, ti_128, ti_61] at c2 ⊢; omega)
    refine lv_goto (tgt := 5) hx hb dX9_numberIn_29 (by decide) ?_
    exact ih1 _ _ (by have := i_rng z8; first | omega | (simp only [i_lt, i_le, i_eq, ti_m9, ti_m1, ti_0, ti_1, ti_2, ti_3, ti_4, ti_5, ti_6, ti_7, ti_9, ti_12, ti_20, ti_99, ti_700, ti_24, ti_156, ti_72, ti_8, ti_60, ti_543, ti_10, ti_33, ti_51, ti_178, ti_119, ti_111, ti_114, ti_100, ti_32, ti_62, ti_59, ti_48, ti_701, ti_97, ti_122, ti_57, ti_73, ti_128, ti_61, ic8] at c2 ic8 ⊢; omega)) ⟨x7, z8, rfl, lv_sub hl [2, 3, 4, 1, 0] rfl⟩

set_option maxHeartbeats 4000000 in
set_option maxRecDepth 100000 in
theorem t_X9_kindAt (l : Launch) (dC : Nat → ClassId) (dI : Nat → Nat → Nat) (sz : Nat) (G : GT) (cs : Nat → ClassId) (tt mm : Nat) (a0 : Nat) (ha0 : Ty G a0 9) (v1 : Int32) : Met l yX9_kindAt [.code yX9_kindAt cX9_kindAt 2 (some .int)] ({ frames := 0, cells := 0, slots := 0, locals := 0 }) (PT [.ref a0, .int v1] sz dC dI G cs tt mm (fun _ => True)) (vp_Si (fun (r : Int32) => True)) 0 0 (fun _ => False) := by
  refine Met.ofW (cc := cX9_kindAt) (maxL := 2) (ret := (some .int)) (by decide) rfl ?_
  intro p e s m args below meth c s₁ B hml hv
  obtain ⟨rfl, hsz, ⟨f0, hok, hP, hX⟩, hK, hnd, hWT, hE⟩ := hv
  have hx := B.exec
  have hb := B.bytes
  have hr := B.returns
  have hown : s.vm.findClass RX9 = some m.cls := findClass_of_methodNamed B.named
  have hlocks := B.notSynchronized
  subst hsz
  have hl := lv_entry ([.ref a0, .int v1]) (n := 2) (Nat.le_of_ble_eq_true rfl)
  rw [lg_entry_eq]
  generalize (lg_sl ([.ref a0, .int v1]) ++ List.replicate (2 - (lg_sl ([.ref a0, .int v1])).length) Slot.unset).toArray = ls at hl ⊢
  have hl : lv_has ls 2 [(0, .ref a0), (1, .int v1)] := hl
  refine lv_iload_n hx hb dX9_kindAt_0 rfl (lv_at hl 1 rfl) ?_
  refine lv_if_lt (tgt := 21) hx hb dX9_kindAt_1 (by decide) (fun c1 => ?_) (fun c1 => ?_)
  · refine lv_iconst (v := 0) hx hb dX9_kindAt_21 (by decide) ?_
    refine lv_goto (tgt := 31) hx hb dX9_kindAt_22 (by decide) ?_
    exact W.iret (v := 0) hx hb hr (fun t ht hW => ⟨0, rfl, trivial, ht⟩) (fun _ h => absurd h List.not_mem_nil) dX9_kindAt_31
  · refine lv_iload_n hx hb dX9_kindAt_4 rfl (lv_at hl 1 rfl) ?_
    refine lv_aload_n hx hb dX9_kindAt_5 rfl (lv_at hl 0 rfl) ?_
    obtain ⟨y3_2, y4_2, y5_2, hy4_2, he2⟩ := ok_X9 hok ha0
    refine th_get hx hb (ly_X9 hE) hown hK hP ha0.1 he2 rfl 3 (by decide) (wd_189 hE) (fun _ h9 => h9) rfl dX9_kindAt_6 ?_
    refine lv_icmp_ge (tgt := 21) hx hb dX9_kindAt_9 (by decide) (fun c3 => ?_) (fun c3 => ?_)
    · refine lv_iconst (v := 0) hx hb dX9_kindAt_21 (by decide) ?_
      refine lv_goto (tgt := 31) hx hb dX9_kindAt_22 (by decide) ?_
      exact W.iret (v := 0) hx hb hr (fun t ht hW => ⟨0, rfl, trivial, ht⟩) (fun _ h => absurd h List.not_mem_nil) dX9_kindAt_31
    · refine lv_iload_n hx hb dX9_kindAt_12 rfl (lv_at hl 1 rfl) ?_
      refine lv_aload_n hx hb dX9_kindAt_13 rfl (lv_at hl 0 rfl) ?_
      refine th_get hx hb (ly_X9 hE) hown hK hP ha0.1 he2 rfl 0 (by decide) (wd_186 hE) (fun _ h9 => h9) rfl dX9_kindAt_14 ?_
      refine th_len1 hx hb hK hP hok (n := 701) (wl_X9_0 hWT ha0) (Or.inl (wt_X9_0 hWT ha0)) dX9_kindAt_17 ?_
      refine W.eq (g2 := F0 m 18 ls [.int 701, .int v1]) rfl ?_
      refine lv_icmp_lt (tgt := 25) hx hb dX9_kindAt_18 (by decide) (fun c4 => ?_) (fun c4 => ?_)
      · refine lv_aload_n hx hb dX9_kindAt_25 rfl (lv_at hl 0 rfl) ?_
        refine th_get hx hb (ly_X9 hE) hown hK hP ha0.1 he2 rfl 0 (by decide) (wd_186 hE) (fun _ h9 => h9) rfl dX9_kindAt_26 ?_
        refine lv_iload_n hx hb dX9_kindAt_29 rfl (lv_at hl 1 rfl) ?_
        refine th_iald hx hb hK hP hok (wt_X9_0 hWT ha0) (n := 701) (wl_X9_0 hWT ha0) (vp_in_iff.mpr (by first | omega | (simp only [i_lt, i_le, i_eq, ti_m9, ti_m1, ti_0, ti_1, ti_2, ti_3, ti_4, ti_5, ti_6, ti_7, ti_9, ti_12, ti_20, ti_99, ti_700, ti_24, ti_156, ti_72, ti_8, ti_60, ti_543, ti_10, ti_33, ti_51, ti_178, ti_119, ti_111, ti_114, ti_100, ti_32, ti_62, ti_59, ti_48, ti_701, ti_97, ti_122, ti_57, ti_73, ti_128, ti_61] at c1 c3 c4 ⊢; omega))) dX9_kindAt_30 (fun x5 => ?_)
        exact W.iret (v := x5) hx hb hr (fun t ht hW => ⟨x5, rfl, trivial, ht⟩) (fun _ h => absurd h List.not_mem_nil) dX9_kindAt_31
      · refine lv_iconst (v := 0) hx hb dX9_kindAt_21 (by decide) ?_
        refine lv_goto (tgt := 31) hx hb dX9_kindAt_22 (by decide) ?_
        exact W.iret (v := 0) hx hb hr (fun t ht hW => ⟨0, rfl, trivial, ht⟩) (fun _ h => absurd h List.not_mem_nil) dX9_kindAt_31

set_option maxHeartbeats 4000000 in
set_option maxRecDepth 100000 in
theorem t_X5_kind (l : Launch) (dC : Nat → ClassId) (dI : Nat → Nat → Nat) (sz : Nat) (G : GT) (cs : Nat → ClassId) (tt mm : Nat) (a0 : Nat) (ha0 : Ty G a0 5) : Met l yX5_kind [.code yX5_kind cX5_kind 1 (some .int)] ({ frames := 1, cells := 0, slots := 0, locals := 40 }) (PT [.ref a0] sz dC dI G cs tt mm (fun _ => True)) (vp_Si (fun (r : Int32) => True)) 0 0 (fun _ => False) := by
  refine Met.ofW (cc := cX5_kind) (maxL := 1) (ret := (some .int)) (by decide) rfl ?_
  intro p e s m args below meth c s₁ B hml hv
  obtain ⟨rfl, hsz, ⟨f0, hok, hP, hX⟩, hK, hnd, hWT, hE⟩ := hv
  have hx := B.exec
  have hb := B.bytes
  have hr := B.returns
  have hown : s.vm.findClass RX5 = some m.cls := findClass_of_methodNamed B.named
  have hlocks := B.notSynchronized
  subst hsz
  have hl := lv_entry ([.ref a0]) (n := 1) (Nat.le_of_ble_eq_true rfl)
  rw [lg_entry_eq]
  generalize (lg_sl ([.ref a0]) ++ List.replicate (1 - (lg_sl ([.ref a0])).length) Slot.unset).toArray = ls at hl ⊢
  have hl : lv_has ls 1 [(0, .ref a0)] := hl
  refine lv_aload_n hx hb dX5_kind_0 rfl (lv_at hl 0 rfl) ?_
  obtain ⟨y3_1, y4_1, y5_1, y6_1, y7_1, y8_1, y9_1, he1⟩ := ok_X5 hok ha0
  refine th_get hx hb (ly_X5 hE) hown hK hP ha0.1 he1 rfl 0 (by decide) (wd_227 hE) (fun _ h9 => h9) rfl dX5_kind_1 ?_
  refine lv_aload_n hx hb dX5_kind_4 rfl (lv_at hl 0 rfl) ?_
  refine th_get hx hb (ly_X5 hE) hown hK hP ha0.1 he1 rfl 4 (by decide) (wd_231 hE) (fun _ h9 => h9) rfl dX5_kind_5 ?_
  obtain ⟨y3_2, y4_2, y5_2, hy4_2, he2⟩ := ok_X9 hok (wt_X5_0 hWT ha0)
  refine vp_callSi (va_Run.run (va_runV (As := [.int y4_1]) (rest := []) ⟨hx, hb, hml, hown, noTs⟩ (t_X9_kindAt l dC dI s.heap.size G cs tt mm (gR G a0 0) ((wt_X5_0 hWT ha0)) y4_1) ⟨cbE 1 (wd_549 hE) (wd_119 hE) (wd_546 hE) rfl rfl (by decide +kernel) ⟨Nat.le_of_ble_eq_true rfl, Nat.le_of_ble_eq_true rfl⟩, (wd_547 hE), (wd_548 hE)⟩ ⟨PT.blind, th_recv hK hP (wt_X5_0 hWT ha0).1 he2 rfl, (th_pre (av := [.ref (gR G a0 0), .int y4_1]) trivial hK hP hok hnd hWT hE)⟩ rfl rfl hl.1 rfl (lv_room (Nat.le_of_ble_eq_true rfl)) dX5_kind_8 ⟨Nat.le_of_ble_eq_true rfl, Nat.le_of_ble_eq_true rfl⟩)) (fun r3 hr3 => ?_)
  exact W.iret (v := r3) hx hb hr (fun t ht hW => ⟨r3, rfl, trivial, ht⟩) (fun _ h => absurd h List.not_mem_nil) dX5_kind_11

set_option maxHeartbeats 4000000 in
set_option maxRecDepth 100000 in
theorem t_X7_vertices (l : Launch) (dC : Nat → ClassId) (dI : Nat → Nat → Nat) (sz : Nat) (G : GT) (cs : Nat → ClassId) (tt mm : Nat) (a0 : Nat) (ha0 : Ty G a0 7) : Met l yX7_vertices [.code yX7_vertices cX7_vertices 1 (some .int)] ({ frames := 0, cells := 0, slots := 0, locals := 0 }) (PT [.ref a0] sz dC dI G cs tt mm (fun _ => True)) (vp_Si (fun (r : Int32) => True)) 0 0 (fun _ => False) := by
  refine Met.ofW (cc := cX7_vertices) (maxL := 1) (ret := (some .int)) (by decide) rfl ?_
  intro p e s m args below meth c s₁ B hml hv
  obtain ⟨rfl, hsz, ⟨f0, hok, hP, hX⟩, hK, hnd, hWT, hE⟩ := hv
  have hx := B.exec
  have hb := B.bytes
  have hr := B.returns
  have hown : s.vm.findClass RX7 = some m.cls := findClass_of_methodNamed B.named
  have hlocks := B.notSynchronized
  subst hsz
  have hl := lv_entry ([.ref a0]) (n := 1) (Nat.le_of_ble_eq_true rfl)
  rw [lg_entry_eq]
  generalize (lg_sl ([.ref a0]) ++ List.replicate (1 - (lg_sl ([.ref a0])).length) Slot.unset).toArray = ls at hl ⊢
  have hl : lv_has ls 1 [(0, .ref a0)] := hl
  refine lv_aload_n hx hb dX7_vertices_0 rfl (lv_at hl 0 rfl) ?_
  have he1 := ok_X7 hok ha0
  refine th_get hx hb (ly_X7 hE) hown hK hP ha0.1 he1 rfl 0 (by decide) (wd_149 hE) (fun _ h9 => h9) rfl dX7_vertices_1 ?_
  refine lv_iconst (v := 0) hx hb dX7_vertices_4 (by decide) ?_
  refine th_iald hx hb hK hP hok (wt_X7_0 hWT ha0) (n := 543) (wl_X7_0 hWT ha0) (by unfold vp_in; decide) dX7_vertices_5 (fun x2 => ?_)
  exact W.iret (v := x2) hx hb hr (fun t ht hW => ⟨x2, rfl, trivial, ht⟩) (fun _ h => absurd h List.not_mem_nil) dX7_vertices_6

set_option maxHeartbeats 4000000 in
set_option maxRecDepth 100000 in
theorem t_X9_placeAt (l : Launch) (dC : Nat → ClassId) (dI : Nat → Nat → Nat) (sz : Nat) (G : GT) (cs : Nat → ClassId) (tt mm : Nat) (a0 : Nat) (ha0 : Ty G a0 9) (v1 : Int32) : Met l yX9_placeAt [.code yX9_placeAt cX9_placeAt 2 (some .int)] ({ frames := 0, cells := 0, slots := 0, locals := 0 }) (PT [.ref a0, .int v1] sz dC dI G cs tt mm (fun _ => True)) (vp_Si (fun (r : Int32) => True)) 0 0 (fun _ => False) := by
  refine Met.ofW (cc := cX9_placeAt) (maxL := 2) (ret := (some .int)) (by decide) rfl ?_
  intro p e s m args below meth c s₁ B hml hv
  obtain ⟨rfl, hsz, ⟨f0, hok, hP, hX⟩, hK, hnd, hWT, hE⟩ := hv
  have hx := B.exec
  have hb := B.bytes
  have hr := B.returns
  have hown : s.vm.findClass RX9 = some m.cls := findClass_of_methodNamed B.named
  have hlocks := B.notSynchronized
  subst hsz
  have hl := lv_entry ([.ref a0, .int v1]) (n := 2) (Nat.le_of_ble_eq_true rfl)
  rw [lg_entry_eq]
  generalize (lg_sl ([.ref a0, .int v1]) ++ List.replicate (2 - (lg_sl ([.ref a0, .int v1])).length) Slot.unset).toArray = ls at hl ⊢
  have hl : lv_has ls 2 [(0, .ref a0), (1, .int v1)] := hl
  refine lv_iload_n hx hb dX9_placeAt_0 rfl (lv_at hl 1 rfl) ?_
  refine lv_if_lt (tgt := 21) hx hb dX9_placeAt_1 (by decide) (fun c1 => ?_) (fun c1 => ?_)
  · refine lv_aload_n hx hb dX9_placeAt_21 rfl (lv_at hl 0 rfl) ?_
    obtain ⟨y3_2, y4_2, y5_2, hy4_2, he2⟩ := ok_X9 hok ha0
    refine th_get hx hb (ly_X9 hE) hown hK hP ha0.1 he2 rfl 5 (by decide) (wd_191 hE) (fun _ h9 => h9) rfl dX9_placeAt_22 ?_
    refine lv_goto (tgt := 34) hx hb dX9_placeAt_25 (by decide) ?_
    exact W.iret (v := y5_2) hx hb hr (fun t ht hW => ⟨y5_2, rfl, trivial, ht⟩) (fun _ h => absurd h List.not_mem_nil) dX9_placeAt_34
  · refine lv_iload_n hx hb dX9_placeAt_4 rfl (lv_at hl 1 rfl) ?_
    refine lv_aload_n hx hb dX9_placeAt_5 rfl (lv_at hl 0 rfl) ?_
    obtain ⟨y3_3, y4_3, y5_3, hy4_3, he3⟩ := ok_X9 hok ha0
    refine th_get hx hb (ly_X9 hE) hown hK hP ha0.1 he3 rfl 3 (by decide) (wd_189 hE) (fun _ h9 => h9) rfl dX9_placeAt_6 ?_
    refine lv_icmp_ge (tgt := 21) hx hb dX9_placeAt_9 (by decide) (fun c4 => ?_) (fun c4 => ?_)
    · refine lv_aload_n hx hb dX9_placeAt_21 rfl (lv_at hl 0 rfl) ?_
      refine th_get hx hb (ly_X9 hE) hown hK hP ha0.1 he3 rfl 5 (by decide) (wd_191 hE) (fun _ h9 => h9) rfl dX9_placeAt_22 ?_
      refine lv_goto (tgt := 34) hx hb dX9_placeAt_25 (by decide) ?_
      exact W.iret (v := y5_3) hx hb hr (fun t ht hW => ⟨y5_3, rfl, trivial, ht⟩) (fun _ h => absurd h List.not_mem_nil) dX9_placeAt_34
    · refine lv_iload_n hx hb dX9_placeAt_12 rfl (lv_at hl 1 rfl) ?_
      refine lv_aload_n hx hb dX9_placeAt_13 rfl (lv_at hl 0 rfl) ?_
      refine th_get hx hb (ly_X9 hE) hown hK hP ha0.1 he3 rfl 1 (by decide) (wd_187 hE) (fun _ h9 => h9) rfl dX9_placeAt_14 ?_
      refine th_len1 hx hb hK hP hok (n := 701) (wl_X9_1 hWT ha0) (Or.inl (wt_X9_1 hWT ha0)) dX9_placeAt_17 ?_
      refine W.eq (g2 := F0 m 18 ls [.int 701, .int v1]) rfl ?_
      refine lv_icmp_lt (tgt := 28) hx hb dX9_placeAt_18 (by decide) (fun c5 => ?_) (fun c5 => ?_)
      · refine lv_aload_n hx hb dX9_placeAt_28 rfl (lv_at hl 0 rfl) ?_
        refine th_get hx hb (ly_X9 hE) hown hK hP ha0.1 he3 rfl 1 (by decide) (wd_187 hE) (fun _ h9 => h9) rfl dX9_placeAt_29 ?_
        refine lv_iload_n hx hb dX9_placeAt_32 rfl (lv_at hl 1 rfl) ?_
        refine th_iald hx hb hK hP hok (wt_X9_1 hWT ha0) (n := 701) (wl_X9_1 hWT ha0) (vp_in_iff.mpr (by first | omega | (simp only [i_lt, i_le, i_eq, ti_m9, ti_m1, ti_0, ti_1, ti_2, ti_3, ti_4, ti_5, ti_6, ti_7, ti_9, ti_12, ti_20, ti_99, ti_700, ti_24, ti_156, ti_72, ti_8, ti_60, ti_543, ti_10, ti_33, ti_51, ti_178, ti_119, ti_111, ti_114, ti_100, ti_32, ti_62, ti_59, ti_48, ti_701, ti_97, ti_122, ti_57, ti_73, ti_128, ti_61] at c1 c4 c5 ⊢; omega))) dX9_placeAt_33 (fun x6 => ?_)
        exact W.iret (v := x6) hx hb hr (fun t ht hW => ⟨x6, rfl, trivial, ht⟩) (fun _ h => absurd h List.not_mem_nil) dX9_placeAt_34
      · refine lv_aload_n hx hb dX9_placeAt_21 rfl (lv_at hl 0 rfl) ?_
        refine th_get hx hb (ly_X9 hE) hown hK hP ha0.1 he3 rfl 5 (by decide) (wd_191 hE) (fun _ h9 => h9) rfl dX9_placeAt_22 ?_
        refine lv_goto (tgt := 34) hx hb dX9_placeAt_25 (by decide) ?_
        exact W.iret (v := y5_3) hx hb hr (fun t ht hW => ⟨y5_3, rfl, trivial, ht⟩) (fun _ h => absurd h List.not_mem_nil) dX9_placeAt_34

set_option maxHeartbeats 4000000 in
set_option maxRecDepth 100000 in
theorem t_X5_passes (l : Launch) (dC : Nat → ClassId) (dI : Nat → Nat → Nat) (sz : Nat) (G : GT) (cs : Nat → ClassId) (tt mm : Nat) (a0 : Nat) (ha0 : Ty G a0 5) (v1 : Int32) (v2 : Int32) : Met l yX5_passes [.code yX5_passes cX5_passes 3 (some .boolean)] ({ frames := 1, cells := 0, slots := 0, locals := 40 }) (PT [.ref a0, .int v1, .int v2] sz dC dI G cs tt mm (fun _ => True)) (va_Qi (fun (r : Int32) (u : Nat → va_E) => r = 0 ∨ r = 1) (BT dC dI G cs tt mm) (AT G sz)) 0 0 (AT G sz) := by
  refine Met.ofW (cc := cX5_passes) (maxL := 3) (ret := (some .boolean)) (by decide) rfl ?_
  intro p e s m args below meth c s₁ B hml hv
  obtain ⟨rfl, hsz, ⟨f0, hok, hP, hX⟩, hK, hnd, hWT, hE⟩ := hv
  have hx := B.exec
  have hb := B.bytes
  have hr := B.returns
  have hown : s.vm.findClass RX5 = some m.cls := findClass_of_methodNamed B.named
  have hlocks := B.notSynchronized
  subst hsz
  have hAL : ∀ a, a ∈ gL G → AT G s.heap.size a := fun a h => Or.inl h
  have hA : ∀ q : Nat, s.heap.size ≤ q → AT G s.heap.size q := fun q h => Or.inr h
  have hS : va_S (AT G s.heap.size) s.heap s.heap [] := va_S.rf
  have hl := lv_entry ([.ref a0, .int v1, .int v2]) (n := 3) (Nat.le_of_ble_eq_true rfl)
  rw [lg_entry_eq]
  generalize (lg_sl ([.ref a0, .int v1, .int v2]) ++ List.replicate (3 - (lg_sl ([.ref a0, .int v1, .int v2])).length) Slot.unset).toArray = ls at hl ⊢
  have hl : lv_has ls 3 [(0, .ref a0), (1, .int v1), (2, .int v2)] := hl
  refine lv_iload_n hx hb dX5_passes_0 rfl (lv_at hl 1 rfl) ?_
  refine lv_if_ne (tgt := 39) hx hb dX5_passes_1 (by decide) (fun c1 => ?_) (fun c1 => ?_)
  · refine lv_aload_n hx hb dX5_passes_39 rfl (lv_at hl 0 rfl) ?_
    obtain ⟨y3_2, y4_2, y5_2, y6_2, y7_2, y8_2, y9_2, he2⟩ := ok_X5 hok ha0
    refine th_get hx hb (ly_X5 hE) hown hK hP ha0.1 he2 rfl 7 (by decide) (wd_234 hE) (fun _ h9 => h9) rfl dX5_passes_40 ?_
    refine lv_if_ne (tgt := 50) hx hb dX5_passes_43 (by decide) (fun c3 => ?_) (fun c3 => ?_)
    · refine lv_iconst (v := 0) hx hb dX5_passes_50 (by decide) ?_
      exact W.zret (v := 0) hx hb hr rfl (fun t ht hW => ⟨⟨0, f0, rfl, Or.inl rfl, hok, by rw [ht]; exact hP⟩, hS.F ht⟩) hS.2.2 dX5_passes_51
    · refine lv_iconst (v := 1) hx hb dX5_passes_46 (by decide) ?_
      refine lv_goto (tgt := 51) hx hb dX5_passes_47 (by decide) ?_
      exact W.zret (v := 1) hx hb hr rfl (fun t ht hW => ⟨⟨1, f0, rfl, Or.inr rfl, hok, by rw [ht]; exact hP⟩, hS.F ht⟩) hS.2.2 dX5_passes_51
  · refine lv_aload_n hx hb dX5_passes_4 rfl (lv_at hl 0 rfl) ?_
    obtain ⟨y3_4, y4_4, y5_4, y6_4, y7_4, y8_4, y9_4, he4⟩ := ok_X5 hok ha0
    refine th_get hx hb (ly_X5 hE) hown hK hP ha0.1 he4 rfl 7 (by decide) (wd_234 hE) (fun _ h9 => h9) rfl dX5_passes_5 ?_
    refine lv_if_ne (tgt := 39) hx hb dX5_passes_8 (by decide) (fun c5 => ?_) (fun c5 => ?_)
    · refine lv_aload_n hx hb dX5_passes_39 rfl (lv_at hl 0 rfl) ?_
      refine th_get hx hb (ly_X5 hE) hown hK hP ha0.1 he4 rfl 7 (by decide) (wd_234 hE) (fun _ h9 => h9) rfl dX5_passes_40 ?_
      refine lv_if_ne (tgt := 50) hx hb dX5_passes_43 (by decide) (fun c6 => ?_) (fun c6 => ?_)
      · refine lv_iconst (v := 0) hx hb dX5_passes_50 (by decide) ?_
        exact W.zret (v := 0) hx hb hr rfl (fun t ht hW => ⟨⟨0, f0, rfl, Or.inl rfl, hok, by rw [ht]; exact hP⟩, hS.F ht⟩) hS.2.2 dX5_passes_51
      · refine lv_iconst (v := 1) hx hb dX5_passes_46 (by decide) ?_
        refine lv_goto (tgt := 51) hx hb dX5_passes_47 (by decide) ?_
        exact W.zret (v := 1) hx hb hr rfl (fun t ht hW => ⟨⟨1, f0, rfl, Or.inr rfl, hok, by rw [ht]; exact hP⟩, hS.F ht⟩) hS.2.2 dX5_passes_51
    · refine lv_aload_n hx hb dX5_passes_11 rfl (lv_at hl 0 rfl) ?_
      refine lv_iload_n hx hb dX5_passes_12 rfl (lv_at hl 2 rfl) ?_
      refine th_put (v := .int v2) (ty := .int) hx hb (ly_X5 hE) tyX5 tyX5_ok nmX5 hown hK hP hnd hAL hS ha0.1 he4 rfl 7 (by decide) (wd_234 hE) (fun _ h9 => h9) rfl (by decide +kernel) rfl rfl (Nat.le_of_ble_eq_true rfl) (up_X5 hok ha0 ⟨y3_4, y4_4, y5_4, y6_4, v2, y8_4, y9_4, rfl⟩) dX5_passes_13 (fun f7 H locs hfa7 hfo7 hok hP hS => ?_)
      refine lv_aload_n hx hb dX5_passes_16 rfl (lv_at hl 0 rfl) ?_
      refine lv_aload_n hx hb dX5_passes_17 rfl (lv_at hl 0 rfl) ?_
      refine th_get hx hb (ly_X5 hE) hown hK hP ha0.1 hfa7 rfl 0 (by decide) (wd_227 hE) (fun _ h9 => h9) rfl dX5_passes_18 ?_
      refine lv_aload_n hx hb dX5_passes_21 rfl (lv_at hl 0 rfl) ?_
      refine th_get hx hb (ly_X5 hE) hown hK hP ha0.1 hfa7 rfl 4 (by decide) (wd_231 hE) (fun _ h9 => h9) rfl dX5_passes_22 ?_
      obtain ⟨y3_8, y4_8, y5_8, hy4_8, he8⟩ := ok_X9 hok (wt_X5_0 hWT ha0)
      refine vp_callSi (va_Run.run (va_runV (As := [.int y4_4]) (rest := [.ref a0]) ⟨hx, hb, hml, hown, noTs⟩ (t_X9_placeAt l dC dI H.size G cs tt mm (gR G a0 0) ((wt_X5_0 hWT ha0)) y4_4) ⟨cbE 1 (wd_565 hE) (wd_119 hE) (wd_562 hE) rfl rfl (by decide +kernel) ⟨Nat.le_of_ble_eq_true rfl, Nat.le_of_ble_eq_true rfl⟩, (wd_563 hE), (wd_564 hE)⟩ ⟨PT.blind, th_recv hK hP (wt_X5_0 hWT ha0).1 he8 rfl, (th_pre (av := [.ref (gR G a0 0), .int y4_4]) trivial hK hP hok hnd hWT hE)⟩ rfl rfl hl.1 rfl (lv_room (Nat.le_of_ble_eq_true rfl)) dX5_passes_25 ⟨Nat.le_of_ble_eq_true rfl, Nat.le_of_ble_eq_true rfl⟩)) (fun r9 hr9 => ?_)
      refine th_put (v := .int r9) (ty := .int) hx hb (ly_X5 hE) tyX5 tyX5_ok nmX5 hown hK hP hnd hAL hS ha0.1 hfa7 rfl 8 (by decide) (wd_235 hE) (fun _ h9 => h9) rfl (by decide +kernel) rfl rfl (Nat.le_of_ble_eq_true rfl) (up_X5 hok ha0 ⟨y3_4, y4_4, y5_4, y6_4, v2, r9, y9_4, rfl⟩) dX5_passes_28 (fun f10 H locs hfa10 hfo10 hok hP hS => ?_)
      have he11 := (hfo10 (gR G a0 0) (Ty.ne (wt_X5_0 hWT ha0) ha0 (by decide))).trans he8
      refine lv_aload_n hx hb dX5_passes_31 rfl (lv_at hl 0 rfl) ?_
      refine lv_aload_n hx hb dX5_passes_32 rfl (lv_at hl 0 rfl) ?_
      refine th_get hx hb (ly_X5 hE) hown hK hP ha0.1 hfa10 rfl 6 (by decide) (wd_233 hE) (fun _ h9 => h9) rfl dX5_passes_33 ?_
      refine th_put (v := .int y6_4) (ty := .int) hx hb (ly_X5 hE) tyX5 tyX5_ok nmX5 hown hK hP hnd hAL hS ha0.1 hfa10 rfl 9 (by decide) (wd_236 hE) (fun _ h9 => h9) rfl (by decide +kernel) rfl rfl (Nat.le_of_ble_eq_true rfl) (up_X5 hok ha0 ⟨y3_4, y4_4, y5_4, y6_4, v2, r9, y6_4, rfl⟩) dX5_passes_36 (fun f12 H locs hfa12 hfo12 hok hP hS => ?_)
      have he13 := (hfo12 (gR G a0 0) (Ty.ne (wt_X5_0 hWT ha0) ha0 (by decide))).trans he11
      refine lv_aload_n hx hb dX5_passes_39 rfl (lv_at hl 0 rfl) ?_
      refine th_get hx hb (ly_X5 hE) hown hK hP ha0.1 hfa12 rfl 7 (by decide) (wd_234 hE) (fun _ h9 => h9) rfl dX5_passes_40 ?_
      refine lv_if_ne (tgt := 50) hx hb dX5_passes_43 (by decide) (fun c14 => ?_) (fun c14 => ?_)
      · refine lv_iconst (v := 0) hx hb dX5_passes_50 (by decide) ?_
        exact W.zret (v := 0) hx hb hr rfl (fun t ht hW => ⟨⟨0, f12, rfl, Or.inl rfl, hok, by rw [ht]; exact hP⟩, hS.F ht⟩) hS.2.2 dX5_passes_51
      · refine lv_iconst (v := 1) hx hb dX5_passes_46 (by decide) ?_
        refine lv_goto (tgt := 51) hx hb dX5_passes_47 (by decide) ?_
        exact W.zret (v := 1) hx hb hr rfl (fun t ht hW => ⟨⟨1, f12, rfl, Or.inr rfl, hok, by rw [ht]; exact hP⟩, hS.F ht⟩) hS.2.2 dX5_passes_51

set_option maxHeartbeats 4000000 in
set_option maxRecDepth 100000 in
theorem t_X9_valueAt (l : Launch) (dC : Nat → ClassId) (dI : Nat → Nat → Nat) (sz : Nat) (G : GT) (cs : Nat → ClassId) (tt mm : Nat) (a0 : Nat) (ha0 : Ty G a0 9) (v1 : Int32) : Met l yX9_valueAt [.code yX9_valueAt cX9_valueAt 2 (some .int)] ({ frames := 0, cells := 0, slots := 0, locals := 0 }) (PT [.ref a0, .int v1] sz dC dI G cs tt mm (fun _ => True)) (vp_Si (fun (r : Int32) => True)) 0 0 (fun _ => False) := by
  refine Met.ofW (cc := cX9_valueAt) (maxL := 2) (ret := (some .int)) (by decide) rfl ?_
  intro p e s m args below meth c s₁ B hml hv
  obtain ⟨rfl, hsz, ⟨f0, hok, hP, hX⟩, hK, hnd, hWT, hE⟩ := hv
  have hx := B.exec
  have hb := B.bytes
  have hr := B.returns
  have hown : s.vm.findClass RX9 = some m.cls := findClass_of_methodNamed B.named
  have hlocks := B.notSynchronized
  subst hsz
  have hl := lv_entry ([.ref a0, .int v1]) (n := 2) (Nat.le_of_ble_eq_true rfl)
  rw [lg_entry_eq]
  generalize (lg_sl ([.ref a0, .int v1]) ++ List.replicate (2 - (lg_sl ([.ref a0, .int v1])).length) Slot.unset).toArray = ls at hl ⊢
  have hl : lv_has ls 2 [(0, .ref a0), (1, .int v1)] := hl
  refine lv_iload_n hx hb dX9_valueAt_0 rfl (lv_at hl 1 rfl) ?_
  refine lv_if_lt (tgt := 21) hx hb dX9_valueAt_1 (by decide) (fun c1 => ?_) (fun c1 => ?_)
  · refine lv_iconst (v := 0) hx hb dX9_valueAt_21 (by decide) ?_
    refine lv_goto (tgt := 31) hx hb dX9_valueAt_22 (by decide) ?_
    exact W.iret (v := 0) hx hb hr (fun t ht hW => ⟨0, rfl, trivial, ht⟩) (fun _ h => absurd h List.not_mem_nil) dX9_valueAt_31
  · refine lv_iload_n hx hb dX9_valueAt_4 rfl (lv_at hl 1 rfl) ?_
    refine lv_aload_n hx hb dX9_valueAt_5 rfl (lv_at hl 0 rfl) ?_
    obtain ⟨y3_2, y4_2, y5_2, hy4_2, he2⟩ := ok_X9 hok ha0
    refine th_get hx hb (ly_X9 hE) hown hK hP ha0.1 he2 rfl 3 (by decide) (wd_189 hE) (fun _ h9 => h9) rfl dX9_valueAt_6 ?_
    refine lv_icmp_ge (tgt := 21) hx hb dX9_valueAt_9 (by decide) (fun c3 => ?_) (fun c3 => ?_)
    · refine lv_iconst (v := 0) hx hb dX9_valueAt_21 (by decide) ?_
      refine lv_goto (tgt := 31) hx hb dX9_valueAt_22 (by decide) ?_
      exact W.iret (v := 0) hx hb hr (fun t ht hW => ⟨0, rfl, trivial, ht⟩) (fun _ h => absurd h List.not_mem_nil) dX9_valueAt_31
    · refine lv_iload_n hx hb dX9_valueAt_12 rfl (lv_at hl 1 rfl) ?_
      refine lv_aload_n hx hb dX9_valueAt_13 rfl (lv_at hl 0 rfl) ?_
      refine th_get hx hb (ly_X9 hE) hown hK hP ha0.1 he2 rfl 2 (by decide) (wd_188 hE) (fun _ h9 => h9) rfl dX9_valueAt_14 ?_
      refine th_len1 hx hb hK hP hok (n := 701) (wl_X9_2 hWT ha0) (Or.inl (wt_X9_2 hWT ha0)) dX9_valueAt_17 ?_
      refine W.eq (g2 := F0 m 18 ls [.int 701, .int v1]) rfl ?_
      refine lv_icmp_lt (tgt := 25) hx hb dX9_valueAt_18 (by decide) (fun c4 => ?_) (fun c4 => ?_)
      · refine lv_aload_n hx hb dX9_valueAt_25 rfl (lv_at hl 0 rfl) ?_
        refine th_get hx hb (ly_X9 hE) hown hK hP ha0.1 he2 rfl 2 (by decide) (wd_188 hE) (fun _ h9 => h9) rfl dX9_valueAt_26 ?_
        refine lv_iload_n hx hb dX9_valueAt_29 rfl (lv_at hl 1 rfl) ?_
        refine th_iald hx hb hK hP hok (wt_X9_2 hWT ha0) (n := 701) (wl_X9_2 hWT ha0) (vp_in_iff.mpr (by first | omega | (simp only [i_lt, i_le, i_eq, ti_m9, ti_m1, ti_0, ti_1, ti_2, ti_3, ti_4, ti_5, ti_6, ti_7, ti_9, ti_12, ti_20, ti_99, ti_700, ti_24, ti_156, ti_72, ti_8, ti_60, ti_543, ti_10, ti_33, ti_51, ti_178, ti_119, ti_111, ti_114, ti_100, ti_32, ti_62, ti_59, ti_48, ti_701, ti_97, ti_122, ti_57, ti_73, ti_128, ti_61] at c1 c3 c4 ⊢; omega))) dX9_valueAt_30 (fun x5 => ?_)
        exact W.iret (v := x5) hx hb hr (fun t ht hW => ⟨x5, rfl, trivial, ht⟩) (fun _ h => absurd h List.not_mem_nil) dX9_valueAt_31
      · refine lv_iconst (v := 0) hx hb dX9_valueAt_21 (by decide) ?_
        refine lv_goto (tgt := 31) hx hb dX9_valueAt_22 (by decide) ?_
        exact W.iret (v := 0) hx hb hr (fun t ht hW => ⟨0, rfl, trivial, ht⟩) (fun _ h => absurd h List.not_mem_nil) dX9_valueAt_31

set_option maxHeartbeats 4000000 in
set_option maxRecDepth 100000 in
theorem t_X5_value (l : Launch) (dC : Nat → ClassId) (dI : Nat → Nat → Nat) (sz : Nat) (G : GT) (cs : Nat → ClassId) (tt mm : Nat) (a0 : Nat) (ha0 : Ty G a0 5) : Met l yX5_value [.code yX5_value cX5_value 1 (some .int)] ({ frames := 1, cells := 0, slots := 0, locals := 40 }) (PT [.ref a0] sz dC dI G cs tt mm (fun _ => True)) (vp_Si (fun (r : Int32) => True)) 0 0 (fun _ => False) := by
  refine Met.ofW (cc := cX5_value) (maxL := 1) (ret := (some .int)) (by decide) rfl ?_
  intro p e s m args below meth c s₁ B hml hv
  obtain ⟨rfl, hsz, ⟨f0, hok, hP, hX⟩, hK, hnd, hWT, hE⟩ := hv
  have hx := B.exec
  have hb := B.bytes
  have hr := B.returns
  have hown : s.vm.findClass RX5 = some m.cls := findClass_of_methodNamed B.named
  have hlocks := B.notSynchronized
  subst hsz
  have hl := lv_entry ([.ref a0]) (n := 1) (Nat.le_of_ble_eq_true rfl)
  rw [lg_entry_eq]
  generalize (lg_sl ([.ref a0]) ++ List.replicate (1 - (lg_sl ([.ref a0])).length) Slot.unset).toArray = ls at hl ⊢
  have hl : lv_has ls 1 [(0, .ref a0)] := hl
  refine lv_aload_n hx hb dX5_value_0 rfl (lv_at hl 0 rfl) ?_
  obtain ⟨y3_1, y4_1, y5_1, y6_1, y7_1, y8_1, y9_1, he1⟩ := ok_X5 hok ha0
  refine th_get hx hb (ly_X5 hE) hown hK hP ha0.1 he1 rfl 0 (by decide) (wd_227 hE) (fun _ h9 => h9) rfl dX5_value_1 ?_
  refine lv_aload_n hx hb dX5_value_4 rfl (lv_at hl 0 rfl) ?_
  refine th_get hx hb (ly_X5 hE) hown hK hP ha0.1 he1 rfl 4 (by decide) (wd_231 hE) (fun _ h9 => h9) rfl dX5_value_5 ?_
  obtain ⟨y3_2, y4_2, y5_2, hy4_2, he2⟩ := ok_X9 hok (wt_X5_0 hWT ha0)
  refine vp_callSi (va_Run.run (va_runV (As := [.int y4_1]) (rest := []) ⟨hx, hb, hml, hown, noTs⟩ (t_X9_valueAt l dC dI s.heap.size G cs tt mm (gR G a0 0) ((wt_X5_0 hWT ha0)) y4_1) ⟨cbE 1 (wd_573 hE) (wd_119 hE) (wd_570 hE) rfl rfl (by decide +kernel) ⟨Nat.le_of_ble_eq_true rfl, Nat.le_of_ble_eq_true rfl⟩, (wd_571 hE), (wd_572 hE)⟩ ⟨PT.blind, th_recv hK hP (wt_X5_0 hWT ha0).1 he2 rfl, (th_pre (av := [.ref (gR G a0 0), .int y4_1]) trivial hK hP hok hnd hWT hE)⟩ rfl rfl hl.1 rfl (lv_room (Nat.le_of_ble_eq_true rfl)) dX5_value_8 ⟨Nat.le_of_ble_eq_true rfl, Nat.le_of_ble_eq_true rfl⟩)) (fun r3 hr3 => ?_)
  exact W.iret (v := r3) hx hb hr (fun t ht hW => ⟨r3, rfl, trivial, ht⟩) (fun _ h => absurd h List.not_mem_nil) dX5_value_11

set_option maxHeartbeats 4000000 in
set_option maxRecDepth 100000 in
theorem t_X5_stands (l : Launch) (dC : Nat → ClassId) (dI : Nat → Nat → Nat) (sz : Nat) (G : GT) (cs : Nat → ClassId) (tt mm : Nat) (a0 : Nat) (ha0 : Ty G a0 5) (v1 : Int32) : Met l yX5_stands [.code yX5_stands cX5_stands 3 (some .boolean)] ({ frames := 2, cells := 0, slots := 0, locals := 80 }) (PT [.ref a0, .int v1] sz dC dI G cs tt mm (fun _ => True)) (va_Qi (fun (r : Int32) (u : Nat → va_E) => r = 0 ∨ r = 1) (BT dC dI G cs tt mm) (AT G sz)) 0 0 (AT G sz) := by
  refine Met.ofW (cc := cX5_stands) (maxL := 3) (ret := (some .boolean)) (by decide) rfl ?_
  intro p e s m args below meth c s₁ B hml hv
  obtain ⟨rfl, hsz, ⟨f0, hok, hP, hX⟩, hK, hnd, hWT, hE⟩ := hv
  have hx := B.exec
  have hb := B.bytes
  have hr := B.returns
  have hown : s.vm.findClass RX5 = some m.cls := findClass_of_methodNamed B.named
  have hlocks := B.notSynchronized
  subst hsz
  have hAL : ∀ a, a ∈ gL G → AT G s.heap.size a := fun a h => Or.inl h
  have hA : ∀ q : Nat, s.heap.size ≤ q → AT G s.heap.size q := fun q h => Or.inr h
  have hS : va_S (AT G s.heap.size) s.heap s.heap [] := va_S.rf
  have hl := lv_entry ([.ref a0, .int v1]) (n := 3) (Nat.le_of_ble_eq_true rfl)
  rw [lg_entry_eq]
  generalize (lg_sl ([.ref a0, .int v1]) ++ List.replicate (3 - (lg_sl ([.ref a0, .int v1])).length) Slot.unset).toArray = ls at hl ⊢
  have hl : lv_has ls 3 [(0, .ref a0), (1, .int v1)] := hl
  refine lv_aload_n hx hb dX5_stands_0 rfl (lv_at hl 0 rfl) ?_
  obtain ⟨y3_1, y4_1, y5_1, y6_1, y7_1, y8_1, y9_1, he1⟩ := ok_X5 hok ha0
  refine th_get hx hb (ly_X5 hE) hown hK hP ha0.1 he1 rfl 0 (by decide) (wd_227 hE) (fun _ h9 => h9) rfl dX5_stands_1 ?_
  refine lv_aload_n hx hb dX5_stands_4 rfl (lv_at hl 0 rfl) ?_
  refine th_get hx hb (ly_X5 hE) hown hK hP ha0.1 he1 rfl 4 (by decide) (wd_231 hE) (fun _ h9 => h9) rfl dX5_stands_5 ?_
  obtain ⟨y3_2, y4_2, y5_2, hy4_2, he2⟩ := ok_X9 hok (wt_X5_0 hWT ha0)
  refine vp_callSi (va_Run.run (va_runV (As := [.int y4_1]) (rest := []) ⟨hx, hb, hml, hown, noTs⟩ (t_X9_kindAt l dC dI s.heap.size G cs tt mm (gR G a0 0) ((wt_X5_0 hWT ha0)) y4_1) ⟨cbE 1 (wd_549 hE) (wd_119 hE) (wd_546 hE) rfl rfl (by decide +kernel) ⟨Nat.le_of_ble_eq_true rfl, Nat.le_of_ble_eq_true rfl⟩, (wd_547 hE), (wd_548 hE)⟩ ⟨PT.blind, th_recv hK hP (wt_X5_0 hWT ha0).1 he2 rfl, (th_pre (av := [.ref (gR G a0 0), .int y4_1]) trivial hK hP hok hnd hWT hE)⟩ rfl rfl hl.1 rfl (lv_room (Nat.le_of_ble_eq_true rfl)) dX5_stands_8 ⟨Nat.le_of_ble_eq_true rfl, Nat.le_of_ble_eq_true rfl⟩)) (fun r3 hr3 => ?_)
  refine lv_istore_n (lv' := [(2, .int r3), (0, .ref a0), (1, .int v1)]) hx hb dX5_stands_11 rfl hl (by decide) rfl (fun ls hl => ?_)
  refine lv_aload_n hx hb dX5_stands_12 rfl (lv_at hl 1 rfl) ?_
  refine lv_iload_n hx hb dX5_stands_13 rfl (lv_at hl 0 rfl) ?_
  refine lv_iload_n hx hb dX5_stands_14 rfl (lv_at hl 2 rfl) ?_
  refine lv_icmp_ne (tgt := 22) hx hb dX5_stands_15 (by decide) (fun c4 => ?_) (fun c4 => ?_)
  · refine lv_iconst (v := 0) hx hb dX5_stands_22 (by decide) ?_
    refine lv_iload_n hx hb dX5_stands_23 rfl (lv_at hl 0 rfl) ?_
    refine lv_iconst (v := 1) hx hb dX5_stands_24 (by decide) ?_
    refine lv_icmp_ne (tgt := 32) hx hb dX5_stands_25 (by decide) (fun c5 => ?_) (fun c5 => ?_)
    · refine lv_iconst (v := 2) hx hb dX5_stands_32 (by decide) ?_
      refine tc_i hAL hS hA (va_runV (As := [.int 0, .int 2]) (rest := []) ⟨hx, hb, hml, hown, noTs⟩ (t_X5_passes l dC dI s.heap.size G cs tt mm a0 ha0 0 2) ⟨cbE 2 (wd_561 hE) (wd_118 hE) (wd_558 hE) rfl rfl (by decide +kernel) ⟨Nat.le_of_ble_eq_true rfl, Nat.le_of_ble_eq_true rfl⟩, (wd_560 hE), (wd_10 hE)⟩ ⟨PT.blind, th_recv hK hP ha0.1 he1 rfl, (th_pre (av := [.ref a0, .int 0, .int 2]) trivial hK hP hok hnd hWT hE)⟩ rfl rfl hl.1 rfl (lv_room (Nat.le_of_ble_eq_true rfl)) dX5_stands_33 ⟨Nat.le_of_ble_eq_true rfl, Nat.le_of_ble_eq_true rfl⟩) (fun r6 f6 H locs hr6 hok hP hS => ?_)
      exact W.zret (v := r6) hx hb hr (z_fit hr6) (fun t ht hW => ⟨⟨r6, f6, rfl, hr6, hok, by rw [ht]; exact hP⟩, hS.F ht⟩) hS.2.2 dX5_stands_36
    · refine lv_iconst (v := 1) hx hb dX5_stands_28 (by decide) ?_
      refine lv_goto (tgt := 33) hx hb dX5_stands_29 (by decide) ?_
      refine tc_i hAL hS hA (va_runV (As := [.int 0, .int 1]) (rest := []) ⟨hx, hb, hml, hown, noTs⟩ (t_X5_passes l dC dI s.heap.size G cs tt mm a0 ha0 0 1) ⟨cbE 2 (wd_561 hE) (wd_118 hE) (wd_558 hE) rfl rfl (by decide +kernel) ⟨Nat.le_of_ble_eq_true rfl, Nat.le_of_ble_eq_true rfl⟩, (wd_560 hE), (wd_10 hE)⟩ ⟨PT.blind, th_recv hK hP ha0.1 he1 rfl, (th_pre (av := [.ref a0, .int 0, .int 1]) trivial hK hP hok hnd hWT hE)⟩ rfl rfl hl.1 rfl (lv_room (Nat.le_of_ble_eq_true rfl)) dX5_stands_33 ⟨Nat.le_of_ble_eq_true rfl, Nat.le_of_ble_eq_true rfl⟩) (fun r7 f7 H locs hr7 hok hP hS => ?_)
      exact W.zret (v := r7) hx hb hr (z_fit hr7) (fun t ht hW => ⟨⟨r7, f7, rfl, hr7, hok, by rw [ht]; exact hP⟩, hS.F ht⟩) hS.2.2 dX5_stands_36
  · refine lv_iconst (v := 1) hx hb dX5_stands_18 (by decide) ?_
    refine lv_goto (tgt := 23) hx hb dX5_stands_19 (by decide) ?_
    refine lv_iload_n hx hb dX5_stands_23 rfl (lv_at hl 0 rfl) ?_
    refine lv_iconst (v := 1) hx hb dX5_stands_24 (by decide) ?_
    refine lv_icmp_ne (tgt := 32) hx hb dX5_stands_25 (by decide) (fun c8 => ?_) (fun c8 => ?_)
    · refine lv_iconst (v := 2) hx hb dX5_stands_32 (by decide) ?_
      refine tc_i hAL hS hA (va_runV (As := [.int 1, .int 2]) (rest := []) ⟨hx, hb, hml, hown, noTs⟩ (t_X5_passes l dC dI s.heap.size G cs tt mm a0 ha0 1 2) ⟨cbE 2 (wd_561 hE) (wd_118 hE) (wd_558 hE) rfl rfl (by decide +kernel) ⟨Nat.le_of_ble_eq_true rfl, Nat.le_of_ble_eq_true rfl⟩, (wd_560 hE), (wd_10 hE)⟩ ⟨PT.blind, th_recv hK hP ha0.1 he1 rfl, (th_pre (av := [.ref a0, .int 1, .int 2]) trivial hK hP hok hnd hWT hE)⟩ rfl rfl hl.1 rfl (lv_room (Nat.le_of_ble_eq_true rfl)) dX5_stands_33 ⟨Nat.le_of_ble_eq_true rfl, Nat.le_of_ble_eq_true rfl⟩) (fun r9 f9 H locs hr9 hok hP hS => ?_)
      exact W.zret (v := r9) hx hb hr (z_fit hr9) (fun t ht hW => ⟨⟨r9, f9, rfl, hr9, hok, by rw [ht]; exact hP⟩, hS.F ht⟩) hS.2.2 dX5_stands_36
    · refine lv_iconst (v := 1) hx hb dX5_stands_28 (by decide) ?_
      refine lv_goto (tgt := 33) hx hb dX5_stands_29 (by decide) ?_
      refine tc_i hAL hS hA (va_runV (As := [.int 1, .int 1]) (rest := []) ⟨hx, hb, hml, hown, noTs⟩ (t_X5_passes l dC dI s.heap.size G cs tt mm a0 ha0 1 1) ⟨cbE 2 (wd_561 hE) (wd_118 hE) (wd_558 hE) rfl rfl (by decide +kernel) ⟨Nat.le_of_ble_eq_true rfl, Nat.le_of_ble_eq_true rfl⟩, (wd_560 hE), (wd_10 hE)⟩ ⟨PT.blind, th_recv hK hP ha0.1 he1 rfl, (th_pre (av := [.ref a0, .int 1, .int 1]) trivial hK hP hok hnd hWT hE)⟩ rfl rfl hl.1 rfl (lv_room (Nat.le_of_ble_eq_true rfl)) dX5_stands_33 ⟨Nat.le_of_ble_eq_true rfl, Nat.le_of_ble_eq_true rfl⟩) (fun r10 f10 H locs hr10 hok hP hS => ?_)
      exact W.zret (v := r10) hx hb hr (z_fit hr10) (fun t ht hW => ⟨⟨r10, f10, rfl, hr10, hok, by rw [ht]; exact hP⟩, hS.F ht⟩) hS.2.2 dX5_stands_36

set_option maxHeartbeats 4000000 in
set_option maxRecDepth 100000 in
theorem t_X5_endsLine (l : Launch) (dC : Nat → ClassId) (dI : Nat → Nat → Nat) (sz : Nat) (G : GT) (cs : Nat → ClassId) (tt mm : Nat) (a0 : Nat) (ha0 : Ty G a0 5) : Met l yX5_endsLine [.code yX5_endsLine cX5_endsLine 1 (some .boolean)] ({ frames := 3, cells := 0, slots := 0, locals := 120 }) (PT [.ref a0] sz dC dI G cs tt mm (fun _ => True)) (va_Qi (fun (r : Int32) (u : Nat → va_E) => r = 0 ∨ r = 1) (BT dC dI G cs tt mm) (AT G sz)) 0 0 (AT G sz) := by
  refine Met.ofW (cc := cX5_endsLine) (maxL := 1) (ret := (some .boolean)) (by decide) rfl ?_
  intro p e s m args below meth c s₁ B hml hv
  obtain ⟨rfl, hsz, ⟨f0, hok, hP, hX⟩, hK, hnd, hWT, hE⟩ := hv
  have hx := B.exec
  have hb := B.bytes
  have hr := B.returns
  have hown : s.vm.findClass RX5 = some m.cls := findClass_of_methodNamed B.named
  have hlocks := B.notSynchronized
  subst hsz
  have hAL : ∀ a, a ∈ gL G → AT G s.heap.size a := fun a h => Or.inl h
  have hA : ∀ q : Nat, s.heap.size ≤ q → AT G s.heap.size q := fun q h => Or.inr h
  have hS : va_S (AT G s.heap.size) s.heap s.heap [] := va_S.rf
  have hl := lv_entry ([.ref a0]) (n := 1) (Nat.le_of_ble_eq_true rfl)
  rw [lg_entry_eq]
  generalize (lg_sl ([.ref a0]) ++ List.replicate (1 - (lg_sl ([.ref a0])).length) Slot.unset).toArray = ls at hl ⊢
  have hl : lv_has ls 1 [(0, .ref a0)] := hl
  refine lv_aload_n hx hb dX5_endsLine_0 rfl (lv_at hl 0 rfl) ?_
  refine lv_bipush (v := 9) hx hb dX5_endsLine_1 (by decide) ?_
  obtain ⟨y3_1, y4_1, y5_1, y6_1, y7_1, y8_1, y9_1, he1⟩ := ok_X5 hok ha0
  refine tc_i hAL hS hA (va_runV (As := [.int 9]) (rest := []) ⟨hx, hb, hml, hown, noTs⟩ (t_X5_stands l dC dI s.heap.size G cs tt mm a0 ha0 9) ⟨cbE 1 (wd_577 hE) (wd_118 hE) (wd_574 hE) rfl rfl (by decide +kernel) ⟨Nat.le_of_ble_eq_true rfl, Nat.le_of_ble_eq_true rfl⟩, (wd_576 hE), (wd_12 hE)⟩ ⟨PT.blind, th_recv hK hP ha0.1 he1 rfl, (th_pre (av := [.ref a0, .int 9]) trivial hK hP hok hnd hWT hE)⟩ rfl rfl hl.1 rfl (lv_room (Nat.le_of_ble_eq_true rfl)) dX5_endsLine_3 ⟨Nat.le_of_ble_eq_true rfl, Nat.le_of_ble_eq_true rfl⟩) (fun r2 f2 H locs hr2 hok hP hS => ?_)
  refine lv_if_ne (tgt := 11) hx hb dX5_endsLine_6 (by decide) (fun c3 => ?_) (fun c3 => ?_)
  · refine lv_aload_n hx hb dX5_endsLine_11 rfl (lv_at hl 0 rfl) ?_
    refine lv_dup hx hb dX5_endsLine_12 rfl ?_
    obtain ⟨y3_4, y4_4, y5_4, y6_4, y7_4, y8_4, y9_4, he4⟩ := ok_X5 hok ha0
    refine th_get hx hb (ly_X5 hE) hown hK hP ha0.1 he4 rfl 6 (by decide) (wd_233 hE) (fun _ h9 => h9) rfl dX5_endsLine_13 ?_
    refine lv_iconst (v := 1) hx hb dX5_endsLine_16 (by decide) ?_
    refine lv_iadd hx hb dX5_endsLine_17 ?_
    refine lv_topi (fun x5 ex5 => ?_)
    refine th_put (v := .int x5) (ty := .int) hx hb (ly_X5 hE) tyX5 tyX5_ok nmX5 hown hK hP hnd hAL hS ha0.1 he4 rfl 6 (by decide) (wd_233 hE) (fun _ h9 => h9) rfl (by decide +kernel) rfl rfl (Nat.le_of_ble_eq_true rfl) (up_X5 hok ha0 ⟨y3_4, y4_4, y5_4, x5, y7_4, y8_4, y9_4, rfl⟩) dX5_endsLine_18 (fun f6 H locs hfa6 hfo6 hok hP hS => ?_)
    refine lv_aload_n hx hb dX5_endsLine_21 rfl (lv_at hl 0 rfl) ?_
    refine lv_dup hx hb dX5_endsLine_22 rfl ?_
    refine th_get hx hb (ly_X5 hE) hown hK hP ha0.1 hfa6 rfl 4 (by decide) (wd_231 hE) (fun _ h9 => h9) rfl dX5_endsLine_23 ?_
    refine lv_iconst (v := 1) hx hb dX5_endsLine_26 (by decide) ?_
    refine lv_iadd hx hb dX5_endsLine_27 ?_
    refine lv_topi (fun x7 ex7 => ?_)
    refine th_put (v := .int x7) (ty := .int) hx hb (ly_X5 hE) tyX5 tyX5_ok nmX5 hown hK hP hnd hAL hS ha0.1 hfa6 rfl 4 (by decide) (wd_231 hE) (fun _ h9 => h9) rfl (by decide +kernel) rfl rfl (Nat.le_of_ble_eq_true rfl) (up_X5 hok ha0 ⟨y3_4, x7, y5_4, x5, y7_4, y8_4, y9_4, rfl⟩) dX5_endsLine_28 (fun f8 H locs hfa8 hfo8 hok hP hS => ?_)
    refine lv_iconst (v := 1) hx hb dX5_endsLine_31 (by decide) ?_
    exact W.zret (v := 1) hx hb hr rfl (fun t ht hW => ⟨⟨1, f8, rfl, Or.inr rfl, hok, by rw [ht]; exact hP⟩, hS.F ht⟩) hS.2.2 dX5_endsLine_32
  · refine lv_iconst (v := 0) hx hb dX5_endsLine_9 (by decide) ?_
    exact W.zret (v := 0) hx hb hr rfl (fun t ht hW => ⟨⟨0, f2, rfl, Or.inl rfl, hok, by rw [ht]; exact hP⟩, hS.F ht⟩) hS.2.2 dX5_endsLine_10

set_option maxHeartbeats 4000000 in
set_option maxRecDepth 100000 in
theorem t_X7_put (l : Launch) (dC : Nat → ClassId) (dI : Nat → Nat → Nat) (sz : Nat) (G : GT) (cs : Nat → ClassId) (tt mm : Nat) (a0 : Nat) (ha0 : Ty G a0 7) (v1 : Int32) (v2 : Int32) : Met l yX7_put [.code yX7_put cX7_put 3 none] ({ frames := 0, cells := 0, slots := 0, locals := 0 }) (PT [.ref a0, .int v1, .int v2] sz dC dI G cs tt mm (fun _ => True)) (va_Qv (fun (u : Nat → va_E) => True) (BT dC dI G cs tt mm) (AT G sz)) 0 0 (AT G sz) := by
  refine Met.ofW (cc := cX7_put) (maxL := 3) (ret := none) (by decide) rfl ?_
  intro p e s m args below meth c s₁ B hml hv
  obtain ⟨rfl, hsz, ⟨f0, hok, hP, hX⟩, hK, hnd, hWT, hE⟩ := hv
  have hx := B.exec
  have hb := B.bytes
  have hr := B.returns
  have hown : s.vm.findClass RX7 = some m.cls := findClass_of_methodNamed B.named
  have hlocks := B.notSynchronized
  subst hsz
  have hAL : ∀ a, a ∈ gL G → AT G s.heap.size a := fun a h => Or.inl h
  have hA : ∀ q : Nat, s.heap.size ≤ q → AT G s.heap.size q := fun q h => Or.inr h
  have hS : va_S (AT G s.heap.size) s.heap s.heap [] := va_S.rf
  have hl := lv_entry ([.ref a0, .int v1, .int v2]) (n := 3) (Nat.le_of_ble_eq_true rfl)
  rw [lg_entry_eq]
  generalize (lg_sl ([.ref a0, .int v1, .int v2]) ++ List.replicate (3 - (lg_sl ([.ref a0, .int v1, .int v2])).length) Slot.unset).toArray = ls at hl ⊢
  have hl : lv_has ls 3 [(0, .ref a0), (1, .int v1), (2, .int v2)] := hl
  refine lv_iload_n hx hb dX7_put_0 rfl (lv_at hl 1 rfl) ?_
  refine lv_if_lt (tgt := 20) hx hb dX7_put_1 (by decide) (fun c1 => ?_) (fun c1 => ?_)
  · exact W.vret hx hb hr (fun t ht hW => ⟨⟨f0, rfl, trivial, hok, by rw [ht]; exact hP⟩, hS.F ht⟩) hS.2.2 dX7_put_20
  · refine lv_iload_n hx hb dX7_put_4 rfl (lv_at hl 1 rfl) ?_
    refine lv_aload_n hx hb dX7_put_5 rfl (lv_at hl 0 rfl) ?_
    have he2 := ok_X7 hok ha0
    refine th_get hx hb (ly_X7 hE) hown hK hP ha0.1 he2 rfl 0 (by decide) (wd_149 hE) (fun _ h9 => h9) rfl dX7_put_6 ?_
    refine th_len1 hx hb hK hP hok (n := 543) (wl_X7_0 hWT ha0) (Or.inl (wt_X7_0 hWT ha0)) dX7_put_9 ?_
    refine W.eq (g2 := F0 m 10 ls [.int 543, .int v1]) rfl ?_
    refine lv_icmp_ge (tgt := 20) hx hb dX7_put_10 (by decide) (fun c3 => ?_) (fun c3 => ?_)
    · exact W.vret hx hb hr (fun t ht hW => ⟨⟨f0, rfl, trivial, hok, by rw [ht]; exact hP⟩, hS.F ht⟩) hS.2.2 dX7_put_20
    · refine lv_aload_n hx hb dX7_put_13 rfl (lv_at hl 0 rfl) ?_
      refine th_get hx hb (ly_X7 hE) hown hK hP ha0.1 he2 rfl 0 (by decide) (wd_149 hE) (fun _ h9 => h9) rfl dX7_put_14 ?_
      refine lv_iload_n hx hb dX7_put_17 rfl (lv_at hl 1 rfl) ?_
      refine lv_iload_n hx hb dX7_put_18 rfl (lv_at hl 2 rfl) ?_
      refine th_iast hx hb hK hP hok hnd hAL hS (wt_X7_0 hWT ha0) (n := 543) (wl_X7_0 hWT ha0) (vp_in_iff.mpr (by first | omega | (simp only [i_lt, i_le, i_eq, ti_m9, ti_m1, ti_0, ti_1, ti_2, ti_3, ti_4, ti_5, ti_6, ti_7, ti_9, ti_12, ti_20, ti_99, ti_700, ti_24, ti_156, ti_72, ti_8, ti_60, ti_543, ti_10, ti_33, ti_51, ti_178, ti_119, ti_111, ti_114, ti_100, ti_32, ti_62, ti_59, ti_48, ti_701, ti_97, ti_122, ti_57, ti_73, ti_128, ti_61] at c1 c3 ⊢; omega))) dX7_put_19 (fun f4 H locs hfo4 hok hP hS => ?_)
      have he5 := (hfo4 a0 (Ty.ne ha0 (wt_X7_0 hWT ha0) (by decide))).trans he2
      exact W.vret hx hb hr (fun t ht hW => ⟨⟨f4, rfl, trivial, hok, by rw [ht]; exact hP⟩, hS.F ht⟩) hS.2.2 dX7_put_20
