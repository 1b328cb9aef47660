set_option maxHeartbeats 4000000 in
set_option maxRecDepth 100000 in
theorem t_X7_addEdge (l : Launch) (dC : Nat → ClassId) (dI : Nat → Nat → Nat) (sz : Nat) (G : GT) (cs : Nat → ClassId) (tt mm : Nat) (a0 : Nat) (ha0 : Ty G a0 7) (v1 : Int32) (v2 : Int32) (v3 : Int32) (v4 : Int32) : Met l yX7_addEdge [.code yX7_addEdge cX7_addEdge 6 none] ({ frames := 1, cells := 0, slots := 0, locals := 40 }) (PT [.ref a0, .int v1, .int v2, .int v3, .int v4] sz dC dI G cs tt mm (fun _ => True)) (va_Qv (fun (u : Nat → va_E) => True) (BT dC dI G cs tt mm) (AT G sz)) 0 0 (AT G sz) := by
  refine Met.ofW (cc := cX7_addEdge) (maxL := 6) (ret := none) (by decide) rfl ?_
  intro p e s m args below meth c s₁ B hml hv
  obtain ⟨rfl, hsz, ⟨f0, hok, hP, hX⟩, hK, hnd, hWT, hE⟩ := hv
  have hx := B.exec
  have hb := B.bytes
  have hr := B.returns
  have hown : s.vm.findClass RX7 = some m.cls := findClass_of_methodNamed B.named
  have hlocks := B.notSynchronized
  subst hsz
  have hAL : ∀ a, a ∈ gL G → AT G s.heap.size a := fun a h => Or.inl h
  have hA : ∀ q : Nat, s.heap.size ≤ q → AT G s.heap.size q := fun q h => Or.inr h
  have hS : va_S (AT G s.heap.size) s.heap s.heap [] := va_S.rf
  have hl := lv_entry ([.ref a0, .int v1, .int v2, .int v3, .int v4]) (n := 6) (Nat.le_of_ble_eq_true rfl)
  rw [lg_entry_eq]
  generalize (lg_sl ([.ref a0, .int v1, .int v2, .int v3, .int v4]) ++ List.replicate (6 - (lg_sl ([.ref a0, .int v1, .int v2, .int v3, .int v4])).length) Slot.unset).toArray = ls at hl ⊢
  have hl : lv_has ls 6 [(0, .ref a0), (1, .int v1), (2, .int v2), (3, .int v3), (4, .int v4)] := hl
  refine lv_aload_n hx hb dX7_addEdge_0 rfl (lv_at hl 0 rfl) ?_
  have he1 := ok_X7 hok ha0
  refine vp_callSi (va_Run.run (va_runV (As := []) (rest := []) ⟨hx, hb, hml, hown, noTs⟩ (t_X7_edges l dC dI s.heap.size G cs tt mm a0 ha0) ⟨cbE 0 (wd_598 hE) (wd_116 hE) (wd_625 hE) rfl rfl (by decide +kernel) ⟨Nat.le_of_ble_eq_true rfl, Nat.le_of_ble_eq_true rfl⟩, (wd_596 hE), (wd_597 hE)⟩ ⟨PT.blind, th_recv hK hP ha0.1 he1 rfl, (th_pre (av := [.ref a0]) trivial hK hP hok hnd hWT hE)⟩ rfl rfl hl.1 rfl (lv_room (Nat.le_of_ble_eq_true rfl)) dX7_addEdge_1 ⟨Nat.le_of_ble_eq_true rfl, Nat.le_of_ble_eq_true rfl⟩)) (fun r2 hr2 => ?_)
  refine lv_bipush (v := 6) hx hb dX7_addEdge_4 (by decide) ?_
  refine lv_icmp_ge (tgt := 66) hx hb dX7_addEdge_6 (by decide) (fun c3 => ?_) (fun c3 => ?_)
  · exact W.vret hx hb hr (fun t ht hW => ⟨⟨f0, rfl, trivial, hok, by rw [ht]; exact hP⟩, hS.F ht⟩) hS.2.2 dX7_addEdge_66
  · refine lv_bipush (v := 9) hx hb dX7_addEdge_9 (by decide) ?_
    refine lv_iconst (v := 4) hx hb dX7_addEdge_11 (by decide) ?_
    refine lv_aload_n hx hb dX7_addEdge_12 rfl (lv_at hl 0 rfl) ?_
    refine vp_callSi (va_Run.run (va_runV (As := []) (rest := [.int 4, .int 9]) ⟨hx, hb, hml, hown, noTs⟩ (t_X7_edges l dC dI s.heap.size G cs tt mm a0 ha0) ⟨cbE 0 (wd_598 hE) (wd_116 hE) (wd_625 hE) rfl rfl (by decide +kernel) ⟨Nat.le_of_ble_eq_true rfl, Nat.le_of_ble_eq_true rfl⟩, (wd_596 hE), (wd_597 hE)⟩ ⟨PT.blind, th_recv hK hP ha0.1 he1 rfl, (th_pre (av := [.ref a0]) trivial hK hP hok hnd hWT hE)⟩ rfl rfl hl.1 rfl (lv_room (Nat.le_of_ble_eq_true rfl)) dX7_addEdge_13 ⟨Nat.le_of_ble_eq_true rfl, Nat.le_of_ble_eq_true rfl⟩)) (fun r4 hr4 => ?_)
    refine lv_imul hx hb dX7_addEdge_16 ?_
    refine lv_topi (fun x5 ex5 => ?_)
    refine lv_iadd hx hb dX7_addEdge_17 ?_
    refine lv_topi (fun x6 ex6 => ?_)
    refine lv_istore (lv' := [(5, .int x6), (0, .ref a0), (1, .int v1), (2, .int v2), (3, .int v3), (4, .int v4)]) hx hb dX7_addEdge_18 hl (by decide) rfl (fun ls hl => ?_)
    refine lv_aload_n hx hb dX7_addEdge_20 rfl (lv_at hl 1 rfl) ?_
    refine lv_iload hx hb dX7_addEdge_21 (lv_at hl 0 rfl) ?_
    refine lv_iload_n hx hb dX7_addEdge_23 rfl (lv_at hl 2 rfl) ?_
    refine tc_v hAL hS hA (va_runV (As := [.int x6, .int v1]) (rest := []) ⟨hx, hb, hml, hown, noTs⟩ (t_X7_put l dC dI s.heap.size G cs tt mm a0 ha0 x6 v1) ⟨cbE 2 (wd_590 hE) (wd_116 hE) (wd_587 hE) rfl rfl (by decide +kernel) ⟨Nat.le_of_ble_eq_true rfl, Nat.le_of_ble_eq_true rfl⟩, (wd_589 hE), (wd_14 hE)⟩ ⟨PT.blind, th_recv hK hP ha0.1 he1 rfl, (th_pre (av := [.ref a0, .int x6, .int v1]) trivial hK hP hok hnd hWT hE)⟩ rfl rfl hl.1 rfl (lv_room (Nat.le_of_ble_eq_true rfl)) dX7_addEdge_24 ⟨Nat.le_of_ble_eq_true rfl, Nat.le_of_ble_eq_true rfl⟩) (fun f7 H locs hr7 hok hP hS => ?_)
    refine lv_aload_n hx hb dX7_addEdge_27 rfl (lv_at hl 1 rfl) ?_
    refine lv_iload hx hb dX7_addEdge_28 (lv_at hl 0 rfl) ?_
    refine lv_iconst (v := 1) hx hb dX7_addEdge_30 (by decide) ?_
    refine lv_iadd hx hb dX7_addEdge_31 ?_
    refine lv_topi (fun x8 ex8 => ?_)
    refine lv_iload_n hx hb dX7_addEdge_32 rfl (lv_at hl 3 rfl) ?_
    have he9 := ok_X7 hok ha0
    refine tc_v hAL hS hA (va_runV (As := [.int x8, .int v2]) (rest := []) ⟨hx, hb, hml, hown, noTs⟩ (t_X7_put l dC dI H.size G cs tt mm a0 ha0 x8 v2) ⟨cbE 2 (wd_590 hE) (wd_116 hE) (wd_587 hE) rfl rfl (by decide +kernel) ⟨Nat.le_of_ble_eq_true rfl, Nat.le_of_ble_eq_true rfl⟩, (wd_589 hE), (wd_14 hE)⟩ ⟨PT.blind, th_recv hK hP ha0.1 he9 rfl, (th_pre (av := [.ref a0, .int x8, .int v2]) trivial hK hP hok hnd hWT hE)⟩ rfl rfl hl.1 rfl (lv_room (Nat.le_of_ble_eq_true rfl)) dX7_addEdge_33 ⟨Nat.le_of_ble_eq_true rfl, Nat.le_of_ble_eq_true rfl⟩) (fun f10 H locs hr10 hok hP hS => ?_)
    refine lv_aload_n hx hb dX7_addEdge_36 rfl (lv_at hl 1 rfl) ?_
    refine lv_iload hx hb dX7_addEdge_37 (lv_at hl 0 rfl) ?_
    refine lv_iconst (v := 2) hx hb dX7_addEdge_39 (by decide) ?_
    refine lv_iadd hx hb dX7_addEdge_40 ?_
    refine lv_topi (fun x11 ex11 => ?_)
    refine lv_iload_n hx hb dX7_addEdge_41 rfl (lv_at hl 4 rfl) ?_
    have he12 := ok_X7 hok ha0
    refine tc_v hAL hS hA (va_runV (As := [.int x11, .int v3]) (rest := []) ⟨hx, hb, hml, hown, noTs⟩ (t_X7_put l dC dI H.size G cs tt mm a0 ha0 x11 v3) ⟨cbE 2 (wd_590 hE) (wd_116 hE) (wd_587 hE) rfl rfl (by decide +kernel) ⟨Nat.le_of_ble_eq_true rfl, Nat.le_of_ble_eq_true rfl⟩, (wd_589 hE), (wd_14 hE)⟩ ⟨PT.blind, th_recv hK hP ha0.1 he12 rfl, (th_pre (av := [.ref a0, .int x11, .int v3]) trivial hK hP hok hnd hWT hE)⟩ rfl rfl hl.1 rfl (lv_room (Nat.le_of_ble_eq_true rfl)) dX7_addEdge_42 ⟨Nat.le_of_ble_eq_true rfl, Nat.le_of_ble_eq_true rfl⟩) (fun f13 H locs hr13 hok hP hS => ?_)
    refine lv_aload_n hx hb dX7_addEdge_45 rfl (lv_at hl 1 rfl) ?_
    refine lv_iload hx hb dX7_addEdge_46 (lv_at hl 0 rfl) ?_
    refine lv_iconst (v := 3) hx hb dX7_addEdge_48 (by decide) ?_
    refine lv_iadd hx hb dX7_addEdge_49 ?_
    refine lv_topi (fun x14 ex14 => ?_)
    refine lv_iload hx hb dX7_addEdge_50 (lv_at hl 5 rfl) ?_
    have he15 := ok_X7 hok ha0
    refine tc_v hAL hS hA (va_runV (As := [.int x14, .int v4]) (rest := []) ⟨hx, hb, hml, hown, noTs⟩ (t_X7_put l dC dI H.size G cs tt mm a0 ha0 x14 v4) ⟨cbE 2 (wd_590 hE) (wd_116 hE) (wd_587 hE) rfl rfl (by decide +kernel) ⟨Nat.le_of_ble_eq_true rfl, Nat.le_of_ble_eq_true rfl⟩, (wd_589 hE), (wd_14 hE)⟩ ⟨PT.blind, th_recv hK hP ha0.1 he15 rfl, (th_pre (av := [.ref a0, .int x14, .int v4]) trivial hK hP hok hnd hWT hE)⟩ rfl rfl hl.1 rfl (lv_room (Nat.le_of_ble_eq_true rfl)) dX7_addEdge_52 ⟨Nat.le_of_ble_eq_true rfl, Nat.le_of_ble_eq_true rfl⟩) (fun f16 H locs hr16 hok hP hS => ?_)
    refine lv_aload_n hx hb dX7_addEdge_55 rfl (lv_at hl 1 rfl) ?_
    refine lv_iconst (v := 1) hx hb dX7_addEdge_56 (by decide) ?_
    refine lv_aload_n hx hb dX7_addEdge_57 rfl (lv_at hl 1 rfl) ?_
    have he17 := ok_X7 hok ha0
    refine vp_callSi (va_Run.run (va_runV (As := []) (rest := [.int 1, .ref a0]) ⟨hx, hb, hml, hown, noTs⟩ (t_X7_edges l dC dI H.size G cs tt mm a0 ha0) ⟨cbE 0 (wd_598 hE) (wd_116 hE) (wd_625 hE) rfl rfl (by decide +kernel) ⟨Nat.le_of_ble_eq_true rfl, Nat.le_of_ble_eq_true rfl⟩, (wd_596 hE), (wd_597 hE)⟩ ⟨PT.blind, th_recv hK hP ha0.1 he17 rfl, (th_pre (av := [.ref a0]) trivial hK hP hok hnd hWT hE)⟩ rfl rfl hl.1 rfl (lv_room (Nat.le_of_ble_eq_true rfl)) dX7_addEdge_58 ⟨Nat.le_of_ble_eq_true rfl, Nat.le_of_ble_eq_true rfl⟩)) (fun r18 hr18 => ?_)
    refine lv_iconst (v := 1) hx hb dX7_addEdge_61 (by decide) ?_
    refine lv_iadd hx hb dX7_addEdge_62 ?_
    refine lv_topi (fun x19 ex19 => ?_)
    refine tc_v hAL hS hA (va_runV (As := [.int 1, .int x19]) (rest := []) ⟨hx, hb, hml, hown, noTs⟩ (t_X7_put l dC dI H.size G cs tt mm a0 ha0 1 x19) ⟨cbE 2 (wd_590 hE) (wd_116 hE) (wd_587 hE) rfl rfl (by decide +kernel) ⟨Nat.le_of_ble_eq_true rfl, Nat.le_of_ble_eq_true rfl⟩, (wd_589 hE), (wd_14 hE)⟩ ⟨PT.blind, th_recv hK hP ha0.1 he17 rfl, (th_pre (av := [.ref a0, .int 1, .int x19]) trivial hK hP hok hnd hWT hE)⟩ rfl rfl hl.1 rfl (lv_room (Nat.le_of_ble_eq_true rfl)) dX7_addEdge_63 ⟨Nat.le_of_ble_eq_true rfl, Nat.le_of_ble_eq_true rfl⟩) (fun f20 H locs hr20 hok hP hS => ?_)
    exact W.vret hx hb hr (fun t ht hW => ⟨⟨f20, rfl, trivial, hok, by rw [ht]; exact hP⟩, hS.F ht⟩) hS.2.2 dX7_addEdge_66

set_option maxHeartbeats 4000000 in
set_option maxRecDepth 100000 in
theorem t_X5_readEdge (l : Launch) (dC : Nat → ClassId) (dI : Nat → Nat → Nat) (sz : Nat) (G : GT) (cs : Nat → ClassId) (tt mm : Nat) (a0 : Nat) (ha0 : Ty G a0 5) : Met l yX5_readEdge [.code yX5_readEdge cX5_readEdge 5 none] ({ frames := 4, cells := 0, slots := 0, locals := 160 }) (PT [.ref a0] sz dC dI G cs tt mm (fun _ => True)) (va_Qv (fun (u : Nat → va_E) => True) (BT dC dI G cs tt mm) (AT G sz)) 0 0 (AT G sz) := by
  refine Met.ofW (cc := cX5_readEdge) (maxL := 5) (ret := none) (by decide) rfl ?_
  intro p e s m args below meth c s₁ B hml hv
  obtain ⟨rfl, hsz, ⟨f0, hok, hP, hX⟩, hK, hnd, hWT, hE⟩ := hv
  have hx := B.exec
  have hb := B.bytes
  have hr := B.returns
  have hown : s.vm.findClass RX5 = some m.cls := findClass_of_methodNamed B.named
  have hlocks := B.notSynchronized
  subst hsz
  have hAL : ∀ a, a ∈ gL G → AT G s.heap.size a := fun a h => Or.inl h
  have hA : ∀ q : Nat, s.heap.size ≤ q → AT G s.heap.size q := fun q h => Or.inr h
  have hS : va_S (AT G s.heap.size) s.heap s.heap [] := va_S.rf
  have hl := lv_entry ([.ref a0]) (n := 5) (Nat.le_of_ble_eq_true rfl)
  rw [lg_entry_eq]
  generalize (lg_sl ([.ref a0]) ++ List.replicate (5 - (lg_sl ([.ref a0])).length) Slot.unset).toArray = ls at hl ⊢
  have hl : lv_has ls 5 [(0, .ref a0)] := hl
  refine lv_aload_n hx hb dX5_readEdge_0 rfl (lv_at hl 0 rfl) ?_
  refine lv_aload_n hx hb dX5_readEdge_1 rfl (lv_at hl 0 rfl) ?_
  obtain ⟨y3_1, y4_1, y5_1, y6_1, y7_1, y8_1, y9_1, he1⟩ := ok_X5 hok ha0
  refine th_get hx hb (ly_X5 hE) hown hK hP ha0.1 he1 rfl 1 (by decide) (wd_228 hE) (fun _ h9 => h9) rfl dX5_readEdge_2 ?_
  have he2 := ok_X7 hok (wt_X5_1 hWT ha0)
  refine vp_callSi (va_Run.run (va_runV (As := []) (rest := [.ref a0]) ⟨hx, hb, hml, hown, noTs⟩ (t_X7_edges l dC dI s.heap.size G cs tt mm (gR G a0 1) ((wt_X5_1 hWT ha0))) ⟨cbE 0 (wd_598 hE) (wd_116 hE) (wd_595 hE) rfl rfl (by decide +kernel) ⟨Nat.le_of_ble_eq_true rfl, Nat.le_of_ble_eq_true rfl⟩, (wd_596 hE), (wd_597 hE)⟩ ⟨PT.blind, th_recv hK hP (wt_X5_1 hWT ha0).1 he2 rfl, (th_pre (av := [.ref (gR G a0 1)]) trivial hK hP hok hnd hWT hE)⟩ rfl rfl hl.1 rfl (lv_room (Nat.le_of_ble_eq_true rfl)) dX5_readEdge_5 ⟨Nat.le_of_ble_eq_true rfl, Nat.le_of_ble_eq_true rfl⟩)) (fun r3 hr3 => ?_)
  refine lv_bipush (v := 6) hx hb dX5_readEdge_8 (by decide) ?_
  refine lv_icmp_ge (tgt := 17) hx hb dX5_readEdge_10 (by decide) (fun c4 => ?_) (fun c4 => ?_)
  · refine lv_iconst (v := 0) hx hb dX5_readEdge_17 (by decide) ?_
    refine lv_bipush (v := 6) hx hb dX5_readEdge_18 (by decide) ?_
    refine tc_i hAL hS hA (va_runV (As := [.int 0, .int 6]) (rest := []) ⟨hx, hb, hml, hown, noTs⟩ (t_X5_passes l dC dI s.heap.size G cs tt mm a0 ha0 0 6) ⟨cbE 2 (wd_561 hE) (wd_118 hE) (wd_558 hE) rfl rfl (by decide +kernel) ⟨Nat.le_of_ble_eq_true rfl, Nat.le_of_ble_eq_true rfl⟩, (wd_560 hE), (wd_10 hE)⟩ ⟨PT.blind, th_recv hK hP ha0.1 he1 rfl, (th_pre (av := [.ref a0, .int 0, .int 6]) trivial hK hP hok hnd hWT hE)⟩ rfl rfl hl.1 rfl (lv_room (Nat.le_of_ble_eq_true rfl)) dX5_readEdge_20 ⟨Nat.le_of_ble_eq_true rfl, Nat.le_of_ble_eq_true rfl⟩) (fun r5 f5 H locs hr5 hok hP hS => ?_)
    refine lv_if_ne (tgt := 27) hx hb dX5_readEdge_23 (by decide) (fun c6 => ?_) (fun c6 => ?_)
    · refine lv_aload_n hx hb dX5_readEdge_27 rfl (lv_at hl 0 rfl) ?_
      refine lv_dup hx hb dX5_readEdge_28 rfl ?_
      obtain ⟨y3_7, y4_7, y5_7, y6_7, y7_7, y8_7, y9_7, he7⟩ := ok_X5 hok ha0
      refine th_get hx hb (ly_X5 hE) hown hK hP ha0.1 he7 rfl 4 (by decide) (wd_231 hE) (fun _ h9 => h9) rfl dX5_readEdge_29 ?_
      refine lv_iconst (v := 1) hx hb dX5_readEdge_32 (by decide) ?_
      refine lv_iadd hx hb dX5_readEdge_33 ?_
      refine lv_topi (fun x8 ex8 => ?_)
      refine th_put (v := .int x8) (ty := .int) hx hb (ly_X5 hE) tyX5 tyX5_ok nmX5 hown hK hP hnd hAL hS ha0.1 he7 rfl 4 (by decide) (wd_231 hE) (fun _ h9 => h9) rfl (by decide +kernel) rfl rfl (Nat.le_of_ble_eq_true rfl) (up_X5 hok ha0 ⟨y3_7, x8, y5_7, y6_7, y7_7, y8_7, y9_7, rfl⟩) dX5_readEdge_34 (fun f9 H locs hfa9 hfo9 hok hP hS => ?_)
      refine lv_aload_n hx hb dX5_readEdge_37 rfl (lv_at hl 0 rfl) ?_
      refine tc_i hAL hS hA (va_runV (As := []) (rest := []) ⟨hx, hb, hml, hown, noTs⟩ (t_X5_readPlace l dC dI H.size G cs tt mm a0 ha0) ⟨cbE 0 (wd_602 hE) (wd_118 hE) (wd_599 hE) rfl rfl (by decide +kernel) ⟨Nat.le_of_ble_eq_true rfl, Nat.le_of_ble_eq_true rfl⟩, (wd_601 hE), (wd_16 hE)⟩ ⟨PT.blind, th_recv hK hP ha0.1 hfa9 rfl, (th_pre (av := [.ref a0]) trivial hK hP hok hnd hWT hE)⟩ rfl rfl hl.1 rfl (lv_room (Nat.le_of_ble_eq_true rfl)) dX5_readEdge_38 ⟨Nat.le_of_ble_eq_true rfl, Nat.le_of_ble_eq_true rfl⟩) (fun r10 f10 H locs hr10 hok hP hS => ?_)
      refine lv_istore_n (lv' := [(1, .int r10), (0, .ref a0)]) hx hb dX5_readEdge_41 rfl hl (by decide) rfl (fun ls hl => ?_)
      refine lv_aload_n hx hb dX5_readEdge_42 rfl (lv_at hl 1 rfl) ?_
      refine lv_iload_n hx hb dX5_readEdge_43 rfl (lv_at hl 0 rfl) ?_
      refine lv_iconst (v := 0) hx hb dX5_readEdge_44 (by decide) ?_
      obtain ⟨y3_11, y4_11, y5_11, y6_11, y7_11, y8_11, y9_11, he11⟩ := ok_X5 hok ha0
      refine tc_i hAL hS hA (va_runV (As := [.int r10, .int 0]) (rest := []) ⟨hx, hb, hml, hown, noTs⟩ (t_X5_readIndex l dC dI H.size G cs tt mm a0 ha0 r10 0) ⟨cbE 2 (wd_610 hE) (wd_118 hE) (wd_607 hE) rfl rfl (by decide +kernel) ⟨Nat.le_of_ble_eq_true rfl, Nat.le_of_ble_eq_true rfl⟩, (wd_609 hE), (wd_17 hE)⟩ ⟨PT.blind, th_recv hK hP ha0.1 he11 rfl, (th_pre (av := [.ref a0, .int r10, .int 0]) trivial hK hP hok hnd hWT hE)⟩ rfl rfl hl.1 rfl (lv_room (Nat.le_of_ble_eq_true rfl)) dX5_readEdge_45 ⟨Nat.le_of_ble_eq_true rfl, Nat.le_of_ble_eq_true rfl⟩) (fun r12 f12 H locs hr12 hok hP hS => ?_)
      refine lv_istore_n (lv' := [(2, .int r12), (1, .int r10), (0, .ref a0)]) hx hb dX5_readEdge_48 rfl hl (by decide) rfl (fun ls hl => ?_)
      refine lv_aload_n hx hb dX5_readEdge_49 rfl (lv_at hl 2 rfl) ?_
      obtain ⟨y3_13, y4_13, y5_13, y6_13, y7_13, y8_13, y9_13, he13⟩ := ok_X5 hok ha0
      refine tc_i hAL hS hA (va_runV (As := []) (rest := []) ⟨hx, hb, hml, hown, noTs⟩ (t_X5_readPlace l dC dI H.size G cs tt mm a0 ha0) ⟨cbE 0 (wd_602 hE) (wd_118 hE) (wd_599 hE) rfl rfl (by decide +kernel) ⟨Nat.le_of_ble_eq_true rfl, Nat.le_of_ble_eq_true rfl⟩, (wd_601 hE), (wd_16 hE)⟩ ⟨PT.blind, th_recv hK hP ha0.1 he13 rfl, (th_pre (av := [.ref a0]) trivial hK hP hok hnd hWT hE)⟩ rfl rfl hl.1 rfl (lv_room (Nat.le_of_ble_eq_true rfl)) dX5_readEdge_50 ⟨Nat.le_of_ble_eq_true rfl, Nat.le_of_ble_eq_true rfl⟩) (fun r14 f14 H locs hr14 hok hP hS => ?_)
      refine lv_istore_n (lv' := [(3, .int r14), (2, .int r12), (1, .int r10), (0, .ref a0)]) hx hb dX5_readEdge_53 rfl hl (by decide) rfl (fun ls hl => ?_)
      refine lv_aload_n hx hb dX5_readEdge_54 rfl (lv_at hl 3 rfl) ?_
      refine lv_iload_n hx hb dX5_readEdge_55 rfl (lv_at hl 0 rfl) ?_
      refine lv_aload_n hx hb dX5_readEdge_56 rfl (lv_at hl 3 rfl) ?_
      obtain ⟨y3_15, y4_15, y5_15, y6_15, y7_15, y8_15, y9_15, he15⟩ := ok_X5 hok ha0
      refine th_get hx hb (ly_X5 hE) hown hK hP ha0.1 he15 rfl 1 (by decide) (wd_228 hE) (fun _ h9 => h9) rfl dX5_readEdge_57 ?_
      refine lv_iload_n hx hb dX5_readEdge_60 rfl (lv_at hl 2 rfl) ?_
      have he16 := ok_X7 hok (wt_X5_1 hWT ha0)
      refine vp_callSi (va_Run.run (va_runV (As := [.int r10]) (rest := [.int r14, .ref a0]) ⟨hx, hb, hml, hown, noTs⟩ (t_X7_orderAt l dC dI H.size G cs tt mm (gR G a0 1) ((wt_X5_1 hWT ha0)) r10) ⟨cbE 1 (wd_614 hE) (wd_116 hE) (wd_611 hE) rfl rfl (by decide +kernel) ⟨Nat.le_of_ble_eq_true rfl, Nat.le_of_ble_eq_true rfl⟩, (wd_612 hE), (wd_613 hE)⟩ ⟨PT.blind, th_recv hK hP (wt_X5_1 hWT ha0).1 he16 rfl, (th_pre (av := [.ref (gR G a0 1), .int r10]) trivial hK hP hok hnd hWT hE)⟩ rfl rfl hl.1 rfl (lv_room (Nat.le_of_ble_eq_true rfl)) dX5_readEdge_61 ⟨Nat.le_of_ble_eq_true rfl, Nat.le_of_ble_eq_true rfl⟩)) (fun r17 hr17 => ?_)
      refine lv_iload_n hx hb dX5_readEdge_64 rfl (lv_at hl 1 rfl) ?_
      refine vp_callSi (va_Run.run (va_runSN (As := [.int r17, .int r12]) (rest := [.int r14, .ref a0]) ⟨hx, hb, hml, hown, noTs⟩ (t_X11_share l dC dI H.size G cs tt mm r17 r12) ⟨cnE 2 (wd_620 hE) (wd_115 hE) (wd_618 hE) rfl rfl (by decide +kernel) ⟨Nat.le_of_ble_eq_true rfl, Nat.le_of_ble_eq_true rfl⟩, (wd_619 hE), trivial⟩ ⟨PT.blind, (th_pre (av := [.int r17, .int r12]) trivial hK hP hok hnd hWT hE)⟩ rfl rfl hl.1 rfl (lv_room (Nat.le_of_ble_eq_true rfl)) dX5_readEdge_65 ⟨Nat.le_of_ble_eq_true rfl, Nat.le_of_ble_eq_true rfl⟩)) (fun r18 hr18 => ?_)
      refine tc_i hAL hS hA (va_runV (As := [.int r14, .int r18]) (rest := []) ⟨hx, hb, hml, hown, noTs⟩ (t_X5_readIndex l dC dI H.size G cs tt mm a0 ha0 r14 r18) ⟨cbE 2 (wd_610 hE) (wd_118 hE) (wd_607 hE) rfl rfl (by decide +kernel) ⟨Nat.le_of_ble_eq_true rfl, Nat.le_of_ble_eq_true rfl⟩, (wd_609 hE), (wd_17 hE)⟩ ⟨PT.blind, th_recv hK hP ha0.1 he15 rfl, (th_pre (av := [.ref a0, .int r14, .int r18]) trivial hK hP hok hnd hWT hE)⟩ rfl rfl hl.1 rfl (lv_room (Nat.le_of_ble_eq_true rfl)) dX5_readEdge_68 ⟨Nat.le_of_ble_eq_true rfl, Nat.le_of_ble_eq_true rfl⟩) (fun r19 f19 H locs hr19 hok hP hS => ?_)
      refine lv_istore (lv' := [(4, .int r19), (3, .int r14), (2, .int r12), (1, .int r10), (0, .ref a0)]) hx hb dX5_readEdge_71 hl (by decide) rfl (fun ls hl => ?_)
      refine lv_aload_n hx hb dX5_readEdge_73 rfl (lv_at hl 4 rfl) ?_
      obtain ⟨y3_20, y4_20, y5_20, y6_20, y7_20, y8_20, y9_20, he20⟩ := ok_X5 hok ha0
      refine th_get hx hb (ly_X5 hE) hown hK hP ha0.1 he20 rfl 7 (by decide) (wd_234 hE) (fun _ h9 => h9) rfl dX5_readEdge_74 ?_
      refine lv_if_ne (tgt := 99) hx hb dX5_readEdge_77 (by decide) (fun c21 => ?_) (fun c21 => ?_)
      · exact W.vret hx hb hr (fun t ht hW => ⟨⟨f19, rfl, trivial, hok, by rw [ht]; exact hP⟩, hS.F ht⟩) hS.2.2 dX5_readEdge_99
      · refine lv_aload_n hx hb dX5_readEdge_80 rfl (lv_at hl 4 rfl) ?_
        refine tc_i hAL hS hA (va_runV (As := []) (rest := []) ⟨hx, hb, hml, hown, noTs⟩ (t_X5_endsLine l dC dI H.size G cs tt mm a0 ha0) ⟨cbE 0 (wd_581 hE) (wd_118 hE) (wd_578 hE) rfl rfl (by decide +kernel) ⟨Nat.le_of_ble_eq_true rfl, Nat.le_of_ble_eq_true rfl⟩, (wd_580 hE), (wd_13 hE)⟩ ⟨PT.blind, th_recv hK hP ha0.1 he20 rfl, (th_pre (av := [.ref a0]) trivial hK hP hok hnd hWT hE)⟩ rfl rfl hl.1 rfl (lv_room (Nat.le_of_ble_eq_true rfl)) dX5_readEdge_81 ⟨Nat.le_of_ble_eq_true rfl, Nat.le_of_ble_eq_true rfl⟩) (fun r22 f22 H locs hr22 hok hP hS => ?_)
        refine lv_if_eq (tgt := 99) hx hb dX5_readEdge_84 (by decide) (fun c23 => ?_) (fun c23 => ?_)
        · exact W.vret hx hb hr (fun t ht hW => ⟨⟨f22, rfl, trivial, hok, by rw [ht]; exact hP⟩, hS.F ht⟩) hS.2.2 dX5_readEdge_99
        · refine lv_aload_n hx hb dX5_readEdge_87 rfl (lv_at hl 4 rfl) ?_
          obtain ⟨y3_24, y4_24, y5_24, y6_24, y7_24, y8_24, y9_24, he24⟩ := ok_X5 hok ha0
          refine th_get hx hb (ly_X5 hE) hown hK hP ha0.1 he24 rfl 1 (by decide) (wd_228 hE) (fun _ h9 => h9) rfl dX5_readEdge_88 ?_
          refine lv_iload_n hx hb dX5_readEdge_91 rfl (lv_at hl 3 rfl) ?_
          refine lv_iload_n hx hb dX5_readEdge_92 rfl (lv_at hl 2 rfl) ?_
          refine lv_iload_n hx hb dX5_readEdge_93 rfl (lv_at hl 1 rfl) ?_
          refine lv_iload hx hb dX5_readEdge_94 (lv_at hl 0 rfl) ?_
          have he25 := ok_X7 hok (wt_X5_1 hWT ha0)
          refine tc_v hAL hS hA (va_runV (As := [.int r10, .int r12, .int r14, .int r19]) (rest := []) ⟨hx, hb, hml, hown, noTs⟩ (t_X7_addEdge l dC dI H.size G cs tt mm (gR G a0 1) ((wt_X5_1 hWT ha0)) r10 r12 r14 r19) ⟨cbE 4 (wd_624 hE) (wd_116 hE) (wd_621 hE) rfl rfl (by decide +kernel) ⟨Nat.le_of_ble_eq_true rfl, Nat.le_of_ble_eq_true rfl⟩, (wd_622 hE), (wd_623 hE)⟩ ⟨PT.blind, th_recv hK hP (wt_X5_1 hWT ha0).1 he25 rfl, (th_pre (av := [.ref (gR G a0 1), .int r10, .int r12, .int r14, .int r19]) trivial hK hP hok hnd hWT hE)⟩ rfl rfl hl.1 rfl (lv_room (Nat.le_of_ble_eq_true rfl)) dX5_readEdge_96 ⟨Nat.le_of_ble_eq_true rfl, Nat.le_of_ble_eq_true rfl⟩) (fun f26 H locs hr26 hok hP hS => ?_)
          exact W.vret hx hb hr (fun t ht hW => ⟨⟨f26, rfl, trivial, hok, by rw [ht]; exact hP⟩, hS.F ht⟩) hS.2.2 dX5_readEdge_99
    · exact W.vret hx hb hr (fun t ht hW => ⟨⟨f5, rfl, trivial, hok, by rw [ht]; exact hP⟩, hS.F ht⟩) hS.2.2 dX5_readEdge_26
  · refine lv_iconst (v := 1) hx hb dX5_readEdge_13 (by decide) ?_
    refine lv_goto (tgt := 18) hx hb dX5_readEdge_14 (by decide) ?_
    refine lv_bipush (v := 6) hx hb dX5_readEdge_18 (by decide) ?_
    refine tc_i hAL hS hA (va_runV (As := [.int 1, .int 6]) (rest := []) ⟨hx, hb, hml, hown, noTs⟩ (t_X5_passes l dC dI s.heap.size G cs tt mm a0 ha0 1 6) ⟨cbE 2 (wd_561 hE) (wd_118 hE) (wd_558 hE) rfl rfl (by decide +kernel) ⟨Nat.le_of_ble_eq_true rfl, Nat.le_of_ble_eq_true rfl⟩, (wd_560 hE), (wd_10 hE)⟩ ⟨PT.blind, th_recv hK hP ha0.1 he1 rfl, (th_pre (av := [.ref a0, .int 1, .int 6]) trivial hK hP hok hnd hWT hE)⟩ rfl rfl hl.1 rfl (lv_room (Nat.le_of_ble_eq_true rfl)) dX5_readEdge_20 ⟨Nat.le_of_ble_eq_true rfl, Nat.le_of_ble_eq_true rfl⟩) (fun r27 f27 H locs hr27 hok hP hS => ?_)
    refine lv_if_ne (tgt := 27) hx hb dX5_readEdge_23 (by decide) (fun c28 => ?_) (fun c28 => ?_)
    · refine lv_aload_n hx hb dX5_readEdge_27 rfl (lv_at hl 0 rfl) ?_
      refine lv_dup hx hb dX5_readEdge_28 rfl ?_
      obtain ⟨y3_29, y4_29, y5_29, y6_29, y7_29, y8_29, y9_29, he29⟩ := ok_X5 hok ha0
      refine th_get hx hb (ly_X5 hE) hown hK hP ha0.1 he29 rfl 4 (by decide) (wd_231 hE) (fun _ h9 => h9) rfl dX5_readEdge_29 ?_
      refine lv_iconst (v := 1) hx hb dX5_readEdge_32 (by decide) ?_
      refine lv_iadd hx hb dX5_readEdge_33 ?_
      refine lv_topi (fun x30 ex30 => ?_)
      refine th_put (v := .int x30) (ty := .int) hx hb (ly_X5 hE) tyX5 tyX5_ok nmX5 hown hK hP hnd hAL hS ha0.1 he29 rfl 4 (by decide) (wd_231 hE) (fun _ h9 => h9) rfl (by decide +kernel) rfl rfl (Nat.le_of_ble_eq_true rfl) (up_X5 hok ha0 ⟨y3_29, x30, y5_29, y6_29, y7_29, y8_29, y9_29, rfl⟩) dX5_readEdge_34 (fun f31 H locs hfa31 hfo31 hok hP hS => ?_)
      refine lv_aload_n hx hb dX5_readEdge_37 rfl (lv_at hl 0 rfl) ?_
      refine tc_i hAL hS hA (va_runV (As := []) (rest := []) ⟨hx, hb, hml, hown, noTs⟩ (t_X5_readPlace l dC dI H.size G cs tt mm a0 ha0) ⟨cbE 0 (wd_602 hE) (wd_118 hE) (wd_599 hE) rfl rfl (by decide +kernel) ⟨Nat.le_of_ble_eq_true rfl, Nat.le_of_ble_eq_true rfl⟩, (wd_601 hE), (wd_16 hE)⟩ ⟨PT.blind, th_recv hK hP ha0.1 hfa31 rfl, (th_pre (av := [.ref a0]) trivial hK hP hok hnd hWT hE)⟩ rfl rfl hl.1 rfl (lv_room (Nat.le_of_ble_eq_true rfl)) dX5_readEdge_38 ⟨Nat.le_of_ble_eq_true rfl, Nat.le_of_ble_eq_true rfl⟩) (fun r32 f32 H locs hr32 hok hP hS => ?_)
      refine lv_istore_n (lv' := [(1, .int r32), (0, .ref a0)]) hx hb dX5_readEdge_41 rfl hl (by decide) rfl (fun ls hl => ?_)
      refine lv_aload_n hx hb dX5_readEdge_42 rfl (lv_at hl 1 rfl) ?_
      refine lv_iload_n hx hb dX5_readEdge_43 rfl (lv_at hl 0 rfl) ?_
      refine lv_iconst (v := 0) hx hb dX5_readEdge_44 (by decide) ?_
      obtain ⟨y3_33, y4_33, y5_33, y6_33, y7_33, y8_33, y9_33, he33⟩ := ok_X5 hok ha0
      refine tc_i hAL hS hA (va_runV (As := [.int r32, .int 0]) (rest := []) ⟨hx, hb, hml, hown, noTs⟩ (t_X5_readIndex l dC dI H.size G cs tt mm a0 ha0 r32 0) ⟨cbE 2 (wd_610 hE) (wd_118 hE) (wd_607 hE) rfl rfl (by decide +kernel) ⟨Nat.le_of_ble_eq_true rfl, Nat.le_of_ble_eq_true rfl⟩, (wd_609 hE), (wd_17 hE)⟩ ⟨PT.blind, th_recv hK hP ha0.1 he33 rfl, (th_pre (av := [.ref a0, .int r32, .int 0]) trivial hK hP hok hnd hWT hE)⟩ rfl rfl hl.1 rfl (lv_room (Nat.le_of_ble_eq_true rfl)) dX5_readEdge_45 ⟨Nat.le_of_ble_eq_true rfl, Nat.le_of_ble_eq_true rfl⟩) (fun r34 f34 H locs hr34 hok hP hS => ?_)
      refine lv_istore_n (lv' := [(2, .int r34), (1, .int r32), (0, .ref a0)]) hx hb dX5_readEdge_48 rfl hl (by decide) rfl (fun ls hl => ?_)
      refine lv_aload_n hx hb dX5_readEdge_49 rfl (lv_at hl 2 rfl) ?_
      obtain ⟨y3_35, y4_35, y5_35, y6_35, y7_35, y8_35, y9_35, he35⟩ := ok_X5 hok ha0
      refine tc_i hAL hS hA (va_runV (As := []) (rest := []) ⟨hx, hb, hml, hown, noTs⟩ (t_X5_readPlace l dC dI H.size G cs tt mm a0 ha0) ⟨cbE 0 (wd_602 hE) (wd_118 hE) (wd_599 hE) rfl rfl (by decide +kernel) ⟨Nat.le_of_ble_eq_true rfl, Nat.le_of_ble_eq_true rfl⟩, (wd_601 hE), (wd_16 hE)⟩ ⟨PT.blind, th_recv hK hP ha0.1 he35 rfl, (th_pre (av := [.ref a0]) trivial hK hP hok hnd hWT hE)⟩ rfl rfl hl.1 rfl (lv_room (Nat.le_of_ble_eq_true rfl)) dX5_readEdge_50 ⟨Nat.le_of_ble_eq_true rfl, Nat.le_of_ble_eq_true rfl⟩) (fun r36 f36 H locs hr36 hok hP hS => ?_)
      refine lv_istore_n (lv' := [(3, .int r36), (2, .int r34), (1, .int r32), (0, .ref a0)]) hx hb dX5_readEdge_53 rfl hl (by decide) rfl (fun ls hl => ?_)
      refine lv_aload_n hx hb dX5_readEdge_54 rfl (lv_at hl 3 rfl) ?_
      refine lv_iload_n hx hb dX5_readEdge_55 rfl (lv_at hl 0 rfl) ?_
      refine lv_aload_n hx hb dX5_readEdge_56 rfl (lv_at hl 3 rfl) ?_
      obtain ⟨y3_37, y4_37, y5_37, y6_37, y7_37, y8_37, y9_37, he37⟩ := ok_X5 hok ha0
      refine th_get hx hb (ly_X5 hE) hown hK hP ha0.1 he37 rfl 1 (by decide) (wd_228 hE) (fun _ h9 => h9) rfl dX5_readEdge_57 ?_
      refine lv_iload_n hx hb dX5_readEdge_60 rfl (lv_at hl 2 rfl) ?_
      have he38 := ok_X7 hok (wt_X5_1 hWT ha0)
      refine vp_callSi (va_Run.run (va_runV (As := [.int r32]) (rest := [.int r36, .ref a0]) ⟨hx, hb, hml, hown, noTs⟩ (t_X7_orderAt l dC dI H.size G cs tt mm (gR G a0 1) ((wt_X5_1 hWT ha0)) r32) ⟨cbE 1 (wd_614 hE) (wd_116 hE) (wd_611 hE) rfl rfl (by decide +kernel) ⟨Nat.le_of_ble_eq_true rfl, Nat.le_of_ble_eq_true rfl⟩, (wd_612 hE), (wd_613 hE)⟩ ⟨PT.blind, th_recv hK hP (wt_X5_1 hWT ha0).1 he38 rfl, (th_pre (av := [.ref (gR G a0 1), .int r32]) trivial hK hP hok hnd hWT hE)⟩ rfl rfl hl.1 rfl (lv_room (Nat.le_of_ble_eq_true rfl)) dX5_readEdge_61 ⟨Nat.le_of_ble_eq_true rfl, Nat.le_of_ble_eq_true rfl⟩)) (fun r39 hr39 => ?_)
      refine lv_iload_n hx hb dX5_readEdge_64 rfl (lv_at hl 1 rfl) ?_
      refine vp_callSi (va_Run.run (va_runSN (As := [.int r39, .int r34]) (rest := [.int r36, .ref a0]) ⟨hx, hb, hml, hown, noTs⟩ (t_X11_share l dC dI H.size G cs tt mm r39 r34) ⟨cnE 2 (wd_620 hE) (wd_115 hE) (wd_618 hE) rfl rfl (by decide +kernel) ⟨Nat.le_of_ble_eq_true rfl, Nat.le_of_ble_eq_true rfl⟩, (wd_619 hE), trivial⟩ ⟨PT.blind, (th_pre (av := [.int r39, .int r34]) trivial hK hP hok hnd hWT hE)⟩ rfl rfl hl.1 rfl (lv_room (Nat.le_of_ble_eq_true rfl)) dX5_readEdge_65 ⟨Nat.le_of_ble_eq_true rfl, Nat.le_of_ble_eq_true rfl⟩)) (fun r40 hr40 => ?_)
      refine tc_i hAL hS hA (va_runV (As := [.int r36, .int r40]) (rest := []) ⟨hx, hb, hml, hown, noTs⟩ (t_X5_readIndex l dC dI H.size G cs tt mm a0 ha0 r36 r40) ⟨cbE 2 (wd_610 hE) (wd_118 hE) (wd_607 hE) rfl rfl (by decide +kernel) ⟨Nat.le_of_ble_eq_true rfl, Nat.le_of_ble_eq_true rfl⟩, (wd_609 hE), (wd_17 hE)⟩ ⟨PT.blind, th_recv hK hP ha0.1 he37 rfl, (th_pre (av := [.ref a0, .int r36, .int r40]) trivial hK hP hok hnd hWT hE)⟩ rfl rfl hl.1 rfl (lv_room (Nat.le_of_ble_eq_true rfl)) dX5_readEdge_68 ⟨Nat.le_of_ble_eq_true rfl, Nat.le_of_ble_eq_true rfl⟩) (fun r41 f41 H locs hr41 hok hP hS => ?_)
      refine lv_istore (lv' := [(4, .int r41), (3, .int r36), (2, .int r34), (1, .int r32), (0, .ref a0)]) hx hb dX5_readEdge_71 hl (by decide) rfl (fun ls hl => ?_)
      refine lv_aload_n hx hb dX5_readEdge_73 rfl (lv_at hl 4 rfl) ?_
      obtain ⟨y3_42, y4_42, y5_42, y6_42, y7_42, y8_42, y9_42, he42⟩ := ok_X5 hok ha0
      refine th_get hx hb (ly_X5 hE) hown hK hP ha0.1 he42 rfl 7 (by decide) (wd_234 hE) (fun _ h9 => h9) rfl dX5_readEdge_74 ?_
      refine lv_if_ne (tgt := 99) hx hb dX5_readEdge_77 (by decide) (fun c43 => ?_) (fun c43 => ?_)
      · exact W.vret hx hb hr (fun t ht hW => ⟨⟨f41, rfl, trivial, hok, by rw [ht]; exact hP⟩, hS.F ht⟩) hS.2.2 dX5_readEdge_99
      · refine lv_aload_n hx hb dX5_readEdge_80 rfl (lv_at hl 4 rfl) ?_
        refine tc_i hAL hS hA (va_runV (As := []) (rest := []) ⟨hx, hb, hml, hown, noTs⟩ (t_X5_endsLine l dC dI H.size G cs tt mm a0 ha0) ⟨cbE 0 (wd_581 hE) (wd_118 hE) (wd_578 hE) rfl rfl (by decide +kernel) ⟨Nat.le_of_ble_eq_true rfl, Nat.le_of_ble_eq_true rfl⟩, (wd_580 hE), (wd_13 hE)⟩ ⟨PT.blind, th_recv hK hP ha0.1 he42 rfl, (th_pre (av := [.ref a0]) trivial hK hP hok hnd hWT hE)⟩ rfl rfl hl.1 rfl (lv_room (Nat.le_of_ble_eq_true rfl)) dX5_readEdge_81 ⟨Nat.le_of_ble_eq_true rfl, Nat.le_of_ble_eq_true rfl⟩) (fun r44 f44 H locs hr44 hok hP hS => ?_)
        refine lv_if_eq (tgt := 99) hx hb dX5_readEdge_84 (by decide) (fun c45 => ?_) (fun c45 => ?_)
        · exact W.vret hx hb hr (fun t ht hW => ⟨⟨f44, rfl, trivial, hok, by rw [ht]; exact hP⟩, hS.F ht⟩) hS.2.2 dX5_readEdge_99
        · refine lv_aload_n hx hb dX5_readEdge_87 rfl (lv_at hl 4 rfl) ?_
          obtain ⟨y3_46, y4_46, y5_46, y6_46, y7_46, y8_46, y9_46, he46⟩ := ok_X5 hok ha0
          refine th_get hx hb (ly_X5 hE) hown hK hP ha0.1 he46 rfl 1 (by decide) (wd_228 hE) (fun _ h9 => h9) rfl dX5_readEdge_88 ?_
          refine lv_iload_n hx hb dX5_readEdge_91 rfl (lv_at hl 3 rfl) ?_
          refine lv_iload_n hx hb dX5_readEdge_92 rfl (lv_at hl 2 rfl) ?_
          refine lv_iload_n hx hb dX5_readEdge_93 rfl (lv_at hl 1 rfl) ?_
          refine lv_iload hx hb dX5_readEdge_94 (lv_at hl 0 rfl) ?_
          have he47 := ok_X7 hok (wt_X5_1 hWT ha0)
          refine tc_v hAL hS hA (va_runV (As := [.int r32, .int r34, .int r36, .int r41]) (rest := []) ⟨hx, hb, hml, hown, noTs⟩ (t_X7_addEdge l dC dI H.size G cs tt mm (gR G a0 1) ((wt_X5_1 hWT ha0)) r32 r34 r36 r41) ⟨cbE 4 (wd_624 hE) (wd_116 hE) (wd_621 hE) rfl rfl (by decide +kernel) ⟨Nat.le_of_ble_eq_true rfl, Nat.le_of_ble_eq_true rfl⟩, (wd_622 hE), (wd_623 hE)⟩ ⟨PT.blind, th_recv hK hP (wt_X5_1 hWT ha0).1 he47 rfl, (th_pre (av := [.ref (gR G a0 1), .int r32, .int r34, .int r36, .int r41]) trivial hK hP hok hnd hWT hE)⟩ rfl rfl hl.1 rfl (lv_room (Nat.le_of_ble_eq_true rfl)) dX5_readEdge_96 ⟨Nat.le_of_ble_eq_true rfl, Nat.le_of_ble_eq_true rfl⟩) (fun f48 H locs hr48 hok hP hS => ?_)
          exact W.vret hx hb hr (fun t ht hW => ⟨⟨f48, rfl, trivial, hok, by rw [ht]; exact hP⟩, hS.F ht⟩) hS.2.2 dX5_readEdge_99
    · exact W.vret hx hb hr (fun t ht hW => ⟨⟨f27, rfl, trivial, hok, by rw [ht]; exact hP⟩, hS.F ht⟩) hS.2.2 dX5_readEdge_26

set_option maxHeartbeats 4000000 in
set_option maxRecDepth 100000 in
theorem t_X7_isFull (l : Launch) (dC : Nat → ClassId) (dI : Nat → Nat → Nat) (sz : Nat) (G : GT) (cs : Nat → ClassId) (tt mm : Nat) (a0 : Nat) (ha0 : Ty G a0 7) : Met l yX7_isFull [.code yX7_isFull cX7_isFull 1 (some .boolean)] ({ frames := 0, cells := 0, slots := 0, locals := 0 }) (PT [.ref a0] sz dC dI G cs tt mm (fun _ => True)) (vp_Si (fun (r : Int32) => r = 0 ∨ r = 1)) 0 0 (fun _ => False) := by
  refine Met.ofW (cc := cX7_isFull) (maxL := 1) (ret := (some .boolean)) (by decide) rfl ?_
  intro p e s m args below meth c s₁ B hml hv
  obtain ⟨rfl, hsz, ⟨f0, hok, hP, hX⟩, hK, hnd, hWT, hE⟩ := hv
  have hx := B.exec
  have hb := B.bytes
  have hr := B.returns
  have hown : s.vm.findClass RX7 = some m.cls := findClass_of_methodNamed B.named
  have hlocks := B.notSynchronized
  subst hsz
  have hl := lv_entry ([.ref a0]) (n := 1) (Nat.le_of_ble_eq_true rfl)
  rw [lg_entry_eq]
  generalize (lg_sl ([.ref a0]) ++ List.replicate (1 - (lg_sl ([.ref a0])).length) Slot.unset).toArray = ls at hl ⊢
  have hl : lv_has ls 1 [(0, .ref a0)] := hl
  refine lv_aload_n hx hb dX7_isFull_0 rfl (lv_at hl 0 rfl) ?_
  have he1 := ok_X7 hok ha0
  refine th_get hx hb (ly_X7 hE) hown hK hP ha0.1 he1 rfl 0 (by decide) (wd_149 hE) (fun _ h9 => h9) rfl dX7_isFull_1 ?_
  refine lv_iconst (v := 2) hx hb dX7_isFull_4 (by decide) ?_
  refine th_iald hx hb hK hP hok (wt_X7_0 hWT ha0) (n := 543) (wl_X7_0 hWT ha0) (by unfold vp_in; decide) dX7_isFull_5 (fun x2 => ?_)
  refine lv_bipush (v := 10) hx hb dX7_isFull_6 (by decide) ?_
  refine lv_icmp_lt (tgt := 15) hx hb dX7_isFull_8 (by decide) (fun c3 => ?_) (fun c3 => ?_)
  · refine lv_iconst (v := 0) hx hb dX7_isFull_15 (by decide) ?_
    exact W.zret (v := 0) hx hb hr rfl (fun t ht hW => ⟨0, rfl, Or.inl rfl, ht⟩) (fun _ h => absurd h List.not_mem_nil) dX7_isFull_16
  · refine lv_iconst (v := 1) hx hb dX7_isFull_11 (by decide) ?_
    refine lv_goto (tgt := 16) hx hb dX7_isFull_12 (by decide) ?_
    exact W.zret (v := 1) hx hb hr rfl (fun t ht hW => ⟨1, rfl, Or.inr rfl, ht⟩) (fun _ h => absurd h List.not_mem_nil) dX7_isFull_16

set_option maxHeartbeats 4000000 in
set_option maxRecDepth 100000 in
theorem t_X5_readNumber (l : Launch) (dC : Nat → ClassId) (dI : Nat → Nat → Nat) (sz : Nat) (G : GT) (cs : Nat → ClassId) (tt mm : Nat) (a0 : Nat) (ha0 : Ty G a0 5) : Met l yX5_readNumber [.code yX5_readNumber cX5_readNumber 1 none] ({ frames := 2, cells := 0, slots := 0, locals := 80 }) (PT [.ref a0] sz dC dI G cs tt mm (fun _ => True)) (va_Qv (fun (u : Nat → va_E) => True) (BT dC dI G cs tt mm) (AT G sz)) 0 0 (AT G sz) := by
  refine Met.ofW (cc := cX5_readNumber) (maxL := 1) (ret := none) (by decide) rfl ?_
  intro p e s m args below meth c s₁ B hml hv
  obtain ⟨rfl, hsz, ⟨f0, hok, hP, hX⟩, hK, hnd, hWT, hE⟩ := hv
  have hx := B.exec
  have hb := B.bytes
  have hr := B.returns
  have hown : s.vm.findClass RX5 = some m.cls := findClass_of_methodNamed B.named
  have hlocks := B.notSynchronized
  subst hsz
  have hAL : ∀ a, a ∈ gL G → AT G s.heap.size a := fun a h => Or.inl h
  have hA : ∀ q : Nat, s.heap.size ≤ q → AT G s.heap.size q := fun q h => Or.inr h
  have hS : va_S (AT G s.heap.size) s.heap s.heap [] := va_S.rf
  have hl := lv_entry ([.ref a0]) (n := 1) (Nat.le_of_ble_eq_true rfl)
  rw [lg_entry_eq]
  generalize (lg_sl ([.ref a0]) ++ List.replicate (1 - (lg_sl ([.ref a0])).length) Slot.unset).toArray = ls at hl ⊢
  have hl : lv_has ls 1 [(0, .ref a0)] := hl
  refine lv_aload_n hx hb dX5_readNumber_0 rfl (lv_at hl 0 rfl) ?_
  obtain ⟨y3_1, y4_1, y5_1, y6_1, y7_1, y8_1, y9_1, he1⟩ := ok_X5 hok ha0
  refine th_get hx hb (ly_X5 hE) hown hK hP ha0.1 he1 rfl 7 (by decide) (wd_234 hE) (fun _ h9 => h9) rfl dX5_readNumber_1 ?_
  refine lv_if_ne (tgt := 48) hx hb dX5_readNumber_4 (by decide) (fun c2 => ?_) (fun c2 => ?_)
  · exact W.vret hx hb hr (fun t ht hW => ⟨⟨f0, rfl, trivial, hok, by rw [ht]; exact hP⟩, hS.F ht⟩) hS.2.2 dX5_readNumber_48
  · refine lv_aload_n hx hb dX5_readNumber_7 rfl (lv_at hl 0 rfl) ?_
    refine vp_callSi (va_Run.run (va_runV (As := []) (rest := []) ⟨hx, hb, hml, hown, noTs⟩ (t_X5_kind l dC dI s.heap.size G cs tt mm a0 ha0) ⟨cbE 0 (wd_545 hE) (wd_118 hE) (wd_542 hE) rfl rfl (by decide +kernel) ⟨Nat.le_of_ble_eq_true rfl, Nat.le_of_ble_eq_true rfl⟩, (wd_544 hE), (wd_8 hE)⟩ ⟨PT.blind, th_recv hK hP ha0.1 he1 rfl, (th_pre (av := [.ref a0]) trivial hK hP hok hnd hWT hE)⟩ rfl rfl hl.1 rfl (lv_room (Nat.le_of_ble_eq_true rfl)) dX5_readNumber_8 ⟨Nat.le_of_ble_eq_true rfl, Nat.le_of_ble_eq_true rfl⟩)) (fun r3 hr3 => ?_)
    refine lv_bipush (v := 6) hx hb dX5_readNumber_11 (by decide) ?_
    refine lv_icmp_ne (tgt := 48) hx hb dX5_readNumber_13 (by decide) (fun c4 => ?_) (fun c4 => ?_)
    · exact W.vret hx hb hr (fun t ht hW => ⟨⟨f0, rfl, trivial, hok, by rw [ht]; exact hP⟩, hS.F ht⟩) hS.2.2 dX5_readNumber_48
    · refine lv_aload_n hx hb dX5_readNumber_16 rfl (lv_at hl 0 rfl) ?_
      refine th_get hx hb (ly_X5 hE) hown hK hP ha0.1 he1 rfl 2 (by decide) (wd_229 hE) (fun _ h9 => h9) rfl dX5_readNumber_17 ?_
      refine lv_aload_n hx hb dX5_readNumber_20 rfl (lv_at hl 0 rfl) ?_
      refine vp_callSi (va_Run.run (va_runV (As := []) (rest := [.ref (gR G a0 2)]) ⟨hx, hb, hml, hown, noTs⟩ (t_X5_value l dC dI s.heap.size G cs tt mm a0 ha0) ⟨cbE 0 (wd_569 hE) (wd_118 hE) (wd_566 hE) rfl rfl (by decide +kernel) ⟨Nat.le_of_ble_eq_true rfl, Nat.le_of_ble_eq_true rfl⟩, (wd_568 hE), (wd_11 hE)⟩ ⟨PT.blind, th_recv hK hP ha0.1 he1 rfl, (th_pre (av := [.ref a0]) trivial hK hP hok hnd hWT hE)⟩ rfl rfl hl.1 rfl (lv_room (Nat.le_of_ble_eq_true rfl)) dX5_readNumber_21 ⟨Nat.le_of_ble_eq_true rfl, Nat.le_of_ble_eq_true rfl⟩)) (fun r5 hr5 => ?_)
      refine lv_aload_n hx hb dX5_readNumber_24 rfl (lv_at hl 0 rfl) ?_
      refine th_get hx hb (ly_X5 hE) hown hK hP ha0.1 he1 rfl 1 (by decide) (wd_228 hE) (fun _ h9 => h9) rfl dX5_readNumber_25 ?_
      refine lv_aload_n hx hb dX5_readNumber_28 rfl (lv_at hl 0 rfl) ?_
      refine th_get hx hb (ly_X5 hE) hown hK hP ha0.1 he1 rfl 5 (by decide) (wd_232 hE) (fun _ h9 => h9) rfl dX5_readNumber_29 ?_
      have he6 := ok_X7 hok (wt_X5_1 hWT ha0)
      refine vp_callSi (va_Run.run (va_runV (As := [.int y5_1]) (rest := [.int r5, .ref (gR G a0 2)]) ⟨hx, hb, hml, hown, noTs⟩ (t_X7_orderAt l dC dI s.heap.size G cs tt mm (gR G a0 1) ((wt_X5_1 hWT ha0)) y5_1) ⟨cbE 1 (wd_614 hE) (wd_116 hE) (wd_611 hE) rfl rfl (by decide +kernel) ⟨Nat.le_of_ble_eq_true rfl, Nat.le_of_ble_eq_true rfl⟩, (wd_612 hE), (wd_613 hE)⟩ ⟨PT.blind, th_recv hK hP (wt_X5_1 hWT ha0).1 he6 rfl, (th_pre (av := [.ref (gR G a0 1), .int y5_1]) trivial hK hP hok hnd hWT hE)⟩ rfl rfl hl.1 rfl (lv_room (Nat.le_of_ble_eq_true rfl)) dX5_readNumber_32 ⟨Nat.le_of_ble_eq_true rfl, Nat.le_of_ble_eq_true rfl⟩)) (fun r7 hr7 => ?_)
      obtain ⟨y2_8, y3_8, hy3_8, he8⟩ := ok_X10 hok (wt_X5_2 hWT ha0)
      refine tc_v hAL hS hA (va_runV (As := [.int r5, .int r7]) (rest := []) ⟨hx, hb, hml, hown, noTs⟩ (t_X10_addLast l dC dI s.heap.size G cs tt mm (gR G a0 2) ((wt_X5_2 hWT ha0)) r5 r7) ⟨cbE 2 (wd_645 hE) (wd_120 hE) (wd_642 hE) rfl rfl (by decide +kernel) ⟨Nat.le_of_ble_eq_true rfl, Nat.le_of_ble_eq_true rfl⟩, (wd_643 hE), (wd_644 hE)⟩ ⟨PT.blind, th_recv hK hP (wt_X5_2 hWT ha0).1 he8 rfl, (th_pre (av := [.ref (gR G a0 2), .int r5, .int r7]) trivial hK hP hok hnd hWT hE)⟩ rfl rfl hl.1 rfl (lv_room (Nat.le_of_ble_eq_true rfl)) dX5_readNumber_35 ⟨Nat.le_of_ble_eq_true rfl, Nat.le_of_ble_eq_true rfl⟩) (fun f9 H locs hr9 hok hP hS => ?_)
      refine lv_aload_n hx hb dX5_readNumber_38 rfl (lv_at hl 0 rfl) ?_
      refine lv_dup hx hb dX5_readNumber_39 rfl ?_
      obtain ⟨y3_10, y4_10, y5_10, y6_10, y7_10, y8_10, y9_10, he10⟩ := ok_X5 hok ha0
      refine th_get hx hb (ly_X5 hE) hown hK hP ha0.1 he10 rfl 4 (by decide) (wd_231 hE) (fun _ h9 => h9) rfl dX5_readNumber_40 ?_
      refine lv_iconst (v := 1) hx hb dX5_readNumber_43 (by decide) ?_
      refine lv_iadd hx hb dX5_readNumber_44 ?_
      refine lv_topi (fun x11 ex11 => ?_)
      refine th_put (v := .int x11) (ty := .int) hx hb (ly_X5 hE) tyX5 tyX5_ok nmX5 hown hK hP hnd hAL hS ha0.1 he10 rfl 4 (by decide) (wd_231 hE) (fun _ h9 => h9) rfl (by decide +kernel) rfl rfl (Nat.le_of_ble_eq_true rfl) (up_X5 hok ha0 ⟨y3_10, x11, y5_10, y6_10, y7_10, y8_10, y9_10, rfl⟩) dX5_readNumber_45 (fun f12 H locs hfa12 hfo12 hok hP hS => ?_)
      exact W.vret hx hb hr (fun t ht hW => ⟨⟨f12, rfl, trivial, hok, by rw [ht]; exact hP⟩, hS.F ht⟩) hS.2.2 dX5_readNumber_48

set_option maxHeartbeats 4000000 in
set_option maxRecDepth 100000 in
theorem t_X5_isSign (l : Launch) (dC : Nat → ClassId) (dI : Nat → Nat → Nat) (sz : Nat) (G : GT) (cs : Nat → ClassId) (tt mm : Nat) (a0 : Nat) (ha0 : Ty G a0 5) : Met l yX5_isSign [.code yX5_isSign cX5_isSign 2 (some .boolean)] ({ frames := 2, cells := 0, slots := 0, locals := 80 }) (PT [.ref a0] sz dC dI G cs tt mm (fun _ => True)) (vp_Si (fun (r : Int32) => r = 0 ∨ r = 1)) 0 0 (fun _ => False) := by
  refine Met.ofW (cc := cX5_isSign) (maxL := 2) (ret := (some .boolean)) (by decide) rfl ?_
  intro p e s m args below meth c s₁ B hml hv
  obtain ⟨rfl, hsz, ⟨f0, hok, hP, hX⟩, hK, hnd, hWT, hE⟩ := hv
  have hx := B.exec
  have hb := B.bytes
  have hr := B.returns
  have hown : s.vm.findClass RX5 = some m.cls := findClass_of_methodNamed B.named
  have hlocks := B.notSynchronized
  subst hsz
  have hl := lv_entry ([.ref a0]) (n := 2) (Nat.le_of_ble_eq_true rfl)
  rw [lg_entry_eq]
  generalize (lg_sl ([.ref a0]) ++ List.replicate (2 - (lg_sl ([.ref a0])).length) Slot.unset).toArray = ls at hl ⊢
  have hl : lv_has ls 2 [(0, .ref a0)] := hl
  refine lv_aload_n hx hb dX5_isSign_0 rfl (lv_at hl 0 rfl) ?_
  obtain ⟨y3_1, y4_1, y5_1, y6_1, y7_1, y8_1, y9_1, he1⟩ := ok_X5 hok ha0
  refine vp_callSi (va_Run.run (va_runV (As := []) (rest := []) ⟨hx, hb, hml, hown, noTs⟩ (t_X5_kind l dC dI s.heap.size G cs tt mm a0 ha0) ⟨cbE 0 (wd_545 hE) (wd_118 hE) (wd_542 hE) rfl rfl (by decide +kernel) ⟨Nat.le_of_ble_eq_true rfl, Nat.le_of_ble_eq_true rfl⟩, (wd_544 hE), (wd_8 hE)⟩ ⟨PT.blind, th_recv hK hP ha0.1 he1 rfl, (th_pre (av := [.ref a0]) trivial hK hP hok hnd hWT hE)⟩ rfl rfl hl.1 rfl (lv_room (Nat.le_of_ble_eq_true rfl)) dX5_isSign_1 ⟨Nat.le_of_ble_eq_true rfl, Nat.le_of_ble_eq_true rfl⟩)) (fun r2 hr2 => ?_)
  refine lv_istore_n (lv' := [(1, .int r2), (0, .ref a0)]) hx hb dX5_isSign_4 rfl hl (by decide) rfl (fun ls hl => ?_)
  refine lv_aload_n hx hb dX5_isSign_5 rfl (lv_at hl 1 rfl) ?_
  refine th_get hx hb (ly_X5 hE) hown hK hP ha0.1 he1 rfl 7 (by decide) (wd_234 hE) (fun _ h9 => h9) rfl dX5_isSign_6 ?_
  refine lv_if_ne (tgt := 28) hx hb dX5_isSign_9 (by decide) (fun c3 => ?_) (fun c3 => ?_)
  · refine lv_iconst (v := 0) hx hb dX5_isSign_28 (by decide) ?_
    exact W.zret (v := 0) hx hb hr rfl (fun t ht hW => ⟨0, rfl, Or.inl rfl, ht⟩) (fun _ h => absurd h List.not_mem_nil) dX5_isSign_29
  · refine lv_iload_n hx hb dX5_isSign_12 rfl (lv_at hl 0 rfl) ?_
    refine lv_bipush (v := 7) hx hb dX5_isSign_13 (by decide) ?_
    refine lv_icmp_eq (tgt := 24) hx hb dX5_isSign_15 (by decide) (fun c4 => ?_) (fun c4 => ?_)
    · refine lv_iconst (v := 1) hx hb dX5_isSign_24 (by decide) ?_
      refine lv_goto (tgt := 29) hx hb dX5_isSign_25 (by decide) ?_
      exact W.zret (v := 1) hx hb hr rfl (fun t ht hW => ⟨1, rfl, Or.inr rfl, ht⟩) (fun _ h => absurd h List.not_mem_nil) dX5_isSign_29
    · refine lv_iload_n hx hb dX5_isSign_18 rfl (lv_at hl 0 rfl) ?_
      refine lv_bipush (v := 8) hx hb dX5_isSign_19 (by decide) ?_
      refine lv_icmp_ne (tgt := 28) hx hb dX5_isSign_21 (by decide) (fun c5 => ?_) (fun c5 => ?_)
      · refine lv_iconst (v := 0) hx hb dX5_isSign_28 (by decide) ?_
        exact W.zret (v := 0) hx hb hr rfl (fun t ht hW => ⟨0, rfl, Or.inl rfl, ht⟩) (fun _ h => absurd h List.not_mem_nil) dX5_isSign_29
      · refine lv_iconst (v := 1) hx hb dX5_isSign_24 (by decide) ?_
        refine lv_goto (tgt := 29) hx hb dX5_isSign_25 (by decide) ?_
        exact W.zret (v := 1) hx hb hr rfl (fun t ht hW => ⟨1, rfl, Or.inr rfl, ht⟩) (fun _ h => absurd h List.not_mem_nil) dX5_isSign_29

set_option maxHeartbeats 4000000 in
set_option maxRecDepth 100000 in
theorem t_X7_hasEdge (l : Launch) (dC : Nat → ClassId) (dI : Nat → Nat → Nat) (sz : Nat) (G : GT) (cs : Nat → ClassId) (tt mm : Nat) (a0 : Nat) (ha0 : Ty G a0 7) (v1 : Int32) : Met l yX7_hasEdge [.code yX7_hasEdge cX7_hasEdge 2 (some .boolean)] ({ frames := 0, cells := 0, slots := 0, locals := 0 }) (PT [.ref a0, .int v1] sz dC dI G cs tt mm (fun _ => True)) (vp_Si (fun (r : Int32) => r = 0 ∨ r = 1)) 0 0 (fun _ => False) := by
  refine Met.ofW (cc := cX7_hasEdge) (maxL := 2) (ret := (some .boolean)) (by decide) rfl ?_
  intro p e s m args below meth c s₁ B hml hv
  obtain ⟨rfl, hsz, ⟨f0, hok, hP, hX⟩, hK, hnd, hWT, hE⟩ := hv
  have hx := B.exec
  have hb := B.bytes
  have hr := B.returns
  have hown : s.vm.findClass RX7 = some m.cls := findClass_of_methodNamed B.named
  have hlocks := B.notSynchronized
  subst hsz
  have hl := lv_entry ([.ref a0, .int v1]) (n := 2) (Nat.le_of_ble_eq_true rfl)
  rw [lg_entry_eq]
  generalize (lg_sl ([.ref a0, .int v1]) ++ List.replicate (2 - (lg_sl ([.ref a0, .int v1])).length) Slot.unset).toArray = ls at hl ⊢
  have hl : lv_has ls 2 [(0, .ref a0), (1, .int v1)] := hl
  refine lv_iload_n hx hb dX7_hasEdge_0 rfl (lv_at hl 1 rfl) ?_
  refine lv_if_lt (tgt := 18) hx hb dX7_hasEdge_1 (by decide) (fun c1 => ?_) (fun c1 => ?_)
  · refine lv_iconst (v := 0) hx hb dX7_hasEdge_18 (by decide) ?_
    exact W.zret (v := 0) hx hb hr rfl (fun t ht hW => ⟨0, rfl, Or.inl rfl, ht⟩) (fun _ h => absurd h List.not_mem_nil) dX7_hasEdge_19
  · refine lv_iload_n hx hb dX7_hasEdge_4 rfl (lv_at hl 1 rfl) ?_
    refine lv_aload_n hx hb dX7_hasEdge_5 rfl (lv_at hl 0 rfl) ?_
    have he2 := ok_X7 hok ha0
    refine th_get hx hb (ly_X7 hE) hown hK hP ha0.1 he2 rfl 0 (by decide) (wd_149 hE) (fun _ h9 => h9) rfl dX7_hasEdge_6 ?_
    refine lv_iconst (v := 1) hx hb dX7_hasEdge_9 (by decide) ?_
    refine th_iald hx hb hK hP hok (wt_X7_0 hWT ha0) (n := 543) (wl_X7_0 hWT ha0) (by unfold vp_in; decide) dX7_hasEdge_10 (fun x3 => ?_)
    refine lv_icmp_ge (tgt := 18) hx hb dX7_hasEdge_11 (by decide) (fun c4 => ?_) (fun c4 => ?_)
    · refine lv_iconst (v := 0) hx hb dX7_hasEdge_18 (by decide) ?_
      exact W.zret (v := 0) hx hb hr rfl (fun t ht hW => ⟨0, rfl, Or.inl rfl, ht⟩) (fun _ h => absurd h List.not_mem_nil) dX7_hasEdge_19
    · refine lv_iconst (v := 1) hx hb dX7_hasEdge_14 (by decide) ?_
      refine lv_goto (tgt := 19) hx hb dX7_hasEdge_15 (by decide) ?_
      exact W.zret (v := 1) hx hb hr rfl (fun t ht hW => ⟨1, rfl, Or.inr rfl, ht⟩) (fun _ h => absurd h List.not_mem_nil) dX7_hasEdge_19

set_option maxHeartbeats 4000000 in
set_option maxRecDepth 100000 in
theorem t_X5_readStep (l : Launch) (dC : Nat → ClassId) (dI : Nat → Nat → Nat) (sz : Nat) (G : GT) (cs : Nat → ClassId) (tt mm : Nat) (a0 : Nat) (ha0 : Ty G a0 5) : Met l yX5_readStep [.code yX5_readStep cX5_readStep 3 none] ({ frames := 3, cells := 0, slots := 0, locals := 120 }) (PT [.ref a0] sz dC dI G cs tt mm (fun _ => True)) (va_Qv (fun (u : Nat → va_E) => True) (BT dC dI G cs tt mm) (AT G sz)) 0 0 (AT G sz) := by
  refine Met.ofW (cc := cX5_readStep) (maxL := 3) (ret := none) (by decide) rfl ?_
  intro p e s m args below meth c s₁ B hml hv
  obtain ⟨rfl, hsz, ⟨f0, hok, hP, hX⟩, hK, hnd, hWT, hE⟩ := hv
  have hx := B.exec
  have hb := B.bytes
  have hr := B.returns
  have hown : s.vm.findClass RX5 = some m.cls := findClass_of_methodNamed B.named
  have hlocks := B.notSynchronized
  subst hsz
  have hAL : ∀ a, a ∈ gL G → AT G s.heap.size a := fun a h => Or.inl h
  have hA : ∀ q : Nat, s.heap.size ≤ q → AT G s.heap.size q := fun q h => Or.inr h
  have hS : va_S (AT G s.heap.size) s.heap s.heap [] := va_S.rf
  have hl := lv_entry ([.ref a0]) (n := 3) (Nat.le_of_ble_eq_true rfl)
  rw [lg_entry_eq]
  generalize (lg_sl ([.ref a0]) ++ List.replicate (3 - (lg_sl ([.ref a0])).length) Slot.unset).toArray = ls at hl ⊢
  have hl : lv_has ls 3 [(0, .ref a0)] := hl
  refine lv_aload_n hx hb dX5_readStep_0 rfl (lv_at hl 0 rfl) ?_
  refine lv_aload_n hx hb dX5_readStep_1 rfl (lv_at hl 0 rfl) ?_
  obtain ⟨y3_1, y4_1, y5_1, y6_1, y7_1, y8_1, y9_1, he1⟩ := ok_X5 hok ha0
  refine th_get hx hb (ly_X5 hE) hown hK hP ha0.1 he1 rfl 2 (by decide) (wd_229 hE) (fun _ h9 => h9) rfl dX5_readStep_2 ?_
  obtain ⟨y2_2, y3_2, hy3_2, he2⟩ := ok_X10 hok (wt_X5_2 hWT ha0)
  refine vp_callSi (va_Run.run (va_runV (As := []) (rest := [.ref a0]) ⟨hx, hb, hml, hown, noTs⟩ (t_X10_size l dC dI s.heap.size G cs tt mm (gR G a0 2) ((wt_X5_2 hWT ha0)) y2_2 y3_2) ⟨cbE 0 (wd_666 hE) (wd_120 hE) (wd_663 hE) rfl rfl (by decide +kernel) ⟨Nat.le_of_ble_eq_true rfl, Nat.le_of_ble_eq_true rfl⟩, (wd_664 hE), (wd_665 hE)⟩ ⟨PT.blind, th_recv hK hP (wt_X5_2 hWT ha0).1 he2 rfl, (th_pre (av := [.ref (gR G a0 2)]) he2 hK hP hok hnd hWT hE)⟩ rfl rfl hl.1 rfl (lv_room (Nat.le_of_ble_eq_true rfl)) dX5_readStep_5 ⟨Nat.le_of_ble_eq_true rfl, Nat.le_of_ble_eq_true rfl⟩)) (fun r3 hr3 => ?_)
  subst hr3
  refine lv_bipush (v := 24) hx hb dX5_readStep_8 (by decide) ?_
  have nt4 : (nI y3_2).toInt = ((y3_2 : Nat) : Int) := nI_toInt (by omega)
  refine lv_icmp_ge (tgt := 17) hx hb dX5_readStep_10 (by decide) (fun c5 => ?_) (fun c5 => ?_)
  · refine lv_iconst (v := 0) hx hb dX5_readStep_17 (by decide) ?_
    refine lv_bipush (v := 6) hx hb dX5_readStep_18 (by decide) ?_
    refine tc_i hAL hS hA (va_runV (As := [.int 0, .int 6]) (rest := []) ⟨hx, hb, hml, hown, noTs⟩ (t_X5_passes l dC dI s.heap.size G cs tt mm a0 ha0 0 6) ⟨cbE 2 (wd_561 hE) (wd_118 hE) (wd_558 hE) rfl rfl (by decide +kernel) ⟨Nat.le_of_ble_eq_true rfl, Nat.le_of_ble_eq_true rfl⟩, (wd_560 hE), (wd_10 hE)⟩ ⟨PT.blind, th_recv hK hP ha0.1 he1 rfl, (th_pre (av := [.ref a0, .int 0, .int 6]) trivial hK hP hok hnd hWT hE)⟩ rfl rfl hl.1 rfl (lv_room (Nat.le_of_ble_eq_true rfl)) dX5_readStep_20 ⟨Nat.le_of_ble_eq_true rfl, Nat.le_of_ble_eq_true rfl⟩) (fun r6 f6 H locs hr6 hok hP hS => ?_)
    refine lv_if_ne (tgt := 27) hx hb dX5_readStep_23 (by decide) (fun c7 => ?_) (fun c7 => ?_)
    · refine lv_aload_n hx hb dX5_readStep_27 rfl (lv_at hl 0 rfl) ?_
      obtain ⟨y3_8, y4_8, y5_8, y6_8, y7_8, y8_8, y9_8, he8⟩ := ok_X5 hok ha0
      refine vp_callSi (va_Run.run (va_runV (As := []) (rest := []) ⟨hx, hb, hml, hown, noTs⟩ (t_X5_kind l dC dI H.size G cs tt mm a0 ha0) ⟨cbE 0 (wd_545 hE) (wd_118 hE) (wd_542 hE) rfl rfl (by decide +kernel) ⟨Nat.le_of_ble_eq_true rfl, Nat.le_of_ble_eq_true rfl⟩, (wd_544 hE), (wd_8 hE)⟩ ⟨PT.blind, th_recv hK hP ha0.1 he8 rfl, (th_pre (av := [.ref a0]) trivial hK hP hok hnd hWT hE)⟩ rfl rfl hl.1 rfl (lv_room (Nat.le_of_ble_eq_true rfl)) dX5_readStep_28 ⟨Nat.le_of_ble_eq_true rfl, Nat.le_of_ble_eq_true rfl⟩)) (fun r9 hr9 => ?_)
      refine lv_bipush (v := 8) hx hb dX5_readStep_31 (by decide) ?_
      refine lv_icmp_ne (tgt := 40) hx hb dX5_readStep_33 (by decide) (fun c10 => ?_) (fun c10 => ?_)
      · refine lv_iconst (v := 0) hx hb dX5_readStep_40 (by decide) ?_
        refine vp_callSi (va_Run.run (va_runSN (As := [.int 0]) (rest := []) ⟨hx, hb, hml, hown, noTs⟩ (t_X11_bit l dC dI H.size G cs tt mm 0) ⟨cnE 1 (wd_669 hE) (wd_115 hE) (wd_667 hE) rfl rfl (by decide +kernel) ⟨Nat.le_of_ble_eq_true rfl, Nat.le_of_ble_eq_true rfl⟩, (wd_668 hE), trivial⟩ ⟨PT.blind, (th_pre (av := [.int 0]) trivial hK hP hok hnd hWT hE)⟩ rfl rfl hl.1 rfl (lv_room (Nat.le_of_ble_eq_true rfl)) dX5_readStep_41 ⟨Nat.le_of_ble_eq_true rfl, Nat.le_of_ble_eq_true rfl⟩)) (fun r11 hr11 => ?_)
        refine lv_istore_n (lv' := [(1, .int r11), (0, .ref a0)]) hx hb dX5_readStep_44 rfl hl (by decide) rfl (fun ls hl => ?_)
        refine lv_aload_n hx hb dX5_readStep_45 rfl (lv_at hl 1 rfl) ?_
        refine lv_dup hx hb dX5_readStep_46 rfl ?_
        refine th_get hx hb (ly_X5 hE) hown hK hP ha0.1 he8 rfl 4 (by decide) (wd_231 hE) (fun _ h9 => h9) rfl dX5_readStep_47 ?_
        refine lv_iconst (v := 1) hx hb dX5_readStep_50 (by decide) ?_
        refine lv_iadd hx hb dX5_readStep_51 ?_
        refine lv_topi (fun x12 ex12 => ?_)
        refine th_put (v := .int x12) (ty := .int) hx hb (ly_X5 hE) tyX5 tyX5_ok nmX5 hown hK hP hnd hAL hS ha0.1 he8 rfl 4 (by decide) (wd_231 hE) (fun _ h9 => h9) rfl (by decide +kernel) rfl rfl (Nat.le_of_ble_eq_true rfl) (up_X5 hok ha0 ⟨y3_8, x12, y5_8, y6_8, y7_8, y8_8, y9_8, rfl⟩) dX5_readStep_52 (fun f13 H locs hfa13 hfo13 hok hP hS => ?_)
        refine lv_iconst (v := 2) hx hb dX5_readStep_55 (by decide) ?_
        refine lv_aload_n hx hb dX5_readStep_56 rfl (lv_at hl 1 rfl) ?_
        refine vp_callSi (va_Run.run (va_runV (As := []) (rest := [.int 2]) ⟨hx, hb, hml, hown, noTs⟩ (t_X5_value l dC dI H.size G cs tt mm a0 ha0) ⟨cbE 0 (wd_569 hE) (wd_118 hE) (wd_566 hE) rfl rfl (by decide +kernel) ⟨Nat.le_of_ble_eq_true rfl, Nat.le_of_ble_eq_true rfl⟩, (wd_568 hE), (wd_11 hE)⟩ ⟨PT.blind, th_recv hK hP ha0.1 hfa13 rfl, (th_pre (av := [.ref a0]) trivial hK hP hok hnd hWT hE)⟩ rfl rfl hl.1 rfl (lv_room (Nat.le_of_ble_eq_true rfl)) dX5_readStep_57 ⟨Nat.le_of_ble_eq_true rfl, Nat.le_of_ble_eq_true rfl⟩)) (fun r14 hr14 => ?_)
        refine lv_imul hx hb dX5_readStep_60 ?_
        refine lv_topi (fun x15 ex15 => ?_)
        refine lv_iload_n hx hb dX5_readStep_61 rfl (lv_at hl 0 rfl) ?_
        refine lv_iadd hx hb dX5_readStep_62 ?_
        refine lv_topi (fun x16 ex16 => ?_)
        refine lv_istore_n (lv' := [(2, .int x16), (1, .int r11), (0, .ref a0)]) hx hb dX5_readStep_63 rfl hl (by decide) rfl (fun ls hl => ?_)
        refine lv_aload_n hx hb dX5_readStep_64 rfl (lv_at hl 2 rfl) ?_
        refine lv_bipush (v := 6) hx hb dX5_readStep_65 (by decide) ?_
        refine tc_i hAL hS hA (va_runV (As := [.int 6]) (rest := []) ⟨hx, hb, hml, hown, noTs⟩ (t_X5_stands l dC dI H.size G cs tt mm a0 ha0 6) ⟨cbE 1 (wd_577 hE) (wd_118 hE) (wd_574 hE) rfl rfl (by decide +kernel) ⟨Nat.le_of_ble_eq_true rfl, Nat.le_of_ble_eq_true rfl⟩, (wd_576 hE), (wd_12 hE)⟩ ⟨PT.blind, th_recv hK hP ha0.1 hfa13 rfl, (th_pre (av := [.ref a0, .int 6]) trivial hK hP hok hnd hWT hE)⟩ rfl rfl hl.1 rfl (lv_room (Nat.le_of_ble_eq_true rfl)) dX5_readStep_67 ⟨Nat.le_of_ble_eq_true rfl, Nat.le_of_ble_eq_true rfl⟩) (fun r17 f17 H locs hr17 hok hP hS => ?_)
        refine lv_if_eq (tgt := 119) hx hb dX5_readStep_70 (by decide) (fun c18 => ?_) (fun c18 => ?_)
        · exact W.vret hx hb hr (fun t ht hW => ⟨⟨f17, rfl, trivial, hok, by rw [ht]; exact hP⟩, hS.F ht⟩) hS.2.2 dX5_readStep_119
        · refine lv_aload_n hx hb dX5_readStep_73 rfl (lv_at hl 2 rfl) ?_
          refine lv_aload_n hx hb dX5_readStep_74 rfl (lv_at hl 2 rfl) ?_
          obtain ⟨y3_19, y4_19, y5_19, y6_19, y7_19, y8_19, y9_19, he19⟩ := ok_X5 hok ha0
          refine th_get hx hb (ly_X5 hE) hown hK hP ha0.1 he19 rfl 1 (by decide) (wd_228 hE) (fun _ h9 => h9) rfl dX5_readStep_75 ?_
          refine lv_iload_n hx hb dX5_readStep_78 rfl (lv_at hl 0 rfl) ?_
          refine lv_iconst (v := 1) hx hb dX5_readStep_79 (by decide) ?_
          refine lv_ishr hx hb dX5_readStep_80 ?_
          refine lv_topi (fun x20 _ => ?_)
          have he21 := ok_X7 hok (wt_X5_1 hWT ha0)
          refine vp_callSi (va_Run.run (va_runV (As := [.int x20]) (rest := [.ref a0]) ⟨hx, hb, hml, hown, noTs⟩ (t_X7_hasEdge l dC dI H.size G cs tt mm (gR G a0 1) ((wt_X5_1 hWT ha0)) x20) ⟨cbE 1 (wd_673 hE) (wd_116 hE) (wd_670 hE) rfl rfl (by decide +kernel) ⟨Nat.le_of_ble_eq_true rfl, Nat.le_of_ble_eq_true rfl⟩, (wd_671 hE), (wd_672 hE)⟩ ⟨PT.blind, th_recv hK hP (wt_X5_1 hWT ha0).1 he21 rfl, (th_pre (av := [.ref (gR G a0 1), .int x20]) trivial hK hP hok hnd hWT hE)⟩ rfl rfl hl.1 rfl (lv_room (Nat.le_of_ble_eq_true rfl)) dX5_readStep_81 ⟨Nat.le_of_ble_eq_true rfl, Nat.le_of_ble_eq_true rfl⟩)) (fun r22 hr22 => ?_)
          refine lv_iconst (v := 3) hx hb dX5_readStep_84 (by decide) ?_
          refine tc_i hAL hS hA (va_runV (As := [.int r22, .int 3]) (rest := []) ⟨hx, hb, hml, hown, noTs⟩ (t_X5_passes l dC dI H.size G cs tt mm a0 ha0 r22 3) ⟨cbE 2 (wd_561 hE) (wd_118 hE) (wd_558 hE) rfl rfl (by decide +kernel) ⟨Nat.le_of_ble_eq_true rfl, Nat.le_of_ble_eq_true rfl⟩, (wd_560 hE), (wd_10 hE)⟩ ⟨PT.blind, th_recv hK hP ha0.1 he19 rfl, (th_pre (av := [.ref a0, .int r22, .int 3]) trivial hK hP hok hnd hWT hE)⟩ rfl rfl hl.1 rfl (lv_room (Nat.le_of_ble_eq_true rfl)) dX5_readStep_85 ⟨Nat.le_of_ble_eq_true rfl, Nat.le_of_ble_eq_true rfl⟩) (fun r23 f23 H locs hr23 hok hP hS => ?_)
          refine lv_if_eq (tgt := 119) hx hb dX5_readStep_88 (by decide) (fun c24 => ?_) (fun c24 => ?_)
          · exact W.vret hx hb hr (fun t ht hW => ⟨⟨f23, rfl, trivial, hok, by rw [ht]; exact hP⟩, hS.F ht⟩) hS.2.2 dX5_readStep_119
          · refine lv_aload_n hx hb dX5_readStep_91 rfl (lv_at hl 2 rfl) ?_
            refine lv_aload_n hx hb dX5_readStep_92 rfl (lv_at hl 2 rfl) ?_
            obtain ⟨y3_25, y4_25, y5_25, y6_25, y7_25, y8_25, y9_25, he25⟩ := ok_X5 hok ha0
            refine th_get hx hb (ly_X5 hE) hown hK hP ha0.1 he25 rfl 1 (by decide) (wd_228 hE) (fun _ h9 => h9) rfl dX5_readStep_93 ?_
            refine lv_iload_n hx hb dX5_readStep_96 rfl (lv_at hl 0 rfl) ?_
            have he26 := ok_X7 hok (wt_X5_1 hWT ha0)
            refine vp_callSi (va_Run.run (va_runV (As := [.int x16]) (rest := [.ref a0]) ⟨hx, hb, hml, hown, noTs⟩ (t_X7_fromVertex l dC dI H.size G cs tt mm (gR G a0 1) ((wt_X5_1 hWT ha0)) x16) ⟨cbE 1 (wd_677 hE) (wd_116 hE) (wd_674 hE) rfl rfl (by decide +kernel) ⟨Nat.le_of_ble_eq_true rfl, Nat.le_of_ble_eq_true rfl⟩, (wd_675 hE), (wd_676 hE)⟩ ⟨PT.blind, th_recv hK hP (wt_X5_1 hWT ha0).1 he26 rfl, (th_pre (av := [.ref (gR G a0 1), .int x16]) trivial hK hP hok hnd hWT hE)⟩ rfl rfl hl.1 rfl (lv_room (Nat.le_of_ble_eq_true rfl)) dX5_readStep_97 ⟨Nat.le_of_ble_eq_true rfl, Nat.le_of_ble_eq_true rfl⟩)) (fun r27 hr27 => ?_)
            refine lv_aload_n hx hb dX5_readStep_100 rfl (lv_at hl 2 rfl) ?_
            refine th_get hx hb (ly_X5 hE) hown hK hP ha0.1 he25 rfl 5 (by decide) (wd_232 hE) (fun _ h9 => h9) rfl dX5_readStep_101 ?_
            refine lv_icmp_ne (tgt := 111) hx hb dX5_readStep_104 (by decide) (fun c28 => ?_) (fun c28 => ?_)
            · refine lv_iconst (v := 0) hx hb dX5_readStep_111 (by decide) ?_
              refine lv_iconst (v := 5) hx hb dX5_readStep_112 (by decide) ?_
              refine tc_i hAL hS hA (va_runV (As := [.int 0, .int 5]) (rest := []) ⟨hx, hb, hml, hown, noTs⟩ (t_X5_passes l dC dI H.size G cs tt mm a0 ha0 0 5) ⟨cbE 2 (wd_561 hE) (wd_118 hE) (wd_558 hE) rfl rfl (by decide +kernel) ⟨Nat.le_of_ble_eq_true rfl, Nat.le_of_ble_eq_true rfl⟩, (wd_560 hE), (wd_10 hE)⟩ ⟨PT.blind, th_recv hK hP ha0.1 he25 rfl, (th_pre (av := [.ref a0, .int 0, .int 5]) trivial hK hP hok hnd hWT hE)⟩ rfl rfl hl.1 rfl (lv_room (Nat.le_of_ble_eq_true rfl)) dX5_readStep_113 ⟨Nat.le_of_ble_eq_true rfl, Nat.le_of_ble_eq_true rfl⟩) (fun r29 f29 H locs hr29 hok hP hS => ?_)
              refine lv_if_ne (tgt := 120) hx hb dX5_readStep_116 (by decide) (fun c30 => ?_) (fun c30 => ?_)
              · refine lv_aload_n hx hb dX5_readStep_120 rfl (lv_at hl 2 rfl) ?_
                obtain ⟨y3_31, y4_31, y5_31, y6_31, y7_31, y8_31, y9_31, he31⟩ := ok_X5 hok ha0
                refine th_get hx hb (ly_X5 hE) hown hK hP ha0.1 he31 rfl 2 (by decide) (wd_229 hE) (fun _ h9 => h9) rfl dX5_readStep_121 ?_
                refine lv_iload_n hx hb dX5_readStep_124 rfl (lv_at hl 0 rfl) ?_
                refine lv_iconst (v := 0) hx hb dX5_readStep_125 (by decide) ?_
                obtain ⟨y2_32, y3_32, hy3_32, he32⟩ := ok_X10 hok (wt_X5_2 hWT ha0)
                refine tc_v hAL hS hA (va_runV (As := [.int x16, .int 0]) (rest := []) ⟨hx, hb, hml, hown, noTs⟩ (t_X10_push l dC dI H.size G cs tt mm (gR G a0 2) ((wt_X5_2 hWT ha0)) x16 0) ⟨cbE 2 (wd_688 hE) (wd_120 hE) (wd_685 hE) rfl rfl (by decide +kernel) ⟨Nat.le_of_ble_eq_true rfl, Nat.le_of_ble_eq_true rfl⟩, (wd_686 hE), (wd_687 hE)⟩ ⟨PT.blind, th_recv hK hP (wt_X5_2 hWT ha0).1 he32 rfl, (th_pre (av := [.ref (gR G a0 2), .int x16, .int 0]) trivial hK hP hok hnd hWT hE)⟩ rfl rfl hl.1 rfl (lv_room (Nat.le_of_ble_eq_true rfl)) dX5_readStep_126 ⟨Nat.le_of_ble_eq_true rfl, Nat.le_of_ble_eq_true rfl⟩) (fun f33 H locs hr33 hok hP hS => ?_)
                refine lv_aload_n hx hb dX5_readStep_129 rfl (lv_at hl 2 rfl) ?_
                refine lv_aload_n hx hb dX5_readStep_130 rfl (lv_at hl 2 rfl) ?_
                obtain ⟨y3_34, y4_34, y5_34, y6_34, y7_34, y8_34, y9_34, he34⟩ := ok_X5 hok ha0
                refine th_get hx hb (ly_X5 hE) hown hK hP ha0.1 he34 rfl 1 (by decide) (wd_228 hE) (fun _ h9 => h9) rfl dX5_readStep_131 ?_
                refine lv_iload_n hx hb dX5_readStep_134 rfl (lv_at hl 0 rfl) ?_
                have he35 := ok_X7 hok (wt_X5_1 hWT ha0)
                refine vp_callSi (va_Run.run (va_runV (As := [.int x16]) (rest := [.ref a0]) ⟨hx, hb, hml, hown, noTs⟩ (t_X7_toVertex l dC dI H.size G cs tt mm (gR G a0 1) ((wt_X5_1 hWT ha0)) x16) ⟨cbE 1 (wd_692 hE) (wd_116 hE) (wd_689 hE) rfl rfl (by decide +kernel) ⟨Nat.le_of_ble_eq_true rfl, Nat.le_of_ble_eq_true rfl⟩, (wd_690 hE), (wd_691 hE)⟩ ⟨PT.blind, th_recv hK hP (wt_X5_1 hWT ha0).1 he35 rfl, (th_pre (av := [.ref (gR G a0 1), .int x16]) trivial hK hP hok hnd hWT hE)⟩ rfl rfl hl.1 rfl (lv_room (Nat.le_of_ble_eq_true rfl)) dX5_readStep_135 ⟨Nat.le_of_ble_eq_true rfl, Nat.le_of_ble_eq_true rfl⟩)) (fun r36 hr36 => ?_)
                refine th_put (v := .int r36) (ty := .int) hx hb (ly_X5 hE) tyX5 tyX5_ok nmX5 hown hK hP hnd hAL hS ha0.1 he34 rfl 5 (by decide) (wd_232 hE) (fun _ h9 => h9) rfl (by decide +kernel) rfl rfl (Nat.le_of_ble_eq_true rfl) (up_X5 hok ha0 ⟨y3_34, y4_34, r36, y6_34, y7_34, y8_34, y9_34, rfl⟩) dX5_readStep_138 (fun f37 H locs hfa37 hfo37 hok hP hS => ?_)
                have he38 := (hfo37 (gR G a0 1) (Ty.ne (wt_X5_1 hWT ha0) ha0 (by decide))).trans he35
                refine lv_aload_n hx hb dX5_readStep_141 rfl (lv_at hl 2 rfl) ?_
                refine lv_dup hx hb dX5_readStep_142 rfl ?_
                refine th_get hx hb (ly_X5 hE) hown hK hP ha0.1 hfa37 rfl 4 (by decide) (wd_231 hE) (fun _ h9 => h9) rfl dX5_readStep_143 ?_
                refine lv_iconst (v := 1) hx hb dX5_readStep_146 (by decide) ?_
                refine lv_iadd hx hb dX5_readStep_147 ?_
                refine lv_topi (fun x39 ex39 => ?_)
                refine th_put (v := .int x39) (ty := .int) hx hb (ly_X5 hE) tyX5 tyX5_ok nmX5 hown hK hP hnd hAL hS ha0.1 hfa37 rfl 4 (by decide) (wd_231 hE) (fun _ h9 => h9) rfl (by decide +kernel) rfl rfl (Nat.le_of_ble_eq_true rfl) (up_X5 hok ha0 ⟨y3_34, x39, r36, y6_34, y7_34, y8_34, y9_34, rfl⟩) dX5_readStep_148 (fun f40 H locs hfa40 hfo40 hok hP hS => ?_)
                have he41 := (hfo40 (gR G a0 1) (Ty.ne (wt_X5_1 hWT ha0) ha0 (by decide))).trans he38
                exact W.vret hx hb hr (fun t ht hW => ⟨⟨f40, rfl, trivial, hok, by rw [ht]; exact hP⟩, hS.F ht⟩) hS.2.2 dX5_readStep_151
              · exact W.vret hx hb hr (fun t ht hW => ⟨⟨f29, rfl, trivial, hok, by rw [ht]; exact hP⟩, hS.F ht⟩) hS.2.2 dX5_readStep_119
            · refine lv_iconst (v := 1) hx hb dX5_readStep_107 (by decide) ?_
              refine lv_goto (tgt := 112) hx hb dX5_readStep_108 (by decide) ?_
              refine lv_iconst (v := 5) hx hb dX5_readStep_112 (by decide) ?_
              refine tc_i hAL hS hA (va_runV (As := [.int 1, .int 5]) (rest := []) ⟨hx, hb, hml, hown, noTs⟩ (t_X5_passes l dC dI H.size G cs tt mm a0 ha0 1 5) ⟨cbE 2 (wd_561 hE) (wd_118 hE) (wd_558 hE) rfl rfl (by decide +kernel) ⟨Nat.le_of_ble_eq_true rfl, Nat.le_of_ble_eq_true rfl⟩, (wd_560 hE), (wd_10 hE)⟩ ⟨PT.blind, th_recv hK hP ha0.1 he25 rfl, (th_pre (av := [.ref a0, .int 1, .int 5]) trivial hK hP hok hnd hWT hE)⟩ rfl rfl hl.1 rfl (lv_room (Nat.le_of_ble_eq_true rfl)) dX5_readStep_113 ⟨Nat.le_of_ble_eq_true rfl, Nat.le_of_ble_eq_true rfl⟩) (fun r42 f42 H locs hr42 hok hP hS => ?_)
              refine lv_if_ne (tgt := 120) hx hb dX5_readStep_116 (by decide) (fun c43 => ?_) (fun c43 => ?_)
              · refine lv_aload_n hx hb dX5_readStep_120 rfl (lv_at hl 2 rfl) ?_
                obtain ⟨y3_44, y4_44, y5_44, y6_44, y7_44, y8_44, y9_44, he44⟩ := ok_X5 hok ha0
                refine th_get hx hb (ly_X5 hE) hown hK hP ha0.1 he44 rfl 2 (by decide) (wd_229 hE) (fun _ h9 => h9) rfl dX5_readStep_121 ?_
                refine lv_iload_n hx hb dX5_readStep_124 rfl (lv_at hl 0 rfl) ?_
                refine lv_iconst (v := 0) hx hb dX5_readStep_125 (by decide) ?_
                obtain ⟨y2_45, y3_45, hy3_45, he45⟩ := ok_X10 hok (wt_X5_2 hWT ha0)
                refine tc_v hAL hS hA (va_runV (As := [.int x16, .int 0]) (rest := []) ⟨hx, hb, hml, hown, noTs⟩ (t_X10_push l dC dI H.size G cs tt mm (gR G a0 2) ((wt_X5_2 hWT ha0)) x16 0) ⟨cbE 2 (wd_688 hE) (wd_120 hE) (wd_685 hE) rfl rfl (by decide +kernel) ⟨Nat.le_of_ble_eq_true rfl, Nat.le_of_ble_eq_true rfl⟩, (wd_686 hE), (wd_687 hE)⟩ ⟨PT.blind, th_recv hK hP (wt_X5_2 hWT ha0).1 he45 rfl, (th_pre (av := [.ref (gR G a0 2), .int x16, .int 0]) trivial hK hP hok hnd hWT hE)⟩ rfl rfl hl.1 rfl (lv_room (Nat.le_of_ble_eq_true rfl)) dX5_readStep_126 ⟨Nat.le_of_ble_eq_true rfl, Nat.le_of_ble_eq_true rfl⟩) (fun f46 H locs hr46 hok hP hS => ?_)
                refine lv_aload_n hx hb dX5_readStep_129 rfl (lv_at hl 2 rfl) ?_
                refine lv_aload_n hx hb dX5_readStep_130 rfl (lv_at hl 2 rfl) ?_
                obtain ⟨y3_47, y4_47, y5_47, y6_47, y7_47, y8_47, y9_47, he47⟩ := ok_X5 hok ha0
                refine th_get hx hb (ly_X5 hE) hown hK hP ha0.1 he47 rfl 1 (by decide) (wd_228 hE) (fun _ h9 => h9) rfl dX5_readStep_131 ?_
                refine lv_iload_n hx hb dX5_readStep_134 rfl (lv_at hl 0 rfl) ?_
                have he48 := ok_X7 hok (wt_X5_1 hWT ha0)
                refine vp_callSi (va_Run.run (va_runV (As := [.int x16]) (rest := [.ref a0]) ⟨hx, hb, hml, hown, noTs⟩ (t_X7_toVertex l dC dI H.size G cs tt mm (gR G a0 1) ((wt_X5_1 hWT ha0)) x16) ⟨cbE 1 (wd_692 hE) (wd_116 hE) (wd_689 hE) rfl rfl (by decide +kernel) ⟨Nat.le_of_ble_eq_true rfl, Nat.le_of_ble_eq_true rfl⟩, (wd_690 hE), (wd_691 hE)⟩ ⟨PT.blind, th_recv hK hP (wt_X5_1 hWT ha0).1 he48 rfl, (th_pre (av := [.ref (gR G a0 1), .int x16]) trivial hK hP hok hnd hWT hE)⟩ rfl rfl hl.1 rfl (lv_room (Nat.le_of_ble_eq_true rfl)) dX5_readStep_135 ⟨Nat.le_of_ble_eq_true rfl, Nat.le_of_ble_eq_true rfl⟩)) (fun r49 hr49 => ?_)
                refine th_put (v := .int r49) (ty := .int) hx hb (ly_X5 hE) tyX5 tyX5_ok nmX5 hown hK hP hnd hAL hS ha0.1 he47 rfl 5 (by decide) (wd_232 hE) (fun _ h9 => h9) rfl (by decide +kernel) rfl rfl (Nat.le_of_ble_eq_true rfl) (up_X5 hok ha0 ⟨y3_47, y4_47, r49, y6_47, y7_47, y8_47, y9_47, rfl⟩) dX5_readStep_138 (fun f50 H locs hfa50 hfo50 hok hP hS => ?_)
                have he51 := (hfo50 (gR G a0 1) (Ty.ne (wt_X5_1 hWT ha0) ha0 (by decide))).trans he48
                refine lv_aload_n hx hb dX5_readStep_141 rfl (lv_at hl 2 rfl) ?_
                refine lv_dup hx hb dX5_readStep_142 rfl ?_
                refine th_get hx hb (ly_X5 hE) hown hK hP ha0.1 hfa50 rfl 4 (by decide) (wd_231 hE) (fun _ h9 => h9) rfl dX5_readStep_143 ?_
                refine lv_iconst (v := 1) hx hb dX5_readStep_146 (by decide) ?_
                refine lv_iadd hx hb dX5_readStep_147 ?_
                refine lv_topi (fun x52 ex52 => ?_)
                refine th_put (v := .int x52) (ty := .int) hx hb (ly_X5 hE) tyX5 tyX5_ok nmX5 hown hK hP hnd hAL hS ha0.1 hfa50 rfl 4 (by decide) (wd_231 hE) (fun _ h9 => h9) rfl (by decide +kernel) rfl rfl (Nat.le_of_ble_eq_true rfl) (up_X5 hok ha0 ⟨y3_47, x52, r49, y6_47, y7_47, y8_47, y9_47, rfl⟩) dX5_readStep_148 (fun f53 H locs hfa53 hfo53 hok hP hS => ?_)
                have he54 := (hfo53 (gR G a0 1) (Ty.ne (wt_X5_1 hWT ha0) ha0 (by decide))).trans he51
                exact W.vret hx hb hr (fun t ht hW => ⟨⟨f53, rfl, trivial, hok, by rw [ht]; exact hP⟩, hS.F ht⟩) hS.2.2 dX5_readStep_151
              · exact W.vret hx hb hr (fun t ht hW => ⟨⟨f42, rfl, trivial, hok, by rw [ht]; exact hP⟩, hS.F ht⟩) hS.2.2 dX5_readStep_119
      · refine lv_iconst (v := 1) hx hb dX5_readStep_36 (by decide) ?_
        refine lv_goto (tgt := 41) hx hb dX5_readStep_37 (by decide) ?_
        refine vp_callSi (va_Run.run (va_runSN (As := [.int 1]) (rest := []) ⟨hx, hb, hml, hown, noTs⟩ (t_X11_bit l dC dI H.size G cs tt mm 1) ⟨cnE 1 (wd_669 hE) (wd_115 hE) (wd_667 hE) rfl rfl (by decide +kernel) ⟨Nat.le_of_ble_eq_true rfl, Nat.le_of_ble_eq_true rfl⟩, (wd_668 hE), trivial⟩ ⟨PT.blind, (th_pre (av := [.int 1]) trivial hK hP hok hnd hWT hE)⟩ rfl rfl hl.1 rfl (lv_room (Nat.le_of_ble_eq_true rfl)) dX5_readStep_41 ⟨Nat.le_of_ble_eq_true rfl, Nat.le_of_ble_eq_true rfl⟩)) (fun r55 hr55 => ?_)
        refine lv_istore_n (lv' := [(1, .int r55), (0, .ref a0)]) hx hb dX5_readStep_44 rfl hl (by decide) rfl (fun ls hl => ?_)
        refine lv_aload_n hx hb dX5_readStep_45 rfl (lv_at hl 1 rfl) ?_
        refine lv_dup hx hb dX5_readStep_46 rfl ?_
        refine th_get hx hb (ly_X5 hE) hown hK hP ha0.1 he8 rfl 4 (by decide) (wd_231 hE) (fun _ h9 => h9) rfl dX5_readStep_47 ?_
        refine lv_iconst (v := 1) hx hb dX5_readStep_50 (by decide) ?_
        refine lv_iadd hx hb dX5_readStep_51 ?_
        refine lv_topi (fun x56 ex56 => ?_)
        refine th_put (v := .int x56) (ty := .int) hx hb (ly_X5 hE) tyX5 tyX5_ok nmX5 hown hK hP hnd hAL hS ha0.1 he8 rfl 4 (by decide) (wd_231 hE) (fun _ h9 => h9) rfl (by decide +kernel) rfl rfl (Nat.le_of_ble_eq_true rfl) (up_X5 hok ha0 ⟨y3_8, x56, y5_8, y6_8, y7_8, y8_8, y9_8, rfl⟩) dX5_readStep_52 (fun f57 H locs hfa57 hfo57 hok hP hS => ?_)
        refine lv_iconst (v := 2) hx hb dX5_readStep_55 (by decide) ?_
        refine lv_aload_n hx hb dX5_readStep_56 rfl (lv_at hl 1 rfl) ?_
        refine vp_callSi (va_Run.run (va_runV (As := []) (rest := [.int 2]) ⟨hx, hb, hml, hown, noTs⟩ (t_X5_value l dC dI H.size G cs tt mm a0 ha0) ⟨cbE 0 (wd_569 hE) (wd_118 hE) (wd_566 hE) rfl rfl (by decide +kernel) ⟨Nat.le_of_ble_eq_true rfl, Nat.le_of_ble_eq_true rfl⟩, (wd_568 hE), (wd_11 hE)⟩ ⟨PT.blind, th_recv hK hP ha0.1 hfa57 rfl, (th_pre (av := [.ref a0]) trivial hK hP hok hnd hWT hE)⟩ rfl rfl hl.1 rfl (lv_room (Nat.le_of_ble_eq_true rfl)) dX5_readStep_57 ⟨Nat.le_of_ble_eq_true rfl, Nat.le_of_ble_eq_true rfl⟩)) (fun r58 hr58 => ?_)
        refine lv_imul hx hb dX5_readStep_60 ?_
        refine lv_topi (fun x59 ex59 => ?_)
        refine lv_iload_n hx hb dX5_readStep_61 rfl (lv_at hl 0 rfl) ?_
        refine lv_iadd hx hb dX5_readStep_62 ?_
        refine lv_topi (fun x60 ex60 => ?_)
        refine lv_istore_n (lv' := [(2, .int x60), (1, .int r55), (0, .ref a0)]) hx hb dX5_readStep_63 rfl hl (by decide) rfl (fun ls hl => ?_)
        refine lv_aload_n hx hb dX5_readStep_64 rfl (lv_at hl 2 rfl) ?_
        refine lv_bipush (v := 6) hx hb dX5_readStep_65 (by decide) ?_
        refine tc_i hAL hS hA (va_runV (As := [.int 6]) (rest := []) ⟨hx, hb, hml, hown, noTs⟩ (t_X5_stands l dC dI H.size G cs tt mm a0 ha0 6) ⟨cbE 1 (wd_577 hE) (wd_118 hE) (wd_574 hE) rfl rfl (by decide +kernel) ⟨Nat.le_of_ble_eq_true rfl, Nat.le_of_ble_eq_true rfl⟩, (wd_576 hE), (wd_12 hE)⟩ ⟨PT.blind, th_recv hK hP ha0.1 hfa57 rfl, (th_pre (av := [.ref a0, .int 6]) trivial hK hP hok hnd hWT hE)⟩ rfl rfl hl.1 rfl (lv_room (Nat.le_of_ble_eq_true rfl)) dX5_readStep_67 ⟨Nat.le_of_ble_eq_true rfl, Nat.le_of_ble_eq_true rfl⟩) (fun r61 f61 H locs hr61 hok hP hS => ?_)
        refine lv_if_eq (tgt := 119) hx hb dX5_readStep_70 (by decide) (fun c62 => ?_) (fun c62 => ?_)
        · exact W.vret hx hb hr (fun t ht hW => ⟨⟨f61, rfl, trivial, hok, by rw [ht]; exact hP⟩, hS.F ht⟩) hS.2.2 dX5_readStep_119
        · refine lv_aload_n hx hb dX5_readStep_73 rfl (lv_at hl 2 rfl) ?_
          refine lv_aload_n hx hb dX5_readStep_74 rfl (lv_at hl 2 rfl) ?_
          obtain ⟨y3_63, y4_63, y5_63, y6_63, y7_63, y8_63, y9_63, he63⟩ := ok_X5 hok ha0
          refine th_get hx hb (ly_X5 hE) hown hK hP ha0.1 he63 rfl 1 (by decide) (wd_228 hE) (fun _ h9 => h9) rfl dX5_readStep_75 ?_
          refine lv_iload_n hx hb dX5_readStep_78 rfl (lv_at hl 0 rfl) ?_
          refine lv_iconst (v := 1) hx hb dX5_readStep_79 (by decide) ?_
          refine lv_ishr hx hb dX5_readStep_80 ?_
          refine lv_topi (fun x64 _ => ?_)
          have he65 := ok_X7 hok (wt_X5_1 hWT ha0)
          refine vp_callSi (va_Run.run (va_runV (As := [.int x64]) (rest := [.ref a0]) ⟨hx, hb, hml, hown, noTs⟩ (t_X7_hasEdge l dC dI H.size G cs tt mm (gR G a0 1) ((wt_X5_1 hWT ha0)) x64) ⟨cbE 1 (wd_673 hE) (wd_116 hE) (wd_670 hE) rfl rfl (by decide +kernel) ⟨Nat.le_of_ble_eq_true rfl, Nat.le_of_ble_eq_true rfl⟩, (wd_671 hE), (wd_672 hE)⟩ ⟨PT.blind, th_recv hK hP (wt_X5_1 hWT ha0).1 he65 rfl, (th_pre (av := [.ref (gR G a0 1), .int x64]) trivial hK hP hok hnd hWT hE)⟩ rfl rfl hl.1 rfl (lv_room (Nat.le_of_ble_eq_true rfl)) dX5_readStep_81 ⟨Nat.le_of_ble_eq_true rfl, Nat.le_of_ble_eq_true rfl⟩)) (fun r66 hr66 => ?_)
          refine lv_iconst (v := 3) hx hb dX5_readStep_84 (by decide) ?_
          refine tc_i hAL hS hA (va_runV (As := [.int r66, .int 3]) (rest := []) ⟨hx, hb, hml, hown, noTs⟩ (t_X5_passes l dC dI H.size G cs tt mm a0 ha0 r66 3) ⟨cbE 2 (wd_561 hE) (wd_118 hE) (wd_558 hE) rfl rfl (by decide +kernel) ⟨Nat.le_of_ble_eq_true rfl, Nat.le_of_ble_eq_true rfl⟩, (wd_560 hE), (wd_10 hE)⟩ ⟨PT.blind, th_recv hK hP ha0.1 he63 rfl, (th_pre (av := [.ref a0, .int r66, .int 3]) trivial hK hP hok hnd hWT hE)⟩ rfl rfl hl.1 rfl (lv_room (Nat.le_of_ble_eq_true rfl)) dX5_readStep_85 ⟨Nat.le_of_ble_eq_true rfl, Nat.le_of_ble_eq_true rfl⟩) (fun r67 f67 H locs hr67 hok hP hS => ?_)
          refine lv_if_eq (tgt := 119) hx hb dX5_readStep_88 (by decide) (fun c68 => ?_) (fun c68 => ?_)
          · exact W.vret hx hb hr (fun t ht hW => ⟨⟨f67, rfl, trivial, hok, by rw [ht]; exact hP⟩, hS.F ht⟩) hS.2.2 dX5_readStep_119
          · refine lv_aload_n hx hb dX5_readStep_91 rfl (lv_at hl 2 rfl) ?_
            refine lv_aload_n hx hb dX5_readStep_92 rfl (lv_at hl 2 rfl) ?_
            obtain ⟨y3_69, y4_69, y5_69, y6_69, y7_69, y8_69, y9_69, he69⟩ := ok_X5 hok ha0
            refine th_get hx hb (ly_X5 hE) hown hK hP ha0.1 he69 rfl 1 (by decide) (wd_228 hE) (fun _ h9 => h9) rfl dX5_readStep_93 ?_
            refine lv_iload_n hx hb dX5_readStep_96 rfl (lv_at hl 0 rfl) ?_
            have he70 := ok_X7 hok (wt_X5_1 hWT ha0)
            refine vp_callSi (va_Run.run (va_runV (As := [.int x60]) (rest := [.ref a0]) ⟨hx, hb, hml, hown, noTs⟩ (t_X7_fromVertex l dC dI H.size G cs tt mm (gR G a0 1) ((wt_X5_1 hWT ha0)) x60) ⟨cbE 1 (wd_677 hE) (wd_116 hE) (wd_674 hE) rfl rfl (by decide +kernel) ⟨Nat.le_of_ble_eq_true rfl, Nat.le_of_ble_eq_true rfl⟩, (wd_675 hE), (wd_676 hE)⟩ ⟨PT.blind, th_recv hK hP (wt_X5_1 hWT ha0).1 he70 rfl, (th_pre (av := [.ref (gR G a0 1), .int x60]) trivial hK hP hok hnd hWT hE)⟩ rfl rfl hl.1 rfl (lv_room (Nat.le_of_ble_eq_true rfl)) dX5_readStep_97 ⟨Nat.le_of_ble_eq_true rfl, Nat.le_of_ble_eq_true rfl⟩)) (fun r71 hr71 => ?_)
            refine lv_aload_n hx hb dX5_readStep_100 rfl (lv_at hl 2 rfl) ?_
            refine th_get hx hb (ly_X5 hE) hown hK hP ha0.1 he69 rfl 5 (by decide) (wd_232 hE) (fun _ h9 => h9) rfl dX5_readStep_101 ?_
            refine lv_icmp_ne (tgt := 111) hx hb dX5_readStep_104 (by decide) (fun c72 => ?_) (fun c72 => ?_)
            · refine lv_iconst (v := 0) hx hb dX5_readStep_111 (by decide) ?_
              refine lv_iconst (v := 5) hx hb dX5_readStep_112 (by decide) ?_
              refine tc_i hAL hS hA (va_runV (As := [.int 0, .int 5]) (rest := []) ⟨hx, hb, hml, hown, noTs⟩ (t_X5_passes l dC dI H.size G cs tt mm a0 ha0 0 5) ⟨cbE 2 (wd_561 hE) (wd_118 hE) (wd_558 hE) rfl rfl (by decide +kernel) ⟨Nat.le_of_ble_eq_true rfl, Nat.le_of_ble_eq_true rfl⟩, (wd_560 hE), (wd_10 hE)⟩ ⟨PT.blind, th_recv hK hP ha0.1 he69 rfl, (th_pre (av := [.ref a0, .int 0, .int 5]) trivial hK hP hok hnd hWT hE)⟩ rfl rfl hl.1 rfl (lv_room (Nat.le_of_ble_eq_true rfl)) dX5_readStep_113 ⟨Nat.le_of_ble_eq_true rfl, Nat.le_of_ble_eq_true rfl⟩) (fun r73 f73 H locs hr73 hok hP hS => ?_)
              refine lv_if_ne (tgt := 120) hx hb dX5_readStep_116 (by decide) (fun c74 => ?_) (fun c74 => ?_)
              · refine lv_aload_n hx hb dX5_readStep_120 rfl (lv_at hl 2 rfl) ?_
                obtain ⟨y3_75, y4_75, y5_75, y6_75, y7_75, y8_75, y9_75, he75⟩ := ok_X5 hok ha0
                refine th_get hx hb (ly_X5 hE) hown hK hP ha0.1 he75 rfl 2 (by decide) (wd_229 hE) (fun _ h9 => h9) rfl dX5_readStep_121 ?_
                refine lv_iload_n hx hb dX5_readStep_124 rfl (lv_at hl 0 rfl) ?_
                refine lv_iconst (v := 0) hx hb dX5_readStep_125 (by decide) ?_
                obtain ⟨y2_76, y3_76, hy3_76, he76⟩ := ok_X10 hok (wt_X5_2 hWT ha0)
                refine tc_v hAL hS hA (va_runV (As := [.int x60, .int 0]) (rest := []) ⟨hx, hb, hml, hown, noTs⟩ (t_X10_push l dC dI H.size G cs tt mm (gR G a0 2) ((wt_X5_2 hWT ha0)) x60 0) ⟨cbE 2 (wd_688 hE) (wd_120 hE) (wd_685 hE) rfl rfl (by decide +kernel) ⟨Nat.le_of_ble_eq_true rfl, Nat.le_of_ble_eq_true rfl⟩, (wd_686 hE), (wd_687 hE)⟩ ⟨PT.blind, th_recv hK hP (wt_X5_2 hWT ha0).1 he76 rfl, (th_pre (av := [.ref (gR G a0 2), .int x60, .int 0]) trivial hK hP hok hnd hWT hE)⟩ rfl rfl hl.1 rfl (lv_room (Nat.le_of_ble_eq_true rfl)) dX5_readStep_126 ⟨Nat.le_of_ble_eq_true rfl, Nat.le_of_ble_eq_true rfl⟩) (fun f77 H locs hr77 hok hP hS => ?_)
                refine lv_aload_n hx hb dX5_readStep_129 rfl (lv_at hl 2 rfl) ?_
                refine lv_aload_n hx hb dX5_readStep_130 rfl (lv_at hl 2 rfl) ?_
                obtain ⟨y3_78, y4_78, y5_78, y6_78, y7_78, y8_78, y9_78, he78⟩ := ok_X5 hok ha0
                refine th_get hx hb (ly_X5 hE) hown hK hP ha0.1 he78 rfl 1 (by decide) (wd_228 hE) (fun _ h9 => h9) rfl dX5_readStep_131 ?_
                refine lv_iload_n hx hb dX5_readStep_134 rfl (lv_at hl 0 rfl) ?_
                have he79 := ok_X7 hok (wt_X5_1 hWT ha0)
                refine vp_callSi (va_Run.run (va_runV (As := [.int x60]) (rest := [.ref a0]) ⟨hx, hb, hml, hown, noTs⟩ (t_X7_toVertex l dC dI H.size G cs tt mm (gR G a0 1) ((wt_X5_1 hWT ha0)) x60) ⟨cbE 1 (wd_692 hE) (wd_116 hE) (wd_689 hE) rfl rfl (by decide +kernel) ⟨Nat.le_of_ble_eq_true rfl, Nat.le_of_ble_eq_true rfl⟩, (wd_690 hE), (wd_691 hE)⟩ ⟨PT.blind, th_recv hK hP (wt_X5_1 hWT ha0).1 he79 rfl, (th_pre (av := [.ref (gR G a0 1), .int x60]) trivial hK hP hok hnd hWT hE)⟩ rfl rfl hl.1 rfl (lv_room (Nat.le_of_ble_eq_true rfl)) dX5_readStep_135 ⟨Nat.le_of_ble_eq_true rfl, Nat.le_of_ble_eq_true rfl⟩)) (fun r80 hr80 => ?_)
                refine th_put (v := .int r80) (ty := .int) hx hb (ly_X5 hE) tyX5 tyX5_ok nmX5 hown hK hP hnd hAL hS ha0.1 he78 rfl 5 (by decide) (wd_232 hE) (fun _ h9 => h9) rfl (by decide +kernel) rfl rfl (Nat.le_of_ble_eq_true rfl) (up_X5 hok ha0 ⟨y3_78, y4_78, r80, y6_78, y7_78, y8_78, y9_78, rfl⟩) dX5_readStep_138 (fun f81 H locs hfa81 hfo81 hok hP hS => ?_)
                have he82 := (hfo81 (gR G a0 1) (Ty.ne (wt_X5_1 hWT ha0) ha0 (by decide))).trans he79
                refine lv_aload_n hx hb dX5_readStep_141 rfl (lv_at hl 2 rfl) ?_
                refine lv_dup hx hb dX5_readStep_142 rfl ?_
                refine th_get hx hb (ly_X5 hE) hown hK hP ha0.1 hfa81 rfl 4 (by decide) (wd_231 hE) (fun _ h9 => h9) rfl dX5_readStep_143 ?_
                refine lv_iconst (v := 1) hx hb dX5_readStep_146 (by decide) ?_
                refine lv_iadd hx hb dX5_readStep_147 ?_
                refine lv_topi (fun x83 ex83 => ?_)
                refine th_put (v := .int x83) (ty := .int) hx hb (ly_X5 hE) tyX5 tyX5_ok nmX5 hown hK hP hnd hAL hS ha0.1 hfa81 rfl 4 (by decide) (wd_231 hE) (fun _ h9 => h9) rfl (by decide +kernel) rfl rfl (Nat.le_of_ble_eq_true rfl) (up_X5 hok ha0 ⟨y3_78, x83, r80, y6_78, y7_78, y8_78, y9_78, rfl⟩) dX5_readStep_148 (fun f84 H locs hfa84 hfo84 hok hP hS => ?_)
                have he85 := (hfo84 (gR G a0 1) (Ty.ne (wt_X5_1 hWT ha0) ha0 (by decide))).trans he82
                exact W.vret hx hb hr (fun t ht hW => ⟨⟨f84, rfl, trivial, hok, by rw [ht]; exact hP⟩, hS.F ht⟩) hS.2.2 dX5_readStep_151
              · exact W.vret hx hb hr (fun t ht hW => ⟨⟨f73, rfl, trivial, hok, by rw [ht]; exact hP⟩, hS.F ht⟩) hS.2.2 dX5_readStep_119
            · refine lv_iconst (v := 1) hx hb dX5_readStep_107 (by decide) ?_
              refine lv_goto (tgt := 112) hx hb dX5_readStep_108 (by decide) ?_
              refine lv_iconst (v := 5) hx hb dX5_readStep_112 (by decide) ?_
              refine tc_i hAL hS hA (va_runV (As := [.int 1, .int 5]) (rest := []) ⟨hx, hb, hml, hown, noTs⟩ (t_X5_passes l dC dI H.size G cs tt mm a0 ha0 1 5) ⟨cbE 2 (wd_561 hE) (wd_118 hE) (wd_558 hE) rfl rfl (by decide +kernel) ⟨Nat.le_of_ble_eq_true rfl, Nat.le_of_ble_eq_true rfl⟩, (wd_560 hE), (wd_10 hE)⟩ ⟨PT.blind, th_recv hK hP ha0.1 he69 rfl, (th_pre (av := [.ref a0, .int 1, .int 5]) trivial hK hP hok hnd hWT hE)⟩ rfl rfl hl.1 rfl (lv_room (Nat.le_of_ble_eq_true rfl)) dX5_readStep_113 ⟨Nat.le_of_ble_eq_true rfl, Nat.le_of_ble_eq_true rfl⟩) (fun r86 f86 H locs hr86 hok hP hS => ?_)
              refine lv_if_ne (tgt := 120) hx hb dX5_readStep_116 (by decide) (fun c87 => ?_) (fun c87 => ?_)
              · refine lv_aload_n hx hb dX5_readStep_120 rfl (lv_at hl 2 rfl) ?_
                obtain ⟨y3_88, y4_88, y5_88, y6_88, y7_88, y8_88, y9_88, he88⟩ := ok_X5 hok ha0
                refine th_get hx hb (ly_X5 hE) hown hK hP ha0.1 he88 rfl 2 (by decide) (wd_229 hE) (fun _ h9 => h9) rfl dX5_readStep_121 ?_
                refine lv_iload_n hx hb dX5_readStep_124 rfl (lv_at hl 0 rfl) ?_
                refine lv_iconst (v := 0) hx hb dX5_readStep_125 (by decide) ?_
                obtain ⟨y2_89, y3_89, hy3_89, he89⟩ := ok_X10 hok (wt_X5_2 hWT ha0)
                refine tc_v hAL hS hA (va_runV (As := [.int x60, .int 0]) (rest := []) ⟨hx, hb, hml, hown, noTs⟩ (t_X10_push l dC dI H.size G cs tt mm (gR G a0 2) ((wt_X5_2 hWT ha0)) x60 0) ⟨cbE 2 (wd_688 hE) (wd_120 hE) (wd_685 hE) rfl rfl (by decide +kernel) ⟨Nat.le_of_ble_eq_true rfl, Nat.le_of_ble_eq_true rfl⟩, (wd_686 hE), (wd_687 hE)⟩ ⟨PT.blind, th_recv hK hP (wt_X5_2 hWT ha0).1 he89 rfl, (th_pre (av := [.ref (gR G a0 2), .int x60, .int 0]) trivial hK hP hok hnd hWT hE)⟩ rfl rfl hl.1 rfl (lv_room (Nat.le_of_ble_eq_true rfl)) dX5_readStep_126 ⟨Nat.le_of_ble_eq_true rfl, Nat.le_of_ble_eq_true rfl⟩) (fun f90 H locs hr90 hok hP hS => ?_)
                refine lv_aload_n hx hb dX5_readStep_129 rfl (lv_at hl 2 rfl) ?_
                refine lv_aload_n hx hb dX5_readStep_130 rfl (lv_at hl 2 rfl) ?_
                obtain ⟨y3_91, y4_91, y5_91, y6_91, y7_91, y8_91, y9_91, he91⟩ := ok_X5 hok ha0
                refine th_get hx hb (ly_X5 hE) hown hK hP ha0.1 he91 rfl 1 (by decide) (wd_228 hE) (fun _ h9 => h9) rfl dX5_readStep_131 ?_
                refine lv_iload_n hx hb dX5_readStep_134 rfl (lv_at hl 0 rfl) ?_
                have he92 := ok_X7 hok (wt_X5_1 hWT ha0)
                refine vp_callSi (va_Run.run (va_runV (As := [.int x60]) (rest := [.ref a0]) ⟨hx, hb, hml, hown, noTs⟩ (t_X7_toVertex l dC dI H.size G cs tt mm (gR G a0 1) ((wt_X5_1 hWT ha0)) x60) ⟨cbE 1 (wd_692 hE) (wd_116 hE) (wd_689 hE) rfl rfl (by decide +kernel) ⟨Nat.le_of_ble_eq_true rfl, Nat.le_of_ble_eq_true rfl⟩, (wd_690 hE), (wd_691 hE)⟩ ⟨PT.blind, th_recv hK hP (wt_X5_1 hWT ha0).1 he92 rfl, (th_pre (av := [.ref (gR G a0 1), .int x60]) trivial hK hP hok hnd hWT hE)⟩ rfl rfl hl.1 rfl (lv_room (Nat.le_of_ble_eq_true rfl)) dX5_readStep_135 ⟨Nat.le_of_ble_eq_true rfl, Nat.le_of_ble_eq_true rfl⟩)) (fun r93 hr93 => ?_)
                refine th_put (v := .int r93) (ty := .int) hx hb (ly_X5 hE) tyX5 tyX5_ok nmX5 hown hK hP hnd hAL hS ha0.1 he91 rfl 5 (by decide) (wd_232 hE) (fun _ h9 => h9) rfl (by decide +kernel) rfl rfl (Nat.le_of_ble_eq_true rfl) (up_X5 hok ha0 ⟨y3_91, y4_91, r93, y6_91, y7_91, y8_91, y9_91, rfl⟩) dX5_readStep_138 (fun f94 H locs hfa94 hfo94 hok hP hS => ?_)
                have he95 := (hfo94 (gR G a0 1) (Ty.ne (wt_X5_1 hWT ha0) ha0 (by decide))).trans he92
                refine lv_aload_n hx hb dX5_readStep_141 rfl (lv_at hl 2 rfl) ?_
                refine lv_dup hx hb dX5_readStep_142 rfl ?_
                refine th_get hx hb (ly_X5 hE) hown hK hP ha0.1 hfa94 rfl 4 (by decide) (wd_231 hE) (fun _ h9 => h9) rfl dX5_readStep_143 ?_
                refine lv_iconst (v := 1) hx hb dX5_readStep_146 (by decide) ?_
                refine lv_iadd hx hb dX5_readStep_147 ?_
                refine lv_topi (fun x96 ex96 => ?_)
                refine th_put (v := .int x96) (ty := .int) hx hb (ly_X5 hE) tyX5 tyX5_ok nmX5 hown hK hP hnd hAL hS ha0.1 hfa94 rfl 4 (by decide) (wd_231 hE) (fun _ h9 => h9) rfl (by decide +kernel) rfl rfl (Nat.le_of_ble_eq_true rfl) (up_X5 hok ha0 ⟨y3_91, x96, r93, y6_91, y7_91, y8_91, y9_91, rfl⟩) dX5_readStep_148 (fun f97 H locs hfa97 hfo97 hok hP hS => ?_)
                have he98 := (hfo97 (gR G a0 1) (Ty.ne (wt_X5_1 hWT ha0) ha0 (by decide))).trans he95
                exact W.vret hx hb hr (fun t ht hW => ⟨⟨f97, rfl, trivial, hok, by rw [ht]; exact hP⟩, hS.F ht⟩) hS.2.2 dX5_readStep_151
              · exact W.vret hx hb hr (fun t ht hW => ⟨⟨f86, rfl, trivial, hok, by rw [ht]; exact hP⟩, hS.F ht⟩) hS.2.2 dX5_readStep_119
    · exact W.vret hx hb hr (fun t ht hW => ⟨⟨f6, rfl, trivial, hok, by rw [ht]; exact hP⟩, hS.F ht⟩) hS.2.2 dX5_readStep_26
  · refine lv_iconst (v := 1) hx hb dX5_readStep_13 (by decide) ?_
    refine lv_goto (tgt := 18) hx hb dX5_readStep_14 (by decide) ?_
    refine lv_bipush (v := 6) hx hb dX5_readStep_18 (by decide) ?_
    refine tc_i hAL hS hA (va_runV (As := [.int 1, .int 6]) (rest := []) ⟨hx, hb, hml, hown, noTs⟩ (t_X5_passes l dC dI s.heap.size G cs tt mm a0 ha0 1 6) ⟨cbE 2 (wd_561 hE) (wd_118 hE) (wd_558 hE) rfl rfl (by decide +kernel) ⟨Nat.le_of_ble_eq_true rfl, Nat.le_of_ble_eq_true rfl⟩, (wd_560 hE), (wd_10 hE)⟩ ⟨PT.blind, th_recv hK hP ha0.1 he1 rfl, (th_pre (av := [.ref a0, .int 1, .int 6]) trivial hK hP hok hnd hWT hE)⟩ rfl rfl hl.1 rfl (lv_room (Nat.le_of_ble_eq_true rfl)) dX5_readStep_20 ⟨Nat.le_of_ble_eq_true rfl, Nat.le_of_ble_eq_true rfl⟩) (fun r99 f99 H locs hr99 hok hP hS => ?_)
    refine lv_if_ne (tgt := 27) hx hb dX5_readStep_23 (by decide) (fun c100 => ?_) (fun c100 => ?_)
    · refine lv_aload_n hx hb dX5_readStep_27 rfl (lv_at hl 0 rfl) ?_
      obtain ⟨y3_101, y4_101, y5_101, y6_101, y7_101, y8_101, y9_101, he101⟩ := ok_X5 hok ha0
      refine vp_callSi (va_Run.run (va_runV (As := []) (rest := []) ⟨hx, hb, hml, hown, noTs⟩ (t_X5_kind l dC dI H.size G cs tt mm a0 ha0) ⟨cbE 0 (wd_545 hE) (wd_118 hE) (wd_542 hE) rfl rfl (by decide +kernel) ⟨Nat.le_of_ble_eq_true rfl, Nat.le_of_ble_eq_true rfl⟩, (wd_544 hE), (wd_8 hE)⟩ ⟨PT.blind, th_recv hK hP ha0.1 he101 rfl, (th_pre (av := [.ref a0]) trivial hK hP hok hnd hWT hE)⟩ rfl rfl hl.1 rfl (lv_room (Nat.le_of_ble_eq_true rfl)) dX5_readStep_28 ⟨Nat.le_of_ble_eq_true rfl, Nat.le_of_ble_eq_true rfl⟩)) (fun r102 hr102 => ?_)
      refine lv_bipush (v := 8) hx hb dX5_readStep_31 (by decide) ?_
      refine lv_icmp_ne (tgt := 40) hx hb dX5_readStep_33 (by decide) (fun c103 => ?_) (fun c103 => ?_)
      · refine lv_iconst (v := 0) hx hb dX5_readStep_40 (by decide) ?_
        refine vp_callSi (va_Run.run (va_runSN (As := [.int 0]) (rest := []) ⟨hx, hb, hml, hown, noTs⟩ (t_X11_bit l dC dI H.size G cs tt mm 0) ⟨cnE 1 (wd_669 hE) (wd_115 hE) (wd_667 hE) rfl rfl (by decide +kernel) ⟨Nat.le_of_ble_eq_true rfl, Nat.le_of_ble_eq_true rfl⟩, (wd_668 hE), trivial⟩ ⟨PT.blind, (th_pre (av := [.int 0]) trivial hK hP hok hnd hWT hE)⟩ rfl rfl hl.1 rfl (lv_room (Nat.le_of_ble_eq_true rfl)) dX5_readStep_41 ⟨Nat.le_of_ble_eq_true rfl, Nat.le_of_ble_eq_true rfl⟩)) (fun r104 hr104 => ?_)
        refine lv_istore_n (lv' := [(1, .int r104), (0, .ref a0)]) hx hb dX5_readStep_44 rfl hl (by decide) rfl (fun ls hl => ?_)
        refine lv_aload_n hx hb dX5_readStep_45 rfl (lv_at hl 1 rfl) ?_
        refine lv_dup hx hb dX5_readStep_46 rfl ?_
        refine th_get hx hb (ly_X5 hE) hown hK hP ha0.1 he101 rfl 4 (by decide) (wd_231 hE) (fun _ h9 => h9) rfl dX5_readStep_47 ?_
        refine lv_iconst (v := 1) hx hb dX5_readStep_50 (by decide) ?_
        refine lv_iadd hx hb dX5_readStep_51 ?_
        refine lv_topi (fun x105 ex105 => ?_)
        refine th_put (v := .int x105) (ty := .int) hx hb (ly_X5 hE) tyX5 tyX5_ok nmX5 hown hK hP hnd hAL hS ha0.1 he101 rfl 4 (by decide) (wd_231 hE) (fun _ h9 => h9) rfl (by decide +kernel) rfl rfl (Nat.le_of_ble_eq_true rfl) (up_X5 hok ha0 ⟨y3_101, x105, y5_101, y6_101, y7_101, y8_101, y9_101, rfl⟩) dX5_readStep_52 (fun f106 H locs hfa106 hfo106 hok hP hS => ?_)
        refine lv_iconst (v := 2) hx hb dX5_readStep_55 (by decide) ?_
        refine lv_aload_n hx hb dX5_readStep_56 rfl (lv_at hl 1 rfl) ?_
        refine vp_callSi (va_Run.run (va_runV (As := []) (rest := [.int 2]) ⟨hx, hb, hml, hown, noTs⟩ (t_X5_value l dC dI H.size G cs tt mm a0 ha0) ⟨cbE 0 (wd_569 hE) (wd_118 hE) (wd_566 hE) rfl rfl (by decide +kernel) ⟨Nat.le_of_ble_eq_true rfl, Nat.le_of_ble_eq_true rfl⟩, (wd_568 hE), (wd_11 hE)⟩ ⟨PT.blind, th_recv hK hP ha0.1 hfa106 rfl, (th_pre (av := [.ref a0]) trivial hK hP hok hnd hWT hE)⟩ rfl rfl hl.1 rfl (lv_room (Nat.le_of_ble_eq_true rfl)) dX5_readStep_57 ⟨Nat.le_of_ble_eq_true rfl, Nat.le_of_ble_eq_true rfl⟩)) (fun r107 hr107 => ?_)
        refine lv_imul hx hb dX5_readStep_60 ?_
        refine lv_topi (fun x108 ex108 => ?_)
        refine lv_iload_n hx hb dX5_readStep_61 rfl (lv_at hl 0 rfl) ?_
        refine lv_iadd hx hb dX5_readStep_62 ?_
        refine lv_topi (fun x109 ex109 => ?_)
        refine lv_istore_n (lv' := [(2, .int x109), (1, .int r104), (0, .ref a0)]) hx hb dX5_readStep_63 rfl hl (by decide) rfl (fun ls hl => ?_)
        refine lv_aload_n hx hb dX5_readStep_64 rfl (lv_at hl 2 rfl) ?_
        refine lv_bipush (v := 6) hx hb dX5_readStep_65 (by decide) ?_
        refine tc_i hAL hS hA (va_runV (As := [.int 6]) (rest := []) ⟨hx, hb, hml, hown, noTs⟩ (t_X5_stands l dC dI H.size G cs tt mm a0 ha0 6) ⟨cbE 1 (wd_577 hE) (wd_118 hE) (wd_574 hE) rfl rfl (by decide +kernel) ⟨Nat.le_of_ble_eq_true rfl, Nat.le_of_ble_eq_true rfl⟩, (wd_576 hE), (wd_12 hE)⟩ ⟨PT.blind, th_recv hK hP ha0.1 hfa106 rfl, (th_pre (av := [.ref a0, .int 6]) trivial hK hP hok hnd hWT hE)⟩ rfl rfl hl.1 rfl (lv_room (Nat.le_of_ble_eq_true rfl)) dX5_readStep_67 ⟨Nat.le_of_ble_eq_true rfl, Nat.le_of_ble_eq_true rfl⟩) (fun r110 f110 H locs hr110 hok hP hS => ?_)
        refine lv_if_eq (tgt := 119) hx hb dX5_readStep_70 (by decide) (fun c111 => ?_) (fun c111 => ?_)
        · exact W.vret hx hb hr (fun t ht hW => ⟨⟨f110, rfl, trivial, hok, by rw [ht]; exact hP⟩, hS.F ht⟩) hS.2.2 dX5_readStep_119
        · refine lv_aload_n hx hb dX5_readStep_73 rfl (lv_at hl 2 rfl) ?_
          refine lv_aload_n hx hb dX5_readStep_74 rfl (lv_at hl 2 rfl) ?_
          obtain ⟨y3_112, y4_112, y5_112, y6_112, y7_112, y8_112, y9_112, he112⟩ := ok_X5 hok ha0
          refine th_get hx hb (ly_X5 hE) hown hK hP ha0.1 he112 rfl 1 (by decide) (wd_228 hE) (fun _ h9 => h9) rfl dX5_readStep_75 ?_
          refine lv_iload_n hx hb dX5_readStep_78 rfl (lv_at hl 0 rfl) ?_
          refine lv_iconst (v := 1) hx hb dX5_readStep_79 (by decide) ?_
          refine lv_ishr hx hb dX5_readStep_80 ?_
          refine lv_topi (fun x113 _ => ?_)
          have he114 := ok_X7 hok (wt_X5_1 hWT ha0)
          refine vp_callSi (va_Run.run (va_runV (As := [.int x113]) (rest := [.ref a0]) ⟨hx, hb, hml, hown, noTs⟩ (t_X7_hasEdge l dC dI H.size G cs tt mm (gR G a0 1) ((wt_X5_1 hWT ha0)) x113) ⟨cbE 1 (wd_673 hE) (wd_116 hE) (wd_670 hE) rfl rfl (by decide +kernel) ⟨Nat.le_of_ble_eq_true rfl, Nat.le_of_ble_eq_true rfl⟩, (wd_671 hE), (wd_672 hE)⟩ ⟨PT.blind, th_recv hK hP (wt_X5_1 hWT ha0).1 he114 rfl, (th_pre (av := [.ref (gR G a0 1), .int x113]) trivial hK hP hok hnd hWT hE)⟩ rfl rfl hl.1 rfl (lv_room (Nat.le_of_ble_eq_true rfl)) dX5_readStep_81 ⟨Nat.le_of_ble_eq_true rfl, Nat.le_of_ble_eq_true rfl⟩)) (fun r115 hr115 => ?_)
          refine lv_iconst (v := 3) hx hb dX5_readStep_84 (by decide) ?_
          refine tc_i hAL hS hA (va_runV (As := [.int r115, .int 3]) (rest := []) ⟨hx, hb, hml, hown, noTs⟩ (t_X5_passes l dC dI H.size G cs tt mm a0 ha0 r115 3) ⟨cbE 2 (wd_561 hE) (wd_118 hE) (wd_558 hE) rfl rfl (by decide +kernel) ⟨Nat.le_of_ble_eq_true rfl, Nat.le_of_ble_eq_true rfl⟩, (wd_560 hE), (wd_10 hE)⟩ ⟨PT.blind, th_recv hK hP ha0.1 he112 rfl, (th_pre (av := [.ref a0, .int r115, .int 3]) trivial hK hP hok hnd hWT hE)⟩ rfl rfl hl.1 rfl (lv_room (Nat.le_of_ble_eq_true rfl)) dX5_readStep_85 ⟨Nat.le_of_ble_eq_true rfl, Nat.le_of_ble_eq_true rfl⟩) (fun r116 f116 H locs hr116 hok hP hS => ?_)
          refine lv_if_eq (tgt := 119) hx hb dX5_readStep_88 (by decide) (fun c117 => ?_) (fun c117 => ?_)
          · exact W.vret hx hb hr (fun t ht hW => ⟨⟨f116, rfl, trivial, hok, by rw [ht]; exact hP⟩, hS.F ht⟩) hS.2.2 dX5_readStep_119
          · refine lv_aload_n hx hb dX5_readStep_91 rfl (lv_at hl 2 rfl) ?_
            refine lv_aload_n hx hb dX5_readStep_92 rfl (lv_at hl 2 rfl) ?_
            obtain ⟨y3_118, y4_118, y5_118, y6_118, y7_118, y8_118, y9_118, he118⟩ := ok_X5 hok ha0
            refine th_get hx hb (ly_X5 hE) hown hK hP ha0.1 he118 rfl 1 (by decide) (wd_228 hE) (fun _ h9 => h9) rfl dX5_readStep_93 ?_
            refine lv_iload_n hx hb dX5_readStep_96 rfl (lv_at hl 0 rfl) ?_
            have he119 := ok_X7 hok (wt_X5_1 hWT ha0)
            refine vp_callSi (va_Run.run (va_runV (As := [.int x109]) (rest := [.ref a0]) ⟨hx, hb, hml, hown, noTs⟩ (t_X7_fromVertex l dC dI H.size G cs tt mm (gR G a0 1) ((wt_X5_1 hWT ha0)) x109) ⟨cbE 1 (wd_677 hE) (wd_116 hE) (wd_674 hE) rfl rfl (by decide +kernel) ⟨Nat.le_of_ble_eq_true rfl, Nat.le_of_ble_eq_true rfl⟩, (wd_675 hE), (wd_676 hE)⟩ ⟨PT.blind, th_recv hK hP (wt_X5_1 hWT ha0).1 he119 rfl, (th_pre (av := [.ref (gR G a0 1), .int x109]) trivial hK hP hok hnd hWT hE)⟩ rfl rfl hl.1 rfl (lv_room (Nat.le_of_ble_eq_true rfl)) dX5_readStep_97 ⟨Nat.le_of_ble_eq_true rfl, Nat.le_of_ble_eq_true rfl⟩)) (fun r120 hr120 => ?_)
            refine lv_aload_n hx hb dX5_readStep_100 rfl (lv_at hl 2 rfl) ?_
            refine th_get hx hb (ly_X5 hE) hown hK hP ha0.1 he118 rfl 5 (by decide) (wd_232 hE) (fun _ h9 => h9) rfl dX5_readStep_101 ?_
            refine lv_icmp_ne (tgt := 111) hx hb dX5_readStep_104 (by decide) (fun c121 => ?_) (fun c121 => ?_)
            · refine lv_iconst (v := 0) hx hb dX5_readStep_111 (by decide) ?_
              refine lv_iconst (v := 5) hx hb dX5_readStep_112 (by decide) ?_
              refine tc_i hAL hS hA (va_runV (As := [.int 0, .int 5]) (rest := []) ⟨hx, hb, hml, hown, noTs⟩ (t_X5_passes l dC dI H.size G cs tt mm a0 ha0 0 5) ⟨cbE 2 (wd_561 hE) (wd_118 hE) (wd_558 hE) rfl rfl (by decide +kernel) ⟨Nat.le_of_ble_eq_true rfl, Nat.le_of_ble_eq_true rfl⟩, (wd_560 hE), (wd_10 hE)⟩ ⟨PT.blind, th_recv hK hP ha0.1 he118 rfl, (th_pre (av := [.ref a0, .int 0, .int 5]) trivial hK hP hok hnd hWT hE)⟩ rfl rfl hl.1 rfl (lv_room (Nat.le_of_ble_eq_true rfl)) dX5_readStep_113 ⟨Nat.le_of_ble_eq_true rfl, Nat.le_of_ble_eq_true rfl⟩) (fun r122 f122 H locs hr122 hok hP hS => ?_)
              refine lv_if_ne (tgt := 120) hx hb dX5_readStep_116 (by decide) (fun c123 => ?_) (fun c123 => ?_)
              · refine lv_aload_n hx hb dX5_readStep_120 rfl (lv_at hl 2 rfl) ?_
                obtain ⟨y3_124, y4_124, y5_124, y6_124, y7_124, y8_124, y9_124, he124⟩ := ok_X5 hok ha0
                refine th_get hx hb (ly_X5 hE) hown hK hP ha0.1 he124 rfl 2 (by decide) (wd_229 hE) (fun _ h9 => h9) rfl dX5_readStep_121 ?_
                refine lv_iload_n hx hb dX5_readStep_124 rfl (lv_at hl 0 rfl) ?_
                refine lv_iconst (v := 0) hx hb dX5_readStep_125 (by decide) ?_
                obtain ⟨y2_125, y3_125, hy3_125, he125⟩ := ok_X10 hok (wt_X5_2 hWT ha0)
                refine tc_v hAL hS hA (va_runV (As := [.int x109, .int 0]) (rest := []) ⟨hx, hb, hml, hown, noTs⟩ (t_X10_push l dC dI H.size G cs tt mm (gR G a0 2) ((wt_X5_2 hWT ha0)) x109 0) ⟨cbE 2 (wd_688 hE) (wd_120 hE) (wd_685 hE) rfl rfl (by decide +kernel) ⟨Nat.le_of_ble_eq_true rfl, Nat.le_of_ble_eq_true rfl⟩, (wd_686 hE), (wd_687 hE)⟩ ⟨PT.blind, th_recv hK hP (wt_X5_2 hWT ha0).1 he125 rfl, (th_pre (av := [.ref (gR G a0 2), .int x109, .int 0]) trivial hK hP hok hnd hWT hE)⟩ rfl rfl hl.1 rfl (lv_room (Nat.le_of_ble_eq_true rfl)) dX5_readStep_126 ⟨Nat.le_of_ble_eq_true rfl, Nat.le_of_ble_eq_true rfl⟩) (fun f126 H locs hr126 hok hP hS => ?_)
                refine lv_aload_n hx hb dX5_readStep_129 rfl (lv_at hl 2 rfl) ?_
                refine lv_aload_n hx hb dX5_readStep_130 rfl (lv_at hl 2 rfl) ?_
                obtain ⟨y3_127, y4_127, y5_127, y6_127, y7_127, y8_127, y9_127, he127⟩ := ok_X5 hok ha0
                refine th_get hx hb (ly_X5 hE) hown hK hP ha0.1 he127 rfl 1 (by decide) (wd_228 hE) (fun _ h9 => h9) rfl dX5_readStep_131 ?_
                refine lv_iload_n hx hb dX5_readStep_134 rfl (lv_at hl 0 rfl) ?_
                have he128 := ok_X7 hok (wt_X5_1 hWT ha0)
                refine vp_callSi (va_Run.run (va_runV (As := [.int x109]) (rest := [.ref a0]) ⟨hx, hb, hml, hown, noTs⟩ (t_X7_toVertex l dC dI H.size G cs tt mm (gR G a0 1) ((wt_X5_1 hWT ha0)) x109) ⟨cbE 1 (wd_692 hE) (wd_116 hE) (wd_689 hE) rfl rfl (by decide +kernel) ⟨Nat.le_of_ble_eq_true rfl, Nat.le_of_ble_eq_true rfl⟩, (wd_690 hE), (wd_691 hE)⟩ ⟨PT.blind, th_recv hK hP (wt_X5_1 hWT ha0).1 he128 rfl, (th_pre (av := [.ref (gR G a0 1), .int x109]) trivial hK hP hok hnd hWT hE)⟩ rfl rfl hl.1 rfl (lv_room (Nat.le_of_ble_eq_true rfl)) dX5_readStep_135 ⟨Nat.le_of_ble_eq_true rfl, Nat.le_of_ble_eq_true rfl⟩)) (fun r129 hr129 => ?_)
                refine th_put (v := .int r129) (ty := .int) hx hb (ly_X5 hE) tyX5 tyX5_ok nmX5 hown hK hP hnd hAL hS ha0.1 he127 rfl 5 (by decide) (wd_232 hE) (fun _ h9 => h9) rfl (by decide +kernel) rfl rfl (Nat.le_of_ble_eq_true rfl) (up_X5 hok ha0 ⟨y3_127, y4_127, r129, y6_127, y7_127, y8_127, y9_127, rfl⟩) dX5_readStep_138 (fun f130 H locs hfa130 hfo130 hok hP hS => ?_)
                have he131 := (hfo130 (gR G a0 1) (Ty.ne (wt_X5_1 hWT ha0) ha0 (by decide))).trans he128
                refine lv_aload_n hx hb dX5_readStep_141 rfl (lv_at hl 2 rfl) ?_
                refine lv_dup hx hb dX5_readStep_142 rfl ?_
                refine th_get hx hb (ly_X5 hE) hown hK hP ha0.1 hfa130 rfl 4 (by decide) (wd_231 hE) (fun _ h9 => h9) rfl dX5_readStep_143 ?_
                refine lv_iconst (v := 1) hx hb dX5_readStep_146 (by decide) ?_
                refine lv_iadd hx hb dX5_readStep_147 ?_
                refine lv_topi (fun x132 ex132 => ?_)
                refine th_put (v := .int x132) (ty := .int) hx hb (ly_X5 hE) tyX5 tyX5_ok nmX5 hown hK hP hnd hAL hS ha0.1 hfa130 rfl 4 (by decide) (wd_231 hE) (fun _ h9 => h9) rfl (by decide +kernel) rfl rfl (Nat.le_of_ble_eq_true rfl) (up_X5 hok ha0 ⟨y3_127, x132, r129, y6_127, y7_127, y8_127, y9_127, rfl⟩) dX5_readStep_148 (fun f133 H locs hfa133 hfo133 hok hP hS => ?_)
                have he134 := (hfo133 (gR G a0 1) (Ty.ne (wt_X5_1 hWT ha0) ha0 (by decide))).trans he131
                exact W.vret hx hb hr (fun t ht hW => ⟨⟨f133, rfl, trivial, hok, by rw [ht]; exact hP⟩, hS.F ht⟩) hS.2.2 dX5_readStep_151
              · exact W.vret hx hb hr (fun t ht hW => ⟨⟨f122, rfl, trivial, hok, by rw [ht]; exact hP⟩, hS.F ht⟩) hS.2.2 dX5_readStep_119
            · refine lv_iconst (v := 1) hx hb dX5_readStep_107 (by decide) ?_
              refine lv_goto (tgt := 112) hx hb dX5_readStep_108 (by decide) ?_
              refine lv_iconst (v := 5) hx hb dX5_readStep_112 (by decide) ?_
              refine tc_i hAL hS hA (va_runV (As := [.int 1, .int 5]) (rest := []) ⟨hx, hb, hml, hown, noTs⟩ (t_X5_passes l dC dI H.size G cs tt mm a0 ha0 1 5) ⟨cbE 2 (wd_561 hE) (wd_118 hE) (wd_558 hE) rfl rfl (by decide +kernel) ⟨Nat.le_of_ble_eq_true rfl, Nat.le_of_ble_eq_true rfl⟩, (wd_560 hE), (wd_10 hE)⟩ ⟨PT.blind, th_recv hK hP ha0.1 he118 rfl, (th_pre (av := [.ref a0, .int 1, .int 5]) trivial hK hP hok hnd hWT hE)⟩ rfl rfl hl.1 rfl (lv_room (Nat.le_of_ble_eq_true rfl)) dX5_readStep_113 ⟨Nat.le_of_ble_eq_true rfl, Nat.le_of_ble_eq_true rfl⟩) (fun r135 f135 H locs hr135 hok hP hS => ?_)
              refine lv_if_ne (tgt := 120) hx hb dX5_readStep_116 (by decide) (fun c136 => ?_) (fun c136 => ?_)
              · refine lv_aload_n hx hb dX5_readStep_120 rfl (lv_at hl 2 rfl) ?_
                obtain ⟨y3_137, y4_137, y5_137, y6_137, y7_137, y8_137, y9_137, he137⟩ := ok_X5 hok ha0
                refine th_get hx hb (ly_X5 hE) hown hK hP ha0.1 he137 rfl 2 (by decide) (wd_229 hE) (fun _ h9 => h9) rfl dX5_readStep_121 ?_
                refine lv_iload_n hx hb dX5_readStep_124 rfl (lv_at hl 0 rfl) ?_
                refine lv_iconst (v := 0) hx hb dX5_readStep_125 (by decide) ?_
                obtain ⟨y2_138, y3_138, hy3_138, he138⟩ := ok_X10 hok (wt_X5_2 hWT ha0)
                refine tc_v hAL hS hA (va_runV (As := [.int x109, .int 0]) (rest := []) ⟨hx, hb, hml, hown, noTs⟩ (t_X10_push l dC dI H.size G cs tt mm (gR G a0 2) ((wt_X5_2 hWT ha0)) x109 0) ⟨cbE 2 (wd_688 hE) (wd_120 hE) (wd_685 hE) rfl rfl (by decide +kernel) ⟨Nat.le_of_ble_eq_true rfl, Nat.le_of_ble_eq_true rfl⟩, (wd_686 hE), (wd_687 hE)⟩ ⟨PT.blind, th_recv hK hP (wt_X5_2 hWT ha0).1 he138 rfl, (th_pre (av := [.ref (gR G a0 2), .int x109, .int 0]) trivial hK hP hok hnd hWT hE)⟩ rfl rfl hl.1 rfl (lv_room (Nat.le_of_ble_eq_true rfl)) dX5_readStep_126 ⟨Nat.le_of_ble_eq_true rfl, Nat.le_of_ble_eq_true rfl⟩) (fun f139 H locs hr139 hok hP hS => ?_)
                refine lv_aload_n hx hb dX5_readStep_129 rfl (lv_at hl 2 rfl) ?_
                refine lv_aload_n hx hb dX5_readStep_130 rfl (lv_at hl 2 rfl) ?_
                obtain ⟨y3_140, y4_140, y5_140, y6_140, y7_140, y8_140, y9_140, he140⟩ := ok_X5 hok ha0
                refine th_get hx hb (ly_X5 hE) hown hK hP ha0.1 he140 rfl 1 (by decide) (wd_228 hE) (fun _ h9 => h9) rfl dX5_readStep_131 ?_
                refine lv_iload_n hx hb dX5_readStep_134 rfl (lv_at hl 0 rfl) ?_
                have he141 := ok_X7 hok (wt_X5_1 hWT ha0)
                refine vp_callSi (va_Run.run (va_runV (As := [.int x109]) (rest := [.ref a0]) ⟨hx, hb, hml, hown, noTs⟩ (t_X7_toVertex l dC dI H.size G cs tt mm (gR G a0 1) ((wt_X5_1 hWT ha0)) x109) ⟨cbE 1 (wd_692 hE) (wd_116 hE) (wd_689 hE) rfl rfl (by decide +kernel) ⟨Nat.le_of_ble_eq_true rfl, Nat.le_of_ble_eq_true rfl⟩, (wd_690 hE), (wd_691 hE)⟩ ⟨PT.blind, th_recv hK hP (wt_X5_1 hWT ha0).1 he141 rfl, (th_pre (av := [.ref (gR G a0 1), .int x109]) trivial hK hP hok hnd hWT hE)⟩ rfl rfl hl.1 rfl (lv_room (Nat.le_of_ble_eq_true rfl)) dX5_readStep_135 ⟨Nat.le_of_ble_eq_true rfl, Nat.le_of_ble_eq_true rfl⟩)) (fun r142 hr142 => ?_)
                refine th_put (v := .int r142) (ty := .int) hx hb (ly_X5 hE) tyX5 tyX5_ok nmX5 hown hK hP hnd hAL hS ha0.1 he140 rfl 5 (by decide) (wd_232 hE) (fun _ h9 => h9) rfl (by decide +kernel) rfl rfl (Nat.le_of_ble_eq_true rfl) (up_X5 hok ha0 ⟨y3_140, y4_140, r142, y6_140, y7_140, y8_140, y9_140, rfl⟩) dX5_readStep_138 (fun f143 H locs hfa143 hfo143 hok hP hS => ?_)
                have he144 := (hfo143 (gR G a0 1) (Ty.ne (wt_X5_1 hWT ha0) ha0 (by decide))).trans he141
                refine lv_aload_n hx hb dX5_readStep_141 rfl (lv_at hl 2 rfl) ?_
                refine lv_dup hx hb dX5_readStep_142 rfl ?_
                refine th_get hx hb (ly_X5 hE) hown hK hP ha0.1 hfa143 rfl 4 (by decide) (wd_231 hE) (fun _ h9 => h9) rfl dX5_readStep_143 ?_
                refine lv_iconst (v := 1) hx hb dX5_readStep_146 (by decide) ?_
                refine lv_iadd hx hb dX5_readStep_147 ?_
                refine lv_topi (fun x145 ex145 => ?_)
                refine th_put (v := .int x145) (ty := .int) hx hb (ly_X5 hE) tyX5 tyX5_ok nmX5 hown hK hP hnd hAL hS ha0.1 hfa143 rfl 4 (by decide) (wd_231 hE) (fun _ h9 => h9) rfl (by decide +kernel) rfl rfl (Nat.le_of_ble_eq_true rfl) (up_X5 hok ha0 ⟨y3_140, x145, r142, y6_140, y7_140, y8_140, y9_140, rfl⟩) dX5_readStep_148 (fun f146 H locs hfa146 hfo146 hok hP hS => ?_)
                have he147 := (hfo146 (gR G a0 1) (Ty.ne (wt_X5_1 hWT ha0) ha0 (by decide))).trans he144
                exact W.vret hx hb hr (fun t ht hW => ⟨⟨f146, rfl, trivial, hok, by rw [ht]; exact hP⟩, hS.F ht⟩) hS.2.2 dX5_readStep_151
              · exact W.vret hx hb hr (fun t ht hW => ⟨⟨f135, rfl, trivial, hok, by rw [ht]; exact hP⟩, hS.F ht⟩) hS.2.2 dX5_readStep_119
      · refine lv_iconst (v := 1) hx hb dX5_readStep_36 (by decide) ?_
        refine lv_goto (tgt := 41) hx hb dX5_readStep_37 (by decide) ?_
        refine vp_callSi (va_Run.run (va_runSN (As := [.int 1]) (rest := []) ⟨hx, hb, hml, hown, noTs⟩ (t_X11_bit l dC dI H.size G cs tt mm 1) ⟨cnE 1 (wd_669 hE) (wd_115 hE) (wd_667 hE) rfl rfl (by decide +kernel) ⟨Nat.le_of_ble_eq_true rfl, Nat.le_of_ble_eq_true rfl⟩, (wd_668 hE), trivial⟩ ⟨PT.blind, (th_pre (av := [.int 1]) trivial hK hP hok hnd hWT hE)⟩ rfl rfl hl.1 rfl (lv_room (Nat.le_of_ble_eq_true rfl)) dX5_readStep_41 ⟨Nat.le_of_ble_eq_true rfl, Nat.le_of_ble_eq_true rfl⟩)) (fun r148 hr148 => ?_)
        refine lv_istore_n (lv' := [(1, .int r148), (0, .ref a0)]) hx hb dX5_readStep_44 rfl hl (by decide) rfl (fun ls hl => ?_)
        refine lv_aload_n hx hb dX5_readStep_45 rfl (lv_at hl 1 rfl) ?_
        refine lv_dup hx hb dX5_readStep_46 rfl ?_
        refine th_get hx hb (ly_X5 hE) hown hK hP ha0.1 he101 rfl 4 (by decide) (wd_231 hE) (fun _ h9 => h9) rfl dX5_readStep_47 ?_
        refine lv_iconst (v := 1) hx hb dX5_readStep_50 (by decide) ?_
        refine lv_iadd hx hb dX5_readStep_51 ?_
        refine lv_topi (fun x149 ex149 => ?_)
        refine th_put (v := .int x149) (ty := .int) hx hb (ly_X5 hE) tyX5 tyX5_ok nmX5 hown hK hP hnd hAL hS ha0.1 he101 rfl 4 (by decide) (wd_231 hE) (fun _ h9 => h9) rfl (by decide +kernel) rfl rfl (Nat.le_of_ble_eq_true rfl) (up_X5 hok ha0 ⟨y3_101, x149, y5_101, y6_101, y7_101, y8_101, y9_101, rfl⟩) dX5_readStep_52 (fun f150 H locs hfa150 hfo150 hok hP hS => ?_)
        refine lv_iconst (v := 2) hx hb dX5_readStep_55 (by decide) ?_
        refine lv_aload_n hx hb dX5_readStep_56 rfl (lv_at hl 1 rfl) ?_
        refine vp_callSi (va_Run.run (va_runV (As := []) (rest := [.int 2]) ⟨hx, hb, hml, hown, noTs⟩ (t_X5_value l dC dI H.size G cs tt mm a0 ha0) ⟨cbE 0 (wd_569 hE) (wd_118 hE) (wd_566 hE) rfl rfl (by decide +kernel) ⟨Nat.le_of_ble_eq_true rfl, Nat.le_of_ble_eq_true rfl⟩, (wd_568 hE), (wd_11 hE)⟩ ⟨PT.blind, th_recv hK hP ha0.1 hfa150 rfl, (th_pre (av := [.ref a0]) trivial hK hP hok hnd hWT hE)⟩ rfl rfl hl.1 rfl (lv_room (Nat.le_of_ble_eq_true rfl)) dX5_readStep_57 ⟨Nat.le_of_ble_eq_true rfl, Nat.le_of_ble_eq_true rfl⟩)) (fun r151 hr151 => ?_)
        refine lv_imul hx hb dX5_readStep_60 ?_
        refine lv_topi (fun x152 ex152 => ?_)
        refine lv_iload_n hx hb dX5_readStep_61 rfl (lv_at hl 0 rfl) ?_
        refine lv_iadd hx hb dX5_readStep_62 ?_
        refine lv_topi (fun x153 ex153 => ?_)
        refine lv_istore_n (lv' := [(2, .int x153), (1, .int r148), (0, .ref a0)]) hx hb dX5_readStep_63 rfl hl (by decide) rfl (fun ls hl => ?_)
        refine lv_aload_n hx hb dX5_readStep_64 rfl (lv_at hl 2 rfl) ?_
        refine lv_bipush (v := 6) hx hb dX5_readStep_65 (by decide) ?_
        refine tc_i hAL hS hA (va_runV (As := [.int 6]) (rest := []) ⟨hx, hb, hml, hown, noTs⟩ (t_X5_stands l dC dI H.size G cs tt mm a0 ha0 6) ⟨cbE 1 (wd_577 hE) (wd_118 hE) (wd_574 hE) rfl rfl (by decide +kernel) ⟨Nat.le_of_ble_eq_true rfl, Nat.le_of_ble_eq_true rfl⟩, (wd_576 hE), (wd_12 hE)⟩ ⟨PT.blind, th_recv hK hP ha0.1 hfa150 rfl, (th_pre (av := [.ref a0, .int 6]) trivial hK hP hok hnd hWT hE)⟩ rfl rfl hl.1 rfl (lv_room (Nat.le_of_ble_eq_true rfl)) dX5_readStep_67 ⟨Nat.le_of_ble_eq_true rfl, Nat.le_of_ble_eq_true rfl⟩) (fun r154 f154 H locs hr154 hok hP hS => ?_)
        refine lv_if_eq (tgt := 119) hx hb dX5_readStep_70 (by decide) (fun c155 => ?_) (fun c155 => ?_)
        · exact W.vret hx hb hr (fun t ht hW => ⟨⟨f154, rfl, trivial, hok, by rw [ht]; exact hP⟩, hS.F ht⟩) hS.2.2 dX5_readStep_119
        · refine lv_aload_n hx hb dX5_readStep_73 rfl (lv_at hl 2 rfl) ?_
          refine lv_aload_n hx hb dX5_readStep_74 rfl (lv_at hl 2 rfl) ?_
          obtain ⟨y3_156, y4_156, y5_156, y6_156, y7_156, y8_156, y9_156, he156⟩ := ok_X5 hok ha0
          refine th_get hx hb (ly_X5 hE) hown hK hP ha0.1 he156 rfl 1 (by decide) (wd_228 hE) (fun _ h9 => h9) rfl dX5_readStep_75 ?_
          refine lv_iload_n hx hb dX5_readStep_78 rfl (lv_at hl 0 rfl) ?_
          refine lv_iconst (v := 1) hx hb dX5_readStep_79 (by decide) ?_
          refine lv_ishr hx hb dX5_readStep_80 ?_
          refine lv_topi (fun x157 _ => ?_)
          have he158 := ok_X7 hok (wt_X5_1 hWT ha0)
          refine vp_callSi (va_Run.run (va_runV (As := [.int x157]) (rest := [.ref a0]) ⟨hx, hb, hml, hown, noTs⟩ (t_X7_hasEdge l dC dI H.size G cs tt mm (gR G a0 1) ((wt_X5_1 hWT ha0)) x157) ⟨cbE 1 (wd_673 hE) (wd_116 hE) (wd_670 hE) rfl rfl (by decide +kernel) ⟨Nat.le_of_ble_eq_true rfl, Nat.le_of_ble_eq_true rfl⟩, (wd_671 hE), (wd_672 hE)⟩ ⟨PT.blind, th_recv hK hP (wt_X5_1 hWT ha0).1 he158 rfl, (th_pre (av := [.ref (gR G a0 1), .int x157]) trivial hK hP hok hnd hWT hE)⟩ rfl rfl hl.1 rfl (lv_room (Nat.le_of_ble_eq_true rfl)) dX5_readStep_81 ⟨Nat.le_of_ble_eq_true rfl, Nat.le_of_ble_eq_true rfl⟩)) (fun r159 hr159 => ?_)
          refine lv_iconst (v := 3) hx hb dX5_readStep_84 (by decide) ?_
          refine tc_i hAL hS hA (va_runV (As := [.int r159, .int 3]) (rest := []) ⟨hx, hb, hml, hown, noTs⟩ (t_X5_passes l dC dI H.size G cs tt mm a0 ha0 r159 3) ⟨cbE 2 (wd_561 hE) (wd_118 hE) (wd_558 hE) rfl rfl (by decide +kernel) ⟨Nat.le_of_ble_eq_true rfl, Nat.le_of_ble_eq_true rfl⟩, (wd_560 hE), (wd_10 hE)⟩ ⟨PT.blind, th_recv hK hP ha0.1 he156 rfl, (th_pre (av := [.ref a0, .int r159, .int 3]) trivial hK hP hok hnd hWT hE)⟩ rfl rfl hl.1 rfl (lv_room (Nat.le_of_ble_eq_true rfl)) dX5_readStep_85 ⟨Nat.le_of_ble_eq_true rfl, Nat.le_of_ble_eq_true rfl⟩) (fun r160 f160 H locs hr160 hok hP hS => ?_)
          refine lv_if_eq (tgt := 119) hx hb dX5_readStep_88 (by decide) (fun c161 => ?_) (fun c161 => ?_)
          · exact W.vret hx hb hr (fun t ht hW => ⟨⟨f160, rfl, trivial, hok, by rw [ht]; exact hP⟩, hS.F ht⟩) hS.2.2 dX5_readStep_119
          · refine lv_aload_n hx hb dX5_readStep_91 rfl (lv_at hl 2 rfl) ?_
            refine lv_aload_n hx hb dX5_readStep_92 rfl (lv_at hl 2 rfl) ?_
            obtain ⟨y3_162, y4_162, y5_162, y6_162, y7_162, y8_162, y9_162, he162⟩ := ok_X5 hok ha0
            refine th_get hx hb (ly_X5 hE) hown hK hP ha0.1 he162 rfl 1 (by decide) (wd_228 hE) (fun _ h9 => h9) rfl dX5_readStep_93 ?_
            refine lv_iload_n hx hb dX5_readStep_96 rfl (lv_at hl 0 rfl) ?_
            have he163 := ok_X7 hok (wt_X5_1 hWT ha0)
            refine vp_callSi (va_Run.run (va_runV (As := [.int x153]) (rest := [.ref a0]) ⟨hx, hb, hml, hown, noTs⟩ (t_X7_fromVertex l dC dI H.size G cs tt mm (gR G a0 1) ((wt_X5_1 hWT ha0)) x153) ⟨cbE 1 (wd_677 hE) (wd_116 hE) (wd_674 hE) rfl rfl (by decide +kernel) ⟨Nat.le_of_ble_eq_true rfl, Nat.le_of_ble_eq_true rfl⟩, (wd_675 hE), (wd_676 hE)⟩ ⟨PT.blind, th_recv hK hP (wt_X5_1 hWT ha0).1 he163 rfl, (th_pre (av := [.ref (gR G a0 1), .int x153]) trivial hK hP hok hnd hWT hE)⟩ rfl rfl hl.1 rfl (lv_room (Nat.le_of_ble_eq_true rfl)) dX5_readStep_97 ⟨Nat.le_of_ble_eq_true rfl, Nat.le_of_ble_eq_true rfl⟩)) (fun r164 hr164 => ?_)
            refine lv_aload_n hx hb dX5_readStep_100 rfl (lv_at hl 2 rfl) ?_
            refine th_get hx hb (ly_X5 hE) hown hK hP ha0.1 he162 rfl 5 (by decide) (wd_232 hE) (fun _ h9 => h9) rfl dX5_readStep_101 ?_
            refine lv_icmp_ne (tgt := 111) hx hb dX5_readStep_104 (by decide) (fun c165 => ?_) (fun c165 => ?_)
            · refine lv_iconst (v := 0) hx hb dX5_readStep_111 (by decide) ?_
              refine lv_iconst (v := 5) hx hb dX5_readStep_112 (by decide) ?_
              refine tc_i hAL hS hA (va_runV (As := [.int 0, .int 5]) (rest := []) ⟨hx, hb, hml, hown, noTs⟩ (t_X5_passes l dC dI H.size G cs tt mm a0 ha0 0 5) ⟨cbE 2 (wd_561 hE) (wd_118 hE) (wd_558 hE) rfl rfl (by decide +kernel) ⟨Nat.le_of_ble_eq_true rfl, Nat.le_of_ble_eq_true rfl⟩, (wd_560 hE), (wd_10 hE)⟩ ⟨PT.blind, th_recv hK hP ha0.1 he162 rfl, (th_pre (av := [.ref a0, .int 0, .int 5]) trivial hK hP hok hnd hWT hE)⟩ rfl rfl hl.1 rfl (lv_room (Nat.le_of_ble_eq_true rfl)) dX5_readStep_113 ⟨Nat.le_of_ble_eq_true rfl, Nat.le_of_ble_eq_true rfl⟩) (fun r166 f166 H locs hr166 hok hP hS => ?_)
              refine lv_if_ne (tgt := 120) hx hb dX5_readStep_116 (by decide) (fun c167 => ?_) (fun c167 => ?_)
              · refine lv_aload_n hx hb dX5_readStep_120 rfl (lv_at hl 2 rfl) ?_
                obtain ⟨y3_168, y4_168, y5_168, y6_168, y7_168, y8_168, y9_168, he168⟩ := ok_X5 hok ha0
                refine th_get hx hb (ly_X5 hE) hown hK hP ha0.1 he168 rfl 2 (by decide) (wd_229 hE) (fun _ h9 => h9) rfl dX5_readStep_121 ?_
                refine lv_iload_n hx hb dX5_readStep_124 rfl (lv_at hl 0 rfl) ?_
                refine lv_iconst (v := 0) hx hb dX5_readStep_125 (by decide) ?_
                obtain ⟨y2_169, y3_169, hy3_169, he169⟩ := ok_X10 hok (wt_X5_2 hWT ha0)
                refine tc_v hAL hS hA (va_runV (As := [.int x153, .int 0]) (rest := []) ⟨hx, hb, hml, hown, noTs⟩ (t_X10_push l dC dI H.size G cs tt mm (gR G a0 2) ((wt_X5_2 hWT ha0)) x153 0) ⟨cbE 2 (wd_688 hE) (wd_120 hE) (wd_685 hE) rfl rfl (by decide +kernel) ⟨Nat.le_of_ble_eq_true rfl, Nat.le_of_ble_eq_true rfl⟩, (wd_686 hE), (wd_687 hE)⟩ ⟨PT.blind, th_recv hK hP (wt_X5_2 hWT ha0).1 he169 rfl, (th_pre (av := [.ref (gR G a0 2), .int x153, .int 0]) trivial hK hP hok hnd hWT hE)⟩ rfl rfl hl.1 rfl (lv_room (Nat.le_of_ble_eq_true rfl)) dX5_readStep_126 ⟨Nat.le_of_ble_eq_true rfl, Nat.le_of_ble_eq_true rfl⟩) (fun f170 H locs hr170 hok hP hS => ?_)
                refine lv_aload_n hx hb dX5_readStep_129 rfl (lv_at hl 2 rfl) ?_
                refine lv_aload_n hx hb dX5_readStep_130 rfl (lv_at hl 2 rfl) ?_
                obtain ⟨y3_171, y4_171, y5_171, y6_171, y7_171, y8_171, y9_171, he171⟩ := ok_X5 hok ha0
                refine th_get hx hb (ly_X5 hE) hown hK hP ha0.1 he171 rfl 1 (by decide) (wd_228 hE) (fun _ h9 => h9) rfl dX5_readStep_131 ?_
                refine lv_iload_n hx hb dX5_readStep_134 rfl (lv_at hl 0 rfl) ?_
                have he172 := ok_X7 hok (wt_X5_1 hWT ha0)
                refine vp_callSi (va_Run.run (va_runV (As := [.int x153]) (rest := [.ref a0]) ⟨hx, hb, hml, hown, noTs⟩ (t_X7_toVertex l dC dI H.size G cs tt mm (gR G a0 1) ((wt_X5_1 hWT ha0)) x153) ⟨cbE 1 (wd_692 hE) (wd_116 hE) (wd_689 hE) rfl rfl (by decide +kernel) ⟨Nat.le_of_ble_eq_true rfl, Nat.le_of_ble_eq_true rfl⟩, (wd_690 hE), (wd_691 hE)⟩ ⟨PT.blind, th_recv hK hP (wt_X5_1 hWT ha0).1 he172 rfl, (th_pre (av := [.ref (gR G a0 1), .int x153]) trivial hK hP hok hnd hWT hE)⟩ rfl rfl hl.1 rfl (lv_room (Nat.le_of_ble_eq_true rfl)) dX5_readStep_135 ⟨Nat.le_of_ble_eq_true rfl, Nat.le_of_ble_eq_true rfl⟩)) (fun r173 hr173 => ?_)
                refine th_put (v := .int r173) (ty := .int) hx hb (ly_X5 hE) tyX5 tyX5_ok nmX5 hown hK hP hnd hAL hS ha0.1 he171 rfl 5 (by decide) (wd_232 hE) (fun _ h9 => h9) rfl (by decide +kernel) rfl rfl (Nat.le_of_ble_eq_true rfl) (up_X5 hok ha0 ⟨y3_171, y4_171, r173, y6_171, y7_171, y8_171, y9_171, rfl⟩) dX5_readStep_138 (fun f174 H locs hfa174 hfo174 hok hP hS => ?_)
                have he175 := (hfo174 (gR G a0 1) (Ty.ne (wt_X5_1 hWT ha0) ha0 (by decide))).trans he172
                refine lv_aload_n hx hb dX5_readStep_141 rfl (lv_at hl 2 rfl) ?_
                refine lv_dup hx hb dX5_readStep_142 rfl ?_
                refine th_get hx hb (ly_X5 hE) hown hK hP ha0.1 hfa174 rfl 4 (by decide) (wd_231 hE) (fun _ h9 => h9) rfl dX5_readStep_143 ?_
                refine lv_iconst (v := 1) hx hb dX5_readStep_146 (by decide) ?_
                refine lv_iadd hx hb dX5_readStep_147 ?_
                refine lv_topi (fun x176 ex176 => ?_)
                refine th_put (v := .int x176) (ty := .int) hx hb (ly_X5 hE) tyX5 tyX5_ok nmX5 hown hK hP hnd hAL hS ha0.1 hfa174 rfl 4 (by decide) (wd_231 hE) (fun _ h9 => h9) rfl (by decide +kernel) rfl rfl (Nat.le_of_ble_eq_true rfl) (up_X5 hok ha0 ⟨y3_171, x176, r173, y6_171, y7_171, y8_171, y9_171, rfl⟩) dX5_readStep_148 (fun f177 H locs hfa177 hfo177 hok hP hS => ?_)
                have he178 := (hfo177 (gR G a0 1) (Ty.ne (wt_X5_1 hWT ha0) ha0 (by decide))).trans he175
                exact W.vret hx hb hr (fun t ht hW => ⟨⟨f177, rfl, trivial, hok, by rw [ht]; exact hP⟩, hS.F ht⟩) hS.2.2 dX5_readStep_151
              · exact W.vret hx hb hr (fun t ht hW => ⟨⟨f166, rfl, trivial, hok, by rw [ht]; exact hP⟩, hS.F ht⟩) hS.2.2 dX5_readStep_119
            · refine lv_iconst (v := 1) hx hb dX5_readStep_107 (by decide) ?_
              refine lv_goto (tgt := 112) hx hb dX5_readStep_108 (by decide) ?_
              refine lv_iconst (v := 5) hx hb dX5_readStep_112 (by decide) ?_
              refine tc_i hAL hS hA (va_runV (As := [.int 1, .int 5]) (rest := []) ⟨hx, hb, hml, hown, noTs⟩ (t_X5_passes l dC dI H.size G cs tt mm a0 ha0 1 5) ⟨cbE 2 (wd_561 hE) (wd_118 hE) (wd_558 hE) rfl rfl (by decide +kernel) ⟨Nat.le_of_ble_eq_true rfl, Nat.le_of_ble_eq_true rfl⟩, (wd_560 hE), (wd_10 hE)⟩ ⟨PT.blind, th_recv hK hP ha0.1 he162 rfl, (th_pre (av := [.ref a0, .int 1, .int 5]) trivial hK hP hok hnd hWT hE)⟩ rfl rfl hl.1 rfl (lv_room (Nat.le_of_ble_eq_true rfl)) dX5_readStep_113 ⟨Nat.le_of_ble_eq_true rfl, Nat.le_of_ble_eq_true rfl⟩) (fun r179 f179 H locs hr179 hok hP hS => ?_)
              refine lv_if_ne (tgt := 120) hx hb dX5_readStep_116 (by decide) (fun c180 => ?_) (fun c180 => ?_)
              · refine lv_aload_n hx hb dX5_readStep_120 rfl (lv_at hl 2 rfl) ?_
                obtain ⟨y3_181, y4_181, y5_181, y6_181, y7_181, y8_181, y9_181, he181⟩ := ok_X5 hok ha0
                refine th_get hx hb (ly_X5 hE) hown hK hP ha0.1 he181 rfl 2 (by decide) (wd_229 hE) (fun _ h9 => h9) rfl dX5_readStep_121 ?_
                refine lv_iload_n hx hb dX5_readStep_124 rfl (lv_at hl 0 rfl) ?_
                refine lv_iconst (v := 0) hx hb dX5_readStep_125 (by decide) ?_
                obtain ⟨y2_182, y3_182, hy3_182, he182⟩ := ok_X10 hok (wt_X5_2 hWT ha0)
                refine tc_v hAL hS hA (va_runV (As := [.int x153, .int 0]) (rest := []) ⟨hx, hb, hml, hown, noTs⟩ (t_X10_push l dC dI H.size G cs tt mm (gR G a0 2) ((wt_X5_2 hWT ha0)) x153 0) ⟨cbE 2 (wd_688 hE) (wd_120 hE) (wd_685 hE) rfl rfl (by decide +kernel) ⟨Nat.le_of_ble_eq_true rfl, Nat.le_of_ble_eq_true rfl⟩, (wd_686 hE), (wd_687 hE)⟩ ⟨PT.blind, th_recv hK hP (wt_X5_2 hWT ha0).1 he182 rfl, (th_pre (av := [.ref (gR G a0 2), .int x153, .int 0]) trivial hK hP hok hnd hWT hE)⟩ rfl rfl hl.1 rfl (lv_room (Nat.le_of_ble_eq_true rfl)) dX5_readStep_126 ⟨Nat.le_of_ble_eq_true rfl, Nat.le_of_ble_eq_true rfl⟩) (fun f183 H locs hr183 hok hP hS => ?_)
                refine lv_aload_n hx hb dX5_readStep_129 rfl (lv_at hl 2 rfl) ?_
                refine lv_aload_n hx hb dX5_readStep_130 rfl (lv_at hl 2 rfl) ?_
                obtain ⟨y3_184, y4_184, y5_184, y6_184, y7_184, y8_184, y9_184, he184⟩ := ok_X5 hok ha0
                refine th_get hx hb (ly_X5 hE) hown hK hP ha0.1 he184 rfl 1 (by decide) (wd_228 hE) (fun _ h9 => h9) rfl dX5_readStep_131 ?_
                refine lv_iload_n hx hb dX5_readStep_134 rfl (lv_at hl 0 rfl) ?_
                have he185 := ok_X7 hok (wt_X5_1 hWT ha0)
                refine vp_callSi (va_Run.run (va_runV (As := [.int x153]) (rest := [.ref a0]) ⟨hx, hb, hml, hown, noTs⟩ (t_X7_toVertex l dC dI H.size G cs tt mm (gR G a0 1) ((wt_X5_1 hWT ha0)) x153) ⟨cbE 1 (wd_692 hE) (wd_116 hE) (wd_689 hE) rfl rfl (by decide +kernel) ⟨Nat.le_of_ble_eq_true rfl, Nat.le_of_ble_eq_true rfl⟩, (wd_690 hE), (wd_691 hE)⟩ ⟨PT.blind, th_recv hK hP (wt_X5_1 hWT ha0).1 he185 rfl, (th_pre (av := [.ref (gR G a0 1), .int x153]) trivial hK hP hok hnd hWT hE)⟩ rfl rfl hl.1 rfl (lv_room (Nat.le_of_ble_eq_true rfl)) dX5_readStep_135 ⟨Nat.le_of_ble_eq_true rfl, Nat.le_of_ble_eq_true rfl⟩)) (fun r186 hr186 => ?_)
                refine th_put (v := .int r186) (ty := .int) hx hb (ly_X5 hE) tyX5 tyX5_ok nmX5 hown hK hP hnd hAL hS ha0.1 he184 rfl 5 (by decide) (wd_232 hE) (fun _ h9 => h9) rfl (by decide +kernel) rfl rfl (Nat.le_of_ble_eq_true rfl) (up_X5 hok ha0 ⟨y3_184, y4_184, r186, y6_184, y7_184, y8_184, y9_184, rfl⟩) dX5_readStep_138 (fun f187 H locs hfa187 hfo187 hok hP hS => ?_)
                have he188 := (hfo187 (gR G a0 1) (Ty.ne (wt_X5_1 hWT ha0) ha0 (by decide))).trans he185
                refine lv_aload_n hx hb dX5_readStep_141 rfl (lv_at hl 2 rfl) ?_
                refine lv_dup hx hb dX5_readStep_142 rfl ?_
                refine th_get hx hb (ly_X5 hE) hown hK hP ha0.1 hfa187 rfl 4 (by decide) (wd_231 hE) (fun _ h9 => h9) rfl dX5_readStep_143 ?_
                refine lv_iconst (v := 1) hx hb dX5_readStep_146 (by decide) ?_
                refine lv_iadd hx hb dX5_readStep_147 ?_
                refine lv_topi (fun x189 ex189 => ?_)
                refine th_put (v := .int x189) (ty := .int) hx hb (ly_X5 hE) tyX5 tyX5_ok nmX5 hown hK hP hnd hAL hS ha0.1 hfa187 rfl 4 (by decide) (wd_231 hE) (fun _ h9 => h9) rfl (by decide +kernel) rfl rfl (Nat.le_of_ble_eq_true rfl) (up_X5 hok ha0 ⟨y3_184, x189, r186, y6_184, y7_184, y8_184, y9_184, rfl⟩) dX5_readStep_148 (fun f190 H locs hfa190 hfo190 hok hP hS => ?_)
                have he191 := (hfo190 (gR G a0 1) (Ty.ne (wt_X5_1 hWT ha0) ha0 (by decide))).trans he188
                exact W.vret hx hb hr (fun t ht hW => ⟨⟨f190, rfl, trivial, hok, by rw [ht]; exact hP⟩, hS.F ht⟩) hS.2.2 dX5_readStep_151
              · exact W.vret hx hb hr (fun t ht hW => ⟨⟨f179, rfl, trivial, hok, by rw [ht]; exact hP⟩, hS.F ht⟩) hS.2.2 dX5_readStep_119
    · exact W.vret hx hb hr (fun t ht hW => ⟨⟨f99, rfl, trivial, hok, by rw [ht]; exact hP⟩, hS.F ht⟩) hS.2.2 dX5_readStep_26
