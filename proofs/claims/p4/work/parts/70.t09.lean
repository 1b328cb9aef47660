set_option maxHeartbeats 4000000 in
set_option maxRecDepth 100000 in
theorem t_X11_order (l : Launch) (dC : Nat → ClassId) (dI : Nat → Nat → Nat) (sz : Nat) (G : GT) (cs : Nat → ClassId) (tt mm : Nat) (a0 : Nat) (ha0 : Ty G a0 11) (v1 : Int32) : Met l yX11_order [.code yX11_order cX11_order 2 (some .int)] ({ frames := 1, cells := 0, slots := 0, locals := 40 }) (PT [.ref a0, .int v1] sz dC dI G cs tt mm (fun _ => True)) (va_Qi (fun (r : Int32) (u : Nat → va_E) => True) (BT dC dI G cs tt mm) (AT G sz)) 0 0 (AT G sz) := by
  refine Met.ofW (cc := cX11_order) (maxL := 2) (ret := (some .int)) (by decide) rfl ?_
  intro p e s m args below meth c s₁ B hml hv
  obtain ⟨rfl, hsz, ⟨f0, hok, hP, hX⟩, hK, hnd, hWT, hE⟩ := hv
  have hx := B.exec
  have hb := B.bytes
  have hr := B.returns
  have hown : s.vm.findClass RX11 = some m.cls := findClass_of_methodNamed B.named
  have hlocks := B.notSynchronized
  subst hsz
  have hAL : ∀ a, a ∈ gL G → AT G s.heap.size a := fun a h => Or.inl h
  have hA : ∀ q : Nat, s.heap.size ≤ q → AT G s.heap.size q := fun q h => Or.inr h
  have hS : va_S (AT G s.heap.size) s.heap s.heap [] := va_S.rf
  have hl := lv_entry ([.ref a0, .int v1]) (n := 2) (Nat.le_of_ble_eq_true rfl)
  rw [lg_entry_eq]
  generalize (lg_sl ([.ref a0, .int v1]) ++ List.replicate (2 - (lg_sl ([.ref a0, .int v1])).length) Slot.unset).toArray = ls at hl ⊢
  have hl : lv_has ls 2 [(0, .ref a0), (1, .int v1)] := hl
  refine lv_aload_n hx hb dX11_order_0 rfl (lv_at hl 0 rfl) ?_
  obtain ⟨y5_1, hy4_1, hy7_1, he1⟩ := ok_X11 hok ha0
  refine th_get hx hb (ly_X11 hE) hown hK hP ha0.1 he1 rfl 0 (by decide) (wd_359 hE) (fun _ h9 => h9) rfl dX11_order_1 ?_
  refine lv_iload_n hx hb dX11_order_4 rfl (lv_at hl 1 rfl) ?_
  have he2 := ok_X7 hok (wt_X11_0 hWT ha0)
  refine vp_callSi (va_Run.run (va_runV (As := [.int v1]) (rest := []) ⟨hx, hb, hml, hown, noTs⟩ (t_X7_hasVertex l dC dI s.heap.size G cs tt mm (gR G a0 0) ((wt_X11_0 hWT ha0)) v1) ⟨cbE 1 (wd_606 hE) (wd_116 hE) (wd_796 hE) rfl rfl (by decide +kernel) ⟨Nat.le_of_ble_eq_true rfl, Nat.le_of_ble_eq_true rfl⟩, (wd_604 hE), (wd_605 hE)⟩ ⟨PT.blind, th_recv hK hP (wt_X11_0 hWT ha0).1 he2 rfl, (th_pre (av := [.ref (gR G a0 0), .int v1]) trivial hK hP hok hnd hWT hE)⟩ rfl rfl hl.1 rfl (lv_room (Nat.le_of_ble_eq_true rfl)) dX11_order_5 ⟨Nat.le_of_ble_eq_true rfl, Nat.le_of_ble_eq_true rfl⟩)) (fun r3 hr3 => ?_)
  refine lv_if_eq (tgt := 26) hx hb dX11_order_8 (by decide) (fun c4 => ?_) (fun c4 => ?_)
  · refine lv_aload_n hx hb dX11_order_26 rfl (lv_at hl 0 rfl) ?_
    refine lv_iconst (v := 2) hx hb dX11_order_27 (by decide) ?_
    refine tc_i hAL hS hA (va_runV (As := [.int 2]) (rest := []) ⟨hx, hb, hml, hown, noTs⟩ (t_X11_fail l dC dI s.heap.size G cs tt mm a0 ha0 2) ⟨cbE 1 (wd_436 hE) (wd_115 hE) (wd_433 hE) rfl rfl (by decide +kernel) ⟨Nat.le_of_ble_eq_true rfl, Nat.le_of_ble_eq_true rfl⟩, (wd_435 hE), (wd_1 hE)⟩ ⟨PT.blind, th_recv hK hP ha0.1 he1 rfl, (th_pre (av := [.ref a0, .int 2]) trivial hK hP hok hnd hWT hE)⟩ rfl rfl hl.1 rfl (lv_room (Nat.le_of_ble_eq_true rfl)) dX11_order_28 ⟨Nat.le_of_ble_eq_true rfl, Nat.le_of_ble_eq_true rfl⟩) (fun r5 f5 H locs hr5 hok hP hS => ?_)
    subst hr5
    exact W.iret (v := -1) hx hb hr (fun t ht hW => ⟨⟨-1, f5, rfl, trivial, hok, by rw [ht]; exact hP⟩, hS.F ht⟩) hS.2.2 dX11_order_31
  · refine lv_aload_n hx hb dX11_order_11 rfl (lv_at hl 0 rfl) ?_
    refine lv_aload_n hx hb dX11_order_12 rfl (lv_at hl 0 rfl) ?_
    refine th_get hx hb (ly_X11 hE) hown hK hP ha0.1 he1 rfl 0 (by decide) (wd_359 hE) (fun _ h9 => h9) rfl dX11_order_13 ?_
    refine lv_iload_n hx hb dX11_order_16 rfl (lv_at hl 1 rfl) ?_
    refine vp_callSi (va_Run.run (va_runV (As := [.int v1]) (rest := [.ref a0]) ⟨hx, hb, hml, hown, noTs⟩ (t_X7_orderAt l dC dI s.heap.size G cs tt mm (gR G a0 0) ((wt_X11_0 hWT ha0)) v1) ⟨cbE 1 (wd_614 hE) (wd_116 hE) (wd_797 hE) rfl rfl (by decide +kernel) ⟨Nat.le_of_ble_eq_true rfl, Nat.le_of_ble_eq_true rfl⟩, (wd_612 hE), (wd_613 hE)⟩ ⟨PT.blind, th_recv hK hP (wt_X11_0 hWT ha0).1 he2 rfl, (th_pre (av := [.ref (gR G a0 0), .int v1]) trivial hK hP hok hnd hWT hE)⟩ rfl rfl hl.1 rfl (lv_room (Nat.le_of_ble_eq_true rfl)) dX11_order_17 ⟨Nat.le_of_ble_eq_true rfl, Nat.le_of_ble_eq_true rfl⟩)) (fun r6 hr6 => ?_)
    refine tc_i hAL hS hA (va_runV (As := [.int r6]) (rest := []) ⟨hx, hb, hml, hown, noTs⟩ (t_X11_answer l dC dI s.heap.size G cs tt mm a0 ha0 r6) ⟨cbE 1 (wd_748 hE) (wd_115 hE) (wd_745 hE) rfl rfl (by decide +kernel) ⟨Nat.le_of_ble_eq_true rfl, Nat.le_of_ble_eq_true rfl⟩, (wd_747 hE), (wd_23 hE)⟩ ⟨PT.blind, th_recv hK hP ha0.1 he1 rfl, (th_pre (av := [.ref a0, .int r6]) trivial hK hP hok hnd hWT hE)⟩ rfl rfl hl.1 rfl (lv_room (Nat.le_of_ble_eq_true rfl)) dX11_order_20 ⟨Nat.le_of_ble_eq_true rfl, Nat.le_of_ble_eq_true rfl⟩) (fun r7 f7 H locs hr7 hok hP hS => ?_)
    refine W.eq (g2 := F0 m 23 ls [.int r6]) (by rw [hr7]) ?_
    refine lv_goto (tgt := 31) hx hb dX11_order_23 (by decide) ?_
    exact W.iret (v := r6) hx hb hr (fun t ht hW => ⟨⟨r6, f7, rfl, trivial, hok, by rw [ht]; exact hP⟩, hS.F ht⟩) hS.2.2 dX11_order_31

set_option maxHeartbeats 4000000 in
set_option maxRecDepth 100000 in
theorem t_X11_edge (l : Launch) (dC : Nat → ClassId) (dI : Nat → Nat → Nat) (sz : Nat) (G : GT) (cs : Nat → ClassId) (tt mm : Nat) (a0 : Nat) (ha0 : Ty G a0 11) (v1 : Int32) (v2 : Int32) : Met l yX11_edge [.code yX11_edge cX11_edge 3 (some .int)] ({ frames := 2, cells := 0, slots := 0, locals := 80 }) (PT [.ref a0, .int v1, .int v2] sz dC dI G cs tt mm (fun _ => True)) (va_Qi (fun (r : Int32) (u : Nat → va_E) => True) (BT dC dI G cs tt mm) (AT G sz)) 0 0 (AT G sz) := by
  refine Met.ofW (cc := cX11_edge) (maxL := 3) (ret := (some .int)) (by decide) rfl ?_
  intro p e s m args below meth c s₁ B hml hv
  obtain ⟨rfl, hsz, ⟨f0, hok, hP, hX⟩, hK, hnd, hWT, hE⟩ := hv
  have hx := B.exec
  have hb := B.bytes
  have hr := B.returns
  have hown : s.vm.findClass RX11 = some m.cls := findClass_of_methodNamed B.named
  have hlocks := B.notSynchronized
  subst hsz
  have hAL : ∀ a, a ∈ gL G → AT G s.heap.size a := fun a h => Or.inl h
  have hA : ∀ q : Nat, s.heap.size ≤ q → AT G s.heap.size q := fun q h => Or.inr h
  have hS : va_S (AT G s.heap.size) s.heap s.heap [] := va_S.rf
  have hl := lv_entry ([.ref a0, .int v1, .int v2]) (n := 3) (Nat.le_of_ble_eq_true rfl)
  rw [lg_entry_eq]
  generalize (lg_sl ([.ref a0, .int v1, .int v2]) ++ List.replicate (3 - (lg_sl ([.ref a0, .int v1, .int v2])).length) Slot.unset).toArray = ls at hl ⊢
  have hl : lv_has ls 3 [(0, .ref a0), (1, .int v1), (2, .int v2)] := hl
  refine lv_iload_n hx hb dX11_edge_0 rfl (lv_at hl 2 rfl) ?_
  refine lv_if_lt (tgt := 9) hx hb dX11_edge_1 (by decide) (fun c1 => ?_) (fun c1 => ?_)
  · refine lv_aload_n hx hb dX11_edge_9 rfl (lv_at hl 0 rfl) ?_
    refine lv_iconst (v := 1) hx hb dX11_edge_10 (by decide) ?_
    obtain ⟨y5_2, hy4_2, hy7_2, he2⟩ := ok_X11 hok ha0
    refine tc_i hAL hS hA (va_runV (As := [.int 1]) (rest := []) ⟨hx, hb, hml, hown, noTs⟩ (t_X11_fail l dC dI s.heap.size G cs tt mm a0 ha0 1) ⟨cbE 1 (wd_436 hE) (wd_115 hE) (wd_433 hE) rfl rfl (by decide +kernel) ⟨Nat.le_of_ble_eq_true rfl, Nat.le_of_ble_eq_true rfl⟩, (wd_435 hE), (wd_1 hE)⟩ ⟨PT.blind, th_recv hK hP ha0.1 he2 rfl, (th_pre (av := [.ref a0, .int 1]) trivial hK hP hok hnd hWT hE)⟩ rfl rfl hl.1 rfl (lv_room (Nat.le_of_ble_eq_true rfl)) dX11_edge_11 ⟨Nat.le_of_ble_eq_true rfl, Nat.le_of_ble_eq_true rfl⟩) (fun r3 f3 H locs hr3 hok hP hS => ?_)
    subst hr3
    exact W.iret (v := -1) hx hb hr (fun t ht hW => ⟨⟨-1, f3, rfl, trivial, hok, by rw [ht]; exact hP⟩, hS.F ht⟩) hS.2.2 dX11_edge_14
  · refine lv_iload_n hx hb dX11_edge_4 rfl (lv_at hl 2 rfl) ?_
    refine lv_iconst (v := 4) hx hb dX11_edge_5 (by decide) ?_
    refine lv_icmp_le (tgt := 15) hx hb dX11_edge_6 (by decide) (fun c4 => ?_) (fun c4 => ?_)
    · refine lv_aload_n hx hb dX11_edge_15 rfl (lv_at hl 0 rfl) ?_
      obtain ⟨y5_5, hy4_5, hy7_5, he5⟩ := ok_X11 hok ha0
      refine th_get hx hb (ly_X11 hE) hown hK hP ha0.1 he5 rfl 0 (by decide) (wd_359 hE) (fun _ h9 => h9) rfl dX11_edge_16 ?_
      refine lv_iload_n hx hb dX11_edge_19 rfl (lv_at hl 1 rfl) ?_
      have he6 := ok_X7 hok (wt_X11_0 hWT ha0)
      refine vp_callSi (va_Run.run (va_runV (As := [.int v1]) (rest := []) ⟨hx, hb, hml, hown, noTs⟩ (t_X7_hasEdge l dC dI s.heap.size G cs tt mm (gR G a0 0) ((wt_X11_0 hWT ha0)) v1) ⟨cbE 1 (wd_673 hE) (wd_116 hE) (wd_802 hE) rfl rfl (by decide +kernel) ⟨Nat.le_of_ble_eq_true rfl, Nat.le_of_ble_eq_true rfl⟩, (wd_671 hE), (wd_672 hE)⟩ ⟨PT.blind, th_recv hK hP (wt_X11_0 hWT ha0).1 he6 rfl, (th_pre (av := [.ref (gR G a0 0), .int v1]) trivial hK hP hok hnd hWT hE)⟩ rfl rfl hl.1 rfl (lv_room (Nat.le_of_ble_eq_true rfl)) dX11_edge_20 ⟨Nat.le_of_ble_eq_true rfl, Nat.le_of_ble_eq_true rfl⟩)) (fun r7 hr7 => ?_)
      refine lv_if_ne (tgt := 32) hx hb dX11_edge_23 (by decide) (fun c8 => ?_) (fun c8 => ?_)
      · refine lv_aload_n hx hb dX11_edge_32 rfl (lv_at hl 0 rfl) ?_
        refine lv_iload_n hx hb dX11_edge_33 rfl (lv_at hl 2 rfl) ?_
        refine lv_iconst (v := 4) hx hb dX11_edge_34 (by decide) ?_
        refine lv_icmp_ne (tgt := 49) hx hb dX11_edge_35 (by decide) (fun c9 => ?_) (fun c9 => ?_)
        · refine lv_aload_n hx hb dX11_edge_49 rfl (lv_at hl 0 rfl) ?_
          refine th_get hx hb (ly_X11 hE) hown hK hP ha0.1 he5 rfl 0 (by decide) (wd_359 hE) (fun _ h9 => h9) rfl dX11_edge_50 ?_
          refine lv_iload_n hx hb dX11_edge_53 rfl (lv_at hl 1 rfl) ?_
          refine lv_iload_n hx hb dX11_edge_54 rfl (lv_at hl 2 rfl) ?_
          refine vp_callSi (va_Run.run (va_runV (As := [.int v1, .int v2]) (rest := [.ref a0]) ⟨hx, hb, hml, hown, noTs⟩ (t_X7_edgePart l dC dI s.heap.size G cs tt mm (gR G a0 0) ((wt_X11_0 hWT ha0)) v1 v2) ⟨cbE 2 (wd_684 hE) (wd_116 hE) (wd_809 hE) rfl rfl (by decide +kernel) ⟨Nat.le_of_ble_eq_true rfl, Nat.le_of_ble_eq_true rfl⟩, (wd_682 hE), (wd_683 hE)⟩ ⟨PT.blind, th_recv hK hP (wt_X11_0 hWT ha0).1 he6 rfl, (th_pre (av := [.ref (gR G a0 0), .int v1, .int v2]) trivial hK hP hok hnd hWT hE)⟩ rfl rfl hl.1 rfl (lv_room (Nat.le_of_ble_eq_true rfl)) dX11_edge_55 ⟨Nat.le_of_ble_eq_true rfl, Nat.le_of_ble_eq_true rfl⟩)) (fun r10 hr10 => ?_)
          refine tc_i hAL hS hA (va_runV (As := [.int r10]) (rest := []) ⟨hx, hb, hml, hown, noTs⟩ (t_X11_answer l dC dI s.heap.size G cs tt mm a0 ha0 r10) ⟨cbE 1 (wd_748 hE) (wd_115 hE) (wd_745 hE) rfl rfl (by decide +kernel) ⟨Nat.le_of_ble_eq_true rfl, Nat.le_of_ble_eq_true rfl⟩, (wd_747 hE), (wd_23 hE)⟩ ⟨PT.blind, th_recv hK hP ha0.1 he5 rfl, (th_pre (av := [.ref a0, .int r10]) trivial hK hP hok hnd hWT hE)⟩ rfl rfl hl.1 rfl (lv_room (Nat.le_of_ble_eq_true rfl)) dX11_edge_58 ⟨Nat.le_of_ble_eq_true rfl, Nat.le_of_ble_eq_true rfl⟩) (fun r11 f11 H locs hr11 hok hP hS => ?_)
          refine W.eq (g2 := F0 m 61 ls [.int r10]) (by rw [hr11]) ?_
          exact W.iret (v := r10) hx hb hr (fun t ht hW => ⟨⟨r10, f11, rfl, trivial, hok, by rw [ht]; exact hP⟩, hS.F ht⟩) hS.2.2 dX11_edge_61
        · refine lv_aload_n hx hb dX11_edge_38 rfl (lv_at hl 0 rfl) ?_
          refine th_get hx hb (ly_X11 hE) hown hK hP ha0.1 he5 rfl 0 (by decide) (wd_359 hE) (fun _ h9 => h9) rfl dX11_edge_39 ?_
          refine lv_iload_n hx hb dX11_edge_42 rfl (lv_at hl 1 rfl) ?_
          refine vp_callSi (va_Run.run (va_runV (As := [.int v1]) (rest := [.ref a0]) ⟨hx, hb, hml, hown, noTs⟩ (t_X7_common l dC dI s.heap.size G cs tt mm (gR G a0 0) ((wt_X11_0 hWT ha0)) v1) ⟨cbE 1 (wd_806 hE) (wd_116 hE) (wd_803 hE) rfl rfl (by decide +kernel) ⟨Nat.le_of_ble_eq_true rfl, Nat.le_of_ble_eq_true rfl⟩, (wd_804 hE), (wd_805 hE)⟩ ⟨PT.blind, th_recv hK hP (wt_X11_0 hWT ha0).1 he6 rfl, (th_pre (av := [.ref (gR G a0 0), .int v1]) trivial hK hP hok hnd hWT hE)⟩ rfl rfl hl.1 rfl (lv_room (Nat.le_of_ble_eq_true rfl)) dX11_edge_43 ⟨Nat.le_of_ble_eq_true rfl, Nat.le_of_ble_eq_true rfl⟩)) (fun r12 hr12 => ?_)
          refine lv_goto (tgt := 58) hx hb dX11_edge_46 (by decide) ?_
          refine tc_i hAL hS hA (va_runV (As := [.int r12]) (rest := []) ⟨hx, hb, hml, hown, noTs⟩ (t_X11_answer l dC dI s.heap.size G cs tt mm a0 ha0 r12) ⟨cbE 1 (wd_748 hE) (wd_115 hE) (wd_745 hE) rfl rfl (by decide +kernel) ⟨Nat.le_of_ble_eq_true rfl, Nat.le_of_ble_eq_true rfl⟩, (wd_747 hE), (wd_23 hE)⟩ ⟨PT.blind, th_recv hK hP ha0.1 he5 rfl, (th_pre (av := [.ref a0, .int r12]) trivial hK hP hok hnd hWT hE)⟩ rfl rfl hl.1 rfl (lv_room (Nat.le_of_ble_eq_true rfl)) dX11_edge_58 ⟨Nat.le_of_ble_eq_true rfl, Nat.le_of_ble_eq_true rfl⟩) (fun r13 f13 H locs hr13 hok hP hS => ?_)
          refine W.eq (g2 := F0 m 61 ls [.int r12]) (by rw [hr13]) ?_
          exact W.iret (v := r12) hx hb hr (fun t ht hW => ⟨⟨r12, f13, rfl, trivial, hok, by rw [ht]; exact hP⟩, hS.F ht⟩) hS.2.2 dX11_edge_61
      · refine lv_aload_n hx hb dX11_edge_26 rfl (lv_at hl 0 rfl) ?_
        refine lv_iconst (v := 2) hx hb dX11_edge_27 (by decide) ?_
        refine tc_i hAL hS hA (va_runV (As := [.int 2]) (rest := []) ⟨hx, hb, hml, hown, noTs⟩ (t_X11_fail l dC dI s.heap.size G cs tt mm a0 ha0 2) ⟨cbE 1 (wd_436 hE) (wd_115 hE) (wd_433 hE) rfl rfl (by decide +kernel) ⟨Nat.le_of_ble_eq_true rfl, Nat.le_of_ble_eq_true rfl⟩, (wd_435 hE), (wd_1 hE)⟩ ⟨PT.blind, th_recv hK hP ha0.1 he5 rfl, (th_pre (av := [.ref a0, .int 2]) trivial hK hP hok hnd hWT hE)⟩ rfl rfl hl.1 rfl (lv_room (Nat.le_of_ble_eq_true rfl)) dX11_edge_28 ⟨Nat.le_of_ble_eq_true rfl, Nat.le_of_ble_eq_true rfl⟩) (fun r14 f14 H locs hr14 hok hP hS => ?_)
        subst hr14
        exact W.iret (v := -1) hx hb hr (fun t ht hW => ⟨⟨-1, f14, rfl, trivial, hok, by rw [ht]; exact hP⟩, hS.F ht⟩) hS.2.2 dX11_edge_31
    · refine lv_aload_n hx hb dX11_edge_9 rfl (lv_at hl 0 rfl) ?_
      refine lv_iconst (v := 1) hx hb dX11_edge_10 (by decide) ?_
      obtain ⟨y5_15, hy4_15, hy7_15, he15⟩ := ok_X11 hok ha0
      refine tc_i hAL hS hA (va_runV (As := [.int 1]) (rest := []) ⟨hx, hb, hml, hown, noTs⟩ (t_X11_fail l dC dI s.heap.size G cs tt mm a0 ha0 1) ⟨cbE 1 (wd_436 hE) (wd_115 hE) (wd_433 hE) rfl rfl (by decide +kernel) ⟨Nat.le_of_ble_eq_true rfl, Nat.le_of_ble_eq_true rfl⟩, (wd_435 hE), (wd_1 hE)⟩ ⟨PT.blind, th_recv hK hP ha0.1 he15 rfl, (th_pre (av := [.ref a0, .int 1]) trivial hK hP hok hnd hWT hE)⟩ rfl rfl hl.1 rfl (lv_room (Nat.le_of_ble_eq_true rfl)) dX11_edge_11 ⟨Nat.le_of_ble_eq_true rfl, Nat.le_of_ble_eq_true rfl⟩) (fun r16 f16 H locs hr16 hok hP hS => ?_)
      subst hr16
      exact W.iret (v := -1) hx hb hr (fun t ht hW => ⟨⟨-1, f16, rfl, trivial, hok, by rw [ht]; exact hP⟩, hS.F ht⟩) hS.2.2 dX11_edge_14

set_option maxHeartbeats 4000000 in
set_option maxRecDepth 100000 in
theorem t_X11_word (l : Launch) (dC : Nat → ClassId) (dI : Nat → Nat → Nat) (sz : Nat) (G : GT) (cs : Nat → ClassId) (tt mm : Nat) (a0 : Nat) (ha0 : Ty G a0 11) (v1 : Int32) (v2 : Int32) : Met l yX11_word [.code yX11_word cX11_word 4 (some .int)] ({ frames := 5, cells := 0, slots := 0, locals := 200 }) (PT [.ref a0, .int v1, .int v2] sz dC dI G cs tt mm (fun _ => True)) (va_Qi (fun (r : Int32) (u : Nat → va_E) => True) (BT dC dI G cs tt mm) (AT G sz)) 0 0 (AT G sz) := by
  refine Met.ofW (cc := cX11_word) (maxL := 4) (ret := (some .int)) (by decide) rfl ?_
  intro p e s m args below meth c s₁ B hml hv
  obtain ⟨rfl, hsz, ⟨f0, hok, hP, hX⟩, hK, hnd, hWT, hE⟩ := hv
  have hx := B.exec
  have hb := B.bytes
  have hr := B.returns
  have hown : s.vm.findClass RX11 = some m.cls := findClass_of_methodNamed B.named
  have hlocks := B.notSynchronized
  subst hsz
  have hAL : ∀ a, a ∈ gL G → AT G s.heap.size a := fun a h => Or.inl h
  have hA : ∀ q : Nat, s.heap.size ≤ q → AT G s.heap.size q := fun q h => Or.inr h
  have hS : va_S (AT G s.heap.size) s.heap s.heap [] := va_S.rf
  have hl := lv_entry ([.ref a0, .int v1, .int v2]) (n := 4) (Nat.le_of_ble_eq_true rfl)
  rw [lg_entry_eq]
  generalize (lg_sl ([.ref a0, .int v1, .int v2]) ++ List.replicate (4 - (lg_sl ([.ref a0, .int v1, .int v2])).length) Slot.unset).toArray = ls at hl ⊢
  have hl : lv_has ls 4 [(0, .ref a0), (1, .int v1), (2, .int v2)] := hl
  refine lv_iload_n hx hb dX11_word_0 rfl (lv_at hl 2 rfl) ?_
  refine lv_if_lt (tgt := 9) hx hb dX11_word_1 (by decide) (fun c1 => ?_) (fun c1 => ?_)
  · refine lv_aload_n hx hb dX11_word_9 rfl (lv_at hl 0 rfl) ?_
    refine lv_iconst (v := 1) hx hb dX11_word_10 (by decide) ?_
    obtain ⟨y5_2, hy4_2, hy7_2, he2⟩ := ok_X11 hok ha0
    refine tc_i hAL hS hA (va_runV (As := [.int 1]) (rest := []) ⟨hx, hb, hml, hown, noTs⟩ (t_X11_fail l dC dI s.heap.size G cs tt mm a0 ha0 1) ⟨cbE 1 (wd_436 hE) (wd_115 hE) (wd_433 hE) rfl rfl (by decide +kernel) ⟨Nat.le_of_ble_eq_true rfl, Nat.le_of_ble_eq_true rfl⟩, (wd_435 hE), (wd_1 hE)⟩ ⟨PT.blind, th_recv hK hP ha0.1 he2 rfl, (th_pre (av := [.ref a0, .int 1]) trivial hK hP hok hnd hWT hE)⟩ rfl rfl hl.1 rfl (lv_room (Nat.le_of_ble_eq_true rfl)) dX11_word_11 ⟨Nat.le_of_ble_eq_true rfl, Nat.le_of_ble_eq_true rfl⟩) (fun r3 f3 H locs hr3 hok hP hS => ?_)
    subst hr3
    exact W.iret (v := -1) hx hb hr (fun t ht hW => ⟨⟨-1, f3, rfl, trivial, hok, by rw [ht]; exact hP⟩, hS.F ht⟩) hS.2.2 dX11_word_14
  · refine lv_iload_n hx hb dX11_word_4 rfl (lv_at hl 2 rfl) ?_
    refine lv_iconst (v := 4) hx hb dX11_word_5 (by decide) ?_
    refine lv_icmp_le (tgt := 15) hx hb dX11_word_6 (by decide) (fun c4 => ?_) (fun c4 => ?_)
    · refine lv_aload_n hx hb dX11_word_15 rfl (lv_at hl 0 rfl) ?_
      obtain ⟨y5_5, hy4_5, hy7_5, he5⟩ := ok_X11 hok ha0
      refine th_get hx hb (ly_X11 hE) hown hK hP ha0.1 he5 rfl 0 (by decide) (wd_359 hE) (fun _ h9 => h9) rfl dX11_word_16 ?_
      refine lv_iload_n hx hb dX11_word_19 rfl (lv_at hl 1 rfl) ?_
      refine lv_aload_n hx hb dX11_word_20 rfl (lv_at hl 0 rfl) ?_
      refine th_get hx hb (ly_X11 hE) hown hK hP ha0.1 he5 rfl 10 (by decide) (wd_369 hE) (fun _ h9 => h9) rfl dX11_word_21 ?_
      have he6 := ok_X7 hok (wt_X11_0 hWT ha0)
      refine tc_i hAL hS hA (va_runV (As := [.int v1, .ref (gR G a0 10)]) (rest := []) ⟨hx, hb, hml, hown, noTs⟩ (t_X7_readWord l dC dI s.heap.size G cs tt mm (gR G a0 0) ((wt_X11_0 hWT ha0)) v1 (gR G a0 10) ((wt_X11_10 hWT ha0))) ⟨cbE 2 (wd_817 hE) (wd_116 hE) (wd_814 hE) rfl rfl (by decide +kernel) ⟨Nat.le_of_ble_eq_true rfl, Nat.le_of_ble_eq_true rfl⟩, (wd_815 hE), (wd_816 hE)⟩ ⟨PT.blind, th_recv hK hP (wt_X11_0 hWT ha0).1 he6 rfl, (th_pre (av := [.ref (gR G a0 0), .int v1, .ref (gR G a0 10)]) trivial hK hP hok hnd hWT hE)⟩ rfl rfl hl.1 rfl (lv_room (Nat.le_of_ble_eq_true rfl)) dX11_word_24 ⟨Nat.le_of_ble_eq_true rfl, Nat.le_of_ble_eq_true rfl⟩) (fun r7 f7 H locs hr7 hok hP hS => ?_)
      refine lv_if_ne (tgt := 36) hx hb dX11_word_27 (by decide) (fun c8 => ?_) (fun c8 => ?_)
      · refine lv_iload_n hx hb dX11_word_36 rfl (lv_at hl 2 rfl) ?_
        refine lv_if_ne (tgt := 52) hx hb dX11_word_37 (by decide) (fun c9 => ?_) (fun c9 => ?_)
        · refine lv_iload_n hx hb dX11_word_52 rfl (lv_at hl 2 rfl) ?_
          refine lv_iconst (v := 1) hx hb dX11_word_53 (by decide) ?_
          refine lv_icmp_ne (tgt := 73) hx hb dX11_word_54 (by decide) (fun c10 => ?_) (fun c10 => ?_)
          · refine lv_iload_n hx hb dX11_word_73 rfl (lv_at hl 2 rfl) ?_
            refine lv_iconst (v := 2) hx hb dX11_word_74 (by decide) ?_
            refine lv_icmp_ne (tgt := 90) hx hb dX11_word_75 (by decide) (fun c11 => ?_) (fun c11 => ?_)
            · refine lv_aload_n hx hb dX11_word_90 rfl (lv_at hl 0 rfl) ?_
              obtain ⟨y5_12, hy4_12, hy7_12, he12⟩ := ok_X11 hok ha0
              refine th_get hx hb (ly_X11 hE) hown hK hP ha0.1 he12 rfl 0 (by decide) (wd_359 hE) (fun _ h9 => h9) rfl dX11_word_91 ?_
              refine lv_aload_n hx hb dX11_word_94 rfl (lv_at hl 0 rfl) ?_
              refine th_get hx hb (ly_X11 hE) hown hK hP ha0.1 he12 rfl 10 (by decide) (wd_369 hE) (fun _ h9 => h9) rfl dX11_word_95 ?_
              refine lv_aload_n hx hb dX11_word_98 rfl (lv_at hl 0 rfl) ?_
              refine th_get hx hb (ly_X11 hE) hown hK hP ha0.1 he12 rfl 12 (by decide) (wd_371 hE) (fun _ h9 => h9) rfl dX11_word_99 ?_
              refine tc_i hAL hS hA (va_runS (As := [.ref (gR G a0 0), .ref (gR G a0 10), .ref (gR G a0 12)]) (rest := []) ⟨hx, hb, hml, hown, noTs⟩ (t_X2_reduce l dC dI H.size G cs tt mm (gR G a0 0) ((wt_X11_0 hWT ha0)) (gR G a0 10) ((wt_X11_10 hWT ha0)) (gR G a0 12) ((wt_X11_12 hWT ha0))) ⟨cbE 3 (wd_837 hE) (wd_134 hE) (wd_835 hE) rfl rfl (by decide +kernel) ⟨Nat.le_of_ble_eq_true rfl, Nat.le_of_ble_eq_true rfl⟩, (wd_836 hE)⟩ ⟨PT.blind, (th_pre (av := [.ref (gR G a0 0), .ref (gR G a0 10), .ref (gR G a0 12)]) trivial hK hP hok hnd hWT hE)⟩ rfl rfl hl.1 rfl (lv_room (Nat.le_of_ble_eq_true rfl)) dX11_word_102 ⟨Nat.le_of_ble_eq_true rfl, Nat.le_of_ble_eq_true rfl⟩) (fun r13 f13 H locs hr13 hok hP hS => ?_)
              refine lv_istore_n (lv' := [(3, .int r13), (0, .ref a0), (1, .int v1), (2, .int v2)]) hx hb dX11_word_105 rfl hl (by decide) rfl (fun ls hl => ?_)
              refine lv_aload_n hx hb dX11_word_106 rfl (lv_at hl 1 rfl) ?_
              refine lv_iload_n hx hb dX11_word_107 rfl (lv_at hl 3 rfl) ?_
              refine lv_iconst (v := 4) hx hb dX11_word_108 (by decide) ?_
              refine lv_icmp_ne (tgt := 116) hx hb dX11_word_109 (by decide) (fun c14 => ?_) (fun c14 => ?_)
              · refine lv_aload_n hx hb dX11_word_116 rfl (lv_at hl 1 rfl) ?_
                obtain ⟨y5_15, hy4_15, hy7_15, he15⟩ := ok_X11 hok ha0
                refine th_get hx hb (ly_X11 hE) hown hK hP ha0.1 he15 rfl 12 (by decide) (wd_371 hE) (fun _ h9 => h9) rfl dX11_word_117 ?_
                refine lv_aload_n hx hb dX11_word_120 rfl (lv_at hl 1 rfl) ?_
                refine th_get hx hb (ly_X11 hE) hown hK hP ha0.1 he15 rfl 10 (by decide) (wd_369 hE) (fun _ h9 => h9) rfl dX11_word_121 ?_
                obtain ⟨y2_16, y3_16, hy3_16, he16⟩ := ok_X10 hok (wt_X11_12 hWT ha0)
                refine vp_callSi (va_Run.run (va_runV (As := [.ref (gR G a0 10)]) (rest := [.ref a0]) ⟨hx, hb, hml, hown, noTs⟩ (t_X10_sameAs l dC dI H.size G cs tt mm (gR G a0 12) ((wt_X11_12 hWT ha0)) (gR G a0 10) ((wt_X11_10 hWT ha0))) ⟨cbE 1 (wd_877 hE) (wd_120 hE) (wd_874 hE) rfl rfl (by decide +kernel) ⟨Nat.le_of_ble_eq_true rfl, Nat.le_of_ble_eq_true rfl⟩, (wd_875 hE), (wd_876 hE)⟩ ⟨PT.blind, th_recv hK hP (wt_X11_12 hWT ha0).1 he16 rfl, (th_pre (av := [.ref (gR G a0 12), .ref (gR G a0 10)]) trivial hK hP hok hnd hWT hE)⟩ rfl rfl hl.1 rfl (lv_room (Nat.le_of_ble_eq_true rfl)) dX11_word_124 ⟨Nat.le_of_ble_eq_true rfl, Nat.le_of_ble_eq_true rfl⟩)) (fun r17 hr17 => ?_)
                refine vp_callSi (va_Run.run (va_runS (As := [.int r17]) (rest := [.ref a0]) ⟨hx, hb, hml, hown, noTs⟩ (t_X11_bit l dC dI H.size G cs tt mm r17) ⟨cbE 1 (wd_669 hE) (wd_115 hE) (wd_884 hE) rfl rfl (by decide +kernel) ⟨Nat.le_of_ble_eq_true rfl, Nat.le_of_ble_eq_true rfl⟩, (wd_668 hE)⟩ ⟨PT.blind, (th_pre (av := [.int r17]) trivial hK hP hok hnd hWT hE)⟩ rfl rfl hl.1 rfl (lv_room (Nat.le_of_ble_eq_true rfl)) dX11_word_127 ⟨Nat.le_of_ble_eq_true rfl, Nat.le_of_ble_eq_true rfl⟩)) (fun r18 hr18 => ?_)
                refine tc_i hAL hS hA (va_runV (As := [.int r18]) (rest := []) ⟨hx, hb, hml, hown, noTs⟩ (t_X11_answer l dC dI H.size G cs tt mm a0 ha0 r18) ⟨cbE 1 (wd_748 hE) (wd_115 hE) (wd_745 hE) rfl rfl (by decide +kernel) ⟨Nat.le_of_ble_eq_true rfl, Nat.le_of_ble_eq_true rfl⟩, (wd_747 hE), (wd_23 hE)⟩ ⟨PT.blind, th_recv hK hP ha0.1 he15 rfl, (th_pre (av := [.ref a0, .int r18]) trivial hK hP hok hnd hWT hE)⟩ rfl rfl hl.1 rfl (lv_room (Nat.le_of_ble_eq_true rfl)) dX11_word_130 ⟨Nat.le_of_ble_eq_true rfl, Nat.le_of_ble_eq_true rfl⟩) (fun r19 f19 H locs hr19 hok hP hS => ?_)
                refine W.eq (g2 := F0 m 133 ls [.int r18]) (by rw [hr19]) ?_
                exact W.iret (v := r18) hx hb hr (fun t ht hW => ⟨⟨r18, f19, rfl, trivial, hok, by rw [ht]; exact hP⟩, hS.F ht⟩) hS.2.2 dX11_word_133
              · refine lv_iload_n hx hb dX11_word_112 rfl (lv_at hl 0 rfl) ?_
                refine lv_goto (tgt := 130) hx hb dX11_word_113 (by decide) ?_
                obtain ⟨y5_20, hy4_20, hy7_20, he20⟩ := ok_X11 hok ha0
                refine tc_i hAL hS hA (va_runV (As := [.int r13]) (rest := []) ⟨hx, hb, hml, hown, noTs⟩ (t_X11_answer l dC dI H.size G cs tt mm a0 ha0 r13) ⟨cbE 1 (wd_748 hE) (wd_115 hE) (wd_745 hE) rfl rfl (by decide +kernel) ⟨Nat.le_of_ble_eq_true rfl, Nat.le_of_ble_eq_true rfl⟩, (wd_747 hE), (wd_23 hE)⟩ ⟨PT.blind, th_recv hK hP ha0.1 he20 rfl, (th_pre (av := [.ref a0, .int r13]) trivial hK hP hok hnd hWT hE)⟩ rfl rfl hl.1 rfl (lv_room (Nat.le_of_ble_eq_true rfl)) dX11_word_130 ⟨Nat.le_of_ble_eq_true rfl, Nat.le_of_ble_eq_true rfl⟩) (fun r21 f21 H locs hr21 hok hP hS => ?_)
                refine W.eq (g2 := F0 m 133 ls [.int r13]) (by rw [hr21]) ?_
                exact W.iret (v := r13) hx hb hr (fun t ht hW => ⟨⟨r13, f21, rfl, trivial, hok, by rw [ht]; exact hP⟩, hS.F ht⟩) hS.2.2 dX11_word_133
            · refine lv_aload_n hx hb dX11_word_78 rfl (lv_at hl 0 rfl) ?_
              refine lv_aload_n hx hb dX11_word_79 rfl (lv_at hl 0 rfl) ?_
              obtain ⟨y5_22, hy4_22, hy7_22, he22⟩ := ok_X11 hok ha0
              refine th_get hx hb (ly_X11 hE) hown hK hP ha0.1 he22 rfl 10 (by decide) (wd_369 hE) (fun _ h9 => h9) rfl dX11_word_80 ?_
              obtain ⟨y2_23, y3_23, hy3_23, he23⟩ := ok_X10 hok (wt_X11_10 hWT ha0)
              refine vp_callSi (va_Run.run (va_runV (As := []) (rest := [.ref a0]) ⟨hx, hb, hml, hown, noTs⟩ (t_X10_size l dC dI H.size G cs tt mm (gR G a0 10) ((wt_X11_10 hWT ha0)) y2_23 y3_23) ⟨cbE 0 (wd_666 hE) (wd_120 hE) (wd_834 hE) rfl rfl (by decide +kernel) ⟨Nat.le_of_ble_eq_true rfl, Nat.le_of_ble_eq_true rfl⟩, (wd_664 hE), (wd_665 hE)⟩ ⟨PT.blind, th_recv hK hP (wt_X11_10 hWT ha0).1 he23 rfl, (th_pre (av := [.ref (gR G a0 10)]) he23 hK hP hok hnd hWT hE)⟩ rfl rfl hl.1 rfl (lv_room (Nat.le_of_ble_eq_true rfl)) dX11_word_83 ⟨Nat.le_of_ble_eq_true rfl, Nat.le_of_ble_eq_true rfl⟩)) (fun r24 hr24 => ?_)
              subst hr24
              refine tc_i hAL hS hA (va_runV (As := [.int (nI y3_23)]) (rest := []) ⟨hx, hb, hml, hown, noTs⟩ (t_X11_answer l dC dI H.size G cs tt mm a0 ha0 (nI y3_23)) ⟨cbE 1 (wd_748 hE) (wd_115 hE) (wd_745 hE) rfl rfl (by decide +kernel) ⟨Nat.le_of_ble_eq_true rfl, Nat.le_of_ble_eq_true rfl⟩, (wd_747 hE), (wd_23 hE)⟩ ⟨PT.blind, th_recv hK hP ha0.1 he22 rfl, (th_pre (av := [.ref a0, .int (nI y3_23)]) trivial hK hP hok hnd hWT hE)⟩ rfl rfl hl.1 rfl (lv_room (Nat.le_of_ble_eq_true rfl)) dX11_word_86 ⟨Nat.le_of_ble_eq_true rfl, Nat.le_of_ble_eq_true rfl⟩) (fun r25 f25 H locs hr25 hok hP hS => ?_)
              subst hr25
              exact W.iret (v := nI y3_23) hx hb hr (fun t ht hW => ⟨⟨nI y3_23, f25, rfl, trivial, hok, by rw [ht]; exact hP⟩, hS.F ht⟩) hS.2.2 dX11_word_89
          · refine lv_aload_n hx hb dX11_word_57 rfl (lv_at hl 0 rfl) ?_
            refine lv_aload_n hx hb dX11_word_58 rfl (lv_at hl 0 rfl) ?_
            obtain ⟨y5_26, hy4_26, hy7_26, he26⟩ := ok_X11 hok ha0
            refine th_get hx hb (ly_X11 hE) hown hK hP ha0.1 he26 rfl 0 (by decide) (wd_359 hE) (fun _ h9 => h9) rfl dX11_word_59 ?_
            refine lv_aload_n hx hb dX11_word_62 rfl (lv_at hl 0 rfl) ?_
            refine th_get hx hb (ly_X11 hE) hown hK hP ha0.1 he26 rfl 10 (by decide) (wd_369 hE) (fun _ h9 => h9) rfl dX11_word_63 ?_
            have he27 := ok_X7 hok (wt_X11_0 hWT ha0)
            refine vp_callSi (va_Run.run (va_runV (As := [.ref (gR G a0 10)]) (rest := [.ref a0]) ⟨hx, hb, hml, hown, noTs⟩ (t_X7_endOf l dC dI H.size G cs tt mm (gR G a0 0) ((wt_X11_0 hWT ha0)) (gR G a0 10) ((wt_X11_10 hWT ha0))) ⟨cbE 1 (wd_828 hE) (wd_116 hE) (wd_825 hE) rfl rfl (by decide +kernel) ⟨Nat.le_of_ble_eq_true rfl, Nat.le_of_ble_eq_true rfl⟩, (wd_826 hE), (wd_827 hE)⟩ ⟨PT.blind, th_recv hK hP (wt_X11_0 hWT ha0).1 he27 rfl, (th_pre (av := [.ref (gR G a0 0), .ref (gR G a0 10)]) trivial hK hP hok hnd hWT hE)⟩ rfl rfl hl.1 rfl (lv_room (Nat.le_of_ble_eq_true rfl)) dX11_word_66 ⟨Nat.le_of_ble_eq_true rfl, Nat.le_of_ble_eq_true rfl⟩)) (fun r28 hr28 => ?_)
            refine tc_i hAL hS hA (va_runV (As := [.int r28]) (rest := []) ⟨hx, hb, hml, hown, noTs⟩ (t_X11_answer l dC dI H.size G cs tt mm a0 ha0 r28) ⟨cbE 1 (wd_748 hE) (wd_115 hE) (wd_745 hE) rfl rfl (by decide +kernel) ⟨Nat.le_of_ble_eq_true rfl, Nat.le_of_ble_eq_true rfl⟩, (wd_747 hE), (wd_23 hE)⟩ ⟨PT.blind, th_recv hK hP ha0.1 he26 rfl, (th_pre (av := [.ref a0, .int r28]) trivial hK hP hok hnd hWT hE)⟩ rfl rfl hl.1 rfl (lv_room (Nat.le_of_ble_eq_true rfl)) dX11_word_69 ⟨Nat.le_of_ble_eq_true rfl, Nat.le_of_ble_eq_true rfl⟩) (fun r29 f29 H locs hr29 hok hP hS => ?_)
            refine W.eq (g2 := F0 m 72 ls [.int r28]) (by rw [hr29]) ?_
            exact W.iret (v := r28) hx hb hr (fun t ht hW => ⟨⟨r28, f29, rfl, trivial, hok, by rw [ht]; exact hP⟩, hS.F ht⟩) hS.2.2 dX11_word_72
        · refine lv_aload_n hx hb dX11_word_40 rfl (lv_at hl 0 rfl) ?_
          refine lv_aload_n hx hb dX11_word_41 rfl (lv_at hl 0 rfl) ?_
          obtain ⟨y5_30, hy4_30, hy7_30, he30⟩ := ok_X11 hok ha0
          refine th_get hx hb (ly_X11 hE) hown hK hP ha0.1 he30 rfl 10 (by decide) (wd_369 hE) (fun _ h9 => h9) rfl dX11_word_42 ?_
          obtain ⟨y2_31, y3_31, hy3_31, he31⟩ := ok_X10 hok (wt_X11_10 hWT ha0)
          refine vp_callSi (va_Run.run (va_runV (As := []) (rest := [.ref a0]) ⟨hx, hb, hml, hown, noTs⟩ (t_X10_begin l dC dI H.size G cs tt mm (gR G a0 10) ((wt_X11_10 hWT ha0))) ⟨cbE 0 (wd_713 hE) (wd_120 hE) (wd_824 hE) rfl rfl (by decide +kernel) ⟨Nat.le_of_ble_eq_true rfl, Nat.le_of_ble_eq_true rfl⟩, (wd_711 hE), (wd_712 hE)⟩ ⟨PT.blind, th_recv hK hP (wt_X11_10 hWT ha0).1 he31 rfl, (th_pre (av := [.ref (gR G a0 10)]) trivial hK hP hok hnd hWT hE)⟩ rfl rfl hl.1 rfl (lv_room (Nat.le_of_ble_eq_true rfl)) dX11_word_45 ⟨Nat.le_of_ble_eq_true rfl, Nat.le_of_ble_eq_true rfl⟩)) (fun r32 hr32 => ?_)
          refine tc_i hAL hS hA (va_runV (As := [.int r32]) (rest := []) ⟨hx, hb, hml, hown, noTs⟩ (t_X11_answer l dC dI H.size G cs tt mm a0 ha0 r32) ⟨cbE 1 (wd_748 hE) (wd_115 hE) (wd_745 hE) rfl rfl (by decide +kernel) ⟨Nat.le_of_ble_eq_true rfl, Nat.le_of_ble_eq_true rfl⟩, (wd_747 hE), (wd_23 hE)⟩ ⟨PT.blind, th_recv hK hP ha0.1 he30 rfl, (th_pre (av := [.ref a0, .int r32]) trivial hK hP hok hnd hWT hE)⟩ rfl rfl hl.1 rfl (lv_room (Nat.le_of_ble_eq_true rfl)) dX11_word_48 ⟨Nat.le_of_ble_eq_true rfl, Nat.le_of_ble_eq_true rfl⟩) (fun r33 f33 H locs hr33 hok hP hS => ?_)
          refine W.eq (g2 := F0 m 51 ls [.int r32]) (by rw [hr33]) ?_
          exact W.iret (v := r32) hx hb hr (fun t ht hW => ⟨⟨r32, f33, rfl, trivial, hok, by rw [ht]; exact hP⟩, hS.F ht⟩) hS.2.2 dX11_word_51
      · refine lv_aload_n hx hb dX11_word_30 rfl (lv_at hl 0 rfl) ?_
        refine lv_iconst (v := 2) hx hb dX11_word_31 (by decide) ?_
        obtain ⟨y5_34, hy4_34, hy7_34, he34⟩ := ok_X11 hok ha0
        refine tc_i hAL hS hA (va_runV (As := [.int 2]) (rest := []) ⟨hx, hb, hml, hown, noTs⟩ (t_X11_fail l dC dI H.size G cs tt mm a0 ha0 2) ⟨cbE 1 (wd_436 hE) (wd_115 hE) (wd_433 hE) rfl rfl (by decide +kernel) ⟨Nat.le_of_ble_eq_true rfl, Nat.le_of_ble_eq_true rfl⟩, (wd_435 hE), (wd_1 hE)⟩ ⟨PT.blind, th_recv hK hP ha0.1 he34 rfl, (th_pre (av := [.ref a0, .int 2]) trivial hK hP hok hnd hWT hE)⟩ rfl rfl hl.1 rfl (lv_room (Nat.le_of_ble_eq_true rfl)) dX11_word_32 ⟨Nat.le_of_ble_eq_true rfl, Nat.le_of_ble_eq_true rfl⟩) (fun r35 f35 H locs hr35 hok hP hS => ?_)
        subst hr35
        exact W.iret (v := -1) hx hb hr (fun t ht hW => ⟨⟨-1, f35, rfl, trivial, hok, by rw [ht]; exact hP⟩, hS.F ht⟩) hS.2.2 dX11_word_35
    · refine lv_aload_n hx hb dX11_word_9 rfl (lv_at hl 0 rfl) ?_
      refine lv_iconst (v := 1) hx hb dX11_word_10 (by decide) ?_
      obtain ⟨y5_36, hy4_36, hy7_36, he36⟩ := ok_X11 hok ha0
      refine tc_i hAL hS hA (va_runV (As := [.int 1]) (rest := []) ⟨hx, hb, hml, hown, noTs⟩ (t_X11_fail l dC dI s.heap.size G cs tt mm a0 ha0 1) ⟨cbE 1 (wd_436 hE) (wd_115 hE) (wd_433 hE) rfl rfl (by decide +kernel) ⟨Nat.le_of_ble_eq_true rfl, Nat.le_of_ble_eq_true rfl⟩, (wd_435 hE), (wd_1 hE)⟩ ⟨PT.blind, th_recv hK hP ha0.1 he36 rfl, (th_pre (av := [.ref a0, .int 1]) trivial hK hP hok hnd hWT hE)⟩ rfl rfl hl.1 rfl (lv_room (Nat.le_of_ble_eq_true rfl)) dX11_word_11 ⟨Nat.le_of_ble_eq_true rfl, Nat.le_of_ble_eq_true rfl⟩) (fun r37 f37 H locs hr37 hok hP hS => ?_)
      subst hr37
      exact W.iret (v := -1) hx hb hr (fun t ht hW => ⟨⟨-1, f37, rfl, trivial, hok, by rw [ht]; exact hP⟩, hS.F ht⟩) hS.2.2 dX11_word_14

set_option maxHeartbeats 4000000 in
set_option maxRecDepth 100000 in
theorem t_X11_number (l : Launch) (dC : Nat → ClassId) (dI : Nat → Nat → Nat) (sz : Nat) (G : GT) (cs : Nat → ClassId) (tt mm : Nat) (a0 : Nat) (ha0 : Ty G a0 11) (v1 : Int32) (v2 : Int32) : Met l yX11_number [.code yX11_number cX11_number 3 (some .int)] ({ frames := 2, cells := 0, slots := 0, locals := 80 }) (PT [.ref a0, .int v1, .int v2] sz dC dI G cs tt mm (fun _ => True)) (va_Qi (fun (r : Int32) (u : Nat → va_E) => True) (BT dC dI G cs tt mm) (AT G sz)) 0 0 (AT G sz) := by
  refine Met.ofW (cc := cX11_number) (maxL := 3) (ret := (some .int)) (by decide) rfl ?_
  intro p e s m args below meth c s₁ B hml hv
  obtain ⟨rfl, hsz, ⟨f0, hok, hP, hX⟩, hK, hnd, hWT, hE⟩ := hv
  have hx := B.exec
  have hb := B.bytes
  have hr := B.returns
  have hown : s.vm.findClass RX11 = some m.cls := findClass_of_methodNamed B.named
  have hlocks := B.notSynchronized
  subst hsz
  have hAL : ∀ a, a ∈ gL G → AT G s.heap.size a := fun a h => Or.inl h
  have hA : ∀ q : Nat, s.heap.size ≤ q → AT G s.heap.size q := fun q h => Or.inr h
  have hS : va_S (AT G s.heap.size) s.heap s.heap [] := va_S.rf
  have hl := lv_entry ([.ref a0, .int v1, .int v2]) (n := 3) (Nat.le_of_ble_eq_true rfl)
  rw [lg_entry_eq]
  generalize (lg_sl ([.ref a0, .int v1, .int v2]) ++ List.replicate (3 - (lg_sl ([.ref a0, .int v1, .int v2])).length) Slot.unset).toArray = ls at hl ⊢
  have hl : lv_has ls 3 [(0, .ref a0), (1, .int v1), (2, .int v2)] := hl
  refine lv_iload_n hx hb dX11_number_0 rfl (lv_at hl 2 rfl) ?_
  refine lv_if_ge (tgt := 10) hx hb dX11_number_1 (by decide) (fun c1 => ?_) (fun c1 => ?_)
  · refine lv_aload_n hx hb dX11_number_10 rfl (lv_at hl 0 rfl) ?_
    obtain ⟨y5_2, hy4_2, hy7_2, he2⟩ := ok_X11 hok ha0
    refine th_get hx hb (ly_X11 hE) hown hK hP ha0.1 he2 rfl 0 (by decide) (wd_359 hE) (fun _ h9 => h9) rfl dX11_number_11 ?_
    refine lv_iload_n hx hb dX11_number_14 rfl (lv_at hl 1 rfl) ?_
    refine lv_aload_n hx hb dX11_number_15 rfl (lv_at hl 0 rfl) ?_
    refine th_get hx hb (ly_X11 hE) hown hK hP ha0.1 he2 rfl 10 (by decide) (wd_369 hE) (fun _ h9 => h9) rfl dX11_number_16 ?_
    have he3 := ok_X7 hok (wt_X11_0 hWT ha0)
    refine tc_i hAL hS hA (va_runV (As := [.int v1, .ref (gR G a0 10)]) (rest := []) ⟨hx, hb, hml, hown, noTs⟩ (t_X7_readWord l dC dI s.heap.size G cs tt mm (gR G a0 0) ((wt_X11_0 hWT ha0)) v1 (gR G a0 10) ((wt_X11_10 hWT ha0))) ⟨cbE 2 (wd_817 hE) (wd_116 hE) (wd_814 hE) rfl rfl (by decide +kernel) ⟨Nat.le_of_ble_eq_true rfl, Nat.le_of_ble_eq_true rfl⟩, (wd_815 hE), (wd_816 hE)⟩ ⟨PT.blind, th_recv hK hP (wt_X11_0 hWT ha0).1 he3 rfl, (th_pre (av := [.ref (gR G a0 0), .int v1, .ref (gR G a0 10)]) trivial hK hP hok hnd hWT hE)⟩ rfl rfl hl.1 rfl (lv_room (Nat.le_of_ble_eq_true rfl)) dX11_number_19 ⟨Nat.le_of_ble_eq_true rfl, Nat.le_of_ble_eq_true rfl⟩) (fun r4 f4 H locs hr4 hok hP hS => ?_)
    refine lv_if_ne (tgt := 31) hx hb dX11_number_22 (by decide) (fun c5 => ?_) (fun c5 => ?_)
    · refine lv_iload_n hx hb dX11_number_31 rfl (lv_at hl 2 rfl) ?_
      refine lv_aload_n hx hb dX11_number_32 rfl (lv_at hl 0 rfl) ?_
      obtain ⟨y5_6, hy4_6, hy7_6, he6⟩ := ok_X11 hok ha0
      refine th_get hx hb (ly_X11 hE) hown hK hP ha0.1 he6 rfl 10 (by decide) (wd_369 hE) (fun _ h9 => h9) rfl dX11_number_33 ?_
      obtain ⟨y2_7, y3_7, hy3_7, he7⟩ := ok_X10 hok (wt_X11_10 hWT ha0)
      refine vp_callSi (va_Run.run (va_runV (As := []) (rest := [.int v2]) ⟨hx, hb, hml, hown, noTs⟩ (t_X10_size l dC dI H.size G cs tt mm (gR G a0 10) ((wt_X11_10 hWT ha0)) y2_7 y3_7) ⟨cbE 0 (wd_666 hE) (wd_120 hE) (wd_834 hE) rfl rfl (by decide +kernel) ⟨Nat.le_of_ble_eq_true rfl, Nat.le_of_ble_eq_true rfl⟩, (wd_664 hE), (wd_665 hE)⟩ ⟨PT.blind, th_recv hK hP (wt_X11_10 hWT ha0).1 he7 rfl, (th_pre (av := [.ref (gR G a0 10)]) he7 hK hP hok hnd hWT hE)⟩ rfl rfl hl.1 rfl (lv_room (Nat.le_of_ble_eq_true rfl)) dX11_number_36 ⟨Nat.le_of_ble_eq_true rfl, Nat.le_of_ble_eq_true rfl⟩)) (fun r8 hr8 => ?_)
      subst hr8
      have nt9 : (nI y3_7).toInt = ((y3_7 : Nat) : Int) := nI_toInt (by omega)
      refine lv_icmp_le (tgt := 50) hx hb dX11_number_39 (by decide) (fun c10 => ?_) (fun c10 => ?_)
      · refine lv_aload_n hx hb dX11_number_50 rfl (lv_at hl 0 rfl) ?_
        refine lv_aload_n hx hb dX11_number_51 rfl (lv_at hl 0 rfl) ?_
        refine th_get hx hb (ly_X11 hE) hown hK hP ha0.1 he6 rfl 10 (by decide) (wd_369 hE) (fun _ h9 => h9) rfl dX11_number_52 ?_
        refine lv_iload_n hx hb dX11_number_55 rfl (lv_at hl 2 rfl) ?_
        refine vp_callSi (va_Run.run (va_runV (As := [.int v2]) (rest := [.ref a0]) ⟨hx, hb, hml, hown, noTs⟩ (t_X10_numberAt l dC dI H.size G cs tt mm (gR G a0 10) ((wt_X11_10 hWT ha0)) v2) ⟨cbE 1 (wd_717 hE) (wd_120 hE) (wd_889 hE) rfl rfl (by decide +kernel) ⟨Nat.le_of_ble_eq_true rfl, Nat.le_of_ble_eq_true rfl⟩, (wd_715 hE), (wd_716 hE)⟩ ⟨PT.blind, th_recv hK hP (wt_X11_10 hWT ha0).1 he7 rfl, (th_pre (av := [.ref (gR G a0 10), .int v2]) trivial hK hP hok hnd hWT hE)⟩ rfl rfl hl.1 rfl (lv_room (Nat.le_of_ble_eq_true rfl)) dX11_number_56 ⟨Nat.le_of_ble_eq_true rfl, Nat.le_of_ble_eq_true rfl⟩)) (fun r11 hr11 => ?_)
        refine tc_i hAL hS hA (va_runV (As := [.int r11]) (rest := []) ⟨hx, hb, hml, hown, noTs⟩ (t_X11_answer l dC dI H.size G cs tt mm a0 ha0 r11) ⟨cbE 1 (wd_748 hE) (wd_115 hE) (wd_745 hE) rfl rfl (by decide +kernel) ⟨Nat.le_of_ble_eq_true rfl, Nat.le_of_ble_eq_true rfl⟩, (wd_747 hE), (wd_23 hE)⟩ ⟨PT.blind, th_recv hK hP ha0.1 he6 rfl, (th_pre (av := [.ref a0, .int r11]) trivial hK hP hok hnd hWT hE)⟩ rfl rfl hl.1 rfl (lv_room (Nat.le_of_ble_eq_true rfl)) dX11_number_59 ⟨Nat.le_of_ble_eq_true rfl, Nat.le_of_ble_eq_true rfl⟩) (fun r12 f12 H locs hr12 hok hP hS => ?_)
        refine W.eq (g2 := F0 m 62 ls [.int r11]) (by rw [hr12]) ?_
        exact W.iret (v := r11) hx hb hr (fun t ht hW => ⟨⟨r11, f12, rfl, trivial, hok, by rw [ht]; exact hP⟩, hS.F ht⟩) hS.2.2 dX11_number_62
      · refine lv_aload_n hx hb dX11_number_42 rfl (lv_at hl 0 rfl) ?_
        refine lv_iconst (v := 5) hx hb dX11_number_43 (by decide) ?_
        refine tc_i hAL hS hA (va_runV (As := [.int 5]) (rest := []) ⟨hx, hb, hml, hown, noTs⟩ (t_X11_fail l dC dI H.size G cs tt mm a0 ha0 5) ⟨cbE 1 (wd_436 hE) (wd_115 hE) (wd_433 hE) rfl rfl (by decide +kernel) ⟨Nat.le_of_ble_eq_true rfl, Nat.le_of_ble_eq_true rfl⟩, (wd_435 hE), (wd_1 hE)⟩ ⟨PT.blind, th_recv hK hP ha0.1 he6 rfl, (th_pre (av := [.ref a0, .int 5]) trivial hK hP hok hnd hWT hE)⟩ rfl rfl hl.1 rfl (lv_room (Nat.le_of_ble_eq_true rfl)) dX11_number_44 ⟨Nat.le_of_ble_eq_true rfl, Nat.le_of_ble_eq_true rfl⟩) (fun r13 f13 H locs hr13 hok hP hS => ?_)
        subst hr13
        refine lv_goto (tgt := 62) hx hb dX11_number_47 (by decide) ?_
        exact W.iret (v := -1) hx hb hr (fun t ht hW => ⟨⟨-1, f13, rfl, trivial, hok, by rw [ht]; exact hP⟩, hS.F ht⟩) hS.2.2 dX11_number_62
    · refine lv_aload_n hx hb dX11_number_25 rfl (lv_at hl 0 rfl) ?_
      refine lv_iconst (v := 2) hx hb dX11_number_26 (by decide) ?_
      obtain ⟨y5_14, hy4_14, hy7_14, he14⟩ := ok_X11 hok ha0
      refine tc_i hAL hS hA (va_runV (As := [.int 2]) (rest := []) ⟨hx, hb, hml, hown, noTs⟩ (t_X11_fail l dC dI H.size G cs tt mm a0 ha0 2) ⟨cbE 1 (wd_436 hE) (wd_115 hE) (wd_433 hE) rfl rfl (by decide +kernel) ⟨Nat.le_of_ble_eq_true rfl, Nat.le_of_ble_eq_true rfl⟩, (wd_435 hE), (wd_1 hE)⟩ ⟨PT.blind, th_recv hK hP ha0.1 he14 rfl, (th_pre (av := [.ref a0, .int 2]) trivial hK hP hok hnd hWT hE)⟩ rfl rfl hl.1 rfl (lv_room (Nat.le_of_ble_eq_true rfl)) dX11_number_27 ⟨Nat.le_of_ble_eq_true rfl, Nat.le_of_ble_eq_true rfl⟩) (fun r15 f15 H locs hr15 hok hP hS => ?_)
      subst hr15
      exact W.iret (v := -1) hx hb hr (fun t ht hW => ⟨⟨-1, f15, rfl, trivial, hok, by rw [ht]; exact hP⟩, hS.F ht⟩) hS.2.2 dX11_number_30
  · refine lv_aload_n hx hb dX11_number_4 rfl (lv_at hl 0 rfl) ?_
    refine lv_iconst (v := 1) hx hb dX11_number_5 (by decide) ?_
    obtain ⟨y5_16, hy4_16, hy7_16, he16⟩ := ok_X11 hok ha0
    refine tc_i hAL hS hA (va_runV (As := [.int 1]) (rest := []) ⟨hx, hb, hml, hown, noTs⟩ (t_X11_fail l dC dI s.heap.size G cs tt mm a0 ha0 1) ⟨cbE 1 (wd_436 hE) (wd_115 hE) (wd_433 hE) rfl rfl (by decide +kernel) ⟨Nat.le_of_ble_eq_true rfl, Nat.le_of_ble_eq_true rfl⟩, (wd_435 hE), (wd_1 hE)⟩ ⟨PT.blind, th_recv hK hP ha0.1 he16 rfl, (th_pre (av := [.ref a0, .int 1]) trivial hK hP hok hnd hWT hE)⟩ rfl rfl hl.1 rfl (lv_room (Nat.le_of_ble_eq_true rfl)) dX11_number_6 ⟨Nat.le_of_ble_eq_true rfl, Nat.le_of_ble_eq_true rfl⟩) (fun r17 f17 H locs hr17 hok hP hS => ?_)
    subst hr17
    exact W.iret (v := -1) hx hb hr (fun t ht hW => ⟨⟨-1, f17, rfl, trivial, hok, by rw [ht]; exact hP⟩, hS.F ht⟩) hS.2.2 dX11_number_9

set_option maxHeartbeats 4000000 in
set_option maxRecDepth 100000 in
theorem t_X11_step (l : Launch) (dC : Nat → ClassId) (dI : Nat → Nat → Nat) (sz : Nat) (G : GT) (cs : Nat → ClassId) (tt mm : Nat) (a0 : Nat) (ha0 : Ty G a0 11) (v1 : Int32) (v2 : Int32) : Met l yX11_step [.code yX11_step cX11_step 3 (some .int)] ({ frames := 2, cells := 0, slots := 0, locals := 80 }) (PT [.ref a0, .int v1, .int v2] sz dC dI G cs tt mm (fun _ => True)) (va_Qi (fun (r : Int32) (u : Nat → va_E) => True) (BT dC dI G cs tt mm) (AT G sz)) 0 0 (AT G sz) := by
  refine Met.ofW (cc := cX11_step) (maxL := 3) (ret := (some .int)) (by decide) rfl ?_
  intro p e s m args below meth c s₁ B hml hv
  obtain ⟨rfl, hsz, ⟨f0, hok, hP, hX⟩, hK, hnd, hWT, hE⟩ := hv
  have hx := B.exec
  have hb := B.bytes
  have hr := B.returns
  have hown : s.vm.findClass RX11 = some m.cls := findClass_of_methodNamed B.named
  have hlocks := B.notSynchronized
  subst hsz
  have hAL : ∀ a, a ∈ gL G → AT G s.heap.size a := fun a h => Or.inl h
  have hA : ∀ q : Nat, s.heap.size ≤ q → AT G s.heap.size q := fun q h => Or.inr h
  have hS : va_S (AT G s.heap.size) s.heap s.heap [] := va_S.rf
  have hl := lv_entry ([.ref a0, .int v1, .int v2]) (n := 3) (Nat.le_of_ble_eq_true rfl)
  rw [lg_entry_eq]
  generalize (lg_sl ([.ref a0, .int v1, .int v2]) ++ List.replicate (3 - (lg_sl ([.ref a0, .int v1, .int v2])).length) Slot.unset).toArray = ls at hl ⊢
  have hl : lv_has ls 3 [(0, .ref a0), (1, .int v1), (2, .int v2)] := hl
  refine lv_iload_n hx hb dX11_step_0 rfl (lv_at hl 2 rfl) ?_
  refine lv_if_ge (tgt := 10) hx hb dX11_step_1 (by decide) (fun c1 => ?_) (fun c1 => ?_)
  · refine lv_aload_n hx hb dX11_step_10 rfl (lv_at hl 0 rfl) ?_
    obtain ⟨y5_2, hy4_2, hy7_2, he2⟩ := ok_X11 hok ha0
    refine th_get hx hb (ly_X11 hE) hown hK hP ha0.1 he2 rfl 0 (by decide) (wd_359 hE) (fun _ h9 => h9) rfl dX11_step_11 ?_
    refine lv_iload_n hx hb dX11_step_14 rfl (lv_at hl 1 rfl) ?_
    refine lv_aload_n hx hb dX11_step_15 rfl (lv_at hl 0 rfl) ?_
    refine th_get hx hb (ly_X11 hE) hown hK hP ha0.1 he2 rfl 10 (by decide) (wd_369 hE) (fun _ h9 => h9) rfl dX11_step_16 ?_
    have he3 := ok_X7 hok (wt_X11_0 hWT ha0)
    refine tc_i hAL hS hA (va_runV (As := [.int v1, .ref (gR G a0 10)]) (rest := []) ⟨hx, hb, hml, hown, noTs⟩ (t_X7_readWord l dC dI s.heap.size G cs tt mm (gR G a0 0) ((wt_X11_0 hWT ha0)) v1 (gR G a0 10) ((wt_X11_10 hWT ha0))) ⟨cbE 2 (wd_817 hE) (wd_116 hE) (wd_814 hE) rfl rfl (by decide +kernel) ⟨Nat.le_of_ble_eq_true rfl, Nat.le_of_ble_eq_true rfl⟩, (wd_815 hE), (wd_816 hE)⟩ ⟨PT.blind, th_recv hK hP (wt_X11_0 hWT ha0).1 he3 rfl, (th_pre (av := [.ref (gR G a0 0), .int v1, .ref (gR G a0 10)]) trivial hK hP hok hnd hWT hE)⟩ rfl rfl hl.1 rfl (lv_room (Nat.le_of_ble_eq_true rfl)) dX11_step_19 ⟨Nat.le_of_ble_eq_true rfl, Nat.le_of_ble_eq_true rfl⟩) (fun r4 f4 H locs hr4 hok hP hS => ?_)
    refine lv_if_ne (tgt := 31) hx hb dX11_step_22 (by decide) (fun c5 => ?_) (fun c5 => ?_)
    · refine lv_iload_n hx hb dX11_step_31 rfl (lv_at hl 2 rfl) ?_
      refine lv_aload_n hx hb dX11_step_32 rfl (lv_at hl 0 rfl) ?_
      obtain ⟨y5_6, hy4_6, hy7_6, he6⟩ := ok_X11 hok ha0
      refine th_get hx hb (ly_X11 hE) hown hK hP ha0.1 he6 rfl 10 (by decide) (wd_369 hE) (fun _ h9 => h9) rfl dX11_step_33 ?_
      obtain ⟨y2_7, y3_7, hy3_7, he7⟩ := ok_X10 hok (wt_X11_10 hWT ha0)
      refine vp_callSi (va_Run.run (va_runV (As := []) (rest := [.int v2]) ⟨hx, hb, hml, hown, noTs⟩ (t_X10_size l dC dI H.size G cs tt mm (gR G a0 10) ((wt_X11_10 hWT ha0)) y2_7 y3_7) ⟨cbE 0 (wd_666 hE) (wd_120 hE) (wd_834 hE) rfl rfl (by decide +kernel) ⟨Nat.le_of_ble_eq_true rfl, Nat.le_of_ble_eq_true rfl⟩, (wd_664 hE), (wd_665 hE)⟩ ⟨PT.blind, th_recv hK hP (wt_X11_10 hWT ha0).1 he7 rfl, (th_pre (av := [.ref (gR G a0 10)]) he7 hK hP hok hnd hWT hE)⟩ rfl rfl hl.1 rfl (lv_room (Nat.le_of_ble_eq_true rfl)) dX11_step_36 ⟨Nat.le_of_ble_eq_true rfl, Nat.le_of_ble_eq_true rfl⟩)) (fun r8 hr8 => ?_)
      subst hr8
      have nt9 : (nI y3_7).toInt = ((y3_7 : Nat) : Int) := nI_toInt (by omega)
      refine lv_icmp_lt (tgt := 50) hx hb dX11_step_39 (by decide) (fun c10 => ?_) (fun c10 => ?_)
      · refine lv_aload_n hx hb dX11_step_50 rfl (lv_at hl 0 rfl) ?_
        refine lv_aload_n hx hb dX11_step_51 rfl (lv_at hl 0 rfl) ?_
        refine th_get hx hb (ly_X11 hE) hown hK hP ha0.1 he6 rfl 10 (by decide) (wd_369 hE) (fun _ h9 => h9) rfl dX11_step_52 ?_
        refine lv_iload_n hx hb dX11_step_55 rfl (lv_at hl 2 rfl) ?_
        refine vp_callSi (va_Run.run (va_runV (As := [.int v2]) (rest := [.ref a0]) ⟨hx, hb, hml, hown, noTs⟩ (t_X10_stepAt l dC dI H.size G cs tt mm (gR G a0 10) ((wt_X11_10 hWT ha0)) v2) ⟨cbE 1 (wd_721 hE) (wd_120 hE) (wd_894 hE) rfl rfl (by decide +kernel) ⟨Nat.le_of_ble_eq_true rfl, Nat.le_of_ble_eq_true rfl⟩, (wd_719 hE), (wd_720 hE)⟩ ⟨PT.blind, th_recv hK hP (wt_X11_10 hWT ha0).1 he7 rfl, (th_pre (av := [.ref (gR G a0 10), .int v2]) trivial hK hP hok hnd hWT hE)⟩ rfl rfl hl.1 rfl (lv_room (Nat.le_of_ble_eq_true rfl)) dX11_step_56 ⟨Nat.le_of_ble_eq_true rfl, Nat.le_of_ble_eq_true rfl⟩)) (fun r11 hr11 => ?_)
        refine tc_i hAL hS hA (va_runV (As := [.int r11]) (rest := []) ⟨hx, hb, hml, hown, noTs⟩ (t_X11_answer l dC dI H.size G cs tt mm a0 ha0 r11) ⟨cbE 1 (wd_748 hE) (wd_115 hE) (wd_745 hE) rfl rfl (by decide +kernel) ⟨Nat.le_of_ble_eq_true rfl, Nat.le_of_ble_eq_true rfl⟩, (wd_747 hE), (wd_23 hE)⟩ ⟨PT.blind, th_recv hK hP ha0.1 he6 rfl, (th_pre (av := [.ref a0, .int r11]) trivial hK hP hok hnd hWT hE)⟩ rfl rfl hl.1 rfl (lv_room (Nat.le_of_ble_eq_true rfl)) dX11_step_59 ⟨Nat.le_of_ble_eq_true rfl, Nat.le_of_ble_eq_true rfl⟩) (fun r12 f12 H locs hr12 hok hP hS => ?_)
        refine W.eq (g2 := F0 m 62 ls [.int r11]) (by rw [hr12]) ?_
        exact W.iret (v := r11) hx hb hr (fun t ht hW => ⟨⟨r11, f12, rfl, trivial, hok, by rw [ht]; exact hP⟩, hS.F ht⟩) hS.2.2 dX11_step_62
      · refine lv_aload_n hx hb dX11_step_42 rfl (lv_at hl 0 rfl) ?_
        refine lv_iconst (v := 5) hx hb dX11_step_43 (by decide) ?_
        refine tc_i hAL hS hA (va_runV (As := [.int 5]) (rest := []) ⟨hx, hb, hml, hown, noTs⟩ (t_X11_fail l dC dI H.size G cs tt mm a0 ha0 5) ⟨cbE 1 (wd_436 hE) (wd_115 hE) (wd_433 hE) rfl rfl (by decide +kernel) ⟨Nat.le_of_ble_eq_true rfl, Nat.le_of_ble_eq_true rfl⟩, (wd_435 hE), (wd_1 hE)⟩ ⟨PT.blind, th_recv hK hP ha0.1 he6 rfl, (th_pre (av := [.ref a0, .int 5]) trivial hK hP hok hnd hWT hE)⟩ rfl rfl hl.1 rfl (lv_room (Nat.le_of_ble_eq_true rfl)) dX11_step_44 ⟨Nat.le_of_ble_eq_true rfl, Nat.le_of_ble_eq_true rfl⟩) (fun r13 f13 H locs hr13 hok hP hS => ?_)
        subst hr13
        refine lv_goto (tgt := 62) hx hb dX11_step_47 (by decide) ?_
        exact W.iret (v := -1) hx hb hr (fun t ht hW => ⟨⟨-1, f13, rfl, trivial, hok, by rw [ht]; exact hP⟩, hS.F ht⟩) hS.2.2 dX11_step_62
    · refine lv_aload_n hx hb dX11_step_25 rfl (lv_at hl 0 rfl) ?_
      refine lv_iconst (v := 2) hx hb dX11_step_26 (by decide) ?_
      obtain ⟨y5_14, hy4_14, hy7_14, he14⟩ := ok_X11 hok ha0
      refine tc_i hAL hS hA (va_runV (As := [.int 2]) (rest := []) ⟨hx, hb, hml, hown, noTs⟩ (t_X11_fail l dC dI H.size G cs tt mm a0 ha0 2) ⟨cbE 1 (wd_436 hE) (wd_115 hE) (wd_433 hE) rfl rfl (by decide +kernel) ⟨Nat.le_of_ble_eq_true rfl, Nat.le_of_ble_eq_true rfl⟩, (wd_435 hE), (wd_1 hE)⟩ ⟨PT.blind, th_recv hK hP ha0.1 he14 rfl, (th_pre (av := [.ref a0, .int 2]) trivial hK hP hok hnd hWT hE)⟩ rfl rfl hl.1 rfl (lv_room (Nat.le_of_ble_eq_true rfl)) dX11_step_27 ⟨Nat.le_of_ble_eq_true rfl, Nat.le_of_ble_eq_true rfl⟩) (fun r15 f15 H locs hr15 hok hP hS => ?_)
      subst hr15
      exact W.iret (v := -1) hx hb hr (fun t ht hW => ⟨⟨-1, f15, rfl, trivial, hok, by rw [ht]; exact hP⟩, hS.F ht⟩) hS.2.2 dX11_step_30
  · refine lv_aload_n hx hb dX11_step_4 rfl (lv_at hl 0 rfl) ?_
    refine lv_iconst (v := 1) hx hb dX11_step_5 (by decide) ?_
    obtain ⟨y5_16, hy4_16, hy7_16, he16⟩ := ok_X11 hok ha0
    refine tc_i hAL hS hA (va_runV (As := [.int 1]) (rest := []) ⟨hx, hb, hml, hown, noTs⟩ (t_X11_fail l dC dI s.heap.size G cs tt mm a0 ha0 1) ⟨cbE 1 (wd_436 hE) (wd_115 hE) (wd_433 hE) rfl rfl (by decide +kernel) ⟨Nat.le_of_ble_eq_true rfl, Nat.le_of_ble_eq_true rfl⟩, (wd_435 hE), (wd_1 hE)⟩ ⟨PT.blind, th_recv hK hP ha0.1 he16 rfl, (th_pre (av := [.ref a0, .int 1]) trivial hK hP hok hnd hWT hE)⟩ rfl rfl hl.1 rfl (lv_room (Nat.le_of_ble_eq_true rfl)) dX11_step_6 ⟨Nat.le_of_ble_eq_true rfl, Nat.le_of_ble_eq_true rfl⟩) (fun r17 f17 H locs hr17 hok hP hS => ?_)
    subst hr17
    exact W.iret (v := -1) hx hb hr (fun t ht hW => ⟨⟨-1, f17, rfl, trivial, hok, by rw [ht]; exact hP⟩, hS.F ht⟩) hS.2.2 dX11_step_9

set_option maxHeartbeats 4000000 in
set_option maxRecDepth 100000 in
theorem t_X11_keep (l : Launch) (dC : Nat → ClassId) (dI : Nat → Nat → Nat) (sz : Nat) (G : GT) (cs : Nat → ClassId) (tt mm : Nat) (a0 : Nat) (ha0 : Ty G a0 11) (a1 : Nat) (ha1 : Ty G a1 10) : Met l yX11_keep [.code yX11_keep cX11_keep 2 (some .int)] ({ frames := 3, cells := 0, slots := 0, locals := 120 }) (PT [.ref a0, .ref a1] sz dC dI G cs tt mm (fun _ => True)) (va_Qi (fun (r : Int32) (u : Nat → va_E) => True) (BT dC dI G cs tt mm) (AT G sz)) 0 0 (AT G sz) := by
  refine Met.ofW (cc := cX11_keep) (maxL := 2) (ret := (some .int)) (by decide) rfl ?_
  intro p e s m args below meth c s₁ B hml hv
  obtain ⟨rfl, hsz, ⟨f0, hok, hP, hX⟩, hK, hnd, hWT, hE⟩ := hv
  have hx := B.exec
  have hb := B.bytes
  have hr := B.returns
  have hown : s.vm.findClass RX11 = some m.cls := findClass_of_methodNamed B.named
  have hlocks := B.notSynchronized
  subst hsz
  have hAL : ∀ a, a ∈ gL G → AT G s.heap.size a := fun a h => Or.inl h
  have hA : ∀ q : Nat, s.heap.size ≤ q → AT G s.heap.size q := fun q h => Or.inr h
  have hS : va_S (AT G s.heap.size) s.heap s.heap [] := va_S.rf
  have hl := lv_entry ([.ref a0, .ref a1]) (n := 2) (Nat.le_of_ble_eq_true rfl)
  rw [lg_entry_eq]
  generalize (lg_sl ([.ref a0, .ref a1]) ++ List.replicate (2 - (lg_sl ([.ref a0, .ref a1])).length) Slot.unset).toArray = ls at hl ⊢
  have hl : lv_has ls 2 [(0, .ref a0), (1, .ref a1)] := hl
  refine lv_aload_n hx hb dX11_keep_0 rfl (lv_at hl 0 rfl) ?_
  obtain ⟨y5_1, hy4_1, hy7_1, he1⟩ := ok_X11 hok ha0
  refine th_get hx hb (ly_X11 hE) hown hK hP ha0.1 he1 rfl 1 (by decide) (wd_360 hE) (fun _ h9 => h9) rfl dX11_keep_1 ?_
  refine lv_aload_n hx hb dX11_keep_4 rfl (lv_at hl 0 rfl) ?_
  refine th_get hx hb (ly_X11 hE) hown hK hP ha0.1 he1 rfl 0 (by decide) (wd_359 hE) (fun _ h9 => h9) rfl dX11_keep_5 ?_
  obtain ⟨y1_2, y2_2, he2⟩ := ok_X3 hok (wt_X11_1 hWT ha0)
  refine tc_v hAL hS hA (va_runV (As := [.ref (gR G a0 0)]) (rest := []) ⟨hx, hb, hml, hown, noTs⟩ (t_X3_push l dC dI s.heap.size G cs tt mm (gR G a0 1) ((wt_X11_1 hWT ha0)) (gR G a0 0) ((wt_X11_0 hWT ha0))) ⟨cbE 1 (wd_725 hE) (wd_117 hE) (wd_722 hE) rfl rfl (by decide +kernel) ⟨Nat.le_of_ble_eq_true rfl, Nat.le_of_ble_eq_true rfl⟩, (wd_723 hE), (wd_724 hE)⟩ ⟨PT.blind, th_recv hK hP (wt_X11_1 hWT ha0).1 he2 rfl, (th_pre (av := [.ref (gR G a0 1), .ref (gR G a0 0)]) trivial hK hP hok hnd hWT hE)⟩ rfl rfl hl.1 rfl (lv_room (Nat.le_of_ble_eq_true rfl)) dX11_keep_8 ⟨Nat.le_of_ble_eq_true rfl, Nat.le_of_ble_eq_true rfl⟩) (fun f3 H locs hr3 hok hP hS => ?_)
  refine lv_aload_n hx hb dX11_keep_11 rfl (lv_at hl 0 rfl) ?_
  refine lv_aload_n hx hb dX11_keep_12 rfl (lv_at hl 0 rfl) ?_
  obtain ⟨y5_4, hy4_4, hy7_4, he4⟩ := ok_X11 hok ha0
  refine th_get hx hb (ly_X11 hE) hown hK hP ha0.1 he4 rfl 0 (by decide) (wd_359 hE) (fun _ h9 => h9) rfl dX11_keep_13 ?_
  refine lv_aload_n hx hb dX11_keep_16 rfl (lv_at hl 1 rfl) ?_
  have he5 := ok_X7 hok (wt_X11_0 hWT ha0)
  refine tc_i hAL hS hA (va_runV (As := [.ref a1]) (rest := [.ref a0]) ⟨hx, hb, hml, hown, noTs⟩ (t_X7_addWord l dC dI H.size G cs tt mm (gR G a0 0) ((wt_X11_0 hWT ha0)) a1 ha1) ⟨cbE 1 (wd_696 hE) (wd_116 hE) (wd_906 hE) rfl rfl (by decide +kernel) ⟨Nat.le_of_ble_eq_true rfl, Nat.le_of_ble_eq_true rfl⟩, (wd_694 hE), (wd_695 hE)⟩ ⟨PT.blind, th_recv hK hP (wt_X11_0 hWT ha0).1 he5 rfl, (th_pre (av := [.ref (gR G a0 0), .ref a1]) trivial hK hP hok hnd hWT hE)⟩ rfl rfl hl.1 rfl (lv_room (Nat.le_of_ble_eq_true rfl)) dX11_keep_17 ⟨Nat.le_of_ble_eq_true rfl, Nat.le_of_ble_eq_true rfl⟩) (fun r6 f6 H locs hr6 hok hP hS => ?_)
  obtain ⟨y5_7, hy4_7, hy7_7, he7⟩ := ok_X11 hok ha0
  refine tc_i hAL hS hA (va_runV (As := [.int r6]) (rest := []) ⟨hx, hb, hml, hown, noTs⟩ (t_X11_answer l dC dI H.size G cs tt mm a0 ha0 r6) ⟨cbE 1 (wd_748 hE) (wd_115 hE) (wd_745 hE) rfl rfl (by decide +kernel) ⟨Nat.le_of_ble_eq_true rfl, Nat.le_of_ble_eq_true rfl⟩, (wd_747 hE), (wd_23 hE)⟩ ⟨PT.blind, th_recv hK hP ha0.1 he7 rfl, (th_pre (av := [.ref a0, .int r6]) trivial hK hP hok hnd hWT hE)⟩ rfl rfl hl.1 rfl (lv_room (Nat.le_of_ble_eq_true rfl)) dX11_keep_20 ⟨Nat.le_of_ble_eq_true rfl, Nat.le_of_ble_eq_true rfl⟩) (fun r8 f8 H locs hr8 hok hP hS => ?_)
  refine W.eq (g2 := F0 m 23 ls [.int r6]) (by rw [hr8]) ?_
  exact W.iret (v := r6) hx hb hr (fun t ht hW => ⟨⟨r6, f8, rfl, trivial, hok, by rw [ht]; exact hP⟩, hS.F ht⟩) hS.2.2 dX11_keep_23

set_option maxHeartbeats 4000000 in
set_option maxRecDepth 100000 in
theorem t_X11_take (l : Launch) (dC : Nat → ClassId) (dI : Nat → Nat → Nat) (sz : Nat) (G : GT) (cs : Nat → ClassId) (tt mm : Nat) (a0 : Nat) (ha0 : Ty G a0 11) (v1 : Int32) (v2 : Int32) : Met l yX11_take [.code yX11_take cX11_take 3 (some .int)] ({ frames := 4, cells := 0, slots := 0, locals := 160 }) (PT [.ref a0, .int v1, .int v2] sz dC dI G cs tt mm (fun _ => True)) (va_Qi (fun (r : Int32) (u : Nat → va_E) => True) (BT dC dI G cs tt mm) (AT G sz)) 0 0 (AT G sz) := by
  refine Met.ofW (cc := cX11_take) (maxL := 3) (ret := (some .int)) (by decide) rfl ?_
  intro p e s m args below meth c s₁ B hml hv
  obtain ⟨rfl, hsz, ⟨f0, hok, hP, hX⟩, hK, hnd, hWT, hE⟩ := hv
  have hx := B.exec
  have hb := B.bytes
  have hr := B.returns
  have hown : s.vm.findClass RX11 = some m.cls := findClass_of_methodNamed B.named
  have hlocks := B.notSynchronized
  subst hsz
  have hAL : ∀ a, a ∈ gL G → AT G s.heap.size a := fun a h => Or.inl h
  have hA : ∀ q : Nat, s.heap.size ≤ q → AT G s.heap.size q := fun q h => Or.inr h
  have hS : va_S (AT G s.heap.size) s.heap s.heap [] := va_S.rf
  have hl := lv_entry ([.ref a0, .int v1, .int v2]) (n := 3) (Nat.le_of_ble_eq_true rfl)
  rw [lg_entry_eq]
  generalize (lg_sl ([.ref a0, .int v1, .int v2]) ++ List.replicate (3 - (lg_sl ([.ref a0, .int v1, .int v2])).length) Slot.unset).toArray = ls at hl ⊢
  have hl : lv_has ls 3 [(0, .ref a0), (1, .int v1), (2, .int v2)] := hl
  refine lv_iload_n hx hb dX11_take_0 rfl (lv_at hl 2 rfl) ?_
  refine lv_if_ge (tgt := 10) hx hb dX11_take_1 (by decide) (fun c1 => ?_) (fun c1 => ?_)
  · refine lv_aload_n hx hb dX11_take_10 rfl (lv_at hl 0 rfl) ?_
    obtain ⟨y5_2, hy4_2, hy7_2, he2⟩ := ok_X11 hok ha0
    refine th_get hx hb (ly_X11 hE) hown hK hP ha0.1 he2 rfl 0 (by decide) (wd_359 hE) (fun _ h9 => h9) rfl dX11_take_11 ?_
    refine lv_iload_n hx hb dX11_take_14 rfl (lv_at hl 1 rfl) ?_
    have he3 := ok_X7 hok (wt_X11_0 hWT ha0)
    refine vp_callSi (va_Run.run (va_runV (As := [.int v1]) (rest := []) ⟨hx, hb, hml, hown, noTs⟩ (t_X7_hasVertex l dC dI s.heap.size G cs tt mm (gR G a0 0) ((wt_X11_0 hWT ha0)) v1) ⟨cbE 1 (wd_606 hE) (wd_116 hE) (wd_796 hE) rfl rfl (by decide +kernel) ⟨Nat.le_of_ble_eq_true rfl, Nat.le_of_ble_eq_true rfl⟩, (wd_604 hE), (wd_605 hE)⟩ ⟨PT.blind, th_recv hK hP (wt_X11_0 hWT ha0).1 he3 rfl, (th_pre (av := [.ref (gR G a0 0), .int v1]) trivial hK hP hok hnd hWT hE)⟩ rfl rfl hl.1 rfl (lv_room (Nat.le_of_ble_eq_true rfl)) dX11_take_15 ⟨Nat.le_of_ble_eq_true rfl, Nat.le_of_ble_eq_true rfl⟩)) (fun r4 hr4 => ?_)
    refine lv_if_ne (tgt := 27) hx hb dX11_take_18 (by decide) (fun c5 => ?_) (fun c5 => ?_)
    · refine lv_aload_n hx hb dX11_take_27 rfl (lv_at hl 0 rfl) ?_
      refine th_get hx hb (ly_X11 hE) hown hK hP ha0.1 he2 rfl 0 (by decide) (wd_359 hE) (fun _ h9 => h9) rfl dX11_take_28 ?_
      refine vp_callSi (va_Run.run (va_runV (As := []) (rest := []) ⟨hx, hb, hml, hown, noTs⟩ (t_X7_isFull l dC dI s.heap.size G cs tt mm (gR G a0 0) ((wt_X11_0 hWT ha0))) ⟨cbE 0 (wd_633 hE) (wd_116 hE) (wd_899 hE) rfl rfl (by decide +kernel) ⟨Nat.le_of_ble_eq_true rfl, Nat.le_of_ble_eq_true rfl⟩, (wd_631 hE), (wd_632 hE)⟩ ⟨PT.blind, th_recv hK hP (wt_X11_0 hWT ha0).1 he3 rfl, (th_pre (av := [.ref (gR G a0 0)]) trivial hK hP hok hnd hWT hE)⟩ rfl rfl hl.1 rfl (lv_room (Nat.le_of_ble_eq_true rfl)) dX11_take_31 ⟨Nat.le_of_ble_eq_true rfl, Nat.le_of_ble_eq_true rfl⟩)) (fun r6 hr6 => ?_)
      refine lv_if_eq (tgt := 43) hx hb dX11_take_34 (by decide) (fun c7 => ?_) (fun c7 => ?_)
      · refine lv_aload_n hx hb dX11_take_43 rfl (lv_at hl 0 rfl) ?_
        refine th_get hx hb (ly_X11 hE) hown hK hP ha0.1 he2 rfl 12 (by decide) (wd_371 hE) (fun _ h9 => h9) rfl dX11_take_44 ?_
        refine lv_iload_n hx hb dX11_take_47 rfl (lv_at hl 1 rfl) ?_
        refine lv_iload_n hx hb dX11_take_48 rfl (lv_at hl 2 rfl) ?_
        refine lv_aload_n hx hb dX11_take_49 rfl (lv_at hl 0 rfl) ?_
        refine th_get hx hb (ly_X11 hE) hown hK hP ha0.1 he2 rfl 0 (by decide) (wd_359 hE) (fun _ h9 => h9) rfl dX11_take_50 ?_
        refine lv_iload_n hx hb dX11_take_53 rfl (lv_at hl 1 rfl) ?_
        refine vp_callSi (va_Run.run (va_runV (As := [.int v1]) (rest := [.int v2, .int v1, .ref (gR G a0 12)]) ⟨hx, hb, hml, hown, noTs⟩ (t_X7_orderAt l dC dI s.heap.size G cs tt mm (gR G a0 0) ((wt_X11_0 hWT ha0)) v1) ⟨cbE 1 (wd_614 hE) (wd_116 hE) (wd_797 hE) rfl rfl (by decide +kernel) ⟨Nat.le_of_ble_eq_true rfl, Nat.le_of_ble_eq_true rfl⟩, (wd_612 hE), (wd_613 hE)⟩ ⟨PT.blind, th_recv hK hP (wt_X11_0 hWT ha0).1 he3 rfl, (th_pre (av := [.ref (gR G a0 0), .int v1]) trivial hK hP hok hnd hWT hE)⟩ rfl rfl hl.1 rfl (lv_room (Nat.le_of_ble_eq_true rfl)) dX11_take_54 ⟨Nat.le_of_ble_eq_true rfl, Nat.le_of_ble_eq_true rfl⟩)) (fun r8 hr8 => ?_)
        refine vp_callSi (va_Run.run (va_runS (As := [.int v2, .int r8]) (rest := [.int v1, .ref (gR G a0 12)]) ⟨hx, hb, hml, hown, noTs⟩ (t_X11_rest l dC dI s.heap.size G cs tt mm v2 r8) ⟨cbE 2 (wd_617 hE) (wd_115 hE) (wd_900 hE) rfl rfl (by decide +kernel) ⟨Nat.le_of_ble_eq_true rfl, Nat.le_of_ble_eq_true rfl⟩, (wd_616 hE)⟩ ⟨PT.blind, (th_pre (av := [.int v2, .int r8]) trivial hK hP hok hnd hWT hE)⟩ rfl rfl hl.1 rfl (lv_room (Nat.le_of_ble_eq_true rfl)) dX11_take_57 ⟨Nat.le_of_ble_eq_true rfl, Nat.le_of_ble_eq_true rfl⟩)) (fun r9 hr9 => ?_)
        obtain ⟨hra9, hrb9⟩ := hr9
        obtain ⟨y2_10, y3_10, hy3_10, he10⟩ := ok_X10 hok (wt_X11_12 hWT ha0)
        refine tc_v hAL hS hA (va_runV (As := [.int v1, .int r9]) (rest := []) ⟨hx, hb, hml, hown, noTs⟩ (t_X10_start l dC dI s.heap.size G cs tt mm (gR G a0 12) ((wt_X11_12 hWT ha0)) v1 r9) ⟨cbE 2 (wd_637 hE) (wd_120 hE) (wd_901 hE) rfl rfl (by decide +kernel) ⟨Nat.le_of_ble_eq_true rfl, Nat.le_of_ble_eq_true rfl⟩, (wd_635 hE), (wd_636 hE)⟩ ⟨PT.blind, th_recv hK hP (wt_X11_12 hWT ha0).1 he10 rfl, (th_pre (av := [.ref (gR G a0 12), .int v1, .int r9]) trivial hK hP hok hnd hWT hE)⟩ rfl rfl hl.1 rfl (lv_room (Nat.le_of_ble_eq_true rfl)) dX11_take_60 ⟨Nat.le_of_ble_eq_true rfl, Nat.le_of_ble_eq_true rfl⟩) (fun f11 H locs hr11 hok hP hS => ?_)
        refine lv_aload_n hx hb dX11_take_63 rfl (lv_at hl 0 rfl) ?_
        refine lv_aload_n hx hb dX11_take_64 rfl (lv_at hl 0 rfl) ?_
        obtain ⟨y5_12, hy4_12, hy7_12, he12⟩ := ok_X11 hok ha0
        refine th_get hx hb (ly_X11 hE) hown hK hP ha0.1 he12 rfl 12 (by decide) (wd_371 hE) (fun _ h9 => h9) rfl dX11_take_65 ?_
        refine tc_i hAL hS hA (va_runV (As := [.ref (gR G a0 12)]) (rest := []) ⟨hx, hb, hml, hown, noTs⟩ (t_X11_keep l dC dI H.size G cs tt mm a0 ha0 (gR G a0 12) ((wt_X11_12 hWT ha0))) ⟨cbE 1 (wd_905 hE) (wd_115 hE) (wd_902 hE) rfl rfl (by decide +kernel) ⟨Nat.le_of_ble_eq_true rfl, Nat.le_of_ble_eq_true rfl⟩, (wd_904 hE), (wd_28 hE)⟩ ⟨PT.blind, th_recv hK hP ha0.1 he12 rfl, (th_pre (av := [.ref a0, .ref (gR G a0 12)]) trivial hK hP hok hnd hWT hE)⟩ rfl rfl hl.1 rfl (lv_room (Nat.le_of_ble_eq_true rfl)) dX11_take_68 ⟨Nat.le_of_ble_eq_true rfl, Nat.le_of_ble_eq_true rfl⟩) (fun r13 f13 H locs hr13 hok hP hS => ?_)
        exact W.iret (v := r13) hx hb hr (fun t ht hW => ⟨⟨r13, f13, rfl, trivial, hok, by rw [ht]; exact hP⟩, hS.F ht⟩) hS.2.2 dX11_take_71
      · refine lv_aload_n hx hb dX11_take_37 rfl (lv_at hl 0 rfl) ?_
        refine lv_iconst (v := 3) hx hb dX11_take_38 (by decide) ?_
        refine tc_i hAL hS hA (va_runV (As := [.int 3]) (rest := []) ⟨hx, hb, hml, hown, noTs⟩ (t_X11_fail l dC dI s.heap.size G cs tt mm a0 ha0 3) ⟨cbE 1 (wd_436 hE) (wd_115 hE) (wd_433 hE) rfl rfl (by decide +kernel) ⟨Nat.le_of_ble_eq_true rfl, Nat.le_of_ble_eq_true rfl⟩, (wd_435 hE), (wd_1 hE)⟩ ⟨PT.blind, th_recv hK hP ha0.1 he2 rfl, (th_pre (av := [.ref a0, .int 3]) trivial hK hP hok hnd hWT hE)⟩ rfl rfl hl.1 rfl (lv_room (Nat.le_of_ble_eq_true rfl)) dX11_take_39 ⟨Nat.le_of_ble_eq_true rfl, Nat.le_of_ble_eq_true rfl⟩) (fun r14 f14 H locs hr14 hok hP hS => ?_)
        subst hr14
        exact W.iret (v := -1) hx hb hr (fun t ht hW => ⟨⟨-1, f14, rfl, trivial, hok, by rw [ht]; exact hP⟩, hS.F ht⟩) hS.2.2 dX11_take_42
    · refine lv_aload_n hx hb dX11_take_21 rfl (lv_at hl 0 rfl) ?_
      refine lv_iconst (v := 2) hx hb dX11_take_22 (by decide) ?_
      refine tc_i hAL hS hA (va_runV (As := [.int 2]) (rest := []) ⟨hx, hb, hml, hown, noTs⟩ (t_X11_fail l dC dI s.heap.size G cs tt mm a0 ha0 2) ⟨cbE 1 (wd_436 hE) (wd_115 hE) (wd_433 hE) rfl rfl (by decide +kernel) ⟨Nat.le_of_ble_eq_true rfl, Nat.le_of_ble_eq_true rfl⟩, (wd_435 hE), (wd_1 hE)⟩ ⟨PT.blind, th_recv hK hP ha0.1 he2 rfl, (th_pre (av := [.ref a0, .int 2]) trivial hK hP hok hnd hWT hE)⟩ rfl rfl hl.1 rfl (lv_room (Nat.le_of_ble_eq_true rfl)) dX11_take_23 ⟨Nat.le_of_ble_eq_true rfl, Nat.le_of_ble_eq_true rfl⟩) (fun r15 f15 H locs hr15 hok hP hS => ?_)
      subst hr15
      exact W.iret (v := -1) hx hb hr (fun t ht hW => ⟨⟨-1, f15, rfl, trivial, hok, by rw [ht]; exact hP⟩, hS.F ht⟩) hS.2.2 dX11_take_26
  · refine lv_aload_n hx hb dX11_take_4 rfl (lv_at hl 0 rfl) ?_
    refine lv_iconst (v := 1) hx hb dX11_take_5 (by decide) ?_
    obtain ⟨y5_16, hy4_16, hy7_16, he16⟩ := ok_X11 hok ha0
    refine tc_i hAL hS hA (va_runV (As := [.int 1]) (rest := []) ⟨hx, hb, hml, hown, noTs⟩ (t_X11_fail l dC dI s.heap.size G cs tt mm a0 ha0 1) ⟨cbE 1 (wd_436 hE) (wd_115 hE) (wd_433 hE) rfl rfl (by decide +kernel) ⟨Nat.le_of_ble_eq_true rfl, Nat.le_of_ble_eq_true rfl⟩, (wd_435 hE), (wd_1 hE)⟩ ⟨PT.blind, th_recv hK hP ha0.1 he16 rfl, (th_pre (av := [.ref a0, .int 1]) trivial hK hP hok hnd hWT hE)⟩ rfl rfl hl.1 rfl (lv_room (Nat.le_of_ble_eq_true rfl)) dX11_take_6 ⟨Nat.le_of_ble_eq_true rfl, Nat.le_of_ble_eq_true rfl⟩) (fun r17 f17 H locs hr17 hok hP hS => ?_)
    subst hr17
    exact W.iret (v := -1) hx hb hr (fun t ht hW => ⟨⟨-1, f17, rfl, trivial, hok, by rw [ht]; exact hP⟩, hS.F ht⟩) hS.2.2 dX11_take_9

set_option maxHeartbeats 4000000 in
set_option maxRecDepth 100000 in
theorem t_X11_form (l : Launch) (dC : Nat → ClassId) (dI : Nat → Nat → Nat) (sz : Nat) (G : GT) (cs : Nat → ClassId) (tt mm : Nat) (a0 : Nat) (ha0 : Ty G a0 11) (v1 : Int32) : Met l yX11_form [.code yX11_form cX11_form 2 (some .int)] ({ frames := 5, cells := 0, slots := 0, locals := 200 }) (PT [.ref a0, .int v1] sz dC dI G cs tt mm (fun _ => True)) (va_Qi (fun (r : Int32) (u : Nat → va_E) => True) (BT dC dI G cs tt mm) (AT G sz)) 0 0 (AT G sz) := by
  refine Met.ofW (cc := cX11_form) (maxL := 2) (ret := (some .int)) (by decide) rfl ?_
  intro p e s m args below meth c s₁ B hml hv
  obtain ⟨rfl, hsz, ⟨f0, hok, hP, hX⟩, hK, hnd, hWT, hE⟩ := hv
  have hx := B.exec
  have hb := B.bytes
  have hr := B.returns
  have hown : s.vm.findClass RX11 = some m.cls := findClass_of_methodNamed B.named
  have hlocks := B.notSynchronized
  subst hsz
  have hAL : ∀ a, a ∈ gL G → AT G s.heap.size a := fun a h => Or.inl h
  have hA : ∀ q : Nat, s.heap.size ≤ q → AT G s.heap.size q := fun q h => Or.inr h
  have hS : va_S (AT G s.heap.size) s.heap s.heap [] := va_S.rf
  have hl := lv_entry ([.ref a0, .int v1]) (n := 2) (Nat.le_of_ble_eq_true rfl)
  rw [lg_entry_eq]
  generalize (lg_sl ([.ref a0, .int v1]) ++ List.replicate (2 - (lg_sl ([.ref a0, .int v1])).length) Slot.unset).toArray = ls at hl ⊢
  have hl : lv_has ls 2 [(0, .ref a0), (1, .int v1)] := hl
  refine lv_aload_n hx hb dX11_form_0 rfl (lv_at hl 0 rfl) ?_
  obtain ⟨y5_1, hy4_1, hy7_1, he1⟩ := ok_X11 hok ha0
  refine th_get hx hb (ly_X11 hE) hown hK hP ha0.1 he1 rfl 0 (by decide) (wd_359 hE) (fun _ h9 => h9) rfl dX11_form_1 ?_
  refine lv_iload_n hx hb dX11_form_4 rfl (lv_at hl 1 rfl) ?_
  refine lv_aload_n hx hb dX11_form_5 rfl (lv_at hl 0 rfl) ?_
  refine th_get hx hb (ly_X11 hE) hown hK hP ha0.1 he1 rfl 10 (by decide) (wd_369 hE) (fun _ h9 => h9) rfl dX11_form_6 ?_
  have he2 := ok_X7 hok (wt_X11_0 hWT ha0)
  refine tc_i hAL hS hA (va_runV (As := [.int v1, .ref (gR G a0 10)]) (rest := []) ⟨hx, hb, hml, hown, noTs⟩ (t_X7_readWord l dC dI s.heap.size G cs tt mm (gR G a0 0) ((wt_X11_0 hWT ha0)) v1 (gR G a0 10) ((wt_X11_10 hWT ha0))) ⟨cbE 2 (wd_817 hE) (wd_116 hE) (wd_814 hE) rfl rfl (by decide +kernel) ⟨Nat.le_of_ble_eq_true rfl, Nat.le_of_ble_eq_true rfl⟩, (wd_815 hE), (wd_816 hE)⟩ ⟨PT.blind, th_recv hK hP (wt_X11_0 hWT ha0).1 he2 rfl, (th_pre (av := [.ref (gR G a0 0), .int v1, .ref (gR G a0 10)]) trivial hK hP hok hnd hWT hE)⟩ rfl rfl hl.1 rfl (lv_room (Nat.le_of_ble_eq_true rfl)) dX11_form_9 ⟨Nat.le_of_ble_eq_true rfl, Nat.le_of_ble_eq_true rfl⟩) (fun r3 f3 H locs hr3 hok hP hS => ?_)
  refine lv_if_ne (tgt := 21) hx hb dX11_form_12 (by decide) (fun c4 => ?_) (fun c4 => ?_)
  · refine lv_aload_n hx hb dX11_form_21 rfl (lv_at hl 0 rfl) ?_
    obtain ⟨y5_5, hy4_5, hy7_5, he5⟩ := ok_X11 hok ha0
    refine th_get hx hb (ly_X11 hE) hown hK hP ha0.1 he5 rfl 0 (by decide) (wd_359 hE) (fun _ h9 => h9) rfl dX11_form_22 ?_
    refine lv_aload_n hx hb dX11_form_25 rfl (lv_at hl 0 rfl) ?_
    refine th_get hx hb (ly_X11 hE) hown hK hP ha0.1 he5 rfl 10 (by decide) (wd_369 hE) (fun _ h9 => h9) rfl dX11_form_26 ?_
    refine lv_aload_n hx hb dX11_form_29 rfl (lv_at hl 0 rfl) ?_
    refine th_get hx hb (ly_X11 hE) hown hK hP ha0.1 he5 rfl 12 (by decide) (wd_371 hE) (fun _ h9 => h9) rfl dX11_form_30 ?_
    refine tc_i hAL hS hA (va_runS (As := [.ref (gR G a0 0), .ref (gR G a0 10), .ref (gR G a0 12)]) (rest := []) ⟨hx, hb, hml, hown, noTs⟩ (t_X2_reduce l dC dI H.size G cs tt mm (gR G a0 0) ((wt_X11_0 hWT ha0)) (gR G a0 10) ((wt_X11_10 hWT ha0)) (gR G a0 12) ((wt_X11_12 hWT ha0))) ⟨cbE 3 (wd_837 hE) (wd_134 hE) (wd_835 hE) rfl rfl (by decide +kernel) ⟨Nat.le_of_ble_eq_true rfl, Nat.le_of_ble_eq_true rfl⟩, (wd_836 hE)⟩ ⟨PT.blind, (th_pre (av := [.ref (gR G a0 0), .ref (gR G a0 10), .ref (gR G a0 12)]) trivial hK hP hok hnd hWT hE)⟩ rfl rfl hl.1 rfl (lv_room (Nat.le_of_ble_eq_true rfl)) dX11_form_33 ⟨Nat.le_of_ble_eq_true rfl, Nat.le_of_ble_eq_true rfl⟩) (fun r6 f6 H locs hr6 hok hP hS => ?_)
    refine lv_pop hx hb dX11_form_36 rfl ?_
    refine lv_aload_n hx hb dX11_form_37 rfl (lv_at hl 0 rfl) ?_
    obtain ⟨y5_7, hy4_7, hy7_7, he7⟩ := ok_X11 hok ha0
    refine th_get hx hb (ly_X11 hE) hown hK hP ha0.1 he7 rfl 1 (by decide) (wd_360 hE) (fun _ h9 => h9) rfl dX11_form_38 ?_
    refine lv_aload_n hx hb dX11_form_41 rfl (lv_at hl 0 rfl) ?_
    refine th_get hx hb (ly_X11 hE) hown hK hP ha0.1 he7 rfl 0 (by decide) (wd_359 hE) (fun _ h9 => h9) rfl dX11_form_42 ?_
    obtain ⟨y1_8, y2_8, he8⟩ := ok_X3 hok (wt_X11_1 hWT ha0)
    refine tc_v hAL hS hA (va_runV (As := [.ref (gR G a0 0)]) (rest := []) ⟨hx, hb, hml, hown, noTs⟩ (t_X3_push l dC dI H.size G cs tt mm (gR G a0 1) ((wt_X11_1 hWT ha0)) (gR G a0 0) ((wt_X11_0 hWT ha0))) ⟨cbE 1 (wd_725 hE) (wd_117 hE) (wd_722 hE) rfl rfl (by decide +kernel) ⟨Nat.le_of_ble_eq_true rfl, Nat.le_of_ble_eq_true rfl⟩, (wd_723 hE), (wd_724 hE)⟩ ⟨PT.blind, th_recv hK hP (wt_X11_1 hWT ha0).1 he8 rfl, (th_pre (av := [.ref (gR G a0 1), .ref (gR G a0 0)]) trivial hK hP hok hnd hWT hE)⟩ rfl rfl hl.1 rfl (lv_room (Nat.le_of_ble_eq_true rfl)) dX11_form_45 ⟨Nat.le_of_ble_eq_true rfl, Nat.le_of_ble_eq_true rfl⟩) (fun f9 H locs hr9 hok hP hS => ?_)
    refine lv_aload_n hx hb dX11_form_48 rfl (lv_at hl 0 rfl) ?_
    obtain ⟨y5_10, hy4_10, hy7_10, he10⟩ := ok_X11 hok ha0
    refine th_get hx hb (ly_X11 hE) hown hK hP ha0.1 he10 rfl 0 (by decide) (wd_359 hE) (fun _ h9 => h9) rfl dX11_form_49 ?_
    refine lv_iload_n hx hb dX11_form_52 rfl (lv_at hl 1 rfl) ?_
    refine lv_aload_n hx hb dX11_form_53 rfl (lv_at hl 0 rfl) ?_
    refine th_get hx hb (ly_X11 hE) hown hK hP ha0.1 he10 rfl 12 (by decide) (wd_371 hE) (fun _ h9 => h9) rfl dX11_form_54 ?_
    have he11 := ok_X7 hok (wt_X11_0 hWT ha0)
    refine tc_v hAL hS hA (va_runV (As := [.int v1, .ref (gR G a0 12)]) (rest := []) ⟨hx, hb, hml, hown, noTs⟩ (t_X7_writeWord l dC dI H.size G cs tt mm (gR G a0 0) ((wt_X11_0 hWT ha0)) v1 (gR G a0 12) ((wt_X11_12 hWT ha0))) ⟨cbE 2 (wd_704 hE) (wd_116 hE) (wd_911 hE) rfl rfl (by decide +kernel) ⟨Nat.le_of_ble_eq_true rfl, Nat.le_of_ble_eq_true rfl⟩, (wd_702 hE), (wd_703 hE)⟩ ⟨PT.blind, th_recv hK hP (wt_X11_0 hWT ha0).1 he11 rfl, (th_pre (av := [.ref (gR G a0 0), .int v1, .ref (gR G a0 12)]) trivial hK hP hok hnd hWT hE)⟩ rfl rfl hl.1 rfl (lv_room (Nat.le_of_ble_eq_true rfl)) dX11_form_57 ⟨Nat.le_of_ble_eq_true rfl, Nat.le_of_ble_eq_true rfl⟩) (fun f12 H locs hr12 hok hP hS => ?_)
    refine lv_aload_n hx hb dX11_form_60 rfl (lv_at hl 0 rfl) ?_
    refine lv_aload_n hx hb dX11_form_61 rfl (lv_at hl 0 rfl) ?_
    obtain ⟨y5_13, hy4_13, hy7_13, he13⟩ := ok_X11 hok ha0
    refine th_get hx hb (ly_X11 hE) hown hK hP ha0.1 he13 rfl 12 (by decide) (wd_371 hE) (fun _ h9 => h9) rfl dX11_form_62 ?_
    obtain ⟨y2_14, y3_14, hy3_14, he14⟩ := ok_X10 hok (wt_X11_12 hWT ha0)
    refine vp_callSi (va_Run.run (va_runV (As := []) (rest := [.ref a0]) ⟨hx, hb, hml, hown, noTs⟩ (t_X10_size l dC dI H.size G cs tt mm (gR G a0 12) ((wt_X11_12 hWT ha0)) y2_14 y3_14) ⟨cbE 0 (wd_666 hE) (wd_120 hE) (wd_834 hE) rfl rfl (by decide +kernel) ⟨Nat.le_of_ble_eq_true rfl, Nat.le_of_ble_eq_true rfl⟩, (wd_664 hE), (wd_665 hE)⟩ ⟨PT.blind, th_recv hK hP (wt_X11_12 hWT ha0).1 he14 rfl, (th_pre (av := [.ref (gR G a0 12)]) he14 hK hP hok hnd hWT hE)⟩ rfl rfl hl.1 rfl (lv_room (Nat.le_of_ble_eq_true rfl)) dX11_form_65 ⟨Nat.le_of_ble_eq_true rfl, Nat.le_of_ble_eq_true rfl⟩)) (fun r15 hr15 => ?_)
    subst hr15
    refine tc_i hAL hS hA (va_runV (As := [.int (nI y3_14)]) (rest := []) ⟨hx, hb, hml, hown, noTs⟩ (t_X11_answer l dC dI H.size G cs tt mm a0 ha0 (nI y3_14)) ⟨cbE 1 (wd_748 hE) (wd_115 hE) (wd_745 hE) rfl rfl (by decide +kernel) ⟨Nat.le_of_ble_eq_true rfl, Nat.le_of_ble_eq_true rfl⟩, (wd_747 hE), (wd_23 hE)⟩ ⟨PT.blind, th_recv hK hP ha0.1 he13 rfl, (th_pre (av := [.ref a0, .int (nI y3_14)]) trivial hK hP hok hnd hWT hE)⟩ rfl rfl hl.1 rfl (lv_room (Nat.le_of_ble_eq_true rfl)) dX11_form_68 ⟨Nat.le_of_ble_eq_true rfl, Nat.le_of_ble_eq_true rfl⟩) (fun r16 f16 H locs hr16 hok hP hS => ?_)
    subst hr16
    exact W.iret (v := nI y3_14) hx hb hr (fun t ht hW => ⟨⟨nI y3_14, f16, rfl, trivial, hok, by rw [ht]; exact hP⟩, hS.F ht⟩) hS.2.2 dX11_form_71
  · refine lv_aload_n hx hb dX11_form_15 rfl (lv_at hl 0 rfl) ?_
    refine lv_iconst (v := 2) hx hb dX11_form_16 (by decide) ?_
    obtain ⟨y5_17, hy4_17, hy7_17, he17⟩ := ok_X11 hok ha0
    refine tc_i hAL hS hA (va_runV (As := [.int 2]) (rest := []) ⟨hx, hb, hml, hown, noTs⟩ (t_X11_fail l dC dI H.size G cs tt mm a0 ha0 2) ⟨cbE 1 (wd_436 hE) (wd_115 hE) (wd_433 hE) rfl rfl (by decide +kernel) ⟨Nat.le_of_ble_eq_true rfl, Nat.le_of_ble_eq_true rfl⟩, (wd_435 hE), (wd_1 hE)⟩ ⟨PT.blind, th_recv hK hP ha0.1 he17 rfl, (th_pre (av := [.ref a0, .int 2]) trivial hK hP hok hnd hWT hE)⟩ rfl rfl hl.1 rfl (lv_room (Nat.le_of_ble_eq_true rfl)) dX11_form_17 ⟨Nat.le_of_ble_eq_true rfl, Nat.le_of_ble_eq_true rfl⟩) (fun r18 f18 H locs hr18 hok hP hS => ?_)
    subst hr18
    exact W.iret (v := -1) hx hb hr (fun t ht hW => ⟨⟨-1, f18, rfl, trivial, hok, by rw [ht]; exact hP⟩, hS.F ht⟩) hS.2.2 dX11_form_20

set_option maxHeartbeats 4000000 in
set_option maxRecDepth 100000 in
theorem t_X11_readTwo (l : Launch) (dC : Nat → ClassId) (dI : Nat → Nat → Nat) (sz : Nat) (G : GT) (cs : Nat → ClassId) (tt mm : Nat) (a0 : Nat) (ha0 : Ty G a0 11) (v1 : Int32) (v2 : Int32) : Met l yX11_readTwo [.code yX11_readTwo cX11_readTwo 3 (some .boolean)] ({ frames := 2, cells := 0, slots := 0, locals := 80 }) (PT [.ref a0, .int v1, .int v2] sz dC dI G cs tt mm (fun _ => True)) (va_Qi (fun (r : Int32) (u : Nat → va_E) => r = 0 ∨ r = 1) (BT dC dI G cs tt mm) (AT G sz)) 0 0 (AT G sz) := by
  refine Met.ofW (cc := cX11_readTwo) (maxL := 3) (ret := (some .boolean)) (by decide) rfl ?_
  intro p e s m args below meth c s₁ B hml hv
  obtain ⟨rfl, hsz, ⟨f0, hok, hP, hX⟩, hK, hnd, hWT, hE⟩ := hv
  have hx := B.exec
  have hb := B.bytes
  have hr := B.returns
  have hown : s.vm.findClass RX11 = some m.cls := findClass_of_methodNamed B.named
  have hlocks := B.notSynchronized
  subst hsz
  have hAL : ∀ a, a ∈ gL G → AT G s.heap.size a := fun a h => Or.inl h
  have hA : ∀ q : Nat, s.heap.size ≤ q → AT G s.heap.size q := fun q h => Or.inr h
  have hS : va_S (AT G s.heap.size) s.heap s.heap [] := va_S.rf
  have hl := lv_entry ([.ref a0, .int v1, .int v2]) (n := 3) (Nat.le_of_ble_eq_true rfl)
  rw [lg_entry_eq]
  generalize (lg_sl ([.ref a0, .int v1, .int v2]) ++ List.replicate (3 - (lg_sl ([.ref a0, .int v1, .int v2])).length) Slot.unset).toArray = ls at hl ⊢
  have hl : lv_has ls 3 [(0, .ref a0), (1, .int v1), (2, .int v2)] := hl
  refine lv_aload_n hx hb dX11_readTwo_0 rfl (lv_at hl 0 rfl) ?_
  obtain ⟨y5_1, hy4_1, hy7_1, he1⟩ := ok_X11 hok ha0
  refine th_get hx hb (ly_X11 hE) hown hK hP ha0.1 he1 rfl 0 (by decide) (wd_359 hE) (fun _ h9 => h9) rfl dX11_readTwo_1 ?_
  refine lv_iload_n hx hb dX11_readTwo_4 rfl (lv_at hl 1 rfl) ?_
  refine lv_aload_n hx hb dX11_readTwo_5 rfl (lv_at hl 0 rfl) ?_
  refine th_get hx hb (ly_X11 hE) hown hK hP ha0.1 he1 rfl 10 (by decide) (wd_369 hE) (fun _ h9 => h9) rfl dX11_readTwo_6 ?_
  have he2 := ok_X7 hok (wt_X11_0 hWT ha0)
  refine tc_i hAL hS hA (va_runV (As := [.int v1, .ref (gR G a0 10)]) (rest := []) ⟨hx, hb, hml, hown, noTs⟩ (t_X7_readWord l dC dI s.heap.size G cs tt mm (gR G a0 0) ((wt_X11_0 hWT ha0)) v1 (gR G a0 10) ((wt_X11_10 hWT ha0))) ⟨cbE 2 (wd_817 hE) (wd_116 hE) (wd_814 hE) rfl rfl (by decide +kernel) ⟨Nat.le_of_ble_eq_true rfl, Nat.le_of_ble_eq_true rfl⟩, (wd_815 hE), (wd_816 hE)⟩ ⟨PT.blind, th_recv hK hP (wt_X11_0 hWT ha0).1 he2 rfl, (th_pre (av := [.ref (gR G a0 0), .int v1, .ref (gR G a0 10)]) trivial hK hP hok hnd hWT hE)⟩ rfl rfl hl.1 rfl (lv_room (Nat.le_of_ble_eq_true rfl)) dX11_readTwo_9 ⟨Nat.le_of_ble_eq_true rfl, Nat.le_of_ble_eq_true rfl⟩) (fun r3 f3 H locs hr3 hok hP hS => ?_)
  refine lv_if_eq (tgt := 34) hx hb dX11_readTwo_12 (by decide) (fun c4 => ?_) (fun c4 => ?_)
  · refine lv_iconst (v := 0) hx hb dX11_readTwo_34 (by decide) ?_
    exact W.zret (v := 0) hx hb hr rfl (fun t ht hW => ⟨⟨0, f3, rfl, Or.inl rfl, hok, by rw [ht]; exact hP⟩, hS.F ht⟩) hS.2.2 dX11_readTwo_35
  · refine lv_aload_n hx hb dX11_readTwo_15 rfl (lv_at hl 0 rfl) ?_
    obtain ⟨y5_5, hy4_5, hy7_5, he5⟩ := ok_X11 hok ha0
    refine th_get hx hb (ly_X11 hE) hown hK hP ha0.1 he5 rfl 0 (by decide) (wd_359 hE) (fun _ h9 => h9) rfl dX11_readTwo_16 ?_
    refine lv_iload_n hx hb dX11_readTwo_19 rfl (lv_at hl 2 rfl) ?_
    refine lv_aload_n hx hb dX11_readTwo_20 rfl (lv_at hl 0 rfl) ?_
    refine th_get hx hb (ly_X11 hE) hown hK hP ha0.1 he5 rfl 11 (by decide) (wd_370 hE) (fun _ h9 => h9) rfl dX11_readTwo_21 ?_
    have he6 := ok_X7 hok (wt_X11_0 hWT ha0)
    refine tc_i hAL hS hA (va_runV (As := [.int v2, .ref (gR G a0 11)]) (rest := []) ⟨hx, hb, hml, hown, noTs⟩ (t_X7_readWord l dC dI H.size G cs tt mm (gR G a0 0) ((wt_X11_0 hWT ha0)) v2 (gR G a0 11) ((wt_X11_11 hWT ha0))) ⟨cbE 2 (wd_817 hE) (wd_116 hE) (wd_814 hE) rfl rfl (by decide +kernel) ⟨Nat.le_of_ble_eq_true rfl, Nat.le_of_ble_eq_true rfl⟩, (wd_815 hE), (wd_816 hE)⟩ ⟨PT.blind, th_recv hK hP (wt_X11_0 hWT ha0).1 he6 rfl, (th_pre (av := [.ref (gR G a0 0), .int v2, .ref (gR G a0 11)]) trivial hK hP hok hnd hWT hE)⟩ rfl rfl hl.1 rfl (lv_room (Nat.le_of_ble_eq_true rfl)) dX11_readTwo_24 ⟨Nat.le_of_ble_eq_true rfl, Nat.le_of_ble_eq_true rfl⟩) (fun r7 f7 H locs hr7 hok hP hS => ?_)
    refine lv_if_eq (tgt := 34) hx hb dX11_readTwo_27 (by decide) (fun c8 => ?_) (fun c8 => ?_)
    · refine lv_iconst (v := 0) hx hb dX11_readTwo_34 (by decide) ?_
      exact W.zret (v := 0) hx hb hr rfl (fun t ht hW => ⟨⟨0, f7, rfl, Or.inl rfl, hok, by rw [ht]; exact hP⟩, hS.F ht⟩) hS.2.2 dX11_readTwo_35
    · refine lv_iconst (v := 1) hx hb dX11_readTwo_30 (by decide) ?_
      refine lv_goto (tgt := 35) hx hb dX11_readTwo_31 (by decide) ?_
      exact W.zret (v := 1) hx hb hr rfl (fun t ht hW => ⟨⟨1, f7, rfl, Or.inr rfl, hok, by rw [ht]; exact hP⟩, hS.F ht⟩) hS.2.2 dX11_readTwo_35

set_option maxHeartbeats 4000000 in
set_option maxRecDepth 100000 in
theorem t_X11_times (l : Launch) (dC : Nat → ClassId) (dI : Nat → Nat → Nat) (sz : Nat) (G : GT) (cs : Nat → ClassId) (tt mm : Nat) (a0 : Nat) (ha0 : Ty G a0 11) (v1 : Int32) (v2 : Int32) : Met l yX11_times [.code yX11_times cX11_times 3 (some .int)] ({ frames := 5, cells := 0, slots := 0, locals := 200 }) (PT [.ref a0, .int v1, .int v2] sz dC dI G cs tt mm (fun _ => True)) (va_Qi (fun (r : Int32) (u : Nat → va_E) => True) (BT dC dI G cs tt mm) (AT G sz)) 0 0 (AT G sz) := by
  refine Met.ofW (cc := cX11_times) (maxL := 3) (ret := (some .int)) (by decide) rfl ?_
  intro p e s m args below meth c s₁ B hml hv
  obtain ⟨rfl, hsz, ⟨f0, hok, hP, hX⟩, hK, hnd, hWT, hE⟩ := hv
  have hx := B.exec
  have hb := B.bytes
  have hr := B.returns
  have hown : s.vm.findClass RX11 = some m.cls := findClass_of_methodNamed B.named
  have hlocks := B.notSynchronized
  subst hsz
  have hAL : ∀ a, a ∈ gL G → AT G s.heap.size a := fun a h => Or.inl h
  have hA : ∀ q : Nat, s.heap.size ≤ q → AT G s.heap.size q := fun q h => Or.inr h
  have hS : va_S (AT G s.heap.size) s.heap s.heap [] := va_S.rf
  have hl := lv_entry ([.ref a0, .int v1, .int v2]) (n := 3) (Nat.le_of_ble_eq_true rfl)
  rw [lg_entry_eq]
  generalize (lg_sl ([.ref a0, .int v1, .int v2]) ++ List.replicate (3 - (lg_sl ([.ref a0, .int v1, .int v2])).length) Slot.unset).toArray = ls at hl ⊢
  have hl : lv_has ls 3 [(0, .ref a0), (1, .int v1), (2, .int v2)] := hl
  refine lv_aload_n hx hb dX11_times_0 rfl (lv_at hl 0 rfl) ?_
  refine lv_iload_n hx hb dX11_times_1 rfl (lv_at hl 1 rfl) ?_
  refine lv_iload_n hx hb dX11_times_2 rfl (lv_at hl 2 rfl) ?_
  obtain ⟨y5_1, hy4_1, hy7_1, he1⟩ := ok_X11 hok ha0
  refine tc_i hAL hS hA (va_runV (As := [.int v1, .int v2]) (rest := []) ⟨hx, hb, hml, hown, noTs⟩ (t_X11_readTwo l dC dI s.heap.size G cs tt mm a0 ha0 v1 v2) ⟨cbE 2 (wd_919 hE) (wd_115 hE) (wd_916 hE) rfl rfl (by decide +kernel) ⟨Nat.le_of_ble_eq_true rfl, Nat.le_of_ble_eq_true rfl⟩, (wd_918 hE), (wd_29 hE)⟩ ⟨PT.blind, th_recv hK hP ha0.1 he1 rfl, (th_pre (av := [.ref a0, .int v1, .int v2]) trivial hK hP hok hnd hWT hE)⟩ rfl rfl hl.1 rfl (lv_room (Nat.le_of_ble_eq_true rfl)) dX11_times_3 ⟨Nat.le_of_ble_eq_true rfl, Nat.le_of_ble_eq_true rfl⟩) (fun r2 f2 H locs hr2 hok hP hS => ?_)
  refine lv_if_ne (tgt := 15) hx hb dX11_times_6 (by decide) (fun c3 => ?_) (fun c3 => ?_)
  · refine lv_aload_n hx hb dX11_times_15 rfl (lv_at hl 0 rfl) ?_
    obtain ⟨y5_4, hy4_4, hy7_4, he4⟩ := ok_X11 hok ha0
    refine th_get hx hb (ly_X11 hE) hown hK hP ha0.1 he4 rfl 0 (by decide) (wd_359 hE) (fun _ h9 => h9) rfl dX11_times_16 ?_
    have he5 := ok_X7 hok (wt_X11_0 hWT ha0)
    refine vp_callSi (va_Run.run (va_runV (As := []) (rest := []) ⟨hx, hb, hml, hown, noTs⟩ (t_X7_isFull l dC dI H.size G cs tt mm (gR G a0 0) ((wt_X11_0 hWT ha0))) ⟨cbE 0 (wd_633 hE) (wd_116 hE) (wd_899 hE) rfl rfl (by decide +kernel) ⟨Nat.le_of_ble_eq_true rfl, Nat.le_of_ble_eq_true rfl⟩, (wd_631 hE), (wd_632 hE)⟩ ⟨PT.blind, th_recv hK hP (wt_X11_0 hWT ha0).1 he5 rfl, (th_pre (av := [.ref (gR G a0 0)]) trivial hK hP hok hnd hWT hE)⟩ rfl rfl hl.1 rfl (lv_room (Nat.le_of_ble_eq_true rfl)) dX11_times_19 ⟨Nat.le_of_ble_eq_true rfl, Nat.le_of_ble_eq_true rfl⟩)) (fun r6 hr6 => ?_)
    refine lv_if_eq (tgt := 31) hx hb dX11_times_22 (by decide) (fun c7 => ?_) (fun c7 => ?_)
    · refine lv_aload_n hx hb dX11_times_31 rfl (lv_at hl 0 rfl) ?_
      refine th_get hx hb (ly_X11 hE) hown hK hP ha0.1 he4 rfl 0 (by decide) (wd_359 hE) (fun _ h9 => h9) rfl dX11_times_32 ?_
      refine lv_aload_n hx hb dX11_times_35 rfl (lv_at hl 0 rfl) ?_
      refine th_get hx hb (ly_X11 hE) hown hK hP ha0.1 he4 rfl 10 (by decide) (wd_369 hE) (fun _ h9 => h9) rfl dX11_times_36 ?_
      refine vp_callSi (va_Run.run (va_runV (As := [.ref (gR G a0 10)]) (rest := []) ⟨hx, hb, hml, hown, noTs⟩ (t_X7_endOf l dC dI H.size G cs tt mm (gR G a0 0) ((wt_X11_0 hWT ha0)) (gR G a0 10) ((wt_X11_10 hWT ha0))) ⟨cbE 1 (wd_828 hE) (wd_116 hE) (wd_825 hE) rfl rfl (by decide +kernel) ⟨Nat.le_of_ble_eq_true rfl, Nat.le_of_ble_eq_true rfl⟩, (wd_826 hE), (wd_827 hE)⟩ ⟨PT.blind, th_recv hK hP (wt_X11_0 hWT ha0).1 he5 rfl, (th_pre (av := [.ref (gR G a0 0), .ref (gR G a0 10)]) trivial hK hP hok hnd hWT hE)⟩ rfl rfl hl.1 rfl (lv_room (Nat.le_of_ble_eq_true rfl)) dX11_times_39 ⟨Nat.le_of_ble_eq_true rfl, Nat.le_of_ble_eq_true rfl⟩)) (fun r8 hr8 => ?_)
      refine lv_aload_n hx hb dX11_times_42 rfl (lv_at hl 0 rfl) ?_
      refine th_get hx hb (ly_X11 hE) hown hK hP ha0.1 he4 rfl 11 (by decide) (wd_370 hE) (fun _ h9 => h9) rfl dX11_times_43 ?_
      obtain ⟨y2_9, y3_9, hy3_9, he9⟩ := ok_X10 hok (wt_X11_11 hWT ha0)
      refine vp_callSi (va_Run.run (va_runV (As := []) (rest := [.int r8]) ⟨hx, hb, hml, hown, noTs⟩ (t_X10_begin l dC dI H.size G cs tt mm (gR G a0 11) ((wt_X11_11 hWT ha0))) ⟨cbE 0 (wd_713 hE) (wd_120 hE) (wd_824 hE) rfl rfl (by decide +kernel) ⟨Nat.le_of_ble_eq_true rfl, Nat.le_of_ble_eq_true rfl⟩, (wd_711 hE), (wd_712 hE)⟩ ⟨PT.blind, th_recv hK hP (wt_X11_11 hWT ha0).1 he9 rfl, (th_pre (av := [.ref (gR G a0 11)]) trivial hK hP hok hnd hWT hE)⟩ rfl rfl hl.1 rfl (lv_room (Nat.le_of_ble_eq_true rfl)) dX11_times_46 ⟨Nat.le_of_ble_eq_true rfl, Nat.le_of_ble_eq_true rfl⟩)) (fun r10 hr10 => ?_)
      refine lv_icmp_eq (tgt := 58) hx hb dX11_times_49 (by decide) (fun c11 => ?_) (fun c11 => ?_)
      · refine lv_aload_n hx hb dX11_times_58 rfl (lv_at hl 0 rfl) ?_
        refine th_get hx hb (ly_X11 hE) hown hK hP ha0.1 he4 rfl 0 (by decide) (wd_359 hE) (fun _ h9 => h9) rfl dX11_times_59 ?_
        refine lv_aload_n hx hb dX11_times_62 rfl (lv_at hl 0 rfl) ?_
        refine th_get hx hb (ly_X11 hE) hown hK hP ha0.1 he4 rfl 10 (by decide) (wd_369 hE) (fun _ h9 => h9) rfl dX11_times_63 ?_
        refine lv_aload_n hx hb dX11_times_66 rfl (lv_at hl 0 rfl) ?_
        refine th_get hx hb (ly_X11 hE) hown hK hP ha0.1 he4 rfl 11 (by decide) (wd_370 hE) (fun _ h9 => h9) rfl dX11_times_67 ?_
        refine lv_aload_n hx hb dX11_times_70 rfl (lv_at hl 0 rfl) ?_
        refine th_get hx hb (ly_X11 hE) hown hK hP ha0.1 he4 rfl 12 (by decide) (wd_371 hE) (fun _ h9 => h9) rfl dX11_times_71 ?_
        refine tc_v hAL hS hA (va_runS (As := [.ref (gR G a0 0), .ref (gR G a0 10), .ref (gR G a0 11), .ref (gR G a0 12)]) (rest := []) ⟨hx, hb, hml, hown, noTs⟩ (t_X2_product l dC dI H.size G cs tt mm (gR G a0 0) ((wt_X11_0 hWT ha0)) (gR G a0 10) ((wt_X11_10 hWT ha0)) (gR G a0 11) ((wt_X11_11 hWT ha0)) (gR G a0 12) ((wt_X11_12 hWT ha0))) ⟨cbE 4 (wd_922 hE) (wd_134 hE) (wd_920 hE) rfl rfl (by decide +kernel) ⟨Nat.le_of_ble_eq_true rfl, Nat.le_of_ble_eq_true rfl⟩, (wd_921 hE)⟩ ⟨PT.blind, (th_pre (av := [.ref (gR G a0 0), .ref (gR G a0 10), .ref (gR G a0 11), .ref (gR G a0 12)]) trivial hK hP hok hnd hWT hE)⟩ rfl rfl hl.1 rfl (lv_room (Nat.le_of_ble_eq_true rfl)) dX11_times_74 ⟨Nat.le_of_ble_eq_true rfl, Nat.le_of_ble_eq_true rfl⟩) (fun f12 H locs hr12 hok hP hS => ?_)
        refine lv_aload_n hx hb dX11_times_77 rfl (lv_at hl 0 rfl) ?_
        obtain ⟨y5_13, hy4_13, hy7_13, he13⟩ := ok_X11 hok ha0
        refine th_get hx hb (ly_X11 hE) hown hK hP ha0.1 he13 rfl 12 (by decide) (wd_371 hE) (fun _ h9 => h9) rfl dX11_times_78 ?_
        obtain ⟨y2_14, y3_14, hy3_14, he14⟩ := ok_X10 hok (wt_X11_12 hWT ha0)
        refine vp_callSi (va_Run.run (va_runV (As := []) (rest := []) ⟨hx, hb, hml, hown, noTs⟩ (t_X10_size l dC dI H.size G cs tt mm (gR G a0 12) ((wt_X11_12 hWT ha0)) y2_14 y3_14) ⟨cbE 0 (wd_666 hE) (wd_120 hE) (wd_834 hE) rfl rfl (by decide +kernel) ⟨Nat.le_of_ble_eq_true rfl, Nat.le_of_ble_eq_true rfl⟩, (wd_664 hE), (wd_665 hE)⟩ ⟨PT.blind, th_recv hK hP (wt_X11_12 hWT ha0).1 he14 rfl, (th_pre (av := [.ref (gR G a0 12)]) he14 hK hP hok hnd hWT hE)⟩ rfl rfl hl.1 rfl (lv_room (Nat.le_of_ble_eq_true rfl)) dX11_times_81 ⟨Nat.le_of_ble_eq_true rfl, Nat.le_of_ble_eq_true rfl⟩)) (fun r15 hr15 => ?_)
        subst hr15
        refine lv_bipush (v := 24) hx hb dX11_times_84 (by decide) ?_
        have nt16 : (nI y3_14).toInt = ((y3_14 : Nat) : Int) := nI_toInt (by omega)
        refine lv_icmp_le (tgt := 98) hx hb dX11_times_86 (by decide) (fun c17 => ?_) (fun c17 => ?_)
        · refine lv_aload_n hx hb dX11_times_98 rfl (lv_at hl 0 rfl) ?_
          refine lv_aload_n hx hb dX11_times_99 rfl (lv_at hl 0 rfl) ?_
          refine th_get hx hb (ly_X11 hE) hown hK hP ha0.1 he13 rfl 12 (by decide) (wd_371 hE) (fun _ h9 => h9) rfl dX11_times_100 ?_
          refine tc_i hAL hS hA (va_runV (As := [.ref (gR G a0 12)]) (rest := []) ⟨hx, hb, hml, hown, noTs⟩ (t_X11_keep l dC dI H.size G cs tt mm a0 ha0 (gR G a0 12) ((wt_X11_12 hWT ha0))) ⟨cbE 1 (wd_905 hE) (wd_115 hE) (wd_902 hE) rfl rfl (by decide +kernel) ⟨Nat.le_of_ble_eq_true rfl, Nat.le_of_ble_eq_true rfl⟩, (wd_904 hE), (wd_28 hE)⟩ ⟨PT.blind, th_recv hK hP ha0.1 he13 rfl, (th_pre (av := [.ref a0, .ref (gR G a0 12)]) trivial hK hP hok hnd hWT hE)⟩ rfl rfl hl.1 rfl (lv_room (Nat.le_of_ble_eq_true rfl)) dX11_times_103 ⟨Nat.le_of_ble_eq_true rfl, Nat.le_of_ble_eq_true rfl⟩) (fun r18 f18 H locs hr18 hok hP hS => ?_)
          exact W.iret (v := r18) hx hb hr (fun t ht hW => ⟨⟨r18, f18, rfl, trivial, hok, by rw [ht]; exact hP⟩, hS.F ht⟩) hS.2.2 dX11_times_106
        · refine lv_aload_n hx hb dX11_times_89 rfl (lv_at hl 0 rfl) ?_
          refine lv_bipush (v := 6) hx hb dX11_times_90 (by decide) ?_
          refine tc_i hAL hS hA (va_runV (As := [.int 6]) (rest := []) ⟨hx, hb, hml, hown, noTs⟩ (t_X11_fail l dC dI H.size G cs tt mm a0 ha0 6) ⟨cbE 1 (wd_436 hE) (wd_115 hE) (wd_433 hE) rfl rfl (by decide +kernel) ⟨Nat.le_of_ble_eq_true rfl, Nat.le_of_ble_eq_true rfl⟩, (wd_435 hE), (wd_1 hE)⟩ ⟨PT.blind, th_recv hK hP ha0.1 he13 rfl, (th_pre (av := [.ref a0, .int 6]) trivial hK hP hok hnd hWT hE)⟩ rfl rfl hl.1 rfl (lv_room (Nat.le_of_ble_eq_true rfl)) dX11_times_92 ⟨Nat.le_of_ble_eq_true rfl, Nat.le_of_ble_eq_true rfl⟩) (fun r19 f19 H locs hr19 hok hP hS => ?_)
          subst hr19
          refine lv_goto (tgt := 106) hx hb dX11_times_95 (by decide) ?_
          exact W.iret (v := -1) hx hb hr (fun t ht hW => ⟨⟨-1, f19, rfl, trivial, hok, by rw [ht]; exact hP⟩, hS.F ht⟩) hS.2.2 dX11_times_106
      · refine lv_aload_n hx hb dX11_times_52 rfl (lv_at hl 0 rfl) ?_
        refine lv_iconst (v := 4) hx hb dX11_times_53 (by decide) ?_
        refine tc_i hAL hS hA (va_runV (As := [.int 4]) (rest := []) ⟨hx, hb, hml, hown, noTs⟩ (t_X11_fail l dC dI H.size G cs tt mm a0 ha0 4) ⟨cbE 1 (wd_436 hE) (wd_115 hE) (wd_433 hE) rfl rfl (by decide +kernel) ⟨Nat.le_of_ble_eq_true rfl, Nat.le_of_ble_eq_true rfl⟩, (wd_435 hE), (wd_1 hE)⟩ ⟨PT.blind, th_recv hK hP ha0.1 he4 rfl, (th_pre (av := [.ref a0, .int 4]) trivial hK hP hok hnd hWT hE)⟩ rfl rfl hl.1 rfl (lv_room (Nat.le_of_ble_eq_true rfl)) dX11_times_54 ⟨Nat.le_of_ble_eq_true rfl, Nat.le_of_ble_eq_true rfl⟩) (fun r20 f20 H locs hr20 hok hP hS => ?_)
        subst hr20
        exact W.iret (v := -1) hx hb hr (fun t ht hW => ⟨⟨-1, f20, rfl, trivial, hok, by rw [ht]; exact hP⟩, hS.F ht⟩) hS.2.2 dX11_times_57
    · refine lv_aload_n hx hb dX11_times_25 rfl (lv_at hl 0 rfl) ?_
      refine lv_iconst (v := 3) hx hb dX11_times_26 (by decide) ?_
      refine tc_i hAL hS hA (va_runV (As := [.int 3]) (rest := []) ⟨hx, hb, hml, hown, noTs⟩ (t_X11_fail l dC dI H.size G cs tt mm a0 ha0 3) ⟨cbE 1 (wd_436 hE) (wd_115 hE) (wd_433 hE) rfl rfl (by decide +kernel) ⟨Nat.le_of_ble_eq_true rfl, Nat.le_of_ble_eq_true rfl⟩, (wd_435 hE), (wd_1 hE)⟩ ⟨PT.blind, th_recv hK hP ha0.1 he4 rfl, (th_pre (av := [.ref a0, .int 3]) trivial hK hP hok hnd hWT hE)⟩ rfl rfl hl.1 rfl (lv_room (Nat.le_of_ble_eq_true rfl)) dX11_times_27 ⟨Nat.le_of_ble_eq_true rfl, Nat.le_of_ble_eq_true rfl⟩) (fun r21 f21 H locs hr21 hok hP hS => ?_)
      subst hr21
      exact W.iret (v := -1) hx hb hr (fun t ht hW => ⟨⟨-1, f21, rfl, trivial, hok, by rw [ht]; exact hP⟩, hS.F ht⟩) hS.2.2 dX11_times_30
  · refine lv_aload_n hx hb dX11_times_9 rfl (lv_at hl 0 rfl) ?_
    refine lv_iconst (v := 2) hx hb dX11_times_10 (by decide) ?_
    obtain ⟨y5_22, hy4_22, hy7_22, he22⟩ := ok_X11 hok ha0
    refine tc_i hAL hS hA (va_runV (As := [.int 2]) (rest := []) ⟨hx, hb, hml, hown, noTs⟩ (t_X11_fail l dC dI H.size G cs tt mm a0 ha0 2) ⟨cbE 1 (wd_436 hE) (wd_115 hE) (wd_433 hE) rfl rfl (by decide +kernel) ⟨Nat.le_of_ble_eq_true rfl, Nat.le_of_ble_eq_true rfl⟩, (wd_435 hE), (wd_1 hE)⟩ ⟨PT.blind, th_recv hK hP ha0.1 he22 rfl, (th_pre (av := [.ref a0, .int 2]) trivial hK hP hok hnd hWT hE)⟩ rfl rfl hl.1 rfl (lv_room (Nat.le_of_ble_eq_true rfl)) dX11_times_11 ⟨Nat.le_of_ble_eq_true rfl, Nat.le_of_ble_eq_true rfl⟩) (fun r23 f23 H locs hr23 hok hP hS => ?_)
    subst hr23
    exact W.iret (v := -1) hx hb hr (fun t ht hW => ⟨⟨-1, f23, rfl, trivial, hok, by rw [ht]; exact hP⟩, hS.F ht⟩) hS.2.2 dX11_times_14

set_option maxHeartbeats 4000000 in
set_option maxRecDepth 100000 in
theorem t_X11_turned (l : Launch) (dC : Nat → ClassId) (dI : Nat → Nat → Nat) (sz : Nat) (G : GT) (cs : Nat → ClassId) (tt mm : Nat) (a0 : Nat) (ha0 : Ty G a0 11) (v1 : Int32) : Met l yX11_turned [.code yX11_turned cX11_turned 2 (some .int)] ({ frames := 5, cells := 0, slots := 0, locals := 200 }) (PT [.ref a0, .int v1] sz dC dI G cs tt mm (fun _ => True)) (va_Qi (fun (r : Int32) (u : Nat → va_E) => True) (BT dC dI G cs tt mm) (AT G sz)) 0 0 (AT G sz) := by
  refine Met.ofW (cc := cX11_turned) (maxL := 2) (ret := (some .int)) (by decide) rfl ?_
  intro p e s m args below meth c s₁ B hml hv
  obtain ⟨rfl, hsz, ⟨f0, hok, hP, hX⟩, hK, hnd, hWT, hE⟩ := hv
  have hx := B.exec
  have hb := B.bytes
  have hr := B.returns
  have hown : s.vm.findClass RX11 = some m.cls := findClass_of_methodNamed B.named
  have hlocks := B.notSynchronized
  subst hsz
  have hAL : ∀ a, a ∈ gL G → AT G s.heap.size a := fun a h => Or.inl h
  have hA : ∀ q : Nat, s.heap.size ≤ q → AT G s.heap.size q := fun q h => Or.inr h
  have hS : va_S (AT G s.heap.size) s.heap s.heap [] := va_S.rf
  have hl := lv_entry ([.ref a0, .int v1]) (n := 2) (Nat.le_of_ble_eq_true rfl)
  rw [lg_entry_eq]
  generalize (lg_sl ([.ref a0, .int v1]) ++ List.replicate (2 - (lg_sl ([.ref a0, .int v1])).length) Slot.unset).toArray = ls at hl ⊢
  have hl : lv_has ls 2 [(0, .ref a0), (1, .int v1)] := hl
  refine lv_aload_n hx hb dX11_turned_0 rfl (lv_at hl 0 rfl) ?_
  obtain ⟨y5_1, hy4_1, hy7_1, he1⟩ := ok_X11 hok ha0
  refine th_get hx hb (ly_X11 hE) hown hK hP ha0.1 he1 rfl 0 (by decide) (wd_359 hE) (fun _ h9 => h9) rfl dX11_turned_1 ?_
  refine lv_iload_n hx hb dX11_turned_4 rfl (lv_at hl 1 rfl) ?_
  refine lv_aload_n hx hb dX11_turned_5 rfl (lv_at hl 0 rfl) ?_
  refine th_get hx hb (ly_X11 hE) hown hK hP ha0.1 he1 rfl 10 (by decide) (wd_369 hE) (fun _ h9 => h9) rfl dX11_turned_6 ?_
  have he2 := ok_X7 hok (wt_X11_0 hWT ha0)
  refine tc_i hAL hS hA (va_runV (As := [.int v1, .ref (gR G a0 10)]) (rest := []) ⟨hx, hb, hml, hown, noTs⟩ (t_X7_readWord l dC dI s.heap.size G cs tt mm (gR G a0 0) ((wt_X11_0 hWT ha0)) v1 (gR G a0 10) ((wt_X11_10 hWT ha0))) ⟨cbE 2 (wd_817 hE) (wd_116 hE) (wd_814 hE) rfl rfl (by decide +kernel) ⟨Nat.le_of_ble_eq_true rfl, Nat.le_of_ble_eq_true rfl⟩, (wd_815 hE), (wd_816 hE)⟩ ⟨PT.blind, th_recv hK hP (wt_X11_0 hWT ha0).1 he2 rfl, (th_pre (av := [.ref (gR G a0 0), .int v1, .ref (gR G a0 10)]) trivial hK hP hok hnd hWT hE)⟩ rfl rfl hl.1 rfl (lv_room (Nat.le_of_ble_eq_true rfl)) dX11_turned_9 ⟨Nat.le_of_ble_eq_true rfl, Nat.le_of_ble_eq_true rfl⟩) (fun r3 f3 H locs hr3 hok hP hS => ?_)
  refine lv_if_ne (tgt := 21) hx hb dX11_turned_12 (by decide) (fun c4 => ?_) (fun c4 => ?_)
  · refine lv_aload_n hx hb dX11_turned_21 rfl (lv_at hl 0 rfl) ?_
    obtain ⟨y5_5, hy4_5, hy7_5, he5⟩ := ok_X11 hok ha0
    refine th_get hx hb (ly_X11 hE) hown hK hP ha0.1 he5 rfl 0 (by decide) (wd_359 hE) (fun _ h9 => h9) rfl dX11_turned_22 ?_
    have he6 := ok_X7 hok (wt_X11_0 hWT ha0)
    refine vp_callSi (va_Run.run (va_runV (As := []) (rest := []) ⟨hx, hb, hml, hown, noTs⟩ (t_X7_isFull l dC dI H.size G cs tt mm (gR G a0 0) ((wt_X11_0 hWT ha0))) ⟨cbE 0 (wd_633 hE) (wd_116 hE) (wd_899 hE) rfl rfl (by decide +kernel) ⟨Nat.le_of_ble_eq_true rfl, Nat.le_of_ble_eq_true rfl⟩, (wd_631 hE), (wd_632 hE)⟩ ⟨PT.blind, th_recv hK hP (wt_X11_0 hWT ha0).1 he6 rfl, (th_pre (av := [.ref (gR G a0 0)]) trivial hK hP hok hnd hWT hE)⟩ rfl rfl hl.1 rfl (lv_room (Nat.le_of_ble_eq_true rfl)) dX11_turned_25 ⟨Nat.le_of_ble_eq_true rfl, Nat.le_of_ble_eq_true rfl⟩)) (fun r7 hr7 => ?_)
    refine lv_if_eq (tgt := 37) hx hb dX11_turned_28 (by decide) (fun c8 => ?_) (fun c8 => ?_)
    · refine lv_aload_n hx hb dX11_turned_37 rfl (lv_at hl 0 rfl) ?_
      refine th_get hx hb (ly_X11 hE) hown hK hP ha0.1 he5 rfl 0 (by decide) (wd_359 hE) (fun _ h9 => h9) rfl dX11_turned_38 ?_
      refine lv_aload_n hx hb dX11_turned_41 rfl (lv_at hl 0 rfl) ?_
      refine th_get hx hb (ly_X11 hE) hown hK hP ha0.1 he5 rfl 10 (by decide) (wd_369 hE) (fun _ h9 => h9) rfl dX11_turned_42 ?_
      refine lv_aload_n hx hb dX11_turned_45 rfl (lv_at hl 0 rfl) ?_
      refine th_get hx hb (ly_X11 hE) hown hK hP ha0.1 he5 rfl 12 (by decide) (wd_371 hE) (fun _ h9 => h9) rfl dX11_turned_46 ?_
      refine tc_v hAL hS hA (va_runS (As := [.ref (gR G a0 0), .ref (gR G a0 10), .ref (gR G a0 12)]) (rest := []) ⟨hx, hb, hml, hown, noTs⟩ (t_X2_turn l dC dI H.size G cs tt mm (gR G a0 0) ((wt_X11_0 hWT ha0)) (gR G a0 10) ((wt_X11_10 hWT ha0)) (gR G a0 12) ((wt_X11_12 hWT ha0))) ⟨cbE 3 (wd_929 hE) (wd_134 hE) (wd_927 hE) rfl rfl (by decide +kernel) ⟨Nat.le_of_ble_eq_true rfl, Nat.le_of_ble_eq_true rfl⟩, (wd_928 hE)⟩ ⟨PT.blind, (th_pre (av := [.ref (gR G a0 0), .ref (gR G a0 10), .ref (gR G a0 12)]) trivial hK hP hok hnd hWT hE)⟩ rfl rfl hl.1 rfl (lv_room (Nat.le_of_ble_eq_true rfl)) dX11_turned_49 ⟨Nat.le_of_ble_eq_true rfl, Nat.le_of_ble_eq_true rfl⟩) (fun f9 H locs hr9 hok hP hS => ?_)
      refine lv_aload_n hx hb dX11_turned_52 rfl (lv_at hl 0 rfl) ?_
      refine lv_aload_n hx hb dX11_turned_53 rfl (lv_at hl 0 rfl) ?_
      obtain ⟨y5_10, hy4_10, hy7_10, he10⟩ := ok_X11 hok ha0
      refine th_get hx hb (ly_X11 hE) hown hK hP ha0.1 he10 rfl 12 (by decide) (wd_371 hE) (fun _ h9 => h9) rfl dX11_turned_54 ?_
      refine tc_i hAL hS hA (va_runV (As := [.ref (gR G a0 12)]) (rest := []) ⟨hx, hb, hml, hown, noTs⟩ (t_X11_keep l dC dI H.size G cs tt mm a0 ha0 (gR G a0 12) ((wt_X11_12 hWT ha0))) ⟨cbE 1 (wd_905 hE) (wd_115 hE) (wd_902 hE) rfl rfl (by decide +kernel) ⟨Nat.le_of_ble_eq_true rfl, Nat.le_of_ble_eq_true rfl⟩, (wd_904 hE), (wd_28 hE)⟩ ⟨PT.blind, th_recv hK hP ha0.1 he10 rfl, (th_pre (av := [.ref a0, .ref (gR G a0 12)]) trivial hK hP hok hnd hWT hE)⟩ rfl rfl hl.1 rfl (lv_room (Nat.le_of_ble_eq_true rfl)) dX11_turned_57 ⟨Nat.le_of_ble_eq_true rfl, Nat.le_of_ble_eq_true rfl⟩) (fun r11 f11 H locs hr11 hok hP hS => ?_)
      exact W.iret (v := r11) hx hb hr (fun t ht hW => ⟨⟨r11, f11, rfl, trivial, hok, by rw [ht]; exact hP⟩, hS.F ht⟩) hS.2.2 dX11_turned_60
    · refine lv_aload_n hx hb dX11_turned_31 rfl (lv_at hl 0 rfl) ?_
      refine lv_iconst (v := 3) hx hb dX11_turned_32 (by decide) ?_
      refine tc_i hAL hS hA (va_runV (As := [.int 3]) (rest := []) ⟨hx, hb, hml, hown, noTs⟩ (t_X11_fail l dC dI H.size G cs tt mm a0 ha0 3) ⟨cbE 1 (wd_436 hE) (wd_115 hE) (wd_433 hE) rfl rfl (by decide +kernel) ⟨Nat.le_of_ble_eq_true rfl, Nat.le_of_ble_eq_true rfl⟩, (wd_435 hE), (wd_1 hE)⟩ ⟨PT.blind, th_recv hK hP ha0.1 he5 rfl, (th_pre (av := [.ref a0, .int 3]) trivial hK hP hok hnd hWT hE)⟩ rfl rfl hl.1 rfl (lv_room (Nat.le_of_ble_eq_true rfl)) dX11_turned_33 ⟨Nat.le_of_ble_eq_true rfl, Nat.le_of_ble_eq_true rfl⟩) (fun r12 f12 H locs hr12 hok hP hS => ?_)
      subst hr12
      exact W.iret (v := -1) hx hb hr (fun t ht hW => ⟨⟨-1, f12, rfl, trivial, hok, by rw [ht]; exact hP⟩, hS.F ht⟩) hS.2.2 dX11_turned_36
  · refine lv_aload_n hx hb dX11_turned_15 rfl (lv_at hl 0 rfl) ?_
    refine lv_iconst (v := 2) hx hb dX11_turned_16 (by decide) ?_
    obtain ⟨y5_13, hy4_13, hy7_13, he13⟩ := ok_X11 hok ha0
    refine tc_i hAL hS hA (va_runV (As := [.int 2]) (rest := []) ⟨hx, hb, hml, hown, noTs⟩ (t_X11_fail l dC dI H.size G cs tt mm a0 ha0 2) ⟨cbE 1 (wd_436 hE) (wd_115 hE) (wd_433 hE) rfl rfl (by decide +kernel) ⟨Nat.le_of_ble_eq_true rfl, Nat.le_of_ble_eq_true rfl⟩, (wd_435 hE), (wd_1 hE)⟩ ⟨PT.blind, th_recv hK hP ha0.1 he13 rfl, (th_pre (av := [.ref a0, .int 2]) trivial hK hP hok hnd hWT hE)⟩ rfl rfl hl.1 rfl (lv_room (Nat.le_of_ble_eq_true rfl)) dX11_turned_17 ⟨Nat.le_of_ble_eq_true rfl, Nat.le_of_ble_eq_true rfl⟩) (fun r14 f14 H locs hr14 hok hP hS => ?_)
    subst hr14
    exact W.iret (v := -1) hx hb hr (fun t ht hW => ⟨⟨-1, f14, rfl, trivial, hok, by rw [ht]; exact hP⟩, hS.F ht⟩) hS.2.2 dX11_turned_20

set_option maxHeartbeats 4000000 in
set_option maxRecDepth 100000 in
theorem t_X11_readLoop (l : Launch) (dC : Nat → ClassId) (dI : Nat → Nat → Nat) (sz : Nat) (G : GT) (cs : Nat → ClassId) (tt mm : Nat) (a0 : Nat) (ha0 : Ty G a0 11) (v1 : Int32) : Met l yX11_readLoop [.code yX11_readLoop cX11_readLoop 2 (some .int)] ({ frames := 4, cells := 0, slots := 0, locals := 160 }) (PT [.ref a0, .int v1] sz dC dI G cs tt mm (fun _ => True)) (va_Qi (fun (r : Int32) (u : Nat → va_E) => True) (BT dC dI G cs tt mm) (AT G sz)) 0 0 (AT G sz) := by
  refine Met.ofW (cc := cX11_readLoop) (maxL := 2) (ret := (some .int)) (by decide) rfl ?_
  intro p e s m args below meth c s₁ B hml hv
  obtain ⟨rfl, hsz, ⟨f0, hok, hP, hX⟩, hK, hnd, hWT, hE⟩ := hv
  have hx := B.exec
  have hb := B.bytes
  have hr := B.returns
  have hown : s.vm.findClass RX11 = some m.cls := findClass_of_methodNamed B.named
  have hlocks := B.notSynchronized
  subst hsz
  have hAL : ∀ a, a ∈ gL G → AT G s.heap.size a := fun a h => Or.inl h
  have hA : ∀ q : Nat, s.heap.size ≤ q → AT G s.heap.size q := fun q h => Or.inr h
  have hS : va_S (AT G s.heap.size) s.heap s.heap [] := va_S.rf
  have hl := lv_entry ([.ref a0, .int v1]) (n := 2) (Nat.le_of_ble_eq_true rfl)
  rw [lg_entry_eq]
  generalize (lg_sl ([.ref a0, .int v1]) ++ List.replicate (2 - (lg_sl ([.ref a0, .int v1])).length) Slot.unset).toArray = ls at hl ⊢
  have hl : lv_has ls 2 [(0, .ref a0), (1, .int v1)] := hl
  refine lv_aload_n hx hb dX11_readLoop_0 rfl (lv_at hl 0 rfl) ?_
  obtain ⟨y5_1, hy4_1, hy7_1, he1⟩ := ok_X11 hok ha0
  refine th_get hx hb (ly_X11 hE) hown hK hP ha0.1 he1 rfl 0 (by decide) (wd_359 hE) (fun _ h9 => h9) rfl dX11_readLoop_1 ?_
  refine lv_iload_n hx hb dX11_readLoop_4 rfl (lv_at hl 1 rfl) ?_
  refine lv_aload_n hx hb dX11_readLoop_5 rfl (lv_at hl 0 rfl) ?_
  refine th_get hx hb (ly_X11 hE) hown hK hP ha0.1 he1 rfl 10 (by decide) (wd_369 hE) (fun _ h9 => h9) rfl dX11_readLoop_6 ?_
  have he2 := ok_X7 hok (wt_X11_0 hWT ha0)
  refine tc_i hAL hS hA (va_runV (As := [.int v1, .ref (gR G a0 10)]) (rest := []) ⟨hx, hb, hml, hown, noTs⟩ (t_X7_readWord l dC dI s.heap.size G cs tt mm (gR G a0 0) ((wt_X11_0 hWT ha0)) v1 (gR G a0 10) ((wt_X11_10 hWT ha0))) ⟨cbE 2 (wd_817 hE) (wd_116 hE) (wd_814 hE) rfl rfl (by decide +kernel) ⟨Nat.le_of_ble_eq_true rfl, Nat.le_of_ble_eq_true rfl⟩, (wd_815 hE), (wd_816 hE)⟩ ⟨PT.blind, th_recv hK hP (wt_X11_0 hWT ha0).1 he2 rfl, (th_pre (av := [.ref (gR G a0 0), .int v1, .ref (gR G a0 10)]) trivial hK hP hok hnd hWT hE)⟩ rfl rfl hl.1 rfl (lv_room (Nat.le_of_ble_eq_true rfl)) dX11_readLoop_9 ⟨Nat.le_of_ble_eq_true rfl, Nat.le_of_ble_eq_true rfl⟩) (fun r3 f3 H locs hr3 hok hP hS => ?_)
  refine lv_if_ne (tgt := 17) hx hb dX11_readLoop_12 (by decide) (fun c4 => ?_) (fun c4 => ?_)
  · refine lv_aload_n hx hb dX11_readLoop_17 rfl (lv_at hl 0 rfl) ?_
    obtain ⟨y5_5, hy4_5, hy7_5, he5⟩ := ok_X11 hok ha0
    refine th_get hx hb (ly_X11 hE) hown hK hP ha0.1 he5 rfl 0 (by decide) (wd_359 hE) (fun _ h9 => h9) rfl dX11_readLoop_18 ?_
    refine lv_aload_n hx hb dX11_readLoop_21 rfl (lv_at hl 0 rfl) ?_
    refine th_get hx hb (ly_X11 hE) hown hK hP ha0.1 he5 rfl 10 (by decide) (wd_369 hE) (fun _ h9 => h9) rfl dX11_readLoop_22 ?_
    have he6 := ok_X7 hok (wt_X11_0 hWT ha0)
    refine vp_callSi (va_Run.run (va_runV (As := [.ref (gR G a0 10)]) (rest := []) ⟨hx, hb, hml, hown, noTs⟩ (t_X7_isLoop l dC dI H.size G cs tt mm (gR G a0 0) ((wt_X11_0 hWT ha0)) (gR G a0 10) ((wt_X11_10 hWT ha0))) ⟨cbE 1 (wd_949 hE) (wd_116 hE) (wd_946 hE) rfl rfl (by decide +kernel) ⟨Nat.le_of_ble_eq_true rfl, Nat.le_of_ble_eq_true rfl⟩, (wd_947 hE), (wd_948 hE)⟩ ⟨PT.blind, th_recv hK hP (wt_X11_0 hWT ha0).1 he6 rfl, (th_pre (av := [.ref (gR G a0 0), .ref (gR G a0 10)]) trivial hK hP hok hnd hWT hE)⟩ rfl rfl hl.1 rfl (lv_room (Nat.le_of_ble_eq_true rfl)) dX11_readLoop_25 ⟨Nat.le_of_ble_eq_true rfl, Nat.le_of_ble_eq_true rfl⟩)) (fun r7 hr7 => ?_)
    refine lv_if_eq (tgt := 35) hx hb dX11_readLoop_28 (by decide) (fun c8 => ?_) (fun c8 => ?_)
    · refine lv_iconst (v := 4) hx hb dX11_readLoop_35 (by decide) ?_
      exact W.iret (v := 4) hx hb hr (fun t ht hW => ⟨⟨4, f3, rfl, trivial, hok, by rw [ht]; exact hP⟩, hS.F ht⟩) hS.2.2 dX11_readLoop_36
    · refine lv_iconst (v := 0) hx hb dX11_readLoop_31 (by decide) ?_
      refine lv_goto (tgt := 36) hx hb dX11_readLoop_32 (by decide) ?_
      exact W.iret (v := 0) hx hb hr (fun t ht hW => ⟨⟨0, f3, rfl, trivial, hok, by rw [ht]; exact hP⟩, hS.F ht⟩) hS.2.2 dX11_readLoop_36
  · refine lv_iconst (v := 2) hx hb dX11_readLoop_15 (by decide) ?_
    exact W.iret (v := 2) hx hb hr (fun t ht hW => ⟨⟨2, f3, rfl, trivial, hok, by rw [ht]; exact hP⟩, hS.F ht⟩) hS.2.2 dX11_readLoop_16

set_option maxHeartbeats 4000000 in
set_option maxRecDepth 100000 in
theorem t_X11_cannotGrowFromLoop (l : Launch) (dC : Nat → ClassId) (dI : Nat → Nat → Nat) (sz : Nat) (G : GT) (cs : Nat → ClassId) (tt mm : Nat) (a0 : Nat) (ha0 : Ty G a0 11) (v1 : Int32) : Met l yX11_cannotGrowFromLoop [.code yX11_cannotGrowFromLoop cX11_cannotGrowFromLoop 3 (some .int)] ({ frames := 5, cells := 0, slots := 0, locals := 200 }) (PT [.ref a0, .int v1] sz dC dI G cs tt mm (fun _ => True)) (va_Qi (fun (r : Int32) (u : Nat → va_E) => True) (BT dC dI G cs tt mm) (AT G sz)) 0 0 (AT G sz) := by
  refine Met.ofW (cc := cX11_cannotGrowFromLoop) (maxL := 3) (ret := (some .int)) (by decide) rfl ?_
  intro p e s m args below meth c s₁ B hml hv
  obtain ⟨rfl, hsz, ⟨f0, hok, hP, hX⟩, hK, hnd, hWT, hE⟩ := hv
  have hx := B.exec
  have hb := B.bytes
  have hr := B.returns
  have hown : s.vm.findClass RX11 = some m.cls := findClass_of_methodNamed B.named
  have hlocks := B.notSynchronized
  subst hsz
  have hAL : ∀ a, a ∈ gL G → AT G s.heap.size a := fun a h => Or.inl h
  have hA : ∀ q : Nat, s.heap.size ≤ q → AT G s.heap.size q := fun q h => Or.inr h
  have hS : va_S (AT G s.heap.size) s.heap s.heap [] := va_S.rf
  have hl := lv_entry ([.ref a0, .int v1]) (n := 3) (Nat.le_of_ble_eq_true rfl)
  rw [lg_entry_eq]
  generalize (lg_sl ([.ref a0, .int v1]) ++ List.replicate (3 - (lg_sl ([.ref a0, .int v1])).length) Slot.unset).toArray = ls at hl ⊢
  have hl : lv_has ls 3 [(0, .ref a0), (1, .int v1)] := hl
  refine lv_aload_n hx hb dX11_cannotGrowFromLoop_0 rfl (lv_at hl 0 rfl) ?_
  refine lv_iload_n hx hb dX11_cannotGrowFromLoop_1 rfl (lv_at hl 1 rfl) ?_
  obtain ⟨y5_1, hy4_1, hy7_1, he1⟩ := ok_X11 hok ha0
  refine tc_i hAL hS hA (va_runV (As := [.int v1]) (rest := []) ⟨hx, hb, hml, hown, noTs⟩ (t_X11_readLoop l dC dI s.heap.size G cs tt mm a0 ha0 v1) ⟨cbE 1 (wd_945 hE) (wd_115 hE) (wd_942 hE) rfl rfl (by decide +kernel) ⟨Nat.le_of_ble_eq_true rfl, Nat.le_of_ble_eq_true rfl⟩, (wd_944 hE), (wd_31 hE)⟩ ⟨PT.blind, th_recv hK hP ha0.1 he1 rfl, (th_pre (av := [.ref a0, .int v1]) trivial hK hP hok hnd hWT hE)⟩ rfl rfl hl.1 rfl (lv_room (Nat.le_of_ble_eq_true rfl)) dX11_cannotGrowFromLoop_2 ⟨Nat.le_of_ble_eq_true rfl, Nat.le_of_ble_eq_true rfl⟩) (fun r2 f2 H locs hr2 hok hP hS => ?_)
  refine lv_istore_n (lv' := [(2, .int r2), (0, .ref a0), (1, .int v1)]) hx hb dX11_cannotGrowFromLoop_5 rfl hl (by decide) rfl (fun ls hl => ?_)
  refine lv_iload_n hx hb dX11_cannotGrowFromLoop_6 rfl (lv_at hl 0 rfl) ?_
  refine lv_iconst (v := 2) hx hb dX11_cannotGrowFromLoop_7 (by decide) ?_
  refine lv_icmp_eq (tgt := 25) hx hb dX11_cannotGrowFromLoop_8 (by decide) (fun c3 => ?_) (fun c3 => ?_)
  · refine lv_iload_n hx hb dX11_cannotGrowFromLoop_25 rfl (lv_at hl 0 rfl) ?_
    exact W.iret (v := r2) hx hb hr (fun t ht hW => ⟨⟨r2, f2, rfl, trivial, hok, by rw [ht]; exact hP⟩, hS.F ht⟩) hS.2.2 dX11_cannotGrowFromLoop_26
  · refine lv_aload_n hx hb dX11_cannotGrowFromLoop_11 rfl (lv_at hl 1 rfl) ?_
    obtain ⟨y5_4, hy4_4, hy7_4, he4⟩ := ok_X11 hok ha0
    refine th_get hx hb (ly_X11 hE) hown hK hP ha0.1 he4 rfl 0 (by decide) (wd_359 hE) (fun _ h9 => h9) rfl dX11_cannotGrowFromLoop_12 ?_
    have he5 := ok_X7 hok (wt_X11_0 hWT ha0)
    refine vp_callSi (va_Run.run (va_runV (As := []) (rest := []) ⟨hx, hb, hml, hown, noTs⟩ (t_X7_isFull l dC dI H.size G cs tt mm (gR G a0 0) ((wt_X11_0 hWT ha0))) ⟨cbE 0 (wd_633 hE) (wd_116 hE) (wd_899 hE) rfl rfl (by decide +kernel) ⟨Nat.le_of_ble_eq_true rfl, Nat.le_of_ble_eq_true rfl⟩, (wd_631 hE), (wd_632 hE)⟩ ⟨PT.blind, th_recv hK hP (wt_X11_0 hWT ha0).1 he5 rfl, (th_pre (av := [.ref (gR G a0 0)]) trivial hK hP hok hnd hWT hE)⟩ rfl rfl hl.1 rfl (lv_room (Nat.le_of_ble_eq_true rfl)) dX11_cannotGrowFromLoop_15 ⟨Nat.le_of_ble_eq_true rfl, Nat.le_of_ble_eq_true rfl⟩)) (fun r6 hr6 => ?_)
    refine lv_if_eq (tgt := 25) hx hb dX11_cannotGrowFromLoop_18 (by decide) (fun c7 => ?_) (fun c7 => ?_)
    · refine lv_iload_n hx hb dX11_cannotGrowFromLoop_25 rfl (lv_at hl 0 rfl) ?_
      exact W.iret (v := r2) hx hb hr (fun t ht hW => ⟨⟨r2, f2, rfl, trivial, hok, by rw [ht]; exact hP⟩, hS.F ht⟩) hS.2.2 dX11_cannotGrowFromLoop_26
    · refine lv_iconst (v := 3) hx hb dX11_cannotGrowFromLoop_21 (by decide) ?_
      refine lv_goto (tgt := 26) hx hb dX11_cannotGrowFromLoop_22 (by decide) ?_
      exact W.iret (v := 3) hx hb hr (fun t ht hW => ⟨⟨3, f2, rfl, trivial, hok, by rw [ht]; exact hP⟩, hS.F ht⟩) hS.2.2 dX11_cannotGrowFromLoop_26

set_option maxHeartbeats 4000000 in
set_option maxRecDepth 100000 in
theorem t_X11_power (l : Launch) (dC : Nat → ClassId) (dI : Nat → Nat → Nat) (sz : Nat) (G : GT) (cs : Nat → ClassId) (tt mm : Nat) (a0 : Nat) (ha0 : Ty G a0 11) (v1 : Int32) (v2 : Int32) : Met l yX11_power [.code yX11_power cX11_power 5 (some .int)] ({ frames := 6, cells := 0, slots := 0, locals := 240 }) (PT [.ref a0, .int v1, .int v2] sz dC dI G cs tt mm (fun _ => True)) (va_Qi (fun (r : Int32) (u : Nat → va_E) => True) (BT dC dI G cs tt mm) (AT G sz)) 0 0 (AT G sz) := by
  refine Met.ofW (cc := cX11_power) (maxL := 5) (ret := (some .int)) (by decide) rfl ?_
  intro p e s m args below meth c s₁ B hml hv
  obtain ⟨rfl, hsz, ⟨f0, hok, hP, hX⟩, hK, hnd, hWT, hE⟩ := hv
  have hx := B.exec
  have hb := B.bytes
  have hr := B.returns
  have hown : s.vm.findClass RX11 = some m.cls := findClass_of_methodNamed B.named
  have hlocks := B.notSynchronized
  subst hsz
  have hAL : ∀ a, a ∈ gL G → AT G s.heap.size a := fun a h => Or.inl h
  have hA : ∀ q : Nat, s.heap.size ≤ q → AT G s.heap.size q := fun q h => Or.inr h
  have hS : va_S (AT G s.heap.size) s.heap s.heap [] := va_S.rf
  have hl := lv_entry ([.ref a0, .int v1, .int v2]) (n := 5) (Nat.le_of_ble_eq_true rfl)
  rw [lg_entry_eq]
  generalize (lg_sl ([.ref a0, .int v1, .int v2]) ++ List.replicate (5 - (lg_sl ([.ref a0, .int v1, .int v2])).length) Slot.unset).toArray = ls at hl ⊢
  have hl : lv_has ls 5 [(0, .ref a0), (1, .int v1), (2, .int v2)] := hl
  refine lv_iload_n hx hb dX11_power_0 rfl (lv_at hl 2 rfl) ?_
  refine lv_bipush (v := -9) hx hb dX11_power_1 (by decide) ?_
  refine lv_icmp_lt (tgt := 12) hx hb dX11_power_3 (by decide) (fun c1 => ?_) (fun c1 => ?_)
  · refine lv_aload_n hx hb dX11_power_12 rfl (lv_at hl 0 rfl) ?_
    refine lv_iconst (v := 1) hx hb dX11_power_13 (by decide) ?_
    obtain ⟨y5_2, hy4_2, hy7_2, he2⟩ := ok_X11 hok ha0
    refine tc_i hAL hS hA (va_runV (As := [.int 1]) (rest := []) ⟨hx, hb, hml, hown, noTs⟩ (t_X11_fail l dC dI s.heap.size G cs tt mm a0 ha0 1) ⟨cbE 1 (wd_436 hE) (wd_115 hE) (wd_433 hE) rfl rfl (by decide +kernel) ⟨Nat.le_of_ble_eq_true rfl, Nat.le_of_ble_eq_true rfl⟩, (wd_435 hE), (wd_1 hE)⟩ ⟨PT.blind, th_recv hK hP ha0.1 he2 rfl, (th_pre (av := [.ref a0, .int 1]) trivial hK hP hok hnd hWT hE)⟩ rfl rfl hl.1 rfl (lv_room (Nat.le_of_ble_eq_true rfl)) dX11_power_14 ⟨Nat.le_of_ble_eq_true rfl, Nat.le_of_ble_eq_true rfl⟩) (fun r3 f3 H locs hr3 hok hP hS => ?_)
    subst hr3
    exact W.iret (v := -1) hx hb hr (fun t ht hW => ⟨⟨-1, f3, rfl, trivial, hok, by rw [ht]; exact hP⟩, hS.F ht⟩) hS.2.2 dX11_power_17
  · refine lv_iload_n hx hb dX11_power_6 rfl (lv_at hl 2 rfl) ?_
    refine lv_bipush (v := 9) hx hb dX11_power_7 (by decide) ?_
    refine lv_icmp_le (tgt := 18) hx hb dX11_power_9 (by decide) (fun c4 => ?_) (fun c4 => ?_)
    · refine lv_aload_n hx hb dX11_power_18 rfl (lv_at hl 0 rfl) ?_
      refine lv_iload_n hx hb dX11_power_19 rfl (lv_at hl 1 rfl) ?_
      obtain ⟨y5_5, hy4_5, hy7_5, he5⟩ := ok_X11 hok ha0
      refine tc_i hAL hS hA (va_runV (As := [.int v1]) (rest := []) ⟨hx, hb, hml, hown, noTs⟩ (t_X11_cannotGrowFromLoop l dC dI s.heap.size G cs tt mm a0 ha0 v1) ⟨cbE 1 (wd_941 hE) (wd_115 hE) (wd_938 hE) rfl rfl (by decide +kernel) ⟨Nat.le_of_ble_eq_true rfl, Nat.le_of_ble_eq_true rfl⟩, (wd_940 hE), (wd_30 hE)⟩ ⟨PT.blind, th_recv hK hP ha0.1 he5 rfl, (th_pre (av := [.ref a0, .int v1]) trivial hK hP hok hnd hWT hE)⟩ rfl rfl hl.1 rfl (lv_room (Nat.le_of_ble_eq_true rfl)) dX11_power_20 ⟨Nat.le_of_ble_eq_true rfl, Nat.le_of_ble_eq_true rfl⟩) (fun r6 f6 H locs hr6 hok hP hS => ?_)
      refine lv_istore_n (lv' := [(3, .int r6), (0, .ref a0), (1, .int v1), (2, .int v2)]) hx hb dX11_power_23 rfl hl (by decide) rfl (fun ls hl => ?_)
      refine lv_iload_n hx hb dX11_power_24 rfl (lv_at hl 0 rfl) ?_
      refine lv_if_eq (tgt := 34) hx hb dX11_power_25 (by decide) (fun c7 => ?_) (fun c7 => ?_)
      · refine lv_aload_n hx hb dX11_power_34 rfl (lv_at hl 1 rfl) ?_
        obtain ⟨y5_8, hy4_8, hy7_8, he8⟩ := ok_X11 hok ha0
        refine th_get hx hb (ly_X11 hE) hown hK hP ha0.1 he8 rfl 12 (by decide) (wd_371 hE) (fun _ h9 => h9) rfl dX11_power_35 ?_
        refine lv_aload_n hx hb dX11_power_38 rfl (lv_at hl 1 rfl) ?_
        refine th_get hx hb (ly_X11 hE) hown hK hP ha0.1 he8 rfl 10 (by decide) (wd_369 hE) (fun _ h9 => h9) rfl dX11_power_39 ?_
        obtain ⟨y2_9, y3_9, hy3_9, he9⟩ := ok_X10 hok (wt_X11_10 hWT ha0)
        refine vp_callSi (va_Run.run (va_runV (As := []) (rest := [.ref (gR G a0 12)]) ⟨hx, hb, hml, hown, noTs⟩ (t_X10_begin l dC dI H.size G cs tt mm (gR G a0 10) ((wt_X11_10 hWT ha0))) ⟨cbE 0 (wd_713 hE) (wd_120 hE) (wd_824 hE) rfl rfl (by decide +kernel) ⟨Nat.le_of_ble_eq_true rfl, Nat.le_of_ble_eq_true rfl⟩, (wd_711 hE), (wd_712 hE)⟩ ⟨PT.blind, th_recv hK hP (wt_X11_10 hWT ha0).1 he9 rfl, (th_pre (av := [.ref (gR G a0 10)]) trivial hK hP hok hnd hWT hE)⟩ rfl rfl hl.1 rfl (lv_room (Nat.le_of_ble_eq_true rfl)) dX11_power_42 ⟨Nat.le_of_ble_eq_true rfl, Nat.le_of_ble_eq_true rfl⟩)) (fun r10 hr10 => ?_)
        refine lv_iconst (v := 0) hx hb dX11_power_45 (by decide) ?_
        obtain ⟨y2_11, y3_11, hy3_11, he11⟩ := ok_X10 hok (wt_X11_12 hWT ha0)
        refine tc_v hAL hS hA (va_runV (As := [.int r10, .int 0]) (rest := []) ⟨hx, hb, hml, hown, noTs⟩ (t_X10_start l dC dI H.size G cs tt mm (gR G a0 12) ((wt_X11_12 hWT ha0)) r10 0) ⟨cbE 2 (wd_637 hE) (wd_120 hE) (wd_901 hE) rfl rfl (by decide +kernel) ⟨Nat.le_of_ble_eq_true rfl, Nat.le_of_ble_eq_true rfl⟩, (wd_635 hE), (wd_636 hE)⟩ ⟨PT.blind, th_recv hK hP (wt_X11_12 hWT ha0).1 he11 rfl, (th_pre (av := [.ref (gR G a0 12), .int r10, .int 0]) trivial hK hP hok hnd hWT hE)⟩ rfl rfl hl.1 rfl (lv_room (Nat.le_of_ble_eq_true rfl)) dX11_power_46 ⟨Nat.le_of_ble_eq_true rfl, Nat.le_of_ble_eq_true rfl⟩) (fun f12 H locs hr12 hok hP hS => ?_)
        refine lv_iconst (v := 0) hx hb dX11_power_49 (by decide) ?_
        refine lv_istore (lv' := [(4, .int 0), (3, .int r6), (0, .ref a0), (1, .int v1), (2, .int v2)]) hx hb dX11_power_50 hl (by decide) rfl (fun ls hl => ?_)
        refine w_ind (I := fun n f H locs ls => OKT G cs tt mm f ∧ va_P (dC, dI) vwCl (va_pl (gL G) f) H ∧ va_S (AT G s.heap.size) s.heap H locs ∧ ∃ (w4_13 : Int32), n = (2147483647 - w4_13.toInt).toNat ∧ 0 ≤ w4_13 ∧ lv_has ls 5 [(0, .ref a0), (1, .int v1), (2, .int v2), (3, .int r6), (4, .int w4_13)]) (fun n f13 H locs ls hI ih13 => ?_) _ f12 _ _ _ ⟨hok, hP, hS, 0, rfl, (by first | omega | (simp only [i_lt, i_le, i_eq, ti_m9, ti_m1, ti_0, ti_1, ti_2, ti_3, ti_4, ti_5, ti_6, ti_7, ti_9, ti_12, ti_20, ti_99, ti_700, ti_24, ti_156, ti_72, ti_8, ti_60, ti_543, ti_10, ti_33, ti_51, ti_178, ti_119, ti_111, ti_114, ti_100, ti_32, ti_62, ti_59, ti_48, ti_701, ti_97, ti_122, ti_57, ti_73, ti_128, ti_61] at c1 c4 c7 ⊢; omega)), lv_sub hl [2, 3, 4, 1, 0] rfl⟩
        obtain ⟨hok, hP, hS, w4_13, hmu13, hlo13, hl⟩ := hI
        subst hmu13
        refine lv_iload hx hb dX11_power_52 (lv_at hl 4 rfl) ?_
        refine lv_iload_n hx hb dX11_power_54 rfl (lv_at hl 2 rfl) ?_
        refine va_mabs hx hb (by rw [hml]; exact hl.1.symm) hown (wd_951 hE) (wd_952 hE) (wd_128 hE) (wd_953 hE) (Nat.le_of_ble_eq_true rfl) (Nat.le_of_ble_eq_true rfl) (Nat.le_of_ble_eq_true rfl) (Nat.le_of_ble_eq_true rfl) dX11_power_55 ?_
        refine lv_topi (fun x14 ex14 => ?_)
        refine lv_icmp_ge (tgt := 124) hx hb dX11_power_58 (by decide) (fun c15 => ?_) (fun c15 => ?_)
        · refine lv_aload_n hx hb dX11_power_124 rfl (lv_at hl 0 rfl) ?_
          refine lv_aload_n hx hb dX11_power_125 rfl (lv_at hl 0 rfl) ?_
          obtain ⟨y5_16, hy4_16, hy7_16, he16⟩ := ok_X11 hok ha0
          refine th_get hx hb (ly_X11 hE) hown hK hP ha0.1 he16 rfl 12 (by decide) (wd_371 hE) (fun _ h9 => h9) rfl dX11_power_126 ?_
          refine tc_i hAL hS hA (va_runV (As := [.ref (gR G a0 12)]) (rest := []) ⟨hx, hb, hml, hown, noTs⟩ (t_X11_keep l dC dI H.size G cs tt mm a0 ha0 (gR G a0 12) ((wt_X11_12 hWT ha0))) ⟨cbE 1 (wd_905 hE) (wd_115 hE) (wd_902 hE) rfl rfl (by decide +kernel) ⟨Nat.le_of_ble_eq_true rfl, Nat.le_of_ble_eq_true rfl⟩, (wd_904 hE), (wd_28 hE)⟩ ⟨PT.blind, th_recv hK hP ha0.1 he16 rfl, (th_pre (av := [.ref a0, .ref (gR G a0 12)]) trivial hK hP hok hnd hWT hE)⟩ rfl rfl hl.1 rfl (lv_room (Nat.le_of_ble_eq_true rfl)) dX11_power_129 ⟨Nat.le_of_ble_eq_true rfl, Nat.le_of_ble_eq_true rfl⟩) (fun r17 f17 H locs hr17 hok hP hS => ?_)
          exact W.iret (v := r17) hx hb hr (fun t ht hW => ⟨⟨r17, f17, rfl, trivial, hok, by rw [ht]; exact hP⟩, hS.F ht⟩) hS.2.2 dX11_power_132
        · refine lv_iload_n hx hb dX11_power_61 rfl (lv_at hl 2 rfl) ?_
          refine lv_if_le (tgt := 84) hx hb dX11_power_62 (by decide) (fun c18 => ?_) (fun c18 => ?_)
          · refine lv_aload_n hx hb dX11_power_84 rfl (lv_at hl 0 rfl) ?_
            obtain ⟨y5_19, hy4_19, hy7_19, he19⟩ := ok_X11 hok ha0
            refine th_get hx hb (ly_X11 hE) hown hK hP ha0.1 he19 rfl 0 (by decide) (wd_359 hE) (fun _ h9 => h9) rfl dX11_power_85 ?_
            refine lv_aload_n hx hb dX11_power_88 rfl (lv_at hl 0 rfl) ?_
            refine th_get hx hb (ly_X11 hE) hown hK hP ha0.1 he19 rfl 12 (by decide) (wd_371 hE) (fun _ h9 => h9) rfl dX11_power_89 ?_
            refine lv_aload_n hx hb dX11_power_92 rfl (lv_at hl 0 rfl) ?_
            refine th_get hx hb (ly_X11 hE) hown hK hP ha0.1 he19 rfl 10 (by decide) (wd_369 hE) (fun _ h9 => h9) rfl dX11_power_93 ?_
            refine tc_v hAL hS hA (va_runS (As := [.ref (gR G a0 0), .ref (gR G a0 12), .ref (gR G a0 10)]) (rest := []) ⟨hx, hb, hml, hown, noTs⟩ (t_X2_appendTurned l dC dI H.size G cs tt mm (gR G a0 0) ((wt_X11_0 hWT ha0)) (gR G a0 12) ((wt_X11_12 hWT ha0)) (gR G a0 10) ((wt_X11_10 hWT ha0))) ⟨cbE 3 (wd_933 hE) (wd_134 hE) (wd_955 hE) rfl rfl (by decide +kernel) ⟨Nat.le_of_ble_eq_true rfl, Nat.le_of_ble_eq_true rfl⟩, (wd_932 hE)⟩ ⟨PT.blind, (th_pre (av := [.ref (gR G a0 0), .ref (gR G a0 12), .ref (gR G a0 10)]) trivial hK hP hok hnd hWT hE)⟩ rfl rfl hl.1 rfl (lv_room (Nat.le_of_ble_eq_true rfl)) dX11_power_96 ⟨Nat.le_of_ble_eq_true rfl, Nat.le_of_ble_eq_true rfl⟩) (fun f20 H locs hr20 hok hP hS => ?_)
            refine lv_aload_n hx hb dX11_power_99 rfl (lv_at hl 0 rfl) ?_
            obtain ⟨y5_21, hy4_21, hy7_21, he21⟩ := ok_X11 hok ha0
            refine th_get hx hb (ly_X11 hE) hown hK hP ha0.1 he21 rfl 12 (by decide) (wd_371 hE) (fun _ h9 => h9) rfl dX11_power_100 ?_
            obtain ⟨y2_22, y3_22, hy3_22, he22⟩ := ok_X10 hok (wt_X11_12 hWT ha0)
            refine vp_callSi (va_Run.run (va_runV (As := []) (rest := []) ⟨hx, hb, hml, hown, noTs⟩ (t_X10_size l dC dI H.size G cs tt mm (gR G a0 12) ((wt_X11_12 hWT ha0)) y2_22 y3_22) ⟨cbE 0 (wd_666 hE) (wd_120 hE) (wd_834 hE) rfl rfl (by decide +kernel) ⟨Nat.le_of_ble_eq_true rfl, Nat.le_of_ble_eq_true rfl⟩, (wd_664 hE), (wd_665 hE)⟩ ⟨PT.blind, th_recv hK hP (wt_X11_12 hWT ha0).1 he22 rfl, (th_pre (av := [.ref (gR G a0 12)]) he22 hK hP hok hnd hWT hE)⟩ rfl rfl hl.1 rfl (lv_room (Nat.le_of_ble_eq_true rfl)) dX11_power_103 ⟨Nat.le_of_ble_eq_true rfl, Nat.le_of_ble_eq_true rfl⟩)) (fun r23 hr23 => ?_)
            subst hr23
            refine lv_bipush (v := 24) hx hb dX11_power_106 (by decide) ?_
            have nt24 : (nI y3_22).toInt = ((y3_22 : Nat) : Int) := nI_toInt (by omega)
            refine lv_icmp_le (tgt := 118) hx hb dX11_power_108 (by decide) (fun c25 => ?_) (fun c25 => ?_)
            · obtain ⟨z26, ez26⟩ : ∃ z : Int32, z = w4_13 + 1 := ⟨_, rfl⟩
              refine lv_iinc (v := z26) (lv' := [(4, .int z26), (0, .ref a0), (1, .int v1), (2, .int v2), (3, .int r6)]) hx hb dX11_power_118 hl (k := 4) rfl (by rw [ez26]; rfl) (by decide) rfl (fun ls hl => ?_)
              have ic26 : z26.toInt = w4_13.toInt + 1 := by rw [ez26]; exact ic_up (by have := i_rng v2; have := i_rng r6; have := i_rng w4_13; have := i_rng x14; have := i_rng (nI y3_22); simp only [i_lt, i_le, i_eq, ti_m9, ti_m1, ti_0, ti_1, ti_2, ti_3, ti_4, ti_5, ti_6, ti_7, ti_9, ti_12, ti_20, ti_99, ti_700, ti_24, ti_156, ti_72, ti_8, ti_60, ti_543, ti_10, ti_33, ti_51, ti_178, ti_119, ti_111, ti_114, ti_100, ti_32, ti_62, ti_59, ti_48, ti_701, ti_97, ti_122, ti_57, ti_73, ti_128, ti_61, nt24] at c1 c4 c7 hlo13 c15 c18 c25 ⊢; omega)
              refine lv_goto (tgt := 52) hx hb dX11_power_121 (by decide) ?_
              exact ih13 _ f20 _ _ _ (by have := i_rng z26; first | omega | (simp only [i_lt, i_le, i_eq, ti_m9, ti_m1, ti_0, ti_1, ti_2, ti_3, ti_4, ti_5, ti_6, ti_7, ti_9, ti_12, ti_20, ti_99, ti_700, ti_24, ti_156, ti_72, ti_8, ti_60, ti_543, ti_10, ti_33, ti_51, ti_178, ti_119, ti_111, ti_114, ti_100, ti_32, ti_62, ti_59, ti_48, ti_701, ti_97, ti_122, ti_57, ti_73, ti_128, ti_61, nt24, ic26] at c1 c4 c7 hlo13 c15 c18 c25 ic26 ⊢; omega)) ⟨hok, hP, hS, z26, rfl, (by first | omega | (simp only [i_lt, i_le, i_eq, ti_m9, ti_m1, ti_0, ti_1, ti_2, ti_3, ti_4, ti_5, ti_6, ti_7, ti_9, ti_12, ti_20, ti_99, ti_700, ti_24, ti_156, ti_72, ti_8, ti_60, ti_543, ti_10, ti_33, ti_51, ti_178, ti_119, ti_111, ti_114, ti_100, ti_32, ti_62, ti_59, ti_48, ti_701, ti_97, ti_122, ti_57, ti_73, ti_128, ti_61, nt24, ic26] at c1 c4 c7 hlo13 c15 c18 c25 ⊢; omega)), lv_sub hl [1, 2, 3, 4, 0] rfl⟩
            · refine lv_aload_n hx hb dX11_power_111 rfl (lv_at hl 0 rfl) ?_
              refine lv_bipush (v := 6) hx hb dX11_power_112 (by decide) ?_
              refine tc_i hAL hS hA (va_runV (As := [.int 6]) (rest := []) ⟨hx, hb, hml, hown, noTs⟩ (t_X11_fail l dC dI H.size G cs tt mm a0 ha0 6) ⟨cbE 1 (wd_436 hE) (wd_115 hE) (wd_433 hE) rfl rfl (by decide +kernel) ⟨Nat.le_of_ble_eq_true rfl, Nat.le_of_ble_eq_true rfl⟩, (wd_435 hE), (wd_1 hE)⟩ ⟨PT.blind, th_recv hK hP ha0.1 he21 rfl, (th_pre (av := [.ref a0, .int 6]) trivial hK hP hok hnd hWT hE)⟩ rfl rfl hl.1 rfl (lv_room (Nat.le_of_ble_eq_true rfl)) dX11_power_114 ⟨Nat.le_of_ble_eq_true rfl, Nat.le_of_ble_eq_true rfl⟩) (fun r27 f27 H locs hr27 hok hP hS => ?_)
              subst hr27
              exact W.iret (v := -1) hx hb hr (fun t ht hW => ⟨⟨-1, f27, rfl, trivial, hok, by rw [ht]; exact hP⟩, hS.F ht⟩) hS.2.2 dX11_power_117
          · refine lv_aload_n hx hb dX11_power_65 rfl (lv_at hl 0 rfl) ?_
            obtain ⟨y5_28, hy4_28, hy7_28, he28⟩ := ok_X11 hok ha0
            refine th_get hx hb (ly_X11 hE) hown hK hP ha0.1 he28 rfl 0 (by decide) (wd_359 hE) (fun _ h9 => h9) rfl dX11_power_66 ?_
            refine lv_aload_n hx hb dX11_power_69 rfl (lv_at hl 0 rfl) ?_
            refine th_get hx hb (ly_X11 hE) hown hK hP ha0.1 he28 rfl 12 (by decide) (wd_371 hE) (fun _ h9 => h9) rfl dX11_power_70 ?_
            refine lv_aload_n hx hb dX11_power_73 rfl (lv_at hl 0 rfl) ?_
            refine th_get hx hb (ly_X11 hE) hown hK hP ha0.1 he28 rfl 10 (by decide) (wd_369 hE) (fun _ h9 => h9) rfl dX11_power_74 ?_
            refine tc_i hAL hS hA (va_runS (As := [.ref (gR G a0 0), .ref (gR G a0 12), .ref (gR G a0 10)]) (rest := []) ⟨hx, hb, hml, hown, noTs⟩ (t_X2_append l dC dI H.size G cs tt mm (gR G a0 0) ((wt_X11_0 hWT ha0)) (gR G a0 12) ((wt_X11_12 hWT ha0)) (gR G a0 10) ((wt_X11_10 hWT ha0))) ⟨cbE 3 (wd_842 hE) (wd_134 hE) (wd_954 hE) rfl rfl (by decide +kernel) ⟨Nat.le_of_ble_eq_true rfl, Nat.le_of_ble_eq_true rfl⟩, (wd_841 hE)⟩ ⟨PT.blind, (th_pre (av := [.ref (gR G a0 0), .ref (gR G a0 12), .ref (gR G a0 10)]) trivial hK hP hok hnd hWT hE)⟩ rfl rfl hl.1 rfl (lv_room (Nat.le_of_ble_eq_true rfl)) dX11_power_77 ⟨Nat.le_of_ble_eq_true rfl, Nat.le_of_ble_eq_true rfl⟩) (fun r29 f29 H locs hr29 hok hP hS => ?_)
            refine lv_pop hx hb dX11_power_80 rfl ?_
            refine lv_goto (tgt := 99) hx hb dX11_power_81 (by decide) ?_
            refine lv_aload_n hx hb dX11_power_99 rfl (lv_at hl 0 rfl) ?_
            obtain ⟨y5_30, hy4_30, hy7_30, he30⟩ := ok_X11 hok ha0
            refine th_get hx hb (ly_X11 hE) hown hK hP ha0.1 he30 rfl 12 (by decide) (wd_371 hE) (fun _ h9 => h9) rfl dX11_power_100 ?_
            obtain ⟨y2_31, y3_31, hy3_31, he31⟩ := ok_X10 hok (wt_X11_12 hWT ha0)
            refine vp_callSi (va_Run.run (va_runV (As := []) (rest := []) ⟨hx, hb, hml, hown, noTs⟩ (t_X10_size l dC dI H.size G cs tt mm (gR G a0 12) ((wt_X11_12 hWT ha0)) y2_31 y3_31) ⟨cbE 0 (wd_666 hE) (wd_120 hE) (wd_834 hE) rfl rfl (by decide +kernel) ⟨Nat.le_of_ble_eq_true rfl, Nat.le_of_ble_eq_true rfl⟩, (wd_664 hE), (wd_665 hE)⟩ ⟨PT.blind, th_recv hK hP (wt_X11_12 hWT ha0).1 he31 rfl, (th_pre (av := [.ref (gR G a0 12)]) he31 hK hP hok hnd hWT hE)⟩ rfl rfl hl.1 rfl (lv_room (Nat.le_of_ble_eq_true rfl)) dX11_power_103 ⟨Nat.le_of_ble_eq_true rfl, Nat.le_of_ble_eq_true rfl⟩)) (fun r32 hr32 => ?_)
            subst hr32
            refine lv_bipush (v := 24) hx hb dX11_power_106 (by decide) ?_
            have nt33 : (nI y3_31).toInt = ((y3_31 : Nat) : Int) := nI_toInt (by omega)
            refine lv_icmp_le (tgt := 118) hx hb dX11_power_108 (by decide) (fun c34 => ?_) (fun c34 => ?_)
            · obtain ⟨z35, ez35⟩ : ∃ z : Int32, z = w4_13 + 1 := ⟨_, rfl⟩
              refine lv_iinc (v := z35) (lv' := [(4, .int z35), (0, .ref a0), (1, .int v1), (2, .int v2), (3, .int r6)]) hx hb dX11_power_118 hl (k := 4) rfl (by rw [ez35]; rfl) (by decide) rfl (fun ls hl => ?_)
              have ic35 : z35.toInt = w4_13.toInt + 1 := by rw [ez35]; exact ic_up (by have := i_rng v2; have := i_rng r6; have := i_rng w4_13; have := i_rng x14; have := i_rng (nI y3_31); simp only [i_lt, i_le, i_eq, ti_m9, ti_m1, ti_0, ti_1, ti_2, ti_3, ti_4, ti_5, ti_6, ti_7, ti_9, ti_12, ti_20, ti_99, ti_700, ti_24, ti_156, ti_72, ti_8, ti_60, ti_543, ti_10, ti_33, ti_51, ti_178, ti_119, ti_111, ti_114, ti_100, ti_32, ti_62, ti_59, ti_48, ti_701, ti_97, ti_122, ti_57, ti_73, ti_128, ti_61, nt33] at c1 c4 c7 hlo13 c15 c18 c34 ⊢; omega)
              refine lv_goto (tgt := 52) hx hb dX11_power_121 (by decide) ?_
              exact ih13 _ f29 _ _ _ (by have := i_rng z35; first | omega | (simp only [i_lt, i_le, i_eq, ti_m9, ti_m1, ti_0, ti_1, ti_2, ti_3, ti_4, ti_5, ti_6, ti_7, ti_9, ti_12, ti_20, ti_99, ti_700, ti_24, ti_156, ti_72, ti_8, ti_60, ti_543, ti_10, ti_33, ti_51, ti_178, ti_119, ti_111, ti_114, ti_100, ti_32, ti_62, ti_59, ti_48, ti_701, ti_97, ti_122, ti_57, ti_73, ti_128, ti_61, nt33, ic35] at c1 c4 c7 hlo13 c15 c18 c34 ic35 ⊢; omega)) ⟨hok, hP, hS, z35, rfl, (by first | omega | (simp only [i_lt, i_le, i_eq, ti_m9, ti_m1, ti_0, ti_1, ti_2, ti_3, ti_4, ti_5, ti_6, ti_7, ti_9, ti_12, ti_20, ti_99, ti_700, ti_24, ti_156, ti_72, ti_8, ti_60, ti_543, ti_10, ti_33, ti_51, ti_178, ti_119, ti_111, ti_114, ti_100, ti_32, ti_62, ti_59, ti_48, ti_701, ti_97, ti_122, ti_57, ti_73, ti_128, ti_61, nt33, ic35] at c1 c4 c7 hlo13 c15 c18 c34 ⊢; omega)), lv_sub hl [1, 2, 3, 4, 0] rfl⟩
            · refine lv_aload_n hx hb dX11_power_111 rfl (lv_at hl 0 rfl) ?_
              refine lv_bipush (v := 6) hx hb dX11_power_112 (by decide) ?_
              refine tc_i hAL hS hA (va_runV (As := [.int 6]) (rest := []) ⟨hx, hb, hml, hown, noTs⟩ (t_X11_fail l dC dI H.size G cs tt mm a0 ha0 6) ⟨cbE 1 (wd_436 hE) (wd_115 hE) (wd_433 hE) rfl rfl (by decide +kernel) ⟨Nat.le_of_ble_eq_true rfl, Nat.le_of_ble_eq_true rfl⟩, (wd_435 hE), (wd_1 hE)⟩ ⟨PT.blind, th_recv hK hP ha0.1 he30 rfl, (th_pre (av := [.ref a0, .int 6]) trivial hK hP hok hnd hWT hE)⟩ rfl rfl hl.1 rfl (lv_room (Nat.le_of_ble_eq_true rfl)) dX11_power_114 ⟨Nat.le_of_ble_eq_true rfl, Nat.le_of_ble_eq_true rfl⟩) (fun r36 f36 H locs hr36 hok hP hS => ?_)
              subst hr36
              exact W.iret (v := -1) hx hb hr (fun t ht hW => ⟨⟨-1, f36, rfl, trivial, hok, by rw [ht]; exact hP⟩, hS.F ht⟩) hS.2.2 dX11_power_117
      · refine lv_aload_n hx hb dX11_power_28 rfl (lv_at hl 1 rfl) ?_
        refine lv_iload_n hx hb dX11_power_29 rfl (lv_at hl 0 rfl) ?_
        obtain ⟨y5_37, hy4_37, hy7_37, he37⟩ := ok_X11 hok ha0
        refine tc_i hAL hS hA (va_runV (As := [.int r6]) (rest := []) ⟨hx, hb, hml, hown, noTs⟩ (t_X11_fail l dC dI H.size G cs tt mm a0 ha0 r6) ⟨cbE 1 (wd_436 hE) (wd_115 hE) (wd_433 hE) rfl rfl (by decide +kernel) ⟨Nat.le_of_ble_eq_true rfl, Nat.le_of_ble_eq_true rfl⟩, (wd_435 hE), (wd_1 hE)⟩ ⟨PT.blind, th_recv hK hP ha0.1 he37 rfl, (th_pre (av := [.ref a0, .int r6]) trivial hK hP hok hnd hWT hE)⟩ rfl rfl hl.1 rfl (lv_room (Nat.le_of_ble_eq_true rfl)) dX11_power_30 ⟨Nat.le_of_ble_eq_true rfl, Nat.le_of_ble_eq_true rfl⟩) (fun r38 f38 H locs hr38 hok hP hS => ?_)
        subst hr38
        exact W.iret (v := -1) hx hb hr (fun t ht hW => ⟨⟨-1, f38, rfl, trivial, hok, by rw [ht]; exact hP⟩, hS.F ht⟩) hS.2.2 dX11_power_33
    · refine lv_aload_n hx hb dX11_power_12 rfl (lv_at hl 0 rfl) ?_
      refine lv_iconst (v := 1) hx hb dX11_power_13 (by decide) ?_
      obtain ⟨y5_39, hy4_39, hy7_39, he39⟩ := ok_X11 hok ha0
      refine tc_i hAL hS hA (va_runV (As := [.int 1]) (rest := []) ⟨hx, hb, hml, hown, noTs⟩ (t_X11_fail l dC dI s.heap.size G cs tt mm a0 ha0 1) ⟨cbE 1 (wd_436 hE) (wd_115 hE) (wd_433 hE) rfl rfl (by decide +kernel) ⟨Nat.le_of_ble_eq_true rfl, Nat.le_of_ble_eq_true rfl⟩, (wd_435 hE), (wd_1 hE)⟩ ⟨PT.blind, th_recv hK hP ha0.1 he39 rfl, (th_pre (av := [.ref a0, .int 1]) trivial hK hP hok hnd hWT hE)⟩ rfl rfl hl.1 rfl (lv_room (Nat.le_of_ble_eq_true rfl)) dX11_power_14 ⟨Nat.le_of_ble_eq_true rfl, Nat.le_of_ble_eq_true rfl⟩) (fun r40 f40 H locs hr40 hok hP hS => ?_)
      subst hr40
      exact W.iret (v := -1) hx hb hr (fun t ht hW => ⟨⟨-1, f40, rfl, trivial, hok, by rw [ht]; exact hP⟩, hS.F ht⟩) hS.2.2 dX11_power_17
