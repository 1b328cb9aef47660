set_option maxHeartbeats 4000000 in
set_option maxRecDepth 100000 in
theorem t_X7_isFull (l : Launch) (dC : Nat → ClassId) (dI : Nat → Nat → Nat) (sz : Nat) (G : GT) (cs : Nat → ClassId) (tt mm : Nat) (a0 : Nat) (ha0 : Ty G a0 7) : Met l yX7_isFull [.code yX7_isFull cX7_isFull 1 (some .boolean)] ({ frames := 0, cells := 0, slots := 0, locals := 0 }) (PT [.ref a0] sz dC dI G cs tt mm (fun _ => True)) (vp_Si (fun (r : Int32) => r = 0 ∨ r = 1)) 0 0 (fun _ => False) := by
  refine Met.ofW (cc := cX7_isFull) (maxL := 1) (ret := (some .boolean)) (by decide) rfl ?_
  intro p e s m args below meth c s₁ B hml hv
  obtain ⟨rfl, hsz, ⟨f0, hok, hP, hX⟩, hK, hnd, hWT, hE⟩ := hv
  have hx := B.exec
  have hb := B.bytes
  have hr := B.returns
  have hown : s.vm.findClass RX7 = some m.cls := findClass_of_methodNamed B.named
  have hlocks := B.notSynchronized
  subst hsz
  have hl := lv_entry ([.ref a0]) (n := 1) (Nat.le_of_ble_eq_true rfl)
  rw [lg_entry_eq]
  generalize (lg_sl ([.ref a0]) ++ List.replicate (1 - (lg_sl ([.ref a0])).length) Slot.unset).toArray = ls at hl ⊢
  have hl : lv_has ls 1 [(0, .ref a0)] := hl
  refine lv_aload_n hx hb dX7_isFull_0 rfl (lv_at hl 0 rfl) ?_
  have he1 := ok_X7 hok ha0
  refine th_get hx hb (ly_X7 hE) hown hK hP ha0.1 he1 rfl 0 (by decide) (wd_149 hE) (fun _ h9 => h9) rfl dX7_isFull_1 ?_
  refine lv_iconst (v := 2) hx hb dX7_isFull_4 (by decide) ?_
  refine th_iald hx hb hK hP hok (wt_X7_0 hWT ha0) (n := 543) (wl_X7_0 hWT ha0) (by unfold vp_in; decide) dX7_isFull_5 (fun x2 => ?_)
  refine lv_bipush (v := 10) hx hb dX7_isFull_6 (by decide) ?_
  refine lv_icmp_lt (tgt := 15) hx hb dX7_isFull_8 (by decide) (fun c3 => ?_) (fun c3 => ?_)
  · refine lv_iconst (v := 0) hx hb dX7_isFull_15 (by decide) ?_
    exact W.zret (v := 0) hx hb hr rfl (fun t ht hW => ⟨0, rfl, Or.inl rfl, ht⟩) (fun _ h => absurd h List.not_mem_nil) dX7_isFull_16
  · refine lv_iconst (v := 1) hx hb dX7_isFull_11 (by decide) ?_
    refine lv_goto (tgt := 16) hx hb dX7_isFull_12 (by decide) ?_
    exact W.zret (v := 1) hx hb hr rfl (fun t ht hW => ⟨1, rfl, Or.inr rfl, ht⟩) (fun _ h => absurd h List.not_mem_nil) dX7_isFull_16

set_option maxHeartbeats 4000000 in
set_option maxRecDepth 100000 in
theorem t_X5_readNumber (l : Launch) (dC : Nat → ClassId) (dI : Nat → Nat → Nat) (sz : Nat) (G : GT) (cs : Nat → ClassId) (tt mm : Nat) (a0 : Nat) (ha0 : Ty G a0 5) : Met l yX5_readNumber [.code yX5_readNumber cX5_readNumber 1 none] ({ frames := 2, cells := 0, slots := 0, locals := 80 }) (PT [.ref a0] sz dC dI G cs tt mm (fun _ => True)) (va_Qv (fun (u : Nat → va_E) => True) (BT dC dI G cs tt mm) (AT G sz)) 0 0 (AT G sz) := by
  refine Met.ofW (cc := cX5_readNumber) (maxL := 1) (ret := none) (by decide) rfl ?_
  intro p e s m args below meth c s₁ B hml hv
  obtain ⟨rfl, hsz, ⟨f0, hok, hP, hX⟩, hK, hnd, hWT, hE⟩ := hv
  have hx := B.exec
  have hb := B.bytes
  have hr := B.returns
  have hown : s.vm.findClass RX5 = some m.cls := findClass_of_methodNamed B.named
  have hlocks := B.notSynchronized
  subst hsz
  have hAL : ∀ a, a ∈ gL G → AT G s.heap.size a := fun a h => Or.inl h
  have hA : ∀ q : Nat, s.heap.size ≤ q → AT G s.heap.size q := fun q h => Or.inr h
  have hS : va_S (AT G s.heap.size) s.heap s.heap [] := va_S.rf
  have hl := lv_entry ([.ref a0]) (n := 1) (Nat.le_of_ble_eq_true rfl)
  rw [lg_entry_eq]
  generalize (lg_sl ([.ref a0]) ++ List.replicate (1 - (lg_sl ([.ref a0])).length) Slot.unset).toArray = ls at hl ⊢
  have hl : lv_has ls 1 [(0, .ref a0)] := hl
  refine lv_aload_n hx hb dX5_readNumber_0 rfl (lv_at hl 0 rfl) ?_
  obtain ⟨y3_1, y4_1, y5_1, y6_1, y7_1, y8_1, y9_1, he1⟩ := ok_X5 hok ha0
  refine th_get hx hb (ly_X5 hE) hown hK hP ha0.1 he1 rfl 7 (by decide) (wd_234 hE) (fun _ h9 => h9) rfl dX5_readNumber_1 ?_
  refine lv_if_ne (tgt := 48) hx hb dX5_readNumber_4 (by decide) (fun c2 => ?_) (fun c2 => ?_)
  · exact W.vret hx hb hr (fun t ht hW => ⟨⟨f0, rfl, trivial, hok, by rw [ht]; exact hP⟩, hS.F ht⟩) hS.2.2 dX5_readNumber_48
  · refine lv_aload_n hx hb dX5_readNumber_7 rfl (lv_at hl 0 rfl) ?_
    refine vp_callSi (va_Run.run (va_runV (As := []) (rest := []) ⟨hx, hb, hml, hown, noTs⟩ (t_X5_kind l dC dI s.heap.size G cs tt mm a0 ha0) ⟨cbE 0 (wd_545 hE) (wd_118 hE) (wd_542 hE) rfl rfl (by decide +kernel) ⟨Nat.le_of_ble_eq_true rfl, Nat.le_of_ble_eq_true rfl⟩, (wd_544 hE), (wd_8 hE)⟩ ⟨PT.blind, th_recv hK hP ha0.1 he1 rfl, (th_pre (av := [.ref a0]) trivial hK hP hok hnd hWT hE)⟩ rfl rfl hl.1 rfl (lv_room (Nat.le_of_ble_eq_true rfl)) dX5_readNumber_8 ⟨Nat.le_of_ble_eq_true rfl, Nat.le_of_ble_eq_true rfl⟩)) (fun r3 hr3 => ?_)
    refine lv_bipush (v := 6) hx hb dX5_readNumber_11 (by decide) ?_
    refine lv_icmp_ne (tgt := 48) hx hb dX5_readNumber_13 (by decide) (fun c4 => ?_) (fun c4 => ?_)
    · exact W.vret hx hb hr (fun t ht hW => ⟨⟨f0, rfl, trivial, hok, by rw [ht]; exact hP⟩, hS.F ht⟩) hS.2.2 dX5_readNumber_48
    · refine lv_aload_n hx hb dX5_readNumber_16 rfl (lv_at hl 0 rfl) ?_
      refine th_get hx hb (ly_X5 hE) hown hK hP ha0.1 he1 rfl 2 (by decide) (wd_229 hE) (fun _ h9 => h9) rfl dX5_readNumber_17 ?_
      refine lv_aload_n hx hb dX5_readNumber_20 rfl (lv_at hl 0 rfl) ?_
      refine vp_callSi (va_Run.run (va_runV (As := []) (rest := [.ref (gR G a0 2)]) ⟨hx, hb, hml, hown, noTs⟩ (t_X5_value l dC dI s.heap.size G cs tt mm a0 ha0) ⟨cbE 0 (wd_569 hE) (wd_118 hE) (wd_566 hE) rfl rfl (by decide +kernel) ⟨Nat.le_of_ble_eq_true rfl, Nat.le_of_ble_eq_true rfl⟩, (wd_568 hE), (wd_11 hE)⟩ ⟨PT.blind, th_recv hK hP ha0.1 he1 rfl, (th_pre (av := [.ref a0]) trivial hK hP hok hnd hWT hE)⟩ rfl rfl hl.1 rfl (lv_room (Nat.le_of_ble_eq_true rfl)) dX5_readNumber_21 ⟨Nat.le_of_ble_eq_true rfl, Nat.le_of_ble_eq_true rfl⟩)) (fun r5 hr5 => ?_)
      refine lv_aload_n hx hb dX5_readNumber_24 rfl (lv_at hl 0 rfl) ?_
      refine th_get hx hb (ly_X5 hE) hown hK hP ha0.1 he1 rfl 1 (by decide) (wd_228 hE) (fun _ h9 => h9) rfl dX5_readNumber_25 ?_
      refine lv_aload_n hx hb dX5_readNumber_28 rfl (lv_at hl 0 rfl) ?_
      refine th_get hx hb (ly_X5 hE) hown hK hP ha0.1 he1 rfl 5 (by decide) (wd_232 hE) (fun _ h9 => h9) rfl dX5_readNumber_29 ?_
      have he6 := ok_X7 hok (wt_X5_1 hWT ha0)
      refine vp_callSi (va_Run.run (va_runV (As := [.int y5_1]) (rest := [.int r5, .ref (gR G a0 2)]) ⟨hx, hb, hml, hown, noTs⟩ (t_X7_orderAt l dC dI s.heap.size G cs tt mm (gR G a0 1) ((wt_X5_1 hWT ha0)) y5_1) ⟨cbE 1 (wd_614 hE) (wd_116 hE) (wd_611 hE) rfl rfl (by decide +kernel) ⟨Nat.le_of_ble_eq_true rfl, Nat.le_of_ble_eq_true rfl⟩, (wd_612 hE), (wd_613 hE)⟩ ⟨PT.blind, th_recv hK hP (wt_X5_1 hWT ha0).1 he6 rfl, (th_pre (av := [.ref (gR G a0 1), .int y5_1]) trivial hK hP hok hnd hWT hE)⟩ rfl rfl hl.1 rfl (lv_room (Nat.le_of_ble_eq_true rfl)) dX5_readNumber_32 ⟨Nat.le_of_ble_eq_true rfl, Nat.le_of_ble_eq_true rfl⟩)) (fun r7 hr7 => ?_)
      obtain ⟨y2_8, y3_8, hy3_8, he8⟩ := ok_X10 hok (wt_X5_2 hWT ha0)
      refine tc_v hAL hS hA (va_runV (As := [.int r5, .int r7]) (rest := []) ⟨hx, hb, hml, hown, noTs⟩ (t_X10_addLast l dC dI s.heap.size G cs tt mm (gR G a0 2) ((wt_X5_2 hWT ha0)) r5 r7) ⟨cbE 2 (wd_645 hE) (wd_120 hE) (wd_642 hE) rfl rfl (by decide +kernel) ⟨Nat.le_of_ble_eq_true rfl, Nat.le_of_ble_eq_true rfl⟩, (wd_643 hE), (wd_644 hE)⟩ ⟨PT.blind, th_recv hK hP (wt_X5_2 hWT ha0).1 he8 rfl, (th_pre (av := [.ref (gR G a0 2), .int r5, .int r7]) trivial hK hP hok hnd hWT hE)⟩ rfl rfl hl.1 rfl (lv_room (Nat.le_of_ble_eq_true rfl)) dX5_readNumber_35 ⟨Nat.le_of_ble_eq_true rfl, Nat.le_of_ble_eq_true rfl⟩) (fun f9 H locs hr9 hok hP hS => ?_)
      refine lv_aload_n hx hb dX5_readNumber_38 rfl (lv_at hl 0 rfl) ?_
      refine lv_dup hx hb dX5_readNumber_39 rfl ?_
      obtain ⟨y3_10, y4_10, y5_10, y6_10, y7_10, y8_10, y9_10, he10⟩ := ok_X5 hok ha0
      refine th_get hx hb (ly_X5 hE) hown hK hP ha0.1 he10 rfl 4 (by decide) (wd_231 hE) (fun _ h9 => h9) rfl dX5_readNumber_40 ?_
      refine lv_iconst (v := 1) hx hb dX5_readNumber_43 (by decide) ?_
      refine lv_iadd hx hb dX5_readNumber_44 ?_
      refine lv_topi (fun x11 ex11 => ?_)
      refine th_put (v := .int x11) (ty := .int) hx hb (ly_X5 hE) tyX5 tyX5_ok nmX5 hown hK hP hnd hAL hS ha0.1 he10 rfl 4 (by decide) (wd_231 hE) (fun _ h9 => h9) rfl (by decide +kernel) rfl rfl (Nat.le_of_ble_eq_true rfl) (up_X5 hok ha0 ⟨y3_10, x11, y5_10, y6_10, y7_10, y8_10, y9_10, rfl⟩) dX5_readNumber_45 (fun f12 H locs hfa12 hfo12 hok hP hS => ?_)
      exact W.vret hx hb hr (fun t ht hW => ⟨⟨f12, rfl, trivial, hok, by rw [ht]; exact hP⟩, hS.F ht⟩) hS.2.2 dX5_readNumber_48

set_option maxHeartbeats 4000000 in
set_option maxRecDepth 100000 in
theorem t_X5_isSign (l : Launch) (dC : Nat → ClassId) (dI : Nat → Nat → Nat) (sz : Nat) (G : GT) (cs : Nat → ClassId) (tt mm : Nat) (a0 : Nat) (ha0 : Ty G a0 5) : Met l yX5_isSign [.code yX5_isSign cX5_isSign 2 (some .boolean)] ({ frames := 2, cells := 0, slots := 0, locals := 80 }) (PT [.ref a0] sz dC dI G cs tt mm (fun _ => True)) (vp_Si (fun (r : Int32) => r = 0 ∨ r = 1)) 0 0 (fun _ => False) := by
  refine Met.ofW (cc := cX5_isSign) (maxL := 2) (ret := (some .boolean)) (by decide) rfl ?_
  intro p e s m args below meth c s₁ B hml hv
  obtain ⟨rfl, hsz, ⟨f0, hok, hP, hX⟩, hK, hnd, hWT, hE⟩ := hv
  have hx := B.exec
  have hb := B.bytes
  have hr := B.returns
  have hown : s.vm.findClass RX5 = some m.cls := findClass_of_methodNamed B.named
  have hlocks := B.notSynchronized
  subst hsz
  have hl := lv_entry ([.ref a0]) (n := 2) (Nat.le_of_ble_eq_true rfl)
  rw [lg_entry_eq]
  generalize (lg_sl ([.ref a0]) ++ List.replicate (2 - (lg_sl ([.ref a0])).length) Slot.unset).toArray = ls at hl ⊢
  have hl : lv_has ls 2 [(0, .ref a0)] := hl
  refine lv_aload_n hx hb dX5_isSign_0 rfl (lv_at hl 0 rfl) ?_
  obtain ⟨y3_1, y4_1, y5_1, y6_1, y7_1, y8_1, y9_1, he1⟩ := ok_X5 hok ha0
  refine vp_callSi (va_Run.run (va_runV (As := []) (rest := []) ⟨hx, hb, hml, hown, noTs⟩ (t_X5_kind l dC dI s.heap.size G cs tt mm a0 ha0) ⟨cbE 0 (wd_545 hE) (wd_118 hE) (wd_542 hE) rfl rfl (by decide +kernel) ⟨Nat.le_of_ble_eq_true rfl, Nat.le_of_ble_eq_true rfl⟩, (wd_544 hE), (wd_8 hE)⟩ ⟨PT.blind, th_recv hK hP ha0.1 he1 rfl, (th_pre (av := [.ref a0]) trivial hK hP hok hnd hWT hE)⟩ rfl rfl hl.1 rfl (lv_room (Nat.le_of_ble_eq_true rfl)) dX5_isSign_1 ⟨Nat.le_of_ble_eq_true rfl, Nat.le_of_ble_eq_true rfl⟩)) (fun r2 hr2 => ?_)
  refine lv_istore_n (lv' := [(1, .int r2), (0, .ref a0)]) hx hb dX5_isSign_4 rfl hl (by decide) rfl (fun ls hl => ?_)
  refine lv_aload_n hx hb dX5_isSign_5 rfl (lv_at hl 1 rfl) ?_
  refine th_get hx hb (ly_X5 hE) hown hK hP ha0.1 he1 rfl 7 (by decide) (wd_234 hE) (fun _ h9 => h9) rfl dX5_isSign_6 ?_
  refine lv_if_ne (tgt := 28) hx hb dX5_isSign_9 (by decide) (fun c3 => ?_) (fun c3 => ?_)
  · refine lv_iconst (v := 0) hx hb dX5_isSign_28 (by decide) ?_
    exact W.zret (v := 0) hx hb hr rfl (fun t ht hW => ⟨0, rfl, Or.inl rfl, ht⟩) (fun _ h => absurd h List.not_mem_nil) dX5_isSign_29
  · refine lv_iload_n hx hb dX5_isSign_12 rfl (lv_at hl 0 rfl) ?_
    refine lv_bipush (v := 7) hx hb dX5_isSign_13 (by decide) ?_
    refine lv_icmp_eq (tgt := 24) hx hb dX5_isSign_15 (by decide) (fun c4 => ?_) (fun c4 => ?_)
    · refine lv_iconst (v := 1) hx hb dX5_isSign_24 (by decide) ?_
      refine lv_goto (tgt := 29) hx hb dX5_isSign_25 (by decide) ?_
      exact W.zret (v := 1) hx hb hr rfl (fun t ht hW => ⟨1, rfl, Or.inr rfl, ht⟩) (fun _ h => absurd h List.not_mem_nil) dX5_isSign_29
    · refine lv_iload_n hx hb dX5_isSign_18 rfl (lv_at hl 0 rfl) ?_
      refine lv_bipush (v := 8) hx hb dX5_isSign_19 (by decide) ?_
      refine lv_icmp_ne (tgt := 28) hx hb dX5_isSign_21 (by decide) (fun c5 => ?_) (fun c5 => ?_)
      · refine lv_iconst (v := 0) hx hb dX5_isSign_28 (by decide) ?_
        exact W.zret (v := 0) hx hb hr rfl (fun t ht hW => ⟨0, rfl, Or.inl rfl, ht⟩) (fun _ h => absurd h List.not_mem_nil) dX5_isSign_29
      · refine lv_iconst (v := 1) hx hb dX5_isSign_24 (by decide) ?_
        refine lv_goto (tgt := 29) hx hb dX5_isSign_25 (by decide) ?_
        exact W.zret (v := 1) hx hb hr rfl (fun t ht hW => ⟨1, rfl, Or.inr rfl, ht⟩) (fun _ h => absurd h List.not_mem_nil) dX5_isSign_29

set_option maxHeartbeats 4000000 in
set_option maxRecDepth 100000 in
theorem t_X7_hasEdge (l : Launch) (dC : Nat → ClassId) (dI : Nat → Nat → Nat) (sz : Nat) (G : GT) (cs : Nat → ClassId) (tt mm : Nat) (a0 : Nat) (ha0 : Ty G a0 7) (v1 : Int32) : Met l yX7_hasEdge [.code yX7_hasEdge cX7_hasEdge 2 (some .boolean)] ({ frames := 0, cells := 0, slots := 0, locals := 0 }) (PT [.ref a0, .int v1] sz dC dI G cs tt mm (fun _ => True)) (vp_Si (fun (r : Int32) => r = 0 ∨ r = 1)) 0 0 (fun _ => False) := by
  refine Met.ofW (cc := cX7_hasEdge) (maxL := 2) (ret := (some .boolean)) (by decide) rfl ?_
  intro p e s m args below meth c s₁ B hml hv
  obtain ⟨rfl, hsz, ⟨f0, hok, hP, hX⟩, hK, hnd, hWT, hE⟩ := hv
  have hx := B.exec
  have hb := B.bytes
  have hr := B.returns
  have hown : s.vm.findClass RX7 = some m.cls := findClass_of_methodNamed B.named
  have hlocks := B.notSynchronized
  subst hsz
  have hl := lv_entry ([.ref a0, .int v1]) (n := 2) (Nat.le_of_ble_eq_true rfl)
  rw [lg_entry_eq]
  generalize (lg_sl ([.ref a0, .int v1]) ++ List.replicate (2 - (lg_sl ([.ref a0, .int v1])).length) Slot.unset).toArray = ls at hl ⊢
  have hl : lv_has ls 2 [(0, .ref a0), (1, .int v1)] := hl
  refine lv_iload_n hx hb dX7_hasEdge_0 rfl (lv_at hl 1 rfl) ?_
  refine lv_if_lt (tgt := 18) hx hb dX7_hasEdge_1 (by decide) (fun c1 => ?_) (fun c1 => ?_)
  · refine lv_iconst (v := 0) hx hb dX7_hasEdge_18 (by decide) ?_
    exact W.zret (v := 0) hx hb hr rfl (fun t ht hW => ⟨0, rfl, Or.inl rfl, ht⟩) (fun _ h => absurd h List.not_mem_nil) dX7_hasEdge_19
  · refine lv_iload_n hx hb dX7_hasEdge_4 rfl (lv_at hl 1 rfl) ?_
    refine lv_aload_n hx hb dX7_hasEdge_5 rfl (lv_at hl 0 rfl) ?_
    have he2 := ok_X7 hok ha0
    refine th_get hx hb (ly_X7 hE) hown hK hP ha0.1 he2 rfl 0 (by decide) (wd_149 hE) (fun _ h9 => h9) rfl dX7_hasEdge_6 ?_
    refine lv_iconst (v := 1) hx hb dX7_hasEdge_9 (by decide) ?_
    refine th_iald hx hb hK hP hok (wt_X7_0 hWT ha0) (n := 543) (wl_X7_0 hWT ha0) (by unfold vp_in; decide) dX7_hasEdge_10 (fun x3 => ?_)
    refine lv_icmp_ge (tgt := 18) hx hb dX7_hasEdge_11 (by decide) (fun c4 => ?_) (fun c4 => ?_)
    · refine lv_iconst (v := 0) hx hb dX7_hasEdge_18 (by decide) ?_
      exact W.zret (v := 0) hx hb hr rfl (fun t ht hW => ⟨0, rfl, Or.inl rfl, ht⟩) (fun _ h => absurd h List.not_mem_nil) dX7_hasEdge_19
    · refine lv_iconst (v := 1) hx hb dX7_hasEdge_14 (by decide) ?_
      refine lv_goto (tgt := 19) hx hb dX7_hasEdge_15 (by decide) ?_
      exact W.zret (v := 1) hx hb hr rfl (fun t ht hW => ⟨1, rfl, Or.inr rfl, ht⟩) (fun _ h => absurd h List.not_mem_nil) dX7_hasEdge_19

set_option maxHeartbeats 4000000 in
set_option maxRecDepth 100000 in
theorem t_X5_readStep (l : Launch) (dC : Nat → ClassId) (dI : Nat → Nat → Nat) (sz : Nat) (G : GT) (cs : Nat → ClassId) (tt mm : Nat) (a0 : Nat) (ha0 : Ty G a0 5) : Met l yX5_readStep [.code yX5_readStep cX5_readStep 3 none] ({ frames := 3, cells := 0, slots := 0, locals := 120 }) (PT [.ref a0] sz dC dI G cs tt mm (fun _ => True)) (va_Qv (fun (u : Nat → va_E) => True) (BT dC dI G cs tt mm) (AT G sz)) 0 0 (AT G sz) := by
  refine Met.ofW (cc := cX5_readStep) (maxL := 3) (ret := none) (by decide) rfl ?_
  intro p e s m args below meth c s₁ B hml hv
  obtain ⟨rfl, hsz, ⟨f0, hok, hP, hX⟩, hK, hnd, hWT, hE⟩ := hv
  have hx := B.exec
  have hb := B.bytes
  have hr := B.returns
  have hown : s.vm.findClass RX5 = some m.cls := findClass_of_methodNamed B.named
  have hlocks := B.notSynchronized
  subst hsz
  have hAL : ∀ a, a ∈ gL G → AT G s.heap.size a := fun a h => Or.inl h
  have hA : ∀ q : Nat, s.heap.size ≤ q → AT G s.heap.size q := fun q h => Or.inr h
  have hS : va_S (AT G s.heap.size) s.heap s.heap [] := va_S.rf
  have hl := lv_entry ([.ref a0]) (n := 3) (Nat.le_of_ble_eq_true rfl)
  rw [lg_entry_eq]
  generalize (lg_sl ([.ref a0]) ++ List.replicate (3 - (lg_sl ([.ref a0])).length) Slot.unset).toArray = ls at hl ⊢
  have hl : lv_has ls 3 [(0, .ref a0)] := hl
  refine lv_aload_n hx hb dX5_readStep_0 rfl (lv_at hl 0 rfl) ?_
  refine lv_aload_n hx hb dX5_readStep_1 rfl (lv_at hl 0 rfl) ?_
  obtain ⟨y3_1, y4_1, y5_1, y6_1, y7_1, y8_1, y9_1, he1⟩ := ok_X5 hok ha0
  refine th_get hx hb (ly_X5 hE) hown hK hP ha0.1 he1 rfl 2 (by decide) (wd_229 hE) (fun _ h9 => h9) rfl dX5_readStep_2 ?_
  obtain ⟨y2_2, y3_2, hy3_2, he2⟩ := ok_X10 hok (wt_X5_2 hWT ha0)
  refine vp_callSi (va_Run.run (va_runV (As := []) (rest := [.ref a0]) ⟨hx, hb, hml, hown, noTs⟩ (t_X10_size l dC dI s.heap.size G cs tt mm (gR G a0 2) ((wt_X5_2 hWT ha0)) y2_2 y3_2) ⟨cbE 0 (wd_666 hE) (wd_120 hE) (wd_663 hE) rfl rfl (by decide +kernel) ⟨Nat.le_of_ble_eq_true rfl, Nat.le_of_ble_eq_true rfl⟩, (wd_664 hE), (wd_665 hE)⟩ ⟨PT.blind, th_recv hK hP (wt_X5_2 hWT ha0).1 he2 rfl, (th_pre (av := [.ref (gR G a0 2)]) he2 hK hP hok hnd hWT hE)⟩ rfl rfl hl.1 rfl (lv_room (Nat.le_of_ble_eq_true rfl)) dX5_readStep_5 ⟨Nat.le_of_ble_eq_true rfl, Nat.le_of_ble_eq_true rfl⟩)) (fun r3 hr3 => ?_)
  subst hr3
  refine lv_bipush (v := 24) hx hb dX5_readStep_8 (by decide) ?_
  have nt4 : (nI y3_2).toInt = ((y3_2 : Nat) : Int) := nI_toInt (by omega)
  refine lv_icmp_ge (tgt := 17) hx hb dX5_readStep_10 (by decide) (fun c5 => ?_) (fun c5 => ?_)
  · refine lv_iconst (v := 0) hx hb dX5_readStep_17 (by decide) ?_
    refine lv_bipush (v := 6) hx hb dX5_readStep_18 (by decide) ?_
    refine tc_i hAL hS hA (va_runV (As := [.int 0, .int 6]) (rest := []) ⟨hx, hb, hml, hown, noTs⟩ (t_X5_passes l dC dI s.heap.size G cs tt mm a0 ha0 0 6) ⟨cbE 2 (wd_561 hE) (wd_118 hE) (wd_558 hE) rfl rfl (by decide +kernel) ⟨Nat.le_of_ble_eq_true rfl, Nat.le_of_ble_eq_true rfl⟩, (wd_560 hE), (wd_10 hE)⟩ ⟨PT.blind, th_recv hK hP ha0.1 he1 rfl, (th_pre (av := [.ref a0, .int 0, .int 6]) trivial hK hP hok hnd hWT hE)⟩ rfl rfl hl.1 rfl (lv_room (Nat.le_of_ble_eq_true rfl)) dX5_readStep_20 ⟨Nat.le_of_ble_eq_true rfl, Nat.le_of_ble_eq_true rfl⟩) (fun r6 f6 H locs hr6 hok hP hS => ?_)
    refine lv_if_ne (tgt := 27) hx hb dX5_readStep_23 (by decide) (fun c7 => ?_) (fun c7 => ?_)
    · refine lv_aload_n hx hb dX5_readStep_27 rfl (lv_at hl 0 rfl) ?_
      obtain ⟨y3_8, y4_8, y5_8, y6_8, y7_8, y8_8, y9_8, he8⟩ := ok_X5 hok ha0
      refine vp_callSi (va_Run.run (va_runV (As := []) (rest := []) ⟨hx, hb, hml, hown, noTs⟩ (t_X5_kind l dC dI H.size G cs tt mm a0 ha0) ⟨cbE 0 (wd_545 hE) (wd_118 hE) (wd_542 hE) rfl rfl (by decide +kernel) ⟨Nat.le_of_ble_eq_true rfl, Nat.le_of_ble_eq_true rfl⟩, (wd_544 hE), (wd_8 hE)⟩ ⟨PT.blind, th_recv hK hP ha0.1 he8 rfl, (th_pre (av := [.ref a0]) trivial hK hP hok hnd hWT hE)⟩ rfl rfl hl.1 rfl (lv_room (Nat.le_of_ble_eq_true rfl)) dX5_readStep_28 ⟨Nat.le_of_ble_eq_true rfl, Nat.le_of_ble_eq_true rfl⟩)) (fun r9 hr9 => ?_)
      refine lv_bipush (v := 8) hx hb dX5_readStep_31 (by decide) ?_
      refine lv_icmp_ne (tgt := 40) hx hb dX5_readStep_33 (by decide) (fun c10 => ?_) (fun c10 => ?_)
      · refine lv_iconst (v := 0) hx hb dX5_readStep_40 (by decide) ?_
        refine vp_callSi (va_Run.run (va_runSN (As := [.int 0]) (rest := []) ⟨hx, hb, hml, hown, noTs⟩ (t_X11_bit l dC dI H.size G cs tt mm 0) ⟨cnE 1 (wd_669 hE) (wd_115 hE) (wd_667 hE) rfl rfl (by decide +kernel) ⟨Nat.le_of_ble_eq_true rfl, Nat.le_of_ble_eq_true rfl⟩, (wd_668 hE), trivial⟩ ⟨PT.blind, (th_pre (av := [.int 0]) trivial hK hP hok hnd hWT hE)⟩ rfl rfl hl.1 rfl (lv_room (Nat.le_of_ble_eq_true rfl)) dX5_readStep_41 ⟨Nat.le_of_ble_eq_true rfl, Nat.le_of_ble_eq_true rfl⟩)) (fun r11 hr11 => ?_)
        refine lv_istore_n (lv' := [(1, .int r11), (0, .ref a0)]) hx hb dX5_readStep_44 rfl hl (by decide) rfl (fun ls hl => ?_)
        refine lv_aload_n hx hb dX5_readStep_45 rfl (lv_at hl 1 rfl) ?_
        refine lv_dup hx hb dX5_readStep_46 rfl ?_
        refine th_get hx hb (ly_X5 hE) hown hK hP ha0.1 he8 rfl 4 (by decide) (wd_231 hE) (fun _ h9 => h9) rfl dX5_readStep_47 ?_
        refine lv_iconst (v := 1) hx hb dX5_readStep_50 (by decide) ?_
        refine lv_iadd hx hb dX5_readStep_51 ?_
        refine lv_topi (fun x12 ex12 => ?_)
        refine th_put (v := .int x12) (ty := .int) hx hb (ly_X5 hE) tyX5 tyX5_ok nmX5 hown hK hP hnd hAL hS ha0.1 he8 rfl 4 (by decide) (wd_231 hE) (fun _ h9 => h9) rfl (by decide +kernel) rfl rfl (Nat.le_of_ble_eq_true rfl) (up_X5 hok ha0 ⟨y3_8, x12, y5_8, y6_8, y7_8, y8_8, y9_8, rfl⟩) dX5_readStep_52 (fun f13 H locs hfa13 hfo13 hok hP hS => ?_)
        refine lv_iconst (v := 2) hx hb dX5_readStep_55 (by decide) ?_
        refine lv_aload_n hx hb dX5_readStep_56 rfl (lv_at hl 1 rfl) ?_
        refine vp_callSi (va_Run.run (va_runV (As := []) (rest := [.int 2]) ⟨hx, hb, hml, hown, noTs⟩ (t_X5_value l dC dI H.size G cs tt mm a0 ha0) ⟨cbE 0 (wd_569 hE) (wd_118 hE) (wd_566 hE) rfl rfl (by decide +kernel) ⟨Nat.le_of_ble_eq_true rfl, Nat.le_of_ble_eq_true rfl⟩, (wd_568 hE), (wd_11 hE)⟩ ⟨PT.blind, th_recv hK hP ha0.1 hfa13 rfl, (th_pre (av := [.ref a0]) trivial hK hP hok hnd hWT hE)⟩ rfl rfl hl.1 rfl (lv_room (Nat.le_of_ble_eq_true rfl)) dX5_readStep_57 ⟨Nat.le_of_ble_eq_true rfl, Nat.le_of_ble_eq_true rfl⟩)) (fun r14 hr14 => ?_)
        refine lv_imul hx hb dX5_readStep_60 ?_
        refine lv_topi (fun x15 ex15 => ?_)
        refine lv_iload_n hx hb dX5_readStep_61 rfl (lv_at hl 0 rfl) ?_
        refine lv_iadd hx hb dX5_readStep_62 ?_
        refine lv_topi (fun x16 ex16 => ?_)
        refine lv_istore_n (lv' := [(2, .int x16), (1, .int r11), (0, .ref a0)]) hx hb dX5_readStep_63 rfl hl (by decide) rfl (fun ls hl => ?_)
        refine lv_aload_n hx hb dX5_readStep_64 rfl (lv_at hl 2 rfl) ?_
        refine lv_bipush (v := 6) hx hb dX5_readStep_65 (by decide) ?_
        refine tc_i hAL hS hA (va_runV (As := [.int 6]) (rest := []) ⟨hx, hb, hml, hown, noTs⟩ (t_X5_stands l dC dI H.size G cs tt mm a0 ha0 6) ⟨cbE 1 (wd_577 hE) (wd_118 hE) (wd_574 hE) rfl rfl (by decide +kernel) ⟨Nat.le_of_ble_eq_true rfl, Nat.le_of_ble_eq_true rfl⟩, (wd_576 hE), (wd_12 hE)⟩ ⟨PT.blind, th_recv hK hP ha0.1 hfa13 rfl, (th_pre (av := [.ref a0, .int 6]) trivial hK hP hok hnd hWT hE)⟩ rfl rfl hl.1 rfl (lv_room (Nat.le_of_ble_eq_true rfl)) dX5_readStep_67 ⟨Nat.le_of_ble_eq_true rfl, Nat.le_of_ble_eq_true rfl⟩) (fun r17 f17 H locs hr17 hok hP hS => ?_)
        refine lv_if_eq (tgt := 119) hx hb dX5_readStep_70 (by decide) (fun c18 => ?_) (fun c18 => ?_)
        · exact W.vret hx hb hr (fun t ht hW => ⟨⟨f17, rfl, trivial, hok, by rw [ht]; exact hP⟩, hS.F ht⟩) hS.2.2 dX5_readStep_119
        · refine lv_aload_n hx hb dX5_readStep_73 rfl (lv_at hl 2 rfl) ?_
          refine lv_aload_n hx hb dX5_readStep_74 rfl (lv_at hl 2 rfl) ?_
          obtain ⟨y3_19, y4_19, y5_19, y6_19, y7_19, y8_19, y9_19, he19⟩ := ok_X5 hok ha0
          refine th_get hx hb (ly_X5 hE) hown hK hP ha0.1 he19 rfl 1 (by decide) (wd_228 hE) (fun _ h9 => h9) rfl dX5_readStep_75 ?_
          refine lv_iload_n hx hb dX5_readStep_78 rfl (lv_at hl 0 rfl) ?_
          refine lv_iconst (v := 1) hx hb dX5_readStep_79 (by decide) ?_
          refine lv_ishr hx hb dX5_readStep_80 ?_
          refine lv_topi (fun x20 _ => ?_)
          have he21 := ok_X7 hok (wt_X5_1 hWT ha0)
          refine vp_callSi (va_Run.run (va_runV (As := [.int x20]) (rest := [.ref a0]) ⟨hx, hb, hml, hown, noTs⟩ (t_X7_hasEdge l dC dI H.size G cs tt mm (gR G a0 1) ((wt_X5_1 hWT ha0)) x20) ⟨cbE 1 (wd_673 hE) (wd_116 hE) (wd_670 hE) rfl rfl (by decide +kernel) ⟨Nat.le_of_ble_eq_true rfl, Nat.le_of_ble_eq_true rfl⟩, (wd_671 hE), (wd_672 hE)⟩ ⟨PT.blind, th_recv hK hP (wt_X5_1 hWT ha0).1 he21 rfl, (th_pre (av := [.ref (gR G a0 1), .int x20]) trivial hK hP hok hnd hWT hE)⟩ rfl rfl hl.1 rfl (lv_room (Nat.le_of_ble_eq_true rfl)) dX5_readStep_81 ⟨Nat.le_of_ble_eq_true rfl, Nat.le_of_ble_eq_true rfl⟩)) (fun r22 hr22 => ?_)
          refine lv_iconst (v := 3) hx hb dX5_readStep_84 (by decide) ?_
          refine tc_i hAL hS hA (va_runV (As := [.int r22, .int 3]) (rest := []) ⟨hx, hb, hml, hown, noTs⟩ (t_X5_passes l dC dI H.size G cs tt mm a0 ha0 r22 3) ⟨cbE 2 (wd_561 hE) (wd_118 hE) (wd_558 hE) rfl rfl (by decide +kernel) ⟨Nat.le_of_ble_eq_true rfl, Nat.le_of_ble_eq_true rfl⟩, (wd_560 hE), (wd_10 hE)⟩ ⟨PT.blind, th_recv hK hP ha0.1 he19 rfl, (th_pre (av := [.ref a0, .int r22, .int 3]) trivial hK hP hok hnd hWT hE)⟩ rfl rfl hl.1 rfl (lv_room (Nat.le_of_ble_eq_true rfl)) dX5_readStep_85 ⟨Nat.le_of_ble_eq_true rfl, Nat.le_of_ble_eq_true rfl⟩) (fun r23 f23 H locs hr23 hok hP hS => ?_)
          refine lv_if_eq (tgt := 119) hx hb dX5_readStep_88 (by decide) (fun c24 => ?_) (fun c24 => ?_)
          · exact W.vret hx hb hr (fun t ht hW => ⟨⟨f23, rfl, trivial, hok, by rw [ht]; exact hP⟩, hS.F ht⟩) hS.2.2 dX5_readStep_119
          · refine lv_aload_n hx hb dX5_readStep_91 rfl (lv_at hl 2 rfl) ?_
            refine lv_aload_n hx hb dX5_readStep_92 rfl (lv_at hl 2 rfl) ?_
            obtain ⟨y3_25, y4_25, y5_25, y6_25, y7_25, y8_25, y9_25, he25⟩ := ok_X5 hok ha0
            refine th_get hx hb (ly_X5 hE) hown hK hP ha0.1 he25 rfl 1 (by decide) (wd_228 hE) (fun _ h9 => h9) rfl dX5_readStep_93 ?_
            refine lv_iload_n hx hb dX5_readStep_96 rfl (lv_at hl 0 rfl) ?_
            have he26 := ok_X7 hok (wt_X5_1 hWT ha0)
            refine vp_callSi (va_Run.run (va_runV (As := [.int x16]) (rest := [.ref a0]) ⟨hx, hb, hml, hown, noTs⟩ (t_X7_fromVertex l dC dI H.size G cs tt mm (gR G a0 1) ((wt_X5_1 hWT ha0)) x16) ⟨cbE 1 (wd_677 hE) (wd_116 hE) (wd_674 hE) rfl rfl (by decide +kernel) ⟨Nat.le_of_ble_eq_true rfl, Nat.le_of_ble_eq_true rfl⟩, (wd_675 hE), (wd_676 hE)⟩ ⟨PT.blind, th_recv hK hP (wt_X5_1 hWT ha0).1 he26 rfl, (th_pre (av := [.ref (gR G a0 1), .int x16]) trivial hK hP hok hnd hWT hE)⟩ rfl rfl hl.1 rfl (lv_room (Nat.le_of_ble_eq_true rfl)) dX5_readStep_97 ⟨Nat.le_of_ble_eq_true rfl, Nat.le_of_ble_eq_true rfl⟩)) (fun r27 hr27 => ?_)
            refine lv_aload_n hx hb dX5_readStep_100 rfl (lv_at hl 2 rfl) ?_
            refine th_get hx hb (ly_X5 hE) hown hK hP ha0.1 he25 rfl 5 (by decide) (wd_232 hE) (fun _ h9 => h9) rfl dX5_readStep_101 ?_
            refine lv_icmp_ne (tgt := 111) hx hb dX5_readStep_104 (by decide) (fun c28 => ?_) (fun c28 => ?_)
            · refine lv_iconst (v := 0) hx hb dX5_readStep_111 (by decide) ?_
              refine lv_iconst (v := 5) hx hb dX5_readStep_112 (by decide) ?_
              refine tc_i hAL hS hA (va_runV (As := [.int 0, .int 5]) (rest := []) ⟨hx, hb, hml, hown, noTs⟩ (t_X5_passes l dC dI H.size G cs tt mm a0 ha0 0 5) ⟨cbE 2 (wd_561 hE) (wd_118 hE) (wd_558 hE) rfl rfl (by decide +kernel) ⟨Nat.le_of_ble_eq_true rfl, Nat.le_of_ble_eq_true rfl⟩, (wd_560 hE), (wd_10 hE)⟩ ⟨PT.blind, th_recv hK hP ha0.1 he25 rfl, (th_pre (av := [.ref a0, .int 0, .int 5]) trivial hK hP hok hnd hWT hE)⟩ rfl rfl hl.1 rfl (lv_room (Nat.le_of_ble_eq_true rfl)) dX5_readStep_113 ⟨Nat.le_of_ble_eq_true rfl, Nat.le_of_ble_eq_true rfl⟩) (fun r29 f29 H locs hr29 hok hP hS => ?_)
              refine lv_if_ne (tgt := 120) hx hb dX5_readStep_116 (by decide) (fun c30 => ?_) (fun c30 => ?_)
              · refine lv_aload_n hx hb dX5_readStep_120 rfl (lv_at hl 2 rfl) ?_
                obtain ⟨y3_31, y4_31, y5_31, y6_31, y7_31, y8_31, y9_31, he31⟩ := ok_X5 hok ha0
                refine th_get hx hb (ly_X5 hE) hown hK hP ha0.1 he31 rfl 2 (by decide) (wd_229 hE) (fun _ h9 => h9) rfl dX5_readStep_121 ?_
                refine lv_iload_n hx hb dX5_readStep_124 rfl (lv_at hl 0 rfl) ?_
                refine lv_iconst (v := 0) hx hb dX5_readStep_125 (by decide) ?_
                obtain ⟨y2_32, y3_32, hy3_32, he32⟩ := ok_X10 hok (wt_X5_2 hWT ha0)
                refine tc_v hAL hS hA (va_runV (As := [.int x16, .int 0]) (rest := []) ⟨hx, hb, hml, hown, noTs⟩ (t_X10_push l dC dI H.size G cs tt mm (gR G a0 2) ((wt_X5_2 hWT ha0)) x16 0) ⟨cbE 2 (wd_688 hE) (wd_120 hE) (wd_685 hE) rfl rfl (by decide +kernel) ⟨Nat.le_of_ble_eq_true rfl, Nat.le_of_ble_eq_true rfl⟩, (wd_686 hE), (wd_687 hE)⟩ ⟨PT.blind, th_recv hK hP (wt_X5_2 hWT ha0).1 he32 rfl, (th_pre (av := [.ref (gR G a0 2), .int x16, .int 0]) trivial hK hP hok hnd hWT hE)⟩ rfl rfl hl.1 rfl (lv_room (Nat.le_of_ble_eq_true rfl)) dX5_readStep_126 ⟨Nat.le_of_ble_eq_true rfl, Nat.le_of_ble_eq_true rfl⟩) (fun f33 H locs hr33 hok hP hS => ?_)
                refine lv_aload_n hx hb dX5_readStep_129 rfl (lv_at hl 2 rfl) ?_
                refine lv_aload_n hx hb dX5_readStep_130 rfl (lv_at hl 2 rfl) ?_
                obtain ⟨y3_34, y4_34, y5_34, y6_34, y7_34, y8_34, y9_34, he34⟩ := ok_X5 hok ha0
                refine th_get hx hb (ly_X5 hE) hown hK hP ha0.1 he34 rfl 1 (by decide) (wd_228 hE) (fun _ h9 => h9) rfl dX5_readStep_131 ?_
                refine lv_iload_n hx hb dX5_readStep_134 rfl (lv_at hl 0 rfl) ?_
                have he35 := ok_X7 hok (wt_X5_1 hWT ha0)
                refine vp_callSi (va_Run.run (va_runV (As := [.int x16]) (rest := [.ref a0]) ⟨hx, hb, hml, hown, noTs⟩ (t_X7_toVertex l dC dI H.size G cs tt mm (gR G a0 1) ((wt_X5_1 hWT ha0)) x16) ⟨cbE 1 (wd_692 hE) (wd_116 hE) (wd_689 hE) rfl rfl (by decide +kernel) ⟨Nat.le_of_ble_eq_true rfl, Nat.le_of_ble_eq_true rfl⟩, (wd_690 hE), (wd_691 hE)⟩ ⟨PT.blind, th_recv hK hP (wt_X5_1 hWT ha0).1 he35 rfl, (th_pre (av := [.ref (gR G a0 1), .int x16]) trivial hK hP hok hnd hWT hE)⟩ rfl rfl hl.1 rfl (lv_room (Nat.le_of_ble_eq_true rfl)) dX5_readStep_135 ⟨Nat.le_of_ble_eq_true rfl, Nat.le_of_ble_eq_true rfl⟩)) (fun r36 hr36 => ?_)
                refine th_put (v := .int r36) (ty := .int) hx hb (ly_X5 hE) tyX5 tyX5_ok nmX5 hown hK hP hnd hAL hS ha0.1 he34 rfl 5 (by decide) (wd_232 hE) (fun _ h9 => h9) rfl (by decide +kernel) rfl rfl (Nat.le_of_ble_eq_true rfl) (up_X5 hok ha0 ⟨y3_34, y4_34, r36, y6_34, y7_34, y8_34, y9_34, rfl⟩) dX5_readStep_138 (fun f37 H locs hfa37 hfo37 hok hP hS => ?_)
                have he38 := (hfo37 (gR G a0 1) (Ty.ne (wt_X5_1 hWT ha0) ha0 (by decide))).trans he35
                refine lv_aload_n hx hb dX5_readStep_141 rfl (lv_at hl 2 rfl) ?_
                refine lv_dup hx hb dX5_readStep_142 rfl ?_
                refine th_get hx hb (ly_X5 hE) hown hK hP ha0.1 hfa37 rfl 4 (by decide) (wd_231 hE) (fun _ h9 => h9) rfl dX5_readStep_143 ?_
                refine lv_iconst (v := 1) hx hb dX5_readStep_146 (by decide) ?_
                refine lv_iadd hx hb dX5_readStep_147 ?_
                refine lv_topi (fun x39 ex39 => ?_)
                refine th_put (v := .int x39) (ty := .int) hx hb (ly_X5 hE) tyX5 tyX5_ok nmX5 hown hK hP hnd hAL hS ha0.1 hfa37 rfl 4 (by decide) (wd_231 hE) (fun _ h9 => h9) rfl (by decide +kernel) rfl rfl (Nat.le_of_ble_eq_true rfl) (up_X5 hok ha0 ⟨y3_34, x39, r36, y6_34, y7_34, y8_34, y9_34, rfl⟩) dX5_readStep_148 (fun f40 H locs hfa40 hfo40 hok hP hS => ?_)
                have he41 := (hfo40 (gR G a0 1) (Ty.ne (wt_X5_1 hWT ha0) ha0 (by decide))).trans he38
                exact W.vret hx hb hr (fun t ht hW => ⟨⟨f40, rfl, trivial, hok, by rw [ht]; exact hP⟩, hS.F ht⟩) hS.2.2 dX5_readStep_151
              · exact W.vret hx hb hr (fun t ht hW => ⟨⟨f29, rfl, trivial, hok, by rw [ht]; exact hP⟩, hS.F ht⟩) hS.2.2 dX5_readStep_119
            · refine lv_iconst (v := 1) hx hb dX5_readStep_107 (by decide) ?_
              refine lv_goto (tgt := 112) hx hb dX5_readStep_108 (by decide) ?_
              refine lv_iconst (v := 5) hx hb dX5_readStep_112 (by decide) ?_
              refine tc_i hAL hS hA (va_runV (As := [.int 1, .int 5]) (rest := []) ⟨hx, hb, hml, hown, noTs⟩ (t_X5_passes l dC dI H.size G cs tt mm a0 ha0 1 5) ⟨cbE 2 (wd_561 hE) (wd_118 hE) (wd_558 hE) rfl rfl (by decide +kernel) ⟨Nat.le_of_ble_eq_true rfl, Nat.le_of_ble_eq_true rfl⟩, (wd_560 hE), (wd_10 hE)⟩ ⟨PT.blind, th_recv hK hP ha0.1 he25 rfl, (th_pre (av := [.ref a0, .int 1, .int 5]) trivial hK hP hok hnd hWT hE)⟩ rfl rfl hl.1 rfl (lv_room (Nat.le_of_ble_eq_true rfl)) dX5_readStep_113 ⟨Nat.le_of_ble_eq_true rfl, Nat.le_of_ble_eq_true rfl⟩) (fun r42 f42 H locs hr42 hok hP hS => ?_)
              refine lv_if_ne (tgt := 120) hx hb dX5_readStep_116 (by decide) (fun c43 => ?_) (fun c43 => ?_)
              · refine lv_aload_n hx hb dX5_readStep_120 rfl (lv_at hl 2 rfl) ?_
                obtain ⟨y3_44, y4_44, y5_44, y6_44, y7_44, y8_44, y9_44, he44⟩ := ok_X5 hok ha0
                refine th_get hx hb (ly_X5 hE) hown hK hP ha0.1 he44 rfl 2 (by decide) (wd_229 hE) (fun _ h9 => h9) rfl dX5_readStep_121 ?_
                refine lv_iload_n hx hb dX5_readStep_124 rfl (lv_at hl 0 rfl) ?_
                refine lv_iconst (v := 0) hx hb dX5_readStep_125 (by decide) ?_
                obtain ⟨y2_45, y3_45, hy3_45, he45⟩ := ok_X10 hok (wt_X5_2 hWT ha0)
                refine tc_v hAL hS hA (va_runV (As := [.int x16, .int 0]) (rest := []) ⟨hx, hb, hml, hown, noTs⟩ (t_X10_push l dC dI H.size G cs tt mm (gR G a0 2) ((wt_X5_2 hWT ha0)) x16 0) ⟨cbE 2 (wd_688 hE) (wd_120 hE) (wd_685 hE) rfl rfl (by decide +kernel) ⟨Nat.le_of_ble_eq_true rfl, Nat.le_of_ble_eq_true rfl⟩, (wd_686 hE), (wd_687 hE)⟩ ⟨PT.blind, th_recv hK hP (wt_X5_2 hWT ha0).1 he45 rfl, (th_pre (av := [.ref (gR G a0 2), .int x16, .int 0]) trivial hK hP hok hnd hWT hE)⟩ rfl rfl hl.1 rfl (lv_room (Nat.le_of_ble_eq_true rfl)) dX5_readStep_126 ⟨Nat.le_of_ble_eq_true rfl, Nat.le_of_ble_eq_true rfl⟩) (fun f46 H locs hr46 hok hP hS => ?_)
                refine lv_aload_n hx hb dX5_readStep_129 rfl (lv_at hl 2 rfl) ?_
                refine lv_aload_n hx hb dX5_readStep_130 rfl (lv_at hl 2 rfl) ?_
                obtain ⟨y3_47, y4_47, y5_47, y6_47, y7_47, y8_47, y9_47, he47⟩ := ok_X5 hok ha0
                refine th_get hx hb (ly_X5 hE) hown hK hP ha0.1 he47 rfl 1 (by decide) (wd_228 hE) (fun _ h9 => h9) rfl dX5_readStep_131 ?_
                refine lv_iload_n hx hb dX5_readStep_134 rfl (lv_at hl 0 rfl) ?_
                have he48 := ok_X7 hok (wt_X5_1 hWT ha0)
                refine vp_callSi (va_Run.run (va_runV (As := [.int x16]) (rest := [.ref a0]) ⟨hx, hb, hml, hown, noTs⟩ (t_X7_toVertex l dC dI H.size G cs tt mm (gR G a0 1) ((wt_X5_1 hWT ha0)) x16) ⟨cbE 1 (wd_692 hE) (wd_116 hE) (wd_689 hE) rfl rfl (by decide +kernel) ⟨Nat.le_of_ble_eq_true rfl, Nat.le_of_ble_eq_true rfl⟩, (wd_690 hE), (wd_691 hE)⟩ ⟨PT.blind, th_recv hK hP (wt_X5_1 hWT ha0).1 he48 rfl, (th_pre (av := [.ref (gR G a0 1), .int x16]) trivial hK hP hok hnd hWT hE)⟩ rfl rfl hl.1 rfl (lv_room (Nat.le_of_ble_eq_true rfl)) dX5_readStep_135 ⟨Nat.le_of_ble_eq_true rfl, Nat.le_of_ble_eq_true rfl⟩)) (fun r49 hr49 => ?_)
                refine th_put (v := .int r49) (ty := .int) hx hb (ly_X5 hE) tyX5 tyX5_ok nmX5 hown hK hP hnd hAL hS ha0.1 he47 rfl 5 (by decide) (wd_232 hE) (fun _ h9 => h9) rfl (by decide +kernel) rfl rfl (Nat.le_of_ble_eq_true rfl) (up_X5 hok ha0 ⟨y3_47, y4_47, r49, y6_47, y7_47, y8_47, y9_47, rfl⟩) dX5_readStep_138 (fun f50 H locs hfa50 hfo50 hok hP hS => ?_)
                have he51 := (hfo50 (gR G a0 1) (Ty.ne (wt_X5_1 hWT ha0) ha0 (by decide))).trans he48
                refine lv_aload_n hx hb dX5_readStep_141 rfl (lv_at hl 2 rfl) ?_
                refine lv_dup hx hb dX5_readStep_142 rfl ?_
                refine th_get hx hb (ly_X5 hE) hown hK hP ha0.1 hfa50 rfl 4 (by decide) (wd_231 hE) (fun _ h9 => h9) rfl dX5_readStep_143 ?_
                refine lv_iconst (v := 1) hx hb dX5_readStep_146 (by decide) ?_
                refine lv_iadd hx hb dX5_readStep_147 ?_
                refine lv_topi (fun x52 ex52 => ?_)
                refine th_put (v := .int x52) (ty := .int) hx hb (ly_X5 hE) tyX5 tyX5_ok nmX5 hown hK hP hnd hAL hS ha0.1 hfa50 rfl 4 (by decide) (wd_231 hE) (fun _ h9 => h9) rfl (by decide +kernel) rfl rfl (Nat.le_of_ble_eq_true rfl) (up_X5 hok ha0 ⟨y3_47, x52, r49, y6_47, y7_47, y8_47, y9_47, rfl⟩) dX5_readStep_148 (fun f53 H locs hfa53 hfo53 hok hP hS => ?_)
                have he54 := (hfo53 (gR G a0 1) (Ty.ne (wt_X5_1 hWT ha0) ha0 (by decide))).trans he51
                exact W.vret hx hb hr (fun t ht hW => ⟨⟨f53, rfl, trivial, hok, by rw [ht]; exact hP⟩, hS.F ht⟩) hS.2.2 dX5_readStep_151
              · exact W.vret hx hb hr (fun t ht hW => ⟨⟨f42, rfl, trivial, hok, by rw [ht]; exact hP⟩, hS.F ht⟩) hS.2.2 dX5_readStep_119
      · refine lv_iconst (v := 1) hx hb dX5_readStep_36 (by decide) ?_
        refine lv_goto (tgt := 41) hx hb dX5_readStep_37 (by decide) ?_
        refine vp_callSi (va_Run.run (va_runSN (As := [.int 1]) (rest := []) ⟨hx, hb, hml, hown, noTs⟩ (t_X11_bit l dC dI H.size G cs tt mm 1) ⟨cnE 1 (wd_669 hE) (wd_115 hE) (wd_667 hE) rfl rfl (by decide +kernel) ⟨Nat.le_of_ble_eq_true rfl, Nat.le_of_ble_eq_true rfl⟩, (wd_668 hE), trivial⟩ ⟨PT.blind, (th_pre (av := [.int 1]) trivial hK hP hok hnd hWT hE)⟩ rfl rfl hl.1 rfl (lv_room (Nat.le_of_ble_eq_true rfl)) dX5_readStep_41 ⟨Nat.le_of_ble_eq_true rfl, Nat.le_of_ble_eq_true rfl⟩)) (fun r55 hr55 => ?_)
        refine lv_istore_n (lv' := [(1, .int r55), (0, .ref a0)]) hx hb dX5_readStep_44 rfl hl (by decide) rfl (fun ls hl => ?_)
        refine lv_aload_n hx hb dX5_readStep_45 rfl (lv_at hl 1 rfl) ?_
        refine lv_dup hx hb dX5_readStep_46 rfl ?_
        refine th_get hx hb (ly_X5 hE) hown hK hP ha0.1 he8 rfl 4 (by decide) (wd_231 hE) (fun _ h9 => h9) rfl dX5_readStep_47 ?_
        refine lv_iconst (v := 1) hx hb dX5_readStep_50 (by decide) ?_
        refine lv_iadd hx hb dX5_readStep_51 ?_
        refine lv_topi (fun x56 ex56 => ?_)
        refine th_put (v := .int x56) (ty := .int) hx hb (ly_X5 hE) tyX5 tyX5_ok nmX5 hown hK hP hnd hAL hS ha0.1 he8 rfl 4 (by decide) (wd_231 hE) (fun _ h9 => h9) rfl (by decide +kernel) rfl rfl (Nat.le_of_ble_eq_true rfl) (up_X5 hok ha0 ⟨y3_8, x56, y5_8, y6_8, y7_8, y8_8, y9_8, rfl⟩) dX5_readStep_52 (fun f57 H locs hfa57 hfo57 hok hP hS => ?_)
        refine lv_iconst (v := 2) hx hb dX5_readStep_55 (by decide) ?_
        refine lv_aload_n hx hb dX5_readStep_56 rfl (lv_at hl 1 rfl) ?_
        refine vp_callSi (va_Run.run (va_runV (As := []) (rest := [.int 2]) ⟨hx, hb, hml, hown, noTs⟩ (t_X5_value l dC dI H.size G cs tt mm a0 ha0) ⟨cbE 0 (wd_569 hE) (wd_118 hE) (wd_566 hE) rfl rfl (by decide +kernel) ⟨Nat.le_of_ble_eq_true rfl, Nat.le_of_ble_eq_true rfl⟩, (wd_568 hE), (wd_11 hE)⟩ ⟨PT.blind, th_recv hK hP ha0.1 hfa57 rfl, (th_pre (av := [.ref a0]) trivial hK hP hok hnd hWT hE)⟩ rfl rfl hl.1 rfl (lv_room (Nat.le_of_ble_eq_true rfl)) dX5_readStep_57 ⟨Nat.le_of_ble_eq_true rfl, Nat.le_of_ble_eq_true rfl⟩)) (fun r58 hr58 => ?_)
        refine lv_imul hx hb dX5_readStep_60 ?_
        refine lv_topi (fun x59 ex59 => ?_)
        refine lv_iload_n hx hb dX5_readStep_61 rfl (lv_at hl 0 rfl) ?_
        refine lv_iadd hx hb dX5_readStep_62 ?_
        refine lv_topi (fun x60 ex60 => ?_)
        refine lv_istore_n (lv' := [(2, .int x60), (1, .int r55), (0, .ref a0)]) hx hb dX5_readStep_63 rfl hl (by decide) rfl (fun ls hl => ?_)
        refine lv_aload_n hx hb dX5_readStep_64 rfl (lv_at hl 2 rfl) ?_
        refine lv_bipush (v := 6) hx hb dX5_readStep_65 (by decide) ?_
        refine tc_i hAL hS hA (va_runV (As := [.int 6]) (rest := []) ⟨hx, hb, hml, hown, noTs⟩ (t_X5_stands l dC dI H.size G cs tt mm a0 ha0 6) ⟨cbE 1 (wd_577 hE) (wd_118 hE) (wd_574 hE) rfl rfl (by decide +kernel) ⟨Nat.le_of_ble_eq_true rfl, Nat.le_of_ble_eq_true rfl⟩, (wd_576 hE), (wd_12 hE)⟩ ⟨PT.blind, th_recv hK hP ha0.1 hfa57 rfl, (th_pre (av := [.ref a0, .int 6]) trivial hK hP hok hnd hWT hE)⟩ rfl rfl hl.1 rfl (lv_room (Nat.le_of_ble_eq_true rfl)) dX5_readStep_67 ⟨Nat.le_of_ble_eq_true rfl, Nat.le_of_ble_eq_true rfl⟩) (fun r61 f61 H locs hr61 hok hP hS => ?_)
        refine lv_if_eq (tgt := 119) hx hb dX5_readStep_70 (by decide) (fun c62 => ?_) (fun c62 => ?_)
        · exact W.vret hx hb hr (fun t ht hW => ⟨⟨f61, rfl, trivial, hok, by rw [ht]; exact hP⟩, hS.F ht⟩) hS.2.2 dX5_readStep_119
        · refine lv_aload_n hx hb dX5_readStep_73 rfl (lv_at hl 2 rfl) ?_
          refine lv_aload_n hx hb dX5_readStep_74 rfl (lv_at hl 2 rfl) ?_
          obtain ⟨y3_63, y4_63, y5_63, y6_63, y7_63, y8_63, y9_63, he63⟩ := ok_X5 hok ha0
          refine th_get hx hb (ly_X5 hE) hown hK hP ha0.1 he63 rfl 1 (by decide) (wd_228 hE) (fun _ h9 => h9) rfl dX5_readStep_75 ?_
          refine lv_iload_n hx hb dX5_readStep_78 rfl (lv_at hl 0 rfl) ?_
          refine lv_iconst (v := 1) hx hb dX5_readStep_79 (by decide) ?_
          refine lv_ishr hx hb dX5_readStep_80 ?_
          refine lv_topi (fun x64 _ => ?_)
          have he65 := ok_X7 hok (wt_X5_1 hWT ha0)
          refine vp_callSi (va_Run.run (va_runV (As := [.int x64]) (rest := [.ref a0]) ⟨hx, hb, hml, hown, noTs⟩ (t_X7_hasEdge l dC dI H.size G cs tt mm (gR G a0 1) ((wt_X5_1 hWT ha0)) x64) ⟨cbE 1 (wd_673 hE) (wd_116 hE) (wd_670 hE) rfl rfl (by decide +kernel) ⟨Nat.le_of_ble_eq_true rfl, Nat.le_of_ble_eq_true rfl⟩, (wd_671 hE), (wd_672 hE)⟩ ⟨PT.blind, th_recv hK hP (wt_X5_1 hWT ha0).1 he65 rfl, (th_pre (av := [.ref (gR G a0 1), .int x64]) trivial hK hP hok hnd hWT hE)⟩ rfl rfl hl.1 rfl (lv_room (Nat.le_of_ble_eq_true rfl)) dX5_readStep_81 ⟨Nat.le_of_ble_eq_true rfl, Nat.le_of_ble_eq_true rfl⟩)) (fun r66 hr66 => ?_)
          refine lv_iconst (v := 3) hx hb dX5_readStep_84 (by decide) ?_
          refine tc_i hAL hS hA (va_runV (As := [.int r66, .int 3]) (rest := []) ⟨hx, hb, hml, hown, noTs⟩ (t_X5_passes l dC dI H.size G cs tt mm a0 ha0 r66 3) ⟨cbE 2 (wd_561 hE) (wd_118 hE) (wd_558 hE) rfl rfl (by decide +kernel) ⟨Nat.le_of_ble_eq_true rfl, Nat.le_of_ble_eq_true rfl⟩, (wd_560 hE), (wd_10 hE)⟩ ⟨PT.blind, th_recv hK hP ha0.1 he63 rfl, (th_pre (av := [.ref a0, .int r66, .int 3]) trivial hK hP hok hnd hWT hE)⟩ rfl rfl hl.1 rfl (lv_room (Nat.le_of_ble_eq_true rfl)) dX5_readStep_85 ⟨Nat.le_of_ble_eq_true rfl, Nat.le_of_ble_eq_true rfl⟩) (fun r67 f67 H locs hr67 hok hP hS => ?_)
          refine lv_if_eq (tgt := 119) hx hb dX5_readStep_88 (by decide) (fun c68 => ?_) (fun c68 => ?_)
          · exact W.vret hx hb hr (fun t ht hW => ⟨⟨f67, rfl, trivial, hok, by rw [ht]; exact hP⟩, hS.F ht⟩) hS.2.2 dX5_readStep_119
          · refine lv_aload_n hx hb dX5_readStep_91 rfl (lv_at hl 2 rfl) ?_
            refine lv_aload_n hx hb dX5_readStep_92 rfl (lv_at hl 2 rfl) ?_
            obtain ⟨y3_69, y4_69, y5_69, y6_69, y7_69, y8_69, y9_69, he69⟩ := ok_X5 hok ha0
            refine th_get hx hb (ly_X5 hE) hown hK hP ha0.1 he69 rfl 1 (by decide) (wd_228 hE) (fun _ h9 => h9) rfl dX5_readStep_93 ?_
            refine lv_iload_n hx hb dX5_readStep_96 rfl (lv_at hl 0 rfl) ?_
            have he70 := ok_X7 hok (wt_X5_1 hWT ha0)
            refine vp_callSi (va_Run.run (va_runV (As := [.int x60]) (rest := [.ref a0]) ⟨hx, hb, hml, hown, noTs⟩ (t_X7_fromVertex l dC dI H.size G cs tt mm (gR G a0 1) ((wt_X5_1 hWT ha0)) x60) ⟨cbE 1 (wd_677 hE) (wd_116 hE) (wd_674 hE) rfl rfl (by decide +kernel) ⟨Nat.le_of_ble_eq_true rfl, Nat.le_of_ble_eq_true rfl⟩, (wd_675 hE), (wd_676 hE)⟩ ⟨PT.blind, th_recv hK hP (wt_X5_1 hWT ha0).1 he70 rfl, (th_pre (av := [.ref (gR G a0 1), .int x60]) trivial hK hP hok hnd hWT hE)⟩ rfl rfl hl.1 rfl (lv_room (Nat.le_of_ble_eq_true rfl)) dX5_readStep_97 ⟨Nat.le_of_ble_eq_true rfl, Nat.le_of_ble_eq_true rfl⟩)) (fun r71 hr71 => ?_)
            refine lv_aload_n hx hb dX5_readStep_100 rfl (lv_at hl 2 rfl) ?_
            refine th_get hx hb (ly_X5 hE) hown hK hP ha0.1 he69 rfl 5 (by decide) (wd_232 hE) (fun _ h9 => h9) rfl dX5_readStep_101 ?_
            refine lv_icmp_ne (tgt := 111) hx hb dX5_readStep_104 (by decide) (fun c72 => ?_) (fun c72 => ?_)
            · refine lv_iconst (v := 0) hx hb dX5_readStep_111 (by decide) ?_
              refine lv_iconst (v := 5) hx hb dX5_readStep_112 (by decide) ?_
              refine tc_i hAL hS hA (va_runV (As := [.int 0, .int 5]) (rest := []) ⟨hx, hb, hml, hown, noTs⟩ (t_X5_passes l dC dI H.size G cs tt mm a0 ha0 0 5) ⟨cbE 2 (wd_561 hE) (wd_118 hE) (wd_558 hE) rfl rfl (by decide +kernel) ⟨Nat.le_of_ble_eq_true rfl, Nat.le_of_ble_eq_true rfl⟩, (wd_560 hE), (wd_10 hE)⟩ ⟨PT.blind, th_recv hK hP ha0.1 he69 rfl, (th_pre (av := [.ref a0, .int 0, .int 5]) trivial hK hP hok hnd hWT hE)⟩ rfl rfl hl.1 rfl (lv_room (Nat.le_of_ble_eq_true rfl)) dX5_readStep_113 ⟨Nat.le_of_ble_eq_true rfl, Nat.le_of_ble_eq_true rfl⟩) (fun r73 f73 H locs hr73 hok hP hS => ?_)
              refine lv_if_ne (tgt := 120) hx hb dX5_readStep_116 (by decide) (fun c74 => ?_) (fun c74 => ?_)
              · refine lv_aload_n hx hb dX5_readStep_120 rfl (lv_at hl 2 rfl) ?_
                obtain ⟨y3_75, y4_75, y5_75, y6_75, y7_75, y8_75, y9_75, he75⟩ := ok_X5 hok ha0
                refine th_get hx hb (ly_X5 hE) hown hK hP ha0.1 he75 rfl 2 (by decide) (wd_229 hE) (fun _ h9 => h9) rfl dX5_readStep_121 ?_
                refine lv_iload_n hx hb dX5_readStep_124 rfl (lv_at hl 0 rfl) ?_
                refine lv_iconst (v := 0) hx hb dX5_readStep_125 (by decide) ?_
                obtain ⟨y2_76, y3_76, hy3_76, he76⟩ := ok_X10 hok (wt_X5_2 hWT ha0)
                refine tc_v hAL hS hA (va_runV (As := [.int x60, .int 0]) (rest := []) ⟨hx, hb, hml, hown, noTs⟩ (t_X10_push l dC dI H.size G cs tt mm (gR G a0 2) ((wt_X5_2 hWT ha0)) x60 0) ⟨cbE 2 (wd_688 hE) (wd_120 hE) (wd_685 hE) rfl rfl (by decide +kernel) ⟨Nat.le_of_ble_eq_true rfl, Nat.le_of_ble_eq_true rfl⟩, (wd_686 hE), (wd_687 hE)⟩ ⟨PT.blind, th_recv hK hP (wt_X5_2 hWT ha0).1 he76 rfl, (th_pre (av := [.ref (gR G a0 2), .int x60, .int 0]) trivial hK hP hok hnd hWT hE)⟩ rfl rfl hl.1 rfl (lv_room (Nat.le_of_ble_eq_true rfl)) dX5_readStep_126 ⟨Nat.le_of_ble_eq_true rfl, Nat.le_of_ble_eq_true rfl⟩) (fun f77 H locs hr77 hok hP hS => ?_)
                refine lv_aload_n hx hb dX5_readStep_129 rfl (lv_at hl 2 rfl) ?_
                refine lv_aload_n hx hb dX5_readStep_130 rfl (lv_at hl 2 rfl) ?_
                obtain ⟨y3_78, y4_78, y5_78, y6_78, y7_78, y8_78, y9_78, he78⟩ := ok_X5 hok ha0
                refine th_get hx hb (ly_X5 hE) hown hK hP ha0.1 he78 rfl 1 (by decide) (wd_228 hE) (fun _ h9 => h9) rfl dX5_readStep_131 ?_
                refine lv_iload_n hx hb dX5_readStep_134 rfl (lv_at hl 0 rfl) ?_
                have he79 := ok_X7 hok (wt_X5_1 hWT ha0)
                refine vp_callSi (va_Run.run (va_runV (As := [.int x60]) (rest := [.ref a0]) ⟨hx, hb, hml, hown, noTs⟩ (t_X7_toVertex l dC dI H.size G cs tt mm (gR G a0 1) ((wt_X5_1 hWT ha0)) x60) ⟨cbE 1 (wd_692 hE) (wd_116 hE) (wd_689 hE) rfl rfl (by decide +kernel) ⟨Nat.le_of_ble_eq_true rfl, Nat.le_of_ble_eq_true rfl⟩, (wd_690 hE), (wd_691 hE)⟩ ⟨PT.blind, th_recv hK hP (wt_X5_1 hWT ha0).1 he79 rfl, (th_pre (av := [.ref (gR G a0 1), .int x60]) trivial hK hP hok hnd hWT hE)⟩ rfl rfl hl.1 rfl (lv_room (Nat.le_of_ble_eq_true rfl)) dX5_readStep_135 ⟨Nat.le_of_ble_eq_true rfl, Nat.le_of_ble_eq_true rfl⟩)) (fun r80 hr80 => ?_)
                refine th_put (v := .int r80) (ty := .int) hx hb (ly_X5 hE) tyX5 tyX5_ok nmX5 hown hK hP hnd hAL hS ha0.1 he78 rfl 5 (by decide) (wd_232 hE) (fun _ h9 => h9) rfl (by decide +kernel) rfl rfl (Nat.le_of_ble_eq_true rfl) (up_X5 hok ha0 ⟨y3_78, y4_78, r80, y6_78, y7_78, y8_78, y9_78, rfl⟩) dX5_readStep_138 (fun f81 H locs hfa81 hfo81 hok hP hS => ?_)
                have he82 := (hfo81 (gR G a0 1) (Ty.ne (wt_X5_1 hWT ha0) ha0 (by decide))).trans he79
                refine lv_aload_n hx hb dX5_readStep_141 rfl (lv_at hl 2 rfl) ?_
                refine lv_dup hx hb dX5_readStep_142 rfl ?_
                refine th_get hx hb (ly_X5 hE) hown hK hP ha0.1 hfa81 rfl 4 (by decide) (wd_231 hE) (fun _ h9 => h9) rfl dX5_readStep_143 ?_
                refine lv_iconst (v := 1) hx hb dX5_readStep_146 (by decide) ?_
                refine lv_iadd hx hb dX5_readStep_147 ?_
                refine lv_topi (fun x83 ex83 => ?_)
                refine th_put (v := .int x83) (ty := .int) hx hb (ly_X5 hE) tyX5 tyX5_ok nmX5 hown hK hP hnd hAL hS ha0.1 hfa81 rfl 4 (by decide) (wd_231 hE) (fun _ h9 => h9) rfl (by decide +kernel) rfl rfl (Nat.le_of_ble_eq_true rfl) (up_X5 hok ha0 ⟨y3_78, x83, r80, y6_78, y7_78, y8_78, y9_78, rfl⟩) dX5_readStep_148 (fun f84 H locs hfa84 hfo84 hok hP hS => ?_)
                have he85 := (hfo84 (gR G a0 1) (Ty.ne (wt_X5_1 hWT ha0) ha0 (by decide))).trans he82
                exact W.vret hx hb hr (fun t ht hW => ⟨⟨f84, rfl, trivial, hok, by rw [ht]; exact hP⟩, hS.F ht⟩) hS.2.2 dX5_readStep_151
              · exact W.vret hx hb hr (fun t ht hW => ⟨⟨f73, rfl, trivial, hok, by rw [ht]; exact hP⟩, hS.F ht⟩) hS.2.2 dX5_readStep_119
            · refine lv_iconst (v := 1) hx hb dX5_readStep_107 (by decide) ?_
              refine lv_goto (tgt := 112) hx hb dX5_readStep_108 (by decide) ?_
              refine lv_iconst (v := 5) hx hb dX5_readStep_112 (by decide) ?_
              refine tc_i hAL hS hA (va_runV (As := [.int 1, .int 5]) (rest := []) ⟨hx, hb, hml, hown, noTs⟩ (t_X5_passes l dC dI H.size G cs tt mm a0 ha0 1 5) ⟨cbE 2 (wd_561 hE) (wd_118 hE) (wd_558 hE) rfl rfl (by decide +kernel) ⟨Nat.le_of_ble_eq_true rfl, Nat.le_of_ble_eq_true rfl⟩, (wd_560 hE), (wd_10 hE)⟩ ⟨PT.blind, th_recv hK hP ha0.1 he69 rfl, (th_pre (av := [.ref a0, .int 1, .int 5]) trivial hK hP hok hnd hWT hE)⟩ rfl rfl hl.1 rfl (lv_room (Nat.le_of_ble_eq_true rfl)) dX5_readStep_113 ⟨Nat.le_of_ble_eq_true rfl, Nat.le_of_ble_eq_true rfl⟩) (fun r86 f86 H locs hr86 hok hP hS => ?_)
              refine lv_if_ne (tgt := 120) hx hb dX5_readStep_116 (by decide) (fun c87 => ?_) (fun c87 => ?_)
              · refine lv_aload_n hx hb dX5_readStep_120 rfl (lv_at hl 2 rfl) ?_
                obtain ⟨y3_88, y4_88, y5_88, y6_88, y7_88, y8_88, y9_88, he88⟩ := ok_X5 hok ha0
                refine th_get hx hb (ly_X5 hE) hown hK hP ha0.1 he88 rfl 2 (by decide) (wd_229 hE) (fun _ h9 => h9) rfl dX5_readStep_121 ?_
                refine lv_iload_n hx hb dX5_readStep_124 rfl (lv_at hl 0 rfl) ?_
                refine lv_iconst (v := 0) hx hb dX5_readStep_125 (by decide) ?_
                obtain ⟨y2_89, y3_89, hy3_89, he89⟩ := ok_X10 hok (wt_X5_2 hWT ha0)
                refine tc_v hAL hS hA (va_runV (As := [.int x60, .int 0]) (rest := []) ⟨hx, hb, hml, hown, noTs⟩ (t_X10_push l dC dI H.size G cs tt mm (gR G a0 2) ((wt_X5_2 hWT ha0)) x60 0) ⟨cbE 2 (wd_688 hE) (wd_120 hE) (wd_685 hE) rfl rfl (by decide +kernel) ⟨Nat.le_of_ble_eq_true rfl, Nat.le_of_ble_eq_true rfl⟩, (wd_686 hE), (wd_687 hE)⟩ ⟨PT.blind, th_recv hK hP (wt_X5_2 hWT ha0).1 he89 rfl, (th_pre (av := [.ref (gR G a0 2), .int x60, .int 0]) trivial hK hP hok hnd hWT hE)⟩ rfl rfl hl.1 rfl (lv_room (Nat.le_of_ble_eq_true rfl)) dX5_readStep_126 ⟨Nat.le_of_ble_eq_true rfl, Nat.le_of_ble_eq_true rfl⟩) (fun f90 H locs hr90 hok hP hS => ?_)
                refine lv_aload_n hx hb dX5_readStep_129 rfl (lv_at hl 2 rfl) ?_
                refine lv_aload_n hx hb dX5_readStep_130 rfl (lv_at hl 2 rfl) ?_
                obtain ⟨y3_91, y4_91, y5_91, y6_91, y7_91, y8_91, y9_91, he91⟩ := ok_X5 hok ha0
                refine th_get hx hb (ly_X5 hE) hown hK hP ha0.1 he91 rfl 1 (by decide) (wd_228 hE) (fun _ h9 => h9) rfl dX5_readStep_131 ?_
                refine lv_iload_n hx hb dX5_readStep_134 rfl (lv_at hl 0 rfl) ?_
                have he92 := ok_X7 hok (wt_X5_1 hWT ha0)
                refine vp_callSi (va_Run.run (va_runV (As := [.int x60]) (rest := [.ref a0]) ⟨hx, hb, hml, hown, noTs⟩ (t_X7_toVertex l dC dI H.size G cs tt mm (gR G a0 1) ((wt_X5_1 hWT ha0)) x60) ⟨cbE 1 (wd_692 hE) (wd_116 hE) (wd_689 hE) rfl rfl (by decide +kernel) ⟨Nat.le_of_ble_eq_true rfl, Nat.le_of_ble_eq_true rfl⟩, (wd_690 hE), (wd_691 hE)⟩ ⟨PT.blind, th_recv hK hP (wt_X5_1 hWT ha0).1 he92 rfl, (th_pre (av := [.ref (gR G a0 1), .int x60]) trivial hK hP hok hnd hWT hE)⟩ rfl rfl hl.1 rfl (lv_room (Nat.le_of_ble_eq_true rfl)) dX5_readStep_135 ⟨Nat.le_of_ble_eq_true rfl, Nat.le_of_ble_eq_true rfl⟩)) (fun r93 hr93 => ?_)
                refine th_put (v := .int r93) (ty := .int) hx hb (ly_X5 hE) tyX5 tyX5_ok nmX5 hown hK hP hnd hAL hS ha0.1 he91 rfl 5 (by decide) (wd_232 hE) (fun _ h9 => h9) rfl (by decide +kernel) rfl rfl (Nat.le_of_ble_eq_true rfl) (up_X5 hok ha0 ⟨y3_91, y4_91, r93, y6_91, y7_91, y8_91, y9_91, rfl⟩) dX5_readStep_138 (fun f94 H locs hfa94 hfo94 hok hP hS => ?_)
                have he95 := (hfo94 (gR G a0 1) (Ty.ne (wt_X5_1 hWT ha0) ha0 (by decide))).trans he92
                refine lv_aload_n hx hb dX5_readStep_141 rfl (lv_at hl 2 rfl) ?_
                refine lv_dup hx hb dX5_readStep_142 rfl ?_
                refine th_get hx hb (ly_X5 hE) hown hK hP ha0.1 hfa94 rfl 4 (by decide) (wd_231 hE) (fun _ h9 => h9) rfl dX5_readStep_143 ?_
                refine lv_iconst (v := 1) hx hb dX5_readStep_146 (by decide) ?_
                refine lv_iadd hx hb dX5_readStep_147 ?_
                refine lv_topi (fun x96 ex96 => ?_)
                refine th_put (v := .int x96) (ty := .int) hx hb (ly_X5 hE) tyX5 tyX5_ok nmX5 hown hK hP hnd hAL hS ha0.1 hfa94 rfl 4 (by decide) (wd_231 hE) (fun _ h9 => h9) rfl (by decide +kernel) rfl rfl (Nat.le_of_ble_eq_true rfl) (up_X5 hok ha0 ⟨y3_91, x96, r93, y6_91, y7_91, y8_91, y9_91, rfl⟩) dX5_readStep_148 (fun f97 H locs hfa97 hfo97 hok hP hS => ?_)
                have he98 := (hfo97 (gR G a0 1) (Ty.ne (wt_X5_1 hWT ha0) ha0 (by decide))).trans he95
                exact W.vret hx hb hr (fun t ht hW => ⟨⟨f97, rfl, trivial, hok, by rw [ht]; exact hP⟩, hS.F ht⟩) hS.2.2 dX5_readStep_151
              · exact W.vret hx hb hr (fun t ht hW => ⟨⟨f86, rfl, trivial, hok, by rw [ht]; exact hP⟩, hS.F ht⟩) hS.2.2 dX5_readStep_119
    · exact W.vret hx hb hr (fun t ht hW => ⟨⟨f6, rfl, trivial, hok, by rw [ht]; exact hP⟩, hS.F ht⟩) hS.2.2 dX5_readStep_26
  · refine lv_iconst (v := 1) hx hb dX5_readStep_13 (by decide) ?_
    refine lv_goto (tgt := 18) hx hb dX5_readStep_14 (by decide) ?_
    refine lv_bipush (v := 6) hx hb dX5_readStep_18 (by decide) ?_
    refine tc_i hAL hS hA (va_runV (As := [.int 1, .int 6]) (rest := []) ⟨hx, hb, hml, hown, noTs⟩ (t_X5_passes l dC dI s.heap.size G cs tt mm a0 ha0 1 6) ⟨cbE 2 (wd_561 hE) (wd_118 hE) (wd_558 hE) rfl rfl (by decide +kernel) ⟨Nat.le_of_ble_eq_true rfl, Nat.le_of_ble_eq_true rfl⟩, (wd_560 hE), (wd_10 hE)⟩ ⟨PT.blind, th_recv hK hP ha0.1 he1 rfl, (th_pre (av := [.ref a0, .int 1, .int 6]) trivial hK hP hok hnd hWT hE)⟩ rfl rfl hl.1 rfl (lv_room (Nat.le_of_ble_eq_true rfl)) dX5_readStep_20 ⟨Nat.le_of_ble_eq_true rfl, Nat.le_of_ble_eq_true rfl⟩) (fun r99 f99 H locs hr99 hok hP hS => ?_)
    refine lv_if_ne (tgt := 27) hx hb dX5_readStep_23 (by decide) (fun c100 => ?_) (fun c100 => ?_)
    · refine lv_aload_n hx hb dX5_readStep_27 rfl (lv_at hl 0 rfl) ?_
      obtain ⟨y3_101, y4_101, y5_101, y6_101, y7_101, y8_101, y9_101, he101⟩ := ok_X5 hok ha0
      refine vp_callSi (va_Run.run (va_runV (As := []) (rest := []) ⟨hx, hb, hml, hown, noTs⟩ (t_X5_kind l dC dI H.size G cs tt mm a0 ha0) ⟨cbE 0 (wd_545 hE) (wd_118 hE) (wd_542 hE) rfl rfl (by decide +kernel) ⟨Nat.le_of_ble_eq_true rfl, Nat.le_of_ble_eq_true rfl⟩, (wd_544 hE), (wd_8 hE)⟩ ⟨PT.blind, th_recv hK hP ha0.1 he101 rfl, (th_pre (av := [.ref a0]) trivial hK hP hok hnd hWT hE)⟩ rfl rfl hl.1 rfl (lv_room (Nat.le_of_ble_eq_true rfl)) dX5_readStep_28 ⟨Nat.le_of_ble_eq_true rfl, Nat.le_of_ble_eq_true rfl⟩)) (fun r102 hr102 => ?_)
      refine lv_bipush (v := 8) hx hb dX5_readStep_31 (by decide) ?_
      refine lv_icmp_ne (tgt := 40) hx hb dX5_readStep_33 (by decide) (fun c103 => ?_) (fun c103 => ?_)
      · refine lv_iconst (v := 0) hx hb dX5_readStep_40 (by decide) ?_
        refine vp_callSi (va_Run.run (va_runSN (As := [.int 0]) (rest := []) ⟨hx, hb, hml, hown, noTs⟩ (t_X11_bit l dC dI H.size G cs tt mm 0) ⟨cnE 1 (wd_669 hE) (wd_115 hE) (wd_667 hE) rfl rfl (by decide +kernel) ⟨Nat.le_of_ble_eq_true rfl, Nat.le_of_ble_eq_true rfl⟩, (wd_668 hE), trivial⟩ ⟨PT.blind, (th_pre (av := [.int 0]) trivial hK hP hok hnd hWT hE)⟩ rfl rfl hl.1 rfl (lv_room (Nat.le_of_ble_eq_true rfl)) dX5_readStep_41 ⟨Nat.le_of_ble_eq_true rfl, Nat.le_of_ble_eq_true rfl⟩)) (fun r104 hr104 => ?_)
        refine lv_istore_n (lv' := [(1, .int r104), (0, .ref a0)]) hx hb dX5_readStep_44 rfl hl (by decide) rfl (fun ls hl => ?_)
        refine lv_aload_n hx hb dX5_readStep_45 rfl (lv_at hl 1 rfl) ?_
        refine lv_dup hx hb dX5_readStep_46 rfl ?_
        refine th_get hx hb (ly_X5 hE) hown hK hP ha0.1 he101 rfl 4 (by decide) (wd_231 hE) (fun _ h9 => h9) rfl dX5_readStep_47 ?_
        refine lv_iconst (v := 1) hx hb dX5_readStep_50 (by decide) ?_
        refine lv_iadd hx hb dX5_readStep_51 ?_
        refine lv_topi (fun x105 ex105 => ?_)
        refine th_put (v := .int x105) (ty := .int) hx hb (ly_X5 hE) tyX5 tyX5_ok nmX5 hown hK hP hnd hAL hS ha0.1 he101 rfl 4 (by decide) (wd_231 hE) (fun _ h9 => h9) rfl (by decide +kernel) rfl rfl (Nat.le_of_ble_eq_true rfl) (up_X5 hok ha0 ⟨y3_101, x105, y5_101, y6_101, y7_101, y8_101, y9_101, rfl⟩) dX5_readStep_52 (fun f106 H locs hfa106 hfo106 hok hP hS => ?_)
        refine lv_iconst (v := 2) hx hb dX5_readStep_55 (by decide) ?_
        refine lv_aload_n hx hb dX5_readStep_56 rfl (lv_at hl 1 rfl) ?_
        refine vp_callSi (va_Run.run (va_runV (As := []) (rest := [.int 2]) ⟨hx, hb, hml, hown, noTs⟩ (t_X5_value l dC dI H.size G cs tt mm a0 ha0) ⟨cbE 0 (wd_569 hE) (wd_118 hE) (wd_566 hE) rfl rfl (by decide +kernel) ⟨Nat.le_of_ble_eq_true rfl, Nat.le_of_ble_eq_true rfl⟩, (wd_568 hE), (wd_11 hE)⟩ ⟨PT.blind, th_recv hK hP ha0.1 hfa106 rfl, (th_pre (av := [.ref a0]) trivial hK hP hok hnd hWT hE)⟩ rfl rfl hl.1 rfl (lv_room (Nat.le_of_ble_eq_true rfl)) dX5_readStep_57 ⟨Nat.le_of_ble_eq_true rfl, Nat.le_of_ble_eq_true rfl⟩)) (fun r107 hr107 => ?_)
        refine lv_imul hx hb dX5_readStep_60 ?_
        refine lv_topi (fun x108 ex108 => ?_)
        refine lv_iload_n hx hb dX5_readStep_61 rfl (lv_at hl 0 rfl) ?_
        refine lv_iadd hx hb dX5_readStep_62 ?_
        refine lv_topi (fun x109 ex109 => ?_)
        refine lv_istore_n (lv' := [(2, .int x109), (1, .int r104), (0, .ref a0)]) hx hb dX5_readStep_63 rfl hl (by decide) rfl (fun ls hl => ?_)
        refine lv_aload_n hx hb dX5_readStep_64 rfl (lv_at hl 2 rfl) ?_
        refine lv_bipush (v := 6) hx hb dX5_readStep_65 (by decide) ?_
        refine tc_i hAL hS hA (va_runV (As := [.int 6]) (rest := []) ⟨hx, hb, hml, hown, noTs⟩ (t_X5_stands l dC dI H.size G cs tt mm a0 ha0 6) ⟨cbE 1 (wd_577 hE) (wd_118 hE) (wd_574 hE) rfl rfl (by decide +kernel) ⟨Nat.le_of_ble_eq_true rfl, Nat.le_of_ble_eq_true rfl⟩, (wd_576 hE), (wd_12 hE)⟩ ⟨PT.blind, th_recv hK hP ha0.1 hfa106 rfl, (th_pre (av := [.ref a0, .int 6]) trivial hK hP hok hnd hWT hE)⟩ rfl rfl hl.1 rfl (lv_room (Nat.le_of_ble_eq_true rfl)) dX5_readStep_67 ⟨Nat.le_of_ble_eq_true rfl, Nat.le_of_ble_eq_true rfl⟩) (fun r110 f110 H locs hr110 hok hP hS => ?_)
        refine lv_if_eq (tgt := 119) hx hb dX5_readStep_70 (by decide) (fun c111 => ?_) (fun c111 => ?_)
        · exact W.vret hx hb hr (fun t ht hW => ⟨⟨f110, rfl, trivial, hok, by rw [ht]; exact hP⟩, hS.F ht⟩) hS.2.2 dX5_readStep_119
        · refine lv_aload_n hx hb dX5_readStep_73 rfl (lv_at hl 2 rfl) ?_
          refine lv_aload_n hx hb dX5_readStep_74 rfl (lv_at hl 2 rfl) ?_
          obtain ⟨y3_112, y4_112, y5_112, y6_112, y7_112, y8_112, y9_112, he112⟩ := ok_X5 hok ha0
          refine th_get hx hb (ly_X5 hE) hown hK hP ha0.1 he112 rfl 1 (by decide) (wd_228 hE) (fun _ h9 => h9) rfl dX5_readStep_75 ?_
          refine lv_iload_n hx hb dX5_readStep_78 rfl (lv_at hl 0 rfl) ?_
          refine lv_iconst (v := 1) hx hb dX5_readStep_79 (by decide) ?_
          refine lv_ishr hx hb dX5_readStep_80 ?_
          refine lv_topi (fun x113 _ => ?_)
          have he114 := ok_X7 hok (wt_X5_1 hWT ha0)
          refine vp_callSi (va_Run.run (va_runV (As := [.int x113]) (rest := [.ref a0]) ⟨hx, hb, hml, hown, noTs⟩ (t_X7_hasEdge l dC dI H.size G cs tt mm (gR G a0 1) ((wt_X5_1 hWT ha0)) x113) ⟨cbE 1 (wd_673 hE) (wd_116 hE) (wd_670 hE) rfl rfl (by decide +kernel) ⟨Nat.le_of_ble_eq_true rfl, Nat.le_of_ble_eq_true rfl⟩, (wd_671 hE), (wd_672 hE)⟩ ⟨PT.blind, th_recv hK hP (wt_X5_1 hWT ha0).1 he114 rfl, (th_pre (av := [.ref (gR G a0 1), .int x113]) trivial hK hP hok hnd hWT hE)⟩ rfl rfl hl.1 rfl (lv_room (Nat.le_of_ble_eq_true rfl)) dX5_readStep_81 ⟨Nat.le_of_ble_eq_true rfl, Nat.le_of_ble_eq_true rfl⟩)) (fun r115 hr115 => ?_)
          refine lv_iconst (v := 3) hx hb dX5_readStep_84 (by decide) ?_
          refine tc_i hAL hS hA (va_runV (As := [.int r115, .int 3]) (rest := []) ⟨hx, hb, hml, hown, noTs⟩ (t_X5_passes l dC dI H.size G cs tt mm a0 ha0 r115 3) ⟨cbE 2 (wd_561 hE) (wd_118 hE) (wd_558 hE) rfl rfl (by decide +kernel) ⟨Nat.le_of_ble_eq_true rfl, Nat.le_of_ble_eq_true rfl⟩, (wd_560 hE), (wd_10 hE)⟩ ⟨PT.blind, th_recv hK hP ha0.1 he112 rfl, (th_pre (av := [.ref a0, .int r115, .int 3]) trivial hK hP hok hnd hWT hE)⟩ rfl rfl hl.1 rfl (lv_room (Nat.le_of_ble_eq_true rfl)) dX5_readStep_85 ⟨Nat.le_of_ble_eq_true rfl, Nat.le_of_ble_eq_true rfl⟩) (fun r116 f116 H locs hr116 hok hP hS => ?_)
          refine lv_if_eq (tgt := 119) hx hb dX5_readStep_88 (by decide) (fun c117 => ?_) (fun c117 => ?_)
          · exact W.vret hx hb hr (fun t ht hW => ⟨⟨f116, rfl, trivial, hok, by rw [ht]; exact hP⟩, hS.F ht⟩) hS.2.2 dX5_readStep_119
          · refine lv_aload_n hx hb dX5_readStep_91 rfl (lv_at hl 2 rfl) ?_
            refine lv_aload_n hx hb dX5_readStep_92 rfl (lv_at hl 2 rfl) ?_
            obtain ⟨y3_118, y4_118, y5_118, y6_118, y7_118, y8_118, y9_118, he118⟩ := ok_X5 hok ha0
            refine th_get hx hb (ly_X5 hE) hown hK hP ha0.1 he118 rfl 1 (by decide) (wd_228 hE) (fun _ h9 => h9) rfl dX5_readStep_93 ?_
            refine lv_iload_n hx hb dX5_readStep_96 rfl (lv_at hl 0 rfl) ?_
            have he119 := ok_X7 hok (wt_X5_1 hWT ha0)
            refine vp_callSi (va_Run.run (va_runV (As := [.int x109]) (rest := [.ref a0]) ⟨hx, hb, hml, hown, noTs⟩ (t_X7_fromVertex l dC dI H.size G cs tt mm (gR G a0 1) ((wt_X5_1 hWT ha0)) x109) ⟨cbE 1 (wd_677 hE) (wd_116 hE) (wd_674 hE) rfl rfl (by decide +kernel) ⟨Nat.le_of_ble_eq_true rfl, Nat.le_of_ble_eq_true rfl⟩, (wd_675 hE), (wd_676 hE)⟩ ⟨PT.blind, th_recv hK hP (wt_X5_1 hWT ha0).1 he119 rfl, (th_pre (av := [.ref (gR G a0 1), .int x109]) trivial hK hP hok hnd hWT hE)⟩ rfl rfl hl.1 rfl (lv_room (Nat.le_of_ble_eq_true rfl)) dX5_readStep_97 ⟨Nat.le_of_ble_eq_true rfl, Nat.le_of_ble_eq_true rfl⟩)) (fun r120 hr120 => ?_)
            refine lv_aload_n hx hb dX5_readStep_100 rfl (lv_at hl 2 rfl) ?_
            refine th_get hx hb (ly_X5 hE) hown hK hP ha0.1 he118 rfl 5 (by decide) (wd_232 hE) (fun _ h9 => h9) rfl dX5_readStep_101 ?_
            refine lv_icmp_ne (tgt := 111) hx hb dX5_readStep_104 (by decide) (fun c121 => ?_) (fun c121 => ?_)
            · refine lv_iconst (v := 0) hx hb dX5_readStep_111 (by decide) ?_
              refine lv_iconst (v := 5) hx hb dX5_readStep_112 (by decide) ?_
              refine tc_i hAL hS hA (va_runV (As := [.int 0, .int 5]) (rest := []) ⟨hx, hb, hml, hown, noTs⟩ (t_X5_passes l dC dI H.size G cs tt mm a0 ha0 0 5) ⟨cbE 2 (wd_561 hE) (wd_118 hE) (wd_558 hE) rfl rfl (by decide +kernel) ⟨Nat.le_of_ble_eq_true rfl, Nat.le_of_ble_eq_true rfl⟩, (wd_560 hE), (wd_10 hE)⟩ ⟨PT.blind, th_recv hK hP ha0.1 he118 rfl, (th_pre (av := [.ref a0, .int 0, .int 5]) trivial hK hP hok hnd hWT hE)⟩ rfl rfl hl.1 rfl (lv_room (Nat.le_of_ble_eq_true rfl)) dX5_readStep_113 ⟨Nat.le_of_ble_eq_true rfl, Nat.le_of_ble_eq_true rfl⟩) (fun r122 f122 H locs hr122 hok hP hS => ?_)
              refine lv_if_ne (tgt := 120) hx hb dX5_readStep_116 (by decide) (fun c123 => ?_) (fun c123 => ?_)
              · refine lv_aload_n hx hb dX5_readStep_120 rfl (lv_at hl 2 rfl) ?_
                obtain ⟨y3_124, y4_124, y5_124, y6_124, y7_124, y8_124, y9_124, he124⟩ := ok_X5 hok ha0
                refine th_get hx hb (ly_X5 hE) hown hK hP ha0.1 he124 rfl 2 (by decide) (wd_229 hE) (fun _ h9 => h9) rfl dX5_readStep_121 ?_
                refine lv_iload_n hx hb dX5_readStep_124 rfl (lv_at hl 0 rfl) ?_
                refine lv_iconst (v := 0) hx hb dX5_readStep_125 (by decide) ?_
                obtain ⟨y2_125, y3_125, hy3_125, he125⟩ := ok_X10 hok (wt_X5_2 hWT ha0)
                refine tc_v hAL hS hA (va_runV (As := [.int x109, .int 0]) (rest := []) ⟨hx, hb, hml, hown, noTs⟩ (t_X10_push l dC dI H.size G cs tt mm (gR G a0 2) ((wt_X5_2 hWT ha0)) x109 0) ⟨cbE 2 (wd_688 hE) (wd_120 hE) (wd_685 hE) rfl rfl (by decide +kernel) ⟨Nat.le_of_ble_eq_true rfl, Nat.le_of_ble_eq_true rfl⟩, (wd_686 hE), (wd_687 hE)⟩ ⟨PT.blind, th_recv hK hP (wt_X5_2 hWT ha0).1 he125 rfl, (th_pre (av := [.ref (gR G a0 2), .int x109, .int 0]) trivial hK hP hok hnd hWT hE)⟩ rfl rfl hl.1 rfl (lv_room (Nat.le_of_ble_eq_true rfl)) dX5_readStep_126 ⟨Nat.le_of_ble_eq_true rfl, Nat.le_of_ble_eq_true rfl⟩) (fun f126 H locs hr126 hok hP hS => ?_)
                refine lv_aload_n hx hb dX5_readStep_129 rfl (lv_at hl 2 rfl) ?_
                refine lv_aload_n hx hb dX5_readStep_130 rfl (lv_at hl 2 rfl) ?_
                obtain ⟨y3_127, y4_127, y5_127, y6_127, y7_127, y8_127, y9_127, he127⟩ := ok_X5 hok ha0
                refine th_get hx hb (ly_X5 hE) hown hK hP ha0.1 he127 rfl 1 (by decide) (wd_228 hE) (fun _ h9 => h9) rfl dX5_readStep_131 ?_
                refine lv_iload_n hx hb dX5_readStep_134 rfl (lv_at hl 0 rfl) ?_
                have he128 := ok_X7 hok (wt_X5_1 hWT ha0)
                refine vp_callSi (va_Run.run (va_runV (As := [.int x109]) (rest := [.ref a0]) ⟨hx, hb, hml, hown, noTs⟩ (t_X7_toVertex l dC dI H.size G cs tt mm (gR G a0 1) ((wt_X5_1 hWT ha0)) x109) ⟨cbE 1 (wd_692 hE) (wd_116 hE) (wd_689 hE) rfl rfl (by decide +kernel) ⟨Nat.le_of_ble_eq_true rfl, Nat.le_of_ble_eq_true rfl⟩, (wd_690 hE), (wd_691 hE)⟩ ⟨PT.blind, th_recv hK hP (wt_X5_1 hWT ha0).1 he128 rfl, (th_pre (av := [.ref (gR G a0 1), .int x109]) trivial hK hP hok hnd hWT hE)⟩ rfl rfl hl.1 rfl (lv_room (Nat.le_of_ble_eq_true rfl)) dX5_readStep_135 ⟨Nat.le_of_ble_eq_true rfl, Nat.le_of_ble_eq_true rfl⟩)) (fun r129 hr129 => ?_)
                refine th_put (v := .int r129) (ty := .int) hx hb (ly_X5 hE) tyX5 tyX5_ok nmX5 hown hK hP hnd hAL hS ha0.1 he127 rfl 5 (by decide) (wd_232 hE) (fun _ h9 => h9) rfl (by decide +kernel) rfl rfl (Nat.le_of_ble_eq_true rfl) (up_X5 hok ha0 ⟨y3_127, y4_127, r129, y6_127, y7_127, y8_127, y9_127, rfl⟩) dX5_readStep_138 (fun f130 H locs hfa130 hfo130 hok hP hS => ?_)
                have he131 := (hfo130 (gR G a0 1) (Ty.ne (wt_X5_1 hWT ha0) ha0 (by decide))).trans he128
                refine lv_aload_n hx hb dX5_readStep_141 rfl (lv_at hl 2 rfl) ?_
                refine lv_dup hx hb dX5_readStep_142 rfl ?_
                refine th_get hx hb (ly_X5 hE) hown hK hP ha0.1 hfa130 rfl 4 (by decide) (wd_231 hE) (fun _ h9 => h9) rfl dX5_readStep_143 ?_
                refine lv_iconst (v := 1) hx hb dX5_readStep_146 (by decide) ?_
                refine lv_iadd hx hb dX5_readStep_147 ?_
                refine lv_topi (fun x132 ex132 => ?_)
                refine th_put (v := .int x132) (ty := .int) hx hb (ly_X5 hE) tyX5 tyX5_ok nmX5 hown hK hP hnd hAL hS ha0.1 hfa130 rfl 4 (by decide) (wd_231 hE) (fun _ h9 => h9) rfl (by decide +kernel) rfl rfl (Nat.le_of_ble_eq_true rfl) (up_X5 hok ha0 ⟨y3_127, x132, r129, y6_127, y7_127, y8_127, y9_127, rfl⟩) dX5_readStep_148 (fun f133 H locs hfa133 hfo133 hok hP hS => ?_)
                have he134 := (hfo133 (gR G a0 1) (Ty.ne (wt_X5_1 hWT ha0) ha0 (by decide))).trans he131
                exact W.vret hx hb hr (fun t ht hW => ⟨⟨f133, rfl, trivial, hok, by rw [ht]; exact hP⟩, hS.F ht⟩) hS.2.2 dX5_readStep_151
              · exact W.vret hx hb hr (fun t ht hW => ⟨⟨f122, rfl, trivial, hok, by rw [ht]; exact hP⟩, hS.F ht⟩) hS.2.2 dX5_readStep_119
            · refine lv_iconst (v := 1) hx hb dX5_readStep_107 (by decide) ?_
              refine lv_goto (tgt := 112) hx hb dX5_readStep_108 (by decide) ?_
              refine lv_iconst (v := 5) hx hb dX5_readStep_112 (by decide) ?_
              refine tc_i hAL hS hA (va_runV (As := [.int 1, .int 5]) (rest := []) ⟨hx, hb, hml, hown, noTs⟩ (t_X5_passes l dC dI H.size G cs tt mm a0 ha0 1 5) ⟨cbE 2 (wd_561 hE) (wd_118 hE) (wd_558 hE) rfl rfl (by decide +kernel) ⟨Nat.le_of_ble_eq_true rfl, Nat.le_of_ble_eq_true rfl⟩, (wd_560 hE), (wd_10 hE)⟩ ⟨PT.blind, th_recv hK hP ha0.1 he118 rfl, (th_pre (av := [.ref a0, .int 1, .int 5]) trivial hK hP hok hnd hWT hE)⟩ rfl rfl hl.1 rfl (lv_room (Nat.le_of_ble_eq_true rfl)) dX5_readStep_113 ⟨Nat.le_of_ble_eq_true rfl, Nat.le_of_ble_eq_true rfl⟩) (fun r135 f135 H locs hr135 hok hP hS => ?_)
              refine lv_if_ne (tgt := 120) hx hb dX5_readStep_116 (by decide) (fun c136 => ?_) (fun c136 => ?_)
              · refine lv_aload_n hx hb dX5_readStep_120 rfl (lv_at hl 2 rfl) ?_
                obtain ⟨y3_137, y4_137, y5_137, y6_137, y7_137, y8_137, y9_137, he137⟩ := ok_X5 hok ha0
                refine th_get hx hb (ly_X5 hE) hown hK hP ha0.1 he137 rfl 2 (by decide) (wd_229 hE) (fun _ h9 => h9) rfl dX5_readStep_121 ?_
                refine lv_iload_n hx hb dX5_readStep_124 rfl (lv_at hl 0 rfl) ?_
                refine lv_iconst (v := 0) hx hb dX5_readStep_125 (by decide) ?_
                obtain ⟨y2_138, y3_138, hy3_138, he138⟩ := ok_X10 hok (wt_X5_2 hWT ha0)
                refine tc_v hAL hS hA (va_runV (As := [.int x109, .int 0]) (rest := []) ⟨hx, hb, hml, hown, noTs⟩ (t_X10_push l dC dI H.size G cs tt mm (gR G a0 2) ((wt_X5_2 hWT ha0)) x109 0) ⟨cbE 2 (wd_688 hE) (wd_120 hE) (wd_685 hE) rfl rfl (by decide +kernel) ⟨Nat.le_of_ble_eq_true rfl, Nat.le_of_ble_eq_true rfl⟩, (wd_686 hE), (wd_687 hE)⟩ ⟨PT.blind, th_recv hK hP (wt_X5_2 hWT ha0).1 he138 rfl, (th_pre (av := [.ref (gR G a0 2), .int x109, .int 0]) trivial hK hP hok hnd hWT hE)⟩ rfl rfl hl.1 rfl (lv_room (Nat.le_of_ble_eq_true rfl)) dX5_readStep_126 ⟨Nat.le_of_ble_eq_true rfl, Nat.le_of_ble_eq_true rfl⟩) (fun f139 H locs hr139 hok hP hS => ?_)
                refine lv_aload_n hx hb dX5_readStep_129 rfl (lv_at hl 2 rfl) ?_
                refine lv_aload_n hx hb dX5_readStep_130 rfl (lv_at hl 2 rfl) ?_
                obtain ⟨y3_140, y4_140, y5_140, y6_140, y7_140, y8_140, y9_140, he140⟩ := ok_X5 hok ha0
                refine th_get hx hb (ly_X5 hE) hown hK hP ha0.1 he140 rfl 1 (by decide) (wd_228 hE) (fun _ h9 => h9) rfl dX5_readStep_131 ?_
                refine lv_iload_n hx hb dX5_readStep_134 rfl (lv_at hl 0 rfl) ?_
                have he141 := ok_X7 hok (wt_X5_1 hWT ha0)
                refine vp_callSi (va_Run.run (va_runV (As := [.int x109]) (rest := [.ref a0]) ⟨hx, hb, hml, hown, noTs⟩ (t_X7_toVertex l dC dI H.size G cs tt mm (gR G a0 1) ((wt_X5_1 hWT ha0)) x109) ⟨cbE 1 (wd_692 hE) (wd_116 hE) (wd_689 hE) rfl rfl (by decide +kernel) ⟨Nat.le_of_ble_eq_true rfl, Nat.le_of_ble_eq_true rfl⟩, (wd_690 hE), (wd_691 hE)⟩ ⟨PT.blind, th_recv hK hP (wt_X5_1 hWT ha0).1 he141 rfl, (th_pre (av := [.ref (gR G a0 1), .int x109]) trivial hK hP hok hnd hWT hE)⟩ rfl rfl hl.1 rfl (lv_room (Nat.le_of_ble_eq_true rfl)) dX5_readStep_135 ⟨Nat.le_of_ble_eq_true rfl, Nat.le_of_ble_eq_true rfl⟩)) (fun r142 hr142 => ?_)
                refine th_put (v := .int r142) (ty := .int) hx hb (ly_X5 hE) tyX5 tyX5_ok nmX5 hown hK hP hnd hAL hS ha0.1 he140 rfl 5 (by decide) (wd_232 hE) (fun _ h9 => h9) rfl (by decide +kernel) rfl rfl (Nat.le_of_ble_eq_true rfl) (up_X5 hok ha0 ⟨y3_140, y4_140, r142, y6_140, y7_140, y8_140, y9_140, rfl⟩) dX5_readStep_138 (fun f143 H locs hfa143 hfo143 hok hP hS => ?_)
                have he144 := (hfo143 (gR G a0 1) (Ty.ne (wt_X5_1 hWT ha0) ha0 (by decide))).trans he141
                refine lv_aload_n hx hb dX5_readStep_141 rfl (lv_at hl 2 rfl) ?_
                refine lv_dup hx hb dX5_readStep_142 rfl ?_
                refine th_get hx hb (ly_X5 hE) hown hK hP ha0.1 hfa143 rfl 4 (by decide) (wd_231 hE) (fun _ h9 => h9) rfl dX5_readStep_143 ?_
                refine lv_iconst (v := 1) hx hb dX5_readStep_146 (by decide) ?_
                refine lv_iadd hx hb dX5_readStep_147 ?_
                refine lv_topi (fun x145 ex145 => ?_)
                refine th_put (v := .int x145) (ty := .int) hx hb (ly_X5 hE) tyX5 tyX5_ok nmX5 hown hK hP hnd hAL hS ha0.1 hfa143 rfl 4 (by decide) (wd_231 hE) (fun _ h9 => h9) rfl (by decide +kernel) rfl rfl (Nat.le_of_ble_eq_true rfl) (up_X5 hok ha0 ⟨y3_140, x145, r142, y6_140, y7_140, y8_140, y9_140, rfl⟩) dX5_readStep_148 (fun f146 H locs hfa146 hfo146 hok hP hS => ?_)
                have he147 := (hfo146 (gR G a0 1) (Ty.ne (wt_X5_1 hWT ha0) ha0 (by decide))).trans he144
                exact W.vret hx hb hr (fun t ht hW => ⟨⟨f146, rfl, trivial, hok, by rw [ht]; exact hP⟩, hS.F ht⟩) hS.2.2 dX5_readStep_151
              · exact W.vret hx hb hr (fun t ht hW => ⟨⟨f135, rfl, trivial, hok, by rw [ht]; exact hP⟩, hS.F ht⟩) hS.2.2 dX5_readStep_119
      · refine lv_iconst (v := 1) hx hb dX5_readStep_36 (by decide) ?_
        refine lv_goto (tgt := 41) hx hb dX5_readStep_37 (by decide) ?_
        refine vp_callSi (va_Run.run (va_runSN (As := [.int 1]) (rest := []) ⟨hx, hb, hml, hown, noTs⟩ (t_X11_bit l dC dI H.size G cs tt mm 1) ⟨cnE 1 (wd_669 hE) (wd_115 hE) (wd_667 hE) rfl rfl (by decide +kernel) ⟨Nat.le_of_ble_eq_true rfl, Nat.le_of_ble_eq_true rfl⟩, (wd_668 hE), trivial⟩ ⟨PT.blind, (th_pre (av := [.int 1]) trivial hK hP hok hnd hWT hE)⟩ rfl rfl hl.1 rfl (lv_room (Nat.le_of_ble_eq_true rfl)) dX5_readStep_41 ⟨Nat.le_of_ble_eq_true rfl, Nat.le_of_ble_eq_true rfl⟩)) (fun r148 hr148 => ?_)
        refine lv_istore_n (lv' := [(1, .int r148), (0, .ref a0)]) hx hb dX5_readStep_44 rfl hl (by decide) rfl (fun ls hl => ?_)
        refine lv_aload_n hx hb dX5_readStep_45 rfl (lv_at hl 1 rfl) ?_
        refine lv_dup hx hb dX5_readStep_46 rfl ?_
        refine th_get hx hb (ly_X5 hE) hown hK hP ha0.1 he101 rfl 4 (by decide) (wd_231 hE) (fun _ h9 => h9) rfl dX5_readStep_47 ?_
        refine lv_iconst (v := 1) hx hb dX5_readStep_50 (by decide) ?_
        refine lv_iadd hx hb dX5_readStep_51 ?_
        refine lv_topi (fun x149 ex149 => ?_)
        refine th_put (v := .int x149) (ty := .int) hx hb (ly_X5 hE) tyX5 tyX5_ok nmX5 hown hK hP hnd hAL hS ha0.1 he101 rfl 4 (by decide) (wd_231 hE) (fun _ h9 => h9) rfl (by decide +kernel) rfl rfl (Nat.le_of_ble_eq_true rfl) (up_X5 hok ha0 ⟨y3_101, x149, y5_101, y6_101, y7_101, y8_101, y9_101, rfl⟩) dX5_readStep_52 (fun f150 H locs hfa150 hfo150 hok hP hS => ?_)
        refine lv_iconst (v := 2) hx hb dX5_readStep_55 (by decide) ?_
        refine lv_aload_n hx hb dX5_readStep_56 rfl (lv_at hl 1 rfl) ?_
        refine vp_callSi (va_Run.run (va_runV (As := []) (rest := [.int 2]) ⟨hx, hb, hml, hown, noTs⟩ (t_X5_value l dC dI H.size G cs tt mm a0 ha0) ⟨cbE 0 (wd_569 hE) (wd_118 hE) (wd_566 hE) rfl rfl (by decide +kernel) ⟨Nat.le_of_ble_eq_true rfl, Nat.le_of_ble_eq_true rfl⟩, (wd_568 hE), (wd_11 hE)⟩ ⟨PT.blind, th_recv hK hP ha0.1 hfa150 rfl, (th_pre (av := [.ref a0]) trivial hK hP hok hnd hWT hE)⟩ rfl rfl hl.1 rfl (lv_room (Nat.le_of_ble_eq_true rfl)) dX5_readStep_57 ⟨Nat.le_of_ble_eq_true rfl, Nat.le_of_ble_eq_true rfl⟩)) (fun r151 hr151 => ?_)
        refine lv_imul hx hb dX5_readStep_60 ?_
        refine lv_topi (fun x152 ex152 => ?_)
        refine lv_iload_n hx hb dX5_readStep_61 rfl (lv_at hl 0 rfl) ?_
        refine lv_iadd hx hb dX5_readStep_62 ?_
        refine lv_topi (fun x153 ex153 => ?_)
        refine lv_istore_n (lv' := [(2, .int x153), (1, .int r148), (0, .ref a0)]) hx hb dX5_readStep_63 rfl hl (by decide) rfl (fun ls hl => ?_)
        refine lv_aload_n hx hb dX5_readStep_64 rfl (lv_at hl 2 rfl) ?_
        refine lv_bipush (v := 6) hx hb dX5_readStep_65 (by decide) ?_
        refine tc_i hAL hS hA (va_runV (As := [.int 6]) (rest := []) ⟨hx, hb, hml, hown, noTs⟩ (t_X5_stands l dC dI H.size G cs tt mm a0 ha0 6) ⟨cbE 1 (wd_577 hE) (wd_118 hE) (wd_574 hE) rfl rfl (by decide +kernel) ⟨Nat.le_of_ble_eq_true rfl, Nat.le_of_ble_eq_true rfl⟩, (wd_576 hE), (wd_12 hE)⟩ ⟨PT.blind, th_recv hK hP ha0.1 hfa150 rfl, (th_pre (av := [.ref a0, .int 6]) trivial hK hP hok hnd hWT hE)⟩ rfl rfl hl.1 rfl (lv_room (Nat.le_of_ble_eq_true rfl)) dX5_readStep_67 ⟨Nat.le_of_ble_eq_true rfl, Nat.le_of_ble_eq_true rfl⟩) (fun r154 f154 H locs hr154 hok hP hS => ?_)
        refine lv_if_eq (tgt := 119) hx hb dX5_readStep_70 (by decide) (fun c155 => ?_) (fun c155 => ?_)
        · exact W.vret hx hb hr (fun t ht hW => ⟨⟨f154, rfl, trivial, hok, by rw [ht]; exact hP⟩, hS.F ht⟩) hS.2.2 dX5_readStep_119
        · refine lv_aload_n hx hb dX5_readStep_73 rfl (lv_at hl 2 rfl) ?_
          refine lv_aload_n hx hb dX5_readStep_74 rfl (lv_at hl 2 rfl) ?_
          obtain ⟨y3_156, y4_156, y5_156, y6_156, y7_156, y8_156, y9_156, he156⟩ := ok_X5 hok ha0
          refine th_get hx hb (ly_X5 hE) hown hK hP ha0.1 he156 rfl 1 (by decide) (wd_228 hE) (fun _ h9 => h9) rfl dX5_readStep_75 ?_
          refine lv_iload_n hx hb dX5_readStep_78 rfl (lv_at hl 0 rfl) ?_
          refine lv_iconst (v := 1) hx hb dX5_readStep_79 (by decide) ?_
          refine lv_ishr hx hb dX5_readStep_80 ?_
          refine lv_topi (fun x157 _ => ?_)
          have he158 := ok_X7 hok (wt_X5_1 hWT ha0)
          refine vp_callSi (va_Run.run (va_runV (As := [.int x157]) (rest := [.ref a0]) ⟨hx, hb, hml, hown, noTs⟩ (t_X7_hasEdge l dC dI H.size G cs tt mm (gR G a0 1) ((wt_X5_1 hWT ha0)) x157) ⟨cbE 1 (wd_673 hE) (wd_116 hE) (wd_670 hE) rfl rfl (by decide +kernel) ⟨Nat.le_of_ble_eq_true rfl, Nat.le_of_ble_eq_true rfl⟩, (wd_671 hE), (wd_672 hE)⟩ ⟨PT.blind, th_recv hK hP (wt_X5_1 hWT ha0).1 he158 rfl, (th_pre (av := [.ref (gR G a0 1), .int x157]) trivial hK hP hok hnd hWT hE)⟩ rfl rfl hl.1 rfl (lv_room (Nat.le_of_ble_eq_true rfl)) dX5_readStep_81 ⟨Nat.le_of_ble_eq_true rfl, Nat.le_of_ble_eq_true rfl⟩)) (fun r159 hr159 => ?_)
          refine lv_iconst (v := 3) hx hb dX5_readStep_84 (by decide) ?_
          refine tc_i hAL hS hA (va_runV (As := [.int r159, .int 3]) (rest := []) ⟨hx, hb, hml, hown, noTs⟩ (t_X5_passes l dC dI H.size G cs tt mm a0 ha0 r159 3) ⟨cbE 2 (wd_561 hE) (wd_118 hE) (wd_558 hE) rfl rfl (by decide +kernel) ⟨Nat.le_of_ble_eq_true rfl, Nat.le_of_ble_eq_true rfl⟩, (wd_560 hE), (wd_10 hE)⟩ ⟨PT.blind, th_recv hK hP ha0.1 he156 rfl, (th_pre (av := [.ref a0, .int r159, .int 3]) trivial hK hP hok hnd hWT hE)⟩ rfl rfl hl.1 rfl (lv_room (Nat.le_of_ble_eq_true rfl)) dX5_readStep_85 ⟨Nat.le_of_ble_eq_true rfl, Nat.le_of_ble_eq_true rfl⟩) (fun r160 f160 H locs hr160 hok hP hS => ?_)
          refine lv_if_eq (tgt := 119) hx hb dX5_readStep_88 (by decide) (fun c161 => ?_) (fun c161 => ?_)
          · exact W.vret hx hb hr (fun t ht hW => ⟨⟨f160, rfl, trivial, hok, by rw [ht]; exact hP⟩, hS.F ht⟩) hS.2.2 dX5_readStep_119
          · refine lv_aload_n hx hb dX5_readStep_91 rfl (lv_at hl 2 rfl) ?_
            refine lv_aload_n hx hb dX5_readStep_92 rfl (lv_at hl 2 rfl) ?_
            obtain ⟨y3_162, y4_162, y5_162, y6_162, y7_162, y8_162, y9_162, he162⟩ := ok_X5 hok ha0
            refine th_get hx hb (ly_X5 hE) hown hK hP ha0.1 he162 rfl 1 (by decide) (wd_228 hE) (fun _ h9 => h9) rfl dX5_readStep_93 ?_
            refine lv_iload_n hx hb dX5_readStep_96 rfl (lv_at hl 0 rfl) ?_
            have he163 := ok_X7 hok (wt_X5_1 hWT ha0)
            refine vp_callSi (va_Run.run (va_runV (As := [.int x153]) (rest := [.ref a0]) ⟨hx, hb, hml, hown, noTs⟩ (t_X7_fromVertex l dC dI H.size G cs tt mm (gR G a0 1) ((wt_X5_1 hWT ha0)) x153) ⟨cbE 1 (wd_677 hE) (wd_116 hE) (wd_674 hE) rfl rfl (by decide +kernel) ⟨Nat.le_of_ble_eq_true rfl, Nat.le_of_ble_eq_true rfl⟩, (wd_675 hE), (wd_676 hE)⟩ ⟨PT.blind, th_recv hK hP (wt_X5_1 hWT ha0).1 he163 rfl, (th_pre (av := [.ref (gR G a0 1), .int x153]) trivial hK hP hok hnd hWT hE)⟩ rfl rfl hl.1 rfl (lv_room (Nat.le_of_ble_eq_true rfl)) dX5_readStep_97 ⟨Nat.le_of_ble_eq_true rfl, Nat.le_of_ble_eq_true rfl⟩)) (fun r164 hr164 => ?_)
            refine lv_aload_n hx hb dX5_readStep_100 rfl (lv_at hl 2 rfl) ?_
            refine th_get hx hb (ly_X5 hE) hown hK hP ha0.1 he162 rfl 5 (by decide) (wd_232 hE) (fun _ h9 => h9) rfl dX5_readStep_101 ?_
            refine lv_icmp_ne (tgt := 111) hx hb dX5_readStep_104 (by decide) (fun c165 => ?_) (fun c165 => ?_)
            · refine lv_iconst (v := 0) hx hb dX5_readStep_111 (by decide) ?_
              refine lv_iconst (v := 5) hx hb dX5_readStep_112 (by decide) ?_
              refine tc_i hAL hS hA (va_runV (As := [.int 0, .int 5]) (rest := []) ⟨hx, hb, hml, hown, noTs⟩ (t_X5_passes l dC dI H.size G cs tt mm a0 ha0 0 5) ⟨cbE 2 (wd_561 hE) (wd_118 hE) (wd_558 hE) rfl rfl (by decide +kernel) ⟨Nat.le_of_ble_eq_true rfl, Nat.le_of_ble_eq_true rfl⟩, (wd_560 hE), (wd_10 hE)⟩ ⟨PT.blind, th_recv hK hP ha0.1 he162 rfl, (th_pre (av := [.ref a0, .int 0, .int 5]) trivial hK hP hok hnd hWT hE)⟩ rfl rfl hl.1 rfl (lv_room (Nat.le_of_ble_eq_true rfl)) dX5_readStep_113 ⟨Nat.le_of_ble_eq_true rfl, Nat.le_of_ble_eq_true rfl⟩) (fun r166 f166 H locs hr166 hok hP hS => ?_)
              refine lv_if_ne (tgt := 120) hx hb dX5_readStep_116 (by decide) (fun c167 => ?_) (fun c167 => ?_)
              · refine lv_aload_n hx hb dX5_readStep_120 rfl (lv_at hl 2 rfl) ?_
                obtain ⟨y3_168, y4_168, y5_168, y6_168, y7_168, y8_168, y9_168, he168⟩ := ok_X5 hok ha0
                refine th_get hx hb (ly_X5 hE) hown hK hP ha0.1 he168 rfl 2 (by decide) (wd_229 hE) (fun _ h9 => h9) rfl dX5_readStep_121 ?_
                refine lv_iload_n hx hb dX5_readStep_124 rfl (lv_at hl 0 rfl) ?_
                refine lv_iconst (v := 0) hx hb dX5_readStep_125 (by decide) ?_
                obtain ⟨y2_169, y3_169, hy3_169, he169⟩ := ok_X10 hok (wt_X5_2 hWT ha0)
                refine tc_v hAL hS hA (va_runV (As := [.int x153, .int 0]) (rest := []) ⟨hx, hb, hml, hown, noTs⟩ (t_X10_push l dC dI H.size G cs tt mm (gR G a0 2) ((wt_X5_2 hWT ha0)) x153 0) ⟨cbE 2 (wd_688 hE) (wd_120 hE) (wd_685 hE) rfl rfl (by decide +kernel) ⟨Nat.le_of_ble_eq_true rfl, Nat.le_of_ble_eq_true rfl⟩, (wd_686 hE), (wd_687 hE)⟩ ⟨PT.blind, th_recv hK hP (wt_X5_2 hWT ha0).1 he169 rfl, (th_pre (av := [.ref (gR G a0 2), .int x153, .int 0]) trivial hK hP hok hnd hWT hE)⟩ rfl rfl hl.1 rfl (lv_room (Nat.le_of_ble_eq_true rfl)) dX5_readStep_126 ⟨Nat.le_of_ble_eq_true rfl, Nat.le_of_ble_eq_true rfl⟩) (fun f170 H locs hr170 hok hP hS => ?_)
                refine lv_aload_n hx hb dX5_readStep_129 rfl (lv_at hl 2 rfl) ?_
                refine lv_aload_n hx hb dX5_readStep_130 rfl (lv_at hl 2 rfl) ?_
                obtain ⟨y3_171, y4_171, y5_171, y6_171, y7_171, y8_171, y9_171, he171⟩ := ok_X5 hok ha0
                refine th_get hx hb (ly_X5 hE) hown hK hP ha0.1 he171 rfl 1 (by decide) (wd_228 hE) (fun _ h9 => h9) rfl dX5_readStep_131 ?_
                refine lv_iload_n hx hb dX5_readStep_134 rfl (lv_at hl 0 rfl) ?_
                have he172 := ok_X7 hok (wt_X5_1 hWT ha0)
                refine vp_callSi (va_Run.run (va_runV (As := [.int x153]) (rest := [.ref a0]) ⟨hx, hb, hml, hown, noTs⟩ (t_X7_toVertex l dC dI H.size G cs tt mm (gR G a0 1) ((wt_X5_1 hWT ha0)) x153) ⟨cbE 1 (wd_692 hE) (wd_116 hE) (wd_689 hE) rfl rfl (by decide +kernel) ⟨Nat.le_of_ble_eq_true rfl, Nat.le_of_ble_eq_true rfl⟩, (wd_690 hE), (wd_691 hE)⟩ ⟨PT.blind, th_recv hK hP (wt_X5_1 hWT ha0).1 he172 rfl, (th_pre (av := [.ref (gR G a0 1), .int x153]) trivial hK hP hok hnd hWT hE)⟩ rfl rfl hl.1 rfl (lv_room (Nat.le_of_ble_eq_true rfl)) dX5_readStep_135 ⟨Nat.le_of_ble_eq_true rfl, Nat.le_of_ble_eq_true rfl⟩)) (fun r173 hr173 => ?_)
                refine th_put (v := .int r173) (ty := .int) hx hb (ly_X5 hE) tyX5 tyX5_ok nmX5 hown hK hP hnd hAL hS ha0.1 he171 rfl 5 (by decide) (wd_232 hE) (fun _ h9 => h9) rfl (by decide +kernel) rfl rfl (Nat.le_of_ble_eq_true rfl) (up_X5 hok ha0 ⟨y3_171, y4_171, r173, y6_171, y7_171, y8_171, y9_171, rfl⟩) dX5_readStep_138 (fun f174 H locs hfa174 hfo174 hok hP hS => ?_)
                have he175 := (hfo174 (gR G a0 1) (Ty.ne (wt_X5_1 hWT ha0) ha0 (by decide))).trans he172
                refine lv_aload_n hx hb dX5_readStep_141 rfl (lv_at hl 2 rfl) ?_
                refine lv_dup hx hb dX5_readStep_142 rfl ?_
                refine th_get hx hb (ly_X5 hE) hown hK hP ha0.1 hfa174 rfl 4 (by decide) (wd_231 hE) (fun _ h9 => h9) rfl dX5_readStep_143 ?_
                refine lv_iconst (v := 1) hx hb dX5_readStep_146 (by decide) ?_
                refine lv_iadd hx hb dX5_readStep_147 ?_
                refine lv_topi (fun x176 ex176 => ?_)
                refine th_put (v := .int x176) (ty := .int) hx hb (ly_X5 hE) tyX5 tyX5_ok nmX5 hown hK hP hnd hAL hS ha0.1 hfa174 rfl 4 (by decide) (wd_231 hE) (fun _ h9 => h9) rfl (by decide +kernel) rfl rfl (Nat.le_of_ble_eq_true rfl) (up_X5 hok ha0 ⟨y3_171, x176, r173, y6_171, y7_171, y8_171, y9_171, rfl⟩) dX5_readStep_148 (fun f177 H locs hfa177 hfo177 hok hP hS => ?_)
                have he178 := (hfo177 (gR G a0 1) (Ty.ne (wt_X5_1 hWT ha0) ha0 (by decide))).trans he175
                exact W.vret hx hb hr (fun t ht hW => ⟨⟨f177, rfl, trivial, hok, by rw [ht]; exact hP⟩, hS.F ht⟩) hS.2.2 dX5_readStep_151
              · exact W.vret hx hb hr (fun t ht hW => ⟨⟨f166, rfl, trivial, hok, by rw [ht]; exact hP⟩, hS.F ht⟩) hS.2.2 dX5_readStep_119
            · refine lv_iconst (v := 1) hx hb dX5_readStep_107 (by decide) ?_
              refine lv_goto (tgt := 112) hx hb dX5_readStep_108 (by decide) ?_
              refine lv_iconst (v := 5) hx hb dX5_readStep_112 (by decide) ?_
              refine tc_i hAL hS hA (va_runV (As := [.int 1, .int 5]) (rest := []) ⟨hx, hb, hml, hown, noTs⟩ (t_X5_passes l dC dI H.size G cs tt mm a0 ha0 1 5) ⟨cbE 2 (wd_561 hE) (wd_118 hE) (wd_558 hE) rfl rfl (by decide +kernel) ⟨Nat.le_of_ble_eq_true rfl, Nat.le_of_ble_eq_true rfl⟩, (wd_560 hE), (wd_10 hE)⟩ ⟨PT.blind, th_recv hK hP ha0.1 he162 rfl, (th_pre (av := [.ref a0, .int 1, .int 5]) trivial hK hP hok hnd hWT hE)⟩ rfl rfl hl.1 rfl (lv_room (Nat.le_of_ble_eq_true rfl)) dX5_readStep_113 ⟨Nat.le_of_ble_eq_true rfl, Nat.le_of_ble_eq_true rfl⟩) (fun r179 f179 H locs hr179 hok hP hS => ?_)
              refine lv_if_ne (tgt := 120) hx hb dX5_readStep_116 (by decide) (fun c180 => ?_) (fun c180 => ?_)
              · refine lv_aload_n hx hb dX5_readStep_120 rfl (lv_at hl 2 rfl) ?_
                obtain ⟨y3_181, y4_181, y5_181, y6_181, y7_181, y8_181, y9_181, he181⟩ := ok_X5 hok ha0
                refine th_get hx hb (ly_X5 hE) hown hK hP ha0.1 he181 rfl 2 (by decide) (wd_229 hE) (fun _ h9 => h9) rfl dX5_readStep_121 ?_
                refine lv_iload_n hx hb dX5_readStep_124 rfl (lv_at hl 0 rfl) ?_
                refine lv_iconst (v := 0) hx hb dX5_readStep_125 (by decide) ?_
                obtain ⟨y2_182, y3_182, hy3_182, he182⟩ := ok_X10 hok (wt_X5_2 hWT ha0)
                refine tc_v hAL hS hA (va_runV (As := [.int x153, .int 0]) (rest := []) ⟨hx, hb, hml, hown, noTs⟩ (t_X10_push l dC dI H.size G cs tt mm (gR G a0 2) ((wt_X5_2 hWT ha0)) x153 0) ⟨cbE 2 (wd_688 hE) (wd_120 hE) (wd_685 hE) rfl rfl (by decide +kernel) ⟨Nat.le_of_ble_eq_true rfl, Nat.le_of_ble_eq_true rfl⟩, (wd_686 hE), (wd_687 hE)⟩ ⟨PT.blind, th_recv hK hP (wt_X5_2 hWT ha0).1 he182 rfl, (th_pre (av := [.ref (gR G a0 2), .int x153, .int 0]) trivial hK hP hok hnd hWT hE)⟩ rfl rfl hl.1 rfl (lv_room (Nat.le_of_ble_eq_true rfl)) dX5_readStep_126 ⟨Nat.le_of_ble_eq_true rfl, Nat.le_of_ble_eq_true rfl⟩) (fun f183 H locs hr183 hok hP hS => ?_)
                refine lv_aload_n hx hb dX5_readStep_129 rfl (lv_at hl 2 rfl) ?_
                refine lv_aload_n hx hb dX5_readStep_130 rfl (lv_at hl 2 rfl) ?_
                obtain ⟨y3_184, y4_184, y5_184, y6_184, y7_184, y8_184, y9_184, he184⟩ := ok_X5 hok ha0
                refine th_get hx hb (ly_X5 hE) hown hK hP ha0.1 he184 rfl 1 (by decide) (wd_228 hE) (fun _ h9 => h9) rfl dX5_readStep_131 ?_
                refine lv_iload_n hx hb dX5_readStep_134 rfl (lv_at hl 0 rfl) ?_
                have he185 := ok_X7 hok (wt_X5_1 hWT ha0)
                refine vp_callSi (va_Run.run (va_runV (As := [.int x153]) (rest := [.ref a0]) ⟨hx, hb, hml, hown, noTs⟩ (t_X7_toVertex l dC dI H.size G cs tt mm (gR G a0 1) ((wt_X5_1 hWT ha0)) x153) ⟨cbE 1 (wd_692 hE) (wd_116 hE) (wd_689 hE) rfl rfl (by decide +kernel) ⟨Nat.le_of_ble_eq_true rfl, Nat.le_of_ble_eq_true rfl⟩, (wd_690 hE), (wd_691 hE)⟩ ⟨PT.blind, th_recv hK hP (wt_X5_1 hWT ha0).1 he185 rfl, (th_pre (av := [.ref (gR G a0 1), .int x153]) trivial hK hP hok hnd hWT hE)⟩ rfl rfl hl.1 rfl (lv_room (Nat.le_of_ble_eq_true rfl)) dX5_readStep_135 ⟨Nat.le_of_ble_eq_true rfl, Nat.le_of_ble_eq_true rfl⟩)) (fun r186 hr186 => ?_)
                refine th_put (v := .int r186) (ty := .int) hx hb (ly_X5 hE) tyX5 tyX5_ok nmX5 hown hK hP hnd hAL hS ha0.1 he184 rfl 5 (by decide) (wd_232 hE) (fun _ h9 => h9) rfl (by decide +kernel) rfl rfl (Nat.le_of_ble_eq_true rfl) (up_X5 hok ha0 ⟨y3_184, y4_184, r186, y6_184, y7_184, y8_184, y9_184, rfl⟩) dX5_readStep_138 (fun f187 H locs hfa187 hfo187 hok hP hS => ?_)
                have he188 := (hfo187 (gR G a0 1) (Ty.ne (wt_X5_1 hWT ha0) ha0 (by decide))).trans he185
                refine lv_aload_n hx hb dX5_readStep_141 rfl (lv_at hl 2 rfl) ?_
                refine lv_dup hx hb dX5_readStep_142 rfl ?_
                refine th_get hx hb (ly_X5 hE) hown hK hP ha0.1 hfa187 rfl 4 (by decide) (wd_231 hE) (fun _ h9 => h9) rfl dX5_readStep_143 ?_
                refine lv_iconst (v := 1) hx hb dX5_readStep_146 (by decide) ?_
                refine lv_iadd hx hb dX5_readStep_147 ?_
                refine lv_topi (fun x189 ex189 => ?_)
                refine th_put (v := .int x189) (ty := .int) hx hb (ly_X5 hE) tyX5 tyX5_ok nmX5 hown hK hP hnd hAL hS ha0.1 hfa187 rfl 4 (by decide) (wd_231 hE) (fun _ h9 => h9) rfl (by decide +kernel) rfl rfl (Nat.le_of_ble_eq_true rfl) (up_X5 hok ha0 ⟨y3_184, x189, r186, y6_184, y7_184, y8_184, y9_184, rfl⟩) dX5_readStep_148 (fun f190 H locs hfa190 hfo190 hok hP hS => ?_)
                have he191 := (hfo190 (gR G a0 1) (Ty.ne (wt_X5_1 hWT ha0) ha0 (by decide))).trans he188
                exact W.vret hx hb hr (fun t ht hW => ⟨⟨f190, rfl, trivial, hok, by rw [ht]; exact hP⟩, hS.F ht⟩) hS.2.2 dX5_readStep_151
              · exact W.vret hx hb hr (fun t ht hW => ⟨⟨f179, rfl, trivial, hok, by rw [ht]; exact hP⟩, hS.F ht⟩) hS.2.2 dX5_readStep_119
    · exact W.vret hx hb hr (fun t ht hW => ⟨⟨f99, rfl, trivial, hok, by rw [ht]; exact hP⟩, hS.F ht⟩) hS.2.2 dX5_readStep_26

set_option maxHeartbeats 4000000 in
set_option maxRecDepth 100000 in
theorem t_X7_words (l : Launch) (dC : Nat → ClassId) (dI : Nat → Nat → Nat) (sz : Nat) (G : GT) (cs : Nat → ClassId) (tt mm : Nat) (a0 : Nat) (ha0 : Ty G a0 7) : Met l yX7_words [.code yX7_words cX7_words 1 (some .int)] ({ frames := 0, cells := 0, slots := 0, locals := 0 }) (PT [.ref a0] sz dC dI G cs tt mm (fun _ => True)) (vp_Si (fun (r : Int32) => True)) 0 0 (fun _ => False) := by
  refine Met.ofW (cc := cX7_words) (maxL := 1) (ret := (some .int)) (by decide) rfl ?_
  intro p e s m args below meth c s₁ B hml hv
  obtain ⟨rfl, hsz, ⟨f0, hok, hP, hX⟩, hK, hnd, hWT, hE⟩ := hv
  have hx := B.exec
  have hb := B.bytes
  have hr := B.returns
  have hown : s.vm.findClass RX7 = some m.cls := findClass_of_methodNamed B.named
  have hlocks := B.notSynchronized
  subst hsz
  have hl := lv_entry ([.ref a0]) (n := 1) (Nat.le_of_ble_eq_true rfl)
  rw [lg_entry_eq]
  generalize (lg_sl ([.ref a0]) ++ List.replicate (1 - (lg_sl ([.ref a0])).length) Slot.unset).toArray = ls at hl ⊢
  have hl : lv_has ls 1 [(0, .ref a0)] := hl
  refine lv_aload_n hx hb dX7_words_0 rfl (lv_at hl 0 rfl) ?_
  have he1 := ok_X7 hok ha0
  refine th_get hx hb (ly_X7 hE) hown hK hP ha0.1 he1 rfl 0 (by decide) (wd_149 hE) (fun _ h9 => h9) rfl dX7_words_1 ?_
  refine lv_iconst (v := 2) hx hb dX7_words_4 (by decide) ?_
  refine th_iald hx hb hK hP hok (wt_X7_0 hWT ha0) (n := 543) (wl_X7_0 hWT ha0) (by unfold vp_in; decide) dX7_words_5 (fun x2 => ?_)
  exact W.iret (v := x2) hx hb hr (fun t ht hW => ⟨x2, rfl, trivial, ht⟩) (fun _ h => absurd h List.not_mem_nil) dX7_words_6

set_option maxHeartbeats 4000000 in
set_option maxRecDepth 100000 in
theorem t_X7_hasWord (l : Launch) (dC : Nat → ClassId) (dI : Nat → Nat → Nat) (sz : Nat) (G : GT) (cs : Nat → ClassId) (tt mm : Nat) (a0 : Nat) (ha0 : Ty G a0 7) (v1 : Int32) : Met l yX7_hasWord [.code yX7_hasWord cX7_hasWord 2 (some .boolean)] ({ frames := 0, cells := 0, slots := 0, locals := 0 }) (PT [.ref a0, .int v1] sz dC dI G cs tt mm (fun _ => True)) (vp_Si (fun (r : Int32) => r = 0 ∨ r = 1)) 0 0 (fun _ => False) := by
  refine Met.ofW (cc := cX7_hasWord) (maxL := 2) (ret := (some .boolean)) (by decide) rfl ?_
  intro p e s m args below meth c s₁ B hml hv
  obtain ⟨rfl, hsz, ⟨f0, hok, hP, hX⟩, hK, hnd, hWT, hE⟩ := hv
  have hx := B.exec
  have hb := B.bytes
  have hr := B.returns
  have hown : s.vm.findClass RX7 = some m.cls := findClass_of_methodNamed B.named
  have hlocks := B.notSynchronized
  subst hsz
  have hl := lv_entry ([.ref a0, .int v1]) (n := 2) (Nat.le_of_ble_eq_true rfl)
  rw [lg_entry_eq]
  generalize (lg_sl ([.ref a0, .int v1]) ++ List.replicate (2 - (lg_sl ([.ref a0, .int v1])).length) Slot.unset).toArray = ls at hl ⊢
  have hl : lv_has ls 2 [(0, .ref a0), (1, .int v1)] := hl
  refine lv_iload_n hx hb dX7_hasWord_0 rfl (lv_at hl 1 rfl) ?_
  refine lv_if_lt (tgt := 18) hx hb dX7_hasWord_1 (by decide) (fun c1 => ?_) (fun c1 => ?_)
  · refine lv_iconst (v := 0) hx hb dX7_hasWord_18 (by decide) ?_
    exact W.zret (v := 0) hx hb hr rfl (fun t ht hW => ⟨0, rfl, Or.inl rfl, ht⟩) (fun _ h => absurd h List.not_mem_nil) dX7_hasWord_19
  · refine lv_iload_n hx hb dX7_hasWord_4 rfl (lv_at hl 1 rfl) ?_
    refine lv_aload_n hx hb dX7_hasWord_5 rfl (lv_at hl 0 rfl) ?_
    have he2 := ok_X7 hok ha0
    refine th_get hx hb (ly_X7 hE) hown hK hP ha0.1 he2 rfl 0 (by decide) (wd_149 hE) (fun _ h9 => h9) rfl dX7_hasWord_6 ?_
    refine lv_iconst (v := 2) hx hb dX7_hasWord_9 (by decide) ?_
    refine th_iald hx hb hK hP hok (wt_X7_0 hWT ha0) (n := 543) (wl_X7_0 hWT ha0) (by unfold vp_in; decide) dX7_hasWord_10 (fun x3 => ?_)
    refine lv_icmp_ge (tgt := 18) hx hb dX7_hasWord_11 (by decide) (fun c4 => ?_) (fun c4 => ?_)
    · refine lv_iconst (v := 0) hx hb dX7_hasWord_18 (by decide) ?_
      exact W.zret (v := 0) hx hb hr rfl (fun t ht hW => ⟨0, rfl, Or.inl rfl, ht⟩) (fun _ h => absurd h List.not_mem_nil) dX7_hasWord_19
    · refine lv_iconst (v := 1) hx hb dX7_hasWord_14 (by decide) ?_
      refine lv_goto (tgt := 19) hx hb dX7_hasWord_15 (by decide) ?_
      exact W.zret (v := 1) hx hb hr rfl (fun t ht hW => ⟨1, rfl, Or.inr rfl, ht⟩) (fun _ h => absurd h List.not_mem_nil) dX7_hasWord_19

set_option maxHeartbeats 4000000 in
set_option maxRecDepth 100000 in
theorem t_X7_writeWord (l : Launch) (dC : Nat → ClassId) (dI : Nat → Nat → Nat) (sz : Nat) (G : GT) (cs : Nat → ClassId) (tt mm : Nat) (a0 : Nat) (ha0 : Ty G a0 7) (v1 : Int32) (a2 : Nat) (ha2 : Ty G a2 10) : Met l yX7_writeWord [.code yX7_writeWord cX7_writeWord 5 none] ({ frames := 1, cells := 0, slots := 0, locals := 40 }) (PT [.ref a0, .int v1, .ref a2] sz dC dI G cs tt mm (fun _ => True)) (va_Qv (fun (u : Nat → va_E) => True) (BT dC dI G cs tt mm) (AT G sz)) 0 0 (AT G sz) := by
  refine Met.ofW (cc := cX7_writeWord) (maxL := 5) (ret := none) (by decide) rfl ?_
  intro p e s m args below meth c s₁ B hml hv
  obtain ⟨rfl, hsz, ⟨f0, hok, hP, hX⟩, hK, hnd, hWT, hE⟩ := hv
  have hx := B.exec
  have hb := B.bytes
  have hr := B.returns
  have hown : s.vm.findClass RX7 = some m.cls := findClass_of_methodNamed B.named
  have hlocks := B.notSynchronized
  subst hsz
  have hAL : ∀ a, a ∈ gL G → AT G s.heap.size a := fun a h => Or.inl h
  have hA : ∀ q : Nat, s.heap.size ≤ q → AT G s.heap.size q := fun q h => Or.inr h
  have hS : va_S (AT G s.heap.size) s.heap s.heap [] := va_S.rf
  have hl := lv_entry ([.ref a0, .int v1, .ref a2]) (n := 5) (Nat.le_of_ble_eq_true rfl)
  rw [lg_entry_eq]
  generalize (lg_sl ([.ref a0, .int v1, .ref a2]) ++ List.replicate (5 - (lg_sl ([.ref a0, .int v1, .ref a2])).length) Slot.unset).toArray = ls at hl ⊢
  have hl : lv_has ls 5 [(0, .ref a0), (1, .int v1), (2, .ref a2)] := hl
  refine lv_aload_n hx hb dX7_writeWord_0 rfl (lv_at hl 0 rfl) ?_
  refine lv_iload_n hx hb dX7_writeWord_1 rfl (lv_at hl 1 rfl) ?_
  have he1 := ok_X7 hok ha0
  refine vp_callSi (va_Run.run (va_runV (As := [.int v1]) (rest := []) ⟨hx, hb, hml, hown, noTs⟩ (t_X7_hasWord l dC dI s.heap.size G cs tt mm a0 ha0 v1) ⟨cbE 1 (wd_708 hE) (wd_116 hE) (wd_705 hE) rfl rfl (by decide +kernel) ⟨Nat.le_of_ble_eq_true rfl, Nat.le_of_ble_eq_true rfl⟩, (wd_706 hE), (wd_707 hE)⟩ ⟨PT.blind, th_recv hK hP ha0.1 he1 rfl, (th_pre (av := [.ref a0, .int v1]) trivial hK hP hok hnd hWT hE)⟩ rfl rfl hl.1 rfl (lv_room (Nat.le_of_ble_eq_true rfl)) dX7_writeWord_2 ⟨Nat.le_of_ble_eq_true rfl, Nat.le_of_ble_eq_true rfl⟩)) (fun r2 hr2 => ?_)
  refine lv_if_eq (tgt := 17) hx hb dX7_writeWord_5 (by decide) (fun c3 => ?_) (fun c3 => ?_)
  · exact W.vret hx hb hr (fun t ht hW => ⟨⟨f0, rfl, trivial, hok, by rw [ht]; exact hP⟩, hS.F ht⟩) hS.2.2 dX7_writeWord_17
  · refine lv_aload_n hx hb dX7_writeWord_8 rfl (lv_at hl 2 rfl) ?_
    obtain ⟨y2_4, y3_4, hy3_4, he4⟩ := ok_X10 hok ha2
    refine vp_callSi (va_Run.run (va_runV (As := []) (rest := []) ⟨hx, hb, hml, hown, noTs⟩ (t_X10_size l dC dI s.heap.size G cs tt mm a2 ha2 y2_4 y3_4) ⟨cbE 0 (wd_666 hE) (wd_120 hE) (wd_709 hE) rfl rfl (by decide +kernel) ⟨Nat.le_of_ble_eq_true rfl, Nat.le_of_ble_eq_true rfl⟩, (wd_664 hE), (wd_665 hE)⟩ ⟨PT.blind, th_recv hK hP ha2.1 he4 rfl, (th_pre (av := [.ref a2]) he4 hK hP hok hnd hWT hE)⟩ rfl rfl hl.1 rfl (lv_room (Nat.le_of_ble_eq_true rfl)) dX7_writeWord_9 ⟨Nat.le_of_ble_eq_true rfl, Nat.le_of_ble_eq_true rfl⟩)) (fun r5 hr5 => ?_)
    subst hr5
    refine lv_bipush (v := 24) hx hb dX7_writeWord_12 (by decide) ?_
    have nt6 : (nI y3_4).toInt = ((y3_4 : Nat) : Int) := nI_toInt (by omega)
    refine lv_icmp_le (tgt := 18) hx hb dX7_writeWord_14 (by decide) (fun c7 => ?_) (fun c7 => ?_)
    · refine lv_bipush (v := 33) hx hb dX7_writeWord_18 (by decide) ?_
      refine lv_bipush (v := 51) hx hb dX7_writeWord_20 (by decide) ?_
      refine lv_iload_n hx hb dX7_writeWord_22 rfl (lv_at hl 1 rfl) ?_
      refine lv_imul hx hb dX7_writeWord_23 ?_
      refine lv_topi (fun x8 ex8 => ?_)
      refine lv_iadd hx hb dX7_writeWord_24 ?_
      refine lv_topi (fun x9 ex9 => ?_)
      refine lv_istore_n (lv' := [(3, .int x9), (0, .ref a0), (1, .int v1), (2, .ref a2)]) hx hb dX7_writeWord_25 rfl hl (by decide) rfl (fun ls hl => ?_)
      refine lv_aload_n hx hb dX7_writeWord_26 rfl (lv_at hl 1 rfl) ?_
      refine lv_iload_n hx hb dX7_writeWord_27 rfl (lv_at hl 0 rfl) ?_
      refine lv_aload_n hx hb dX7_writeWord_28 rfl (lv_at hl 3 rfl) ?_
      refine vp_callSi (va_Run.run (va_runV (As := []) (rest := [.int x9, .ref a0]) ⟨hx, hb, hml, hown, noTs⟩ (t_X10_begin l dC dI s.heap.size G cs tt mm a2 ha2) ⟨cbE 0 (wd_713 hE) (wd_120 hE) (wd_710 hE) rfl rfl (by decide +kernel) ⟨Nat.le_of_ble_eq_true rfl, Nat.le_of_ble_eq_true rfl⟩, (wd_711 hE), (wd_712 hE)⟩ ⟨PT.blind, th_recv hK hP ha2.1 he4 rfl, (th_pre (av := [.ref a2]) trivial hK hP hok hnd hWT hE)⟩ rfl rfl hl.1 rfl (lv_room (Nat.le_of_ble_eq_true rfl)) dX7_writeWord_29 ⟨Nat.le_of_ble_eq_true rfl, Nat.le_of_ble_eq_true rfl⟩)) (fun r10 hr10 => ?_)
      refine tc_v hAL hS hA (va_runV (As := [.int x9, .int r10]) (rest := []) ⟨hx, hb, hml, hown, noTs⟩ (t_X7_put l dC dI s.heap.size G cs tt mm a0 ha0 x9 r10) ⟨cbE 2 (wd_590 hE) (wd_116 hE) (wd_587 hE) rfl rfl (by decide +kernel) ⟨Nat.le_of_ble_eq_true rfl, Nat.le_of_ble_eq_true rfl⟩, (wd_589 hE), (wd_14 hE)⟩ ⟨PT.blind, th_recv hK hP ha0.1 he1 rfl, (th_pre (av := [.ref a0, .int x9, .int r10]) trivial hK hP hok hnd hWT hE)⟩ rfl rfl hl.1 rfl (lv_room (Nat.le_of_ble_eq_true rfl)) dX7_writeWord_32 ⟨Nat.le_of_ble_eq_true rfl, Nat.le_of_ble_eq_true rfl⟩) (fun f11 H locs hr11 hok hP hS => ?_)
      refine lv_aload_n hx hb dX7_writeWord_35 rfl (lv_at hl 1 rfl) ?_
      refine lv_iload_n hx hb dX7_writeWord_36 rfl (lv_at hl 0 rfl) ?_
      refine lv_iconst (v := 1) hx hb dX7_writeWord_37 (by decide) ?_
      refine lv_iadd hx hb dX7_writeWord_38 ?_
      refine lv_topi (fun x12 ex12 => ?_)
      refine lv_aload_n hx hb dX7_writeWord_39 rfl (lv_at hl 3 rfl) ?_
      obtain ⟨y2_13, y3_13, hy3_13, he13⟩ := ok_X10 hok ha2
      refine vp_callSi (va_Run.run (va_runV (As := []) (rest := [.int x12, .ref a0]) ⟨hx, hb, hml, hown, noTs⟩ (t_X10_size l dC dI H.size G cs tt mm a2 ha2 y2_13 y3_13) ⟨cbE 0 (wd_666 hE) (wd_120 hE) (wd_709 hE) rfl rfl (by decide +kernel) ⟨Nat.le_of_ble_eq_true rfl, Nat.le_of_ble_eq_true rfl⟩, (wd_664 hE), (wd_665 hE)⟩ ⟨PT.blind, th_recv hK hP ha2.1 he13 rfl, (th_pre (av := [.ref a2]) he13 hK hP hok hnd hWT hE)⟩ rfl rfl hl.1 rfl (lv_room (Nat.le_of_ble_eq_true rfl)) dX7_writeWord_40 ⟨Nat.le_of_ble_eq_true rfl, Nat.le_of_ble_eq_true rfl⟩)) (fun r14 hr14 => ?_)
      subst hr14
      have he15 := ok_X7 hok ha0
      refine tc_v hAL hS hA (va_runV (As := [.int x12, .int (nI y3_13)]) (rest := []) ⟨hx, hb, hml, hown, noTs⟩ (t_X7_put l dC dI H.size G cs tt mm a0 ha0 x12 (nI y3_13)) ⟨cbE 2 (wd_590 hE) (wd_116 hE) (wd_587 hE) rfl rfl (by decide +kernel) ⟨Nat.le_of_ble_eq_true rfl, Nat.le_of_ble_eq_true rfl⟩, (wd_589 hE), (wd_14 hE)⟩ ⟨PT.blind, th_recv hK hP ha0.1 he15 rfl, (th_pre (av := [.ref a0, .int x12, .int (nI y3_13)]) trivial hK hP hok hnd hWT hE)⟩ rfl rfl hl.1 rfl (lv_room (Nat.le_of_ble_eq_true rfl)) dX7_writeWord_43 ⟨Nat.le_of_ble_eq_true rfl, Nat.le_of_ble_eq_true rfl⟩) (fun f16 H locs hr16 hok hP hS => ?_)
      refine lv_aload_n hx hb dX7_writeWord_46 rfl (lv_at hl 1 rfl) ?_
      refine lv_iload_n hx hb dX7_writeWord_47 rfl (lv_at hl 0 rfl) ?_
      refine lv_iconst (v := 2) hx hb dX7_writeWord_48 (by decide) ?_
      refine lv_iadd hx hb dX7_writeWord_49 ?_
      refine lv_topi (fun x17 ex17 => ?_)
      refine lv_aload_n hx hb dX7_writeWord_50 rfl (lv_at hl 3 rfl) ?_
      refine lv_iconst (v := 0) hx hb dX7_writeWord_51 (by decide) ?_
      obtain ⟨y2_18, y3_18, hy3_18, he18⟩ := ok_X10 hok ha2
      refine vp_callSi (va_Run.run (va_runV (As := [.int 0]) (rest := [.int x17, .ref a0]) ⟨hx, hb, hml, hown, noTs⟩ (t_X10_numberAt l dC dI H.size G cs tt mm a2 ha2 0) ⟨cbE 1 (wd_717 hE) (wd_120 hE) (wd_714 hE) rfl rfl (by decide +kernel) ⟨Nat.le_of_ble_eq_true rfl, Nat.le_of_ble_eq_true rfl⟩, (wd_715 hE), (wd_716 hE)⟩ ⟨PT.blind, th_recv hK hP ha2.1 he18 rfl, (th_pre (av := [.ref a2, .int 0]) trivial hK hP hok hnd hWT hE)⟩ rfl rfl hl.1 rfl (lv_room (Nat.le_of_ble_eq_true rfl)) dX7_writeWord_52 ⟨Nat.le_of_ble_eq_true rfl, Nat.le_of_ble_eq_true rfl⟩)) (fun r19 hr19 => ?_)
      have he20 := ok_X7 hok ha0
      refine tc_v hAL hS hA (va_runV (As := [.int x17, .int r19]) (rest := []) ⟨hx, hb, hml, hown, noTs⟩ (t_X7_put l dC dI H.size G cs tt mm a0 ha0 x17 r19) ⟨cbE 2 (wd_590 hE) (wd_116 hE) (wd_587 hE) rfl rfl (by decide +kernel) ⟨Nat.le_of_ble_eq_true rfl, Nat.le_of_ble_eq_true rfl⟩, (wd_589 hE), (wd_14 hE)⟩ ⟨PT.blind, th_recv hK hP ha0.1 he20 rfl, (th_pre (av := [.ref a0, .int x17, .int r19]) trivial hK hP hok hnd hWT hE)⟩ rfl rfl hl.1 rfl (lv_room (Nat.le_of_ble_eq_true rfl)) dX7_writeWord_55 ⟨Nat.le_of_ble_eq_true rfl, Nat.le_of_ble_eq_true rfl⟩) (fun f21 H locs hr21 hok hP hS => ?_)
      refine lv_iconst (v := 0) hx hb dX7_writeWord_58 (by decide) ?_
      refine lv_istore (lv' := [(4, .int 0), (3, .int x9), (0, .ref a0), (1, .int v1), (2, .ref a2)]) hx hb dX7_writeWord_59 hl (by decide) rfl (fun ls hl => ?_)
      refine w_ind (I := fun n f H locs ls => OKT G cs tt mm f ∧ va_P (dC, dI) vwCl (va_pl (gL G) f) H ∧ va_S (AT G s.heap.size) s.heap H locs ∧ ∃ (w4_22 : Int32), n = (2147483647 - w4_22.toInt).toNat ∧ 0 ≤ w4_22 ∧ lv_has ls 5 [(0, .ref a0), (1, .int v1), (2, .ref a2), (3, .int x9), (4, .int w4_22)]) (fun n f22 H locs ls hI ih22 => ?_) _ f21 _ _ _ ⟨hok, hP, hS, 0, rfl, (by first | omega | (simp only [i_lt, i_le, i_eq, ti_m9, ti_m1, ti_0, ti_1, ti_2, ti_3, ti_4, ti_5, ti_6, ti_7, ti_9, ti_12, ti_20, ti_99, ti_700, ti_24, ti_156, ti_72, ti_8, ti_60, ti_543, ti_10, ti_33, ti_51, ti_178, ti_119, ti_111, ti_114, ti_100, ti_32, ti_62, ti_59, ti_48, ti_701, ti_97, ti_122, ti_57, ti_73, ti_128, ti_61, nt6] at c3 c7 ⊢; omega)), lv_sub hl [2, 3, 4, 1, 0] rfl⟩
      obtain ⟨hok, hP, hS, w4_22, hmu22, hlo22, hl⟩ := hI
      subst hmu22
      refine lv_iload hx hb dX7_writeWord_61 (lv_at hl 4 rfl) ?_
      refine lv_aload_n hx hb dX7_writeWord_63 rfl (lv_at hl 2 rfl) ?_
      obtain ⟨y2_23, y3_23, hy3_23, he23⟩ := ok_X10 hok ha2
      refine vp_callSi (va_Run.run (va_runV (As := []) (rest := [.int w4_22]) ⟨hx, hb, hml, hown, noTs⟩ (t_X10_size l dC dI H.size G cs tt mm a2 ha2 y2_23 y3_23) ⟨cbE 0 (wd_666 hE) (wd_120 hE) (wd_709 hE) rfl rfl (by decide +kernel) ⟨Nat.le_of_ble_eq_true rfl, Nat.le_of_ble_eq_true rfl⟩, (wd_664 hE), (wd_665 hE)⟩ ⟨PT.blind, th_recv hK hP ha2.1 he23 rfl, (th_pre (av := [.ref a2]) he23 hK hP hok hnd hWT hE)⟩ rfl rfl hl.1 rfl (lv_room (Nat.le_of_ble_eq_true rfl)) dX7_writeWord_64 ⟨Nat.le_of_ble_eq_true rfl, Nat.le_of_ble_eq_true rfl⟩)) (fun r24 hr24 => ?_)
      subst hr24
      have nt25 : (nI y3_23).toInt = ((y3_23 : Nat) : Int) := nI_toInt (by omega)
      refine lv_icmp_ge (tgt := 114) hx hb dX7_writeWord_67 (by decide) (fun c26 => ?_) (fun c26 => ?_)
      · exact W.vret hx hb hr (fun t ht hW => ⟨⟨f22, rfl, trivial, hok, by rw [ht]; exact hP⟩, hS.F ht⟩) hS.2.2 dX7_writeWord_114
      · refine lv_aload_n hx hb dX7_writeWord_70 rfl (lv_at hl 0 rfl) ?_
        refine lv_iload_n hx hb dX7_writeWord_71 rfl (lv_at hl 3 rfl) ?_
        refine lv_iconst (v := 3) hx hb dX7_writeWord_72 (by decide) ?_
        refine lv_iadd hx hb dX7_writeWord_73 ?_
        refine lv_topi (fun x27 ex27 => ?_)
        refine lv_iconst (v := 2) hx hb dX7_writeWord_74 (by decide) ?_
        refine lv_iload hx hb dX7_writeWord_75 (lv_at hl 4 rfl) ?_
        obtain ⟨j28, hj28, rfl⟩ : ∃ j : Nat, j ≤ 71 ∧ w4_22 = nI j := i_nat (by first | omega | (simp only [i_lt, i_le, i_eq, ti_m9, ti_m1, ti_0, ti_1, ti_2, ti_3, ti_4, ti_5, ti_6, ti_7, ti_9, ti_12, ti_20, ti_99, ti_700, ti_24, ti_156, ti_72, ti_8, ti_60, ti_543, ti_10, ti_33, ti_51, ti_178, ti_119, ti_111, ti_114, ti_100, ti_32, ti_62, ti_59, ti_48, ti_701, ti_97, ti_122, ti_57, ti_73, ti_128, ti_61, nt6, nt25] at c3 c7 hlo22 c26 ⊢; omega)) (by first | omega | (simp only [i_lt, i_le, i_eq, ti_m9, ti_m1, ti_0, ti_1, ti_2, ti_3, ti_4, ti_5, ti_6, ti_7, ti_9, ti_12, ti_20, ti_99, ti_700, ti_24, ti_156, ti_72, ti_8, ti_60, ti_543, ti_10, ti_33, ti_51, ti_178, ti_119, ti_111, ti_114, ti_100, ti_32, ti_62, ti_59, ti_48, ti_701, ti_97, ti_122, ti_57, ti_73, ti_128, ti_61, nt6, nt25] at c3 c7 hlo22 c26 ⊢; omega))
        have nt29 : (nI j28).toInt = ((j28 : Nat) : Int) := nI_toInt (by omega)
        refine lv_imul hx hb dX7_writeWord_77 ?_
        refine W.eq (g2 := F0 m 78 ls [.int (nI (2 * j28)), .int x27, .ref a0]) (congrArg (fun z : Int32 => F0 m 78 ls (.int z :: [.int x27, .ref a0])) (pk_mul 2 j28)) ?_
        refine lv_iadd hx hb dX7_writeWord_78 ?_
        refine lv_topi (fun x30 ex30 => ?_)
        refine lv_aload_n hx hb dX7_writeWord_79 rfl (lv_at hl 2 rfl) ?_
        refine lv_iload hx hb dX7_writeWord_80 (lv_at hl 4 rfl) ?_
        refine vp_callSi (va_Run.run (va_runV (As := [.int (nI j28)]) (rest := [.int x30, .ref a0]) ⟨hx, hb, hml, hown, noTs⟩ (t_X10_stepAt l dC dI H.size G cs tt mm a2 ha2 (nI j28)) ⟨cbE 1 (wd_721 hE) (wd_120 hE) (wd_718 hE) rfl rfl (by decide +kernel) ⟨Nat.le_of_ble_eq_true rfl, Nat.le_of_ble_eq_true rfl⟩, (wd_719 hE), (wd_720 hE)⟩ ⟨PT.blind, th_recv hK hP ha2.1 he23 rfl, (th_pre (av := [.ref a2, .int (nI j28)]) trivial hK hP hok hnd hWT hE)⟩ rfl rfl hl.1 rfl (lv_room (Nat.le_of_ble_eq_true rfl)) dX7_writeWord_82 ⟨Nat.le_of_ble_eq_true rfl, Nat.le_of_ble_eq_true rfl⟩)) (fun r31 hr31 => ?_)
        have he32 := ok_X7 hok ha0
        refine tc_v hAL hS hA (va_runV (As := [.int x30, .int r31]) (rest := []) ⟨hx, hb, hml, hown, noTs⟩ (t_X7_put l dC dI H.size G cs tt mm a0 ha0 x30 r31) ⟨cbE 2 (wd_590 hE) (wd_116 hE) (wd_587 hE) rfl rfl (by decide +kernel) ⟨Nat.le_of_ble_eq_true rfl, Nat.le_of_ble_eq_true rfl⟩, (wd_589 hE), (wd_14 hE)⟩ ⟨PT.blind, th_recv hK hP ha0.1 he32 rfl, (th_pre (av := [.ref a0, .int x30, .int r31]) trivial hK hP hok hnd hWT hE)⟩ rfl rfl hl.1 rfl (lv_room (Nat.le_of_ble_eq_true rfl)) dX7_writeWord_85 ⟨Nat.le_of_ble_eq_true rfl, Nat.le_of_ble_eq_true rfl⟩) (fun f33 H locs hr33 hok hP hS => ?_)
        refine lv_aload_n hx hb dX7_writeWord_88 rfl (lv_at hl 0 rfl) ?_
        refine lv_iload_n hx hb dX7_writeWord_89 rfl (lv_at hl 3 rfl) ?_
        refine lv_iconst (v := 4) hx hb dX7_writeWord_90 (by decide) ?_
        refine lv_iadd hx hb dX7_writeWord_91 ?_
        refine lv_topi (fun x34 ex34 => ?_)
        refine lv_iconst (v := 2) hx hb dX7_writeWord_92 (by decide) ?_
        refine lv_iload hx hb dX7_writeWord_93 (lv_at hl 4 rfl) ?_
        refine lv_imul hx hb dX7_writeWord_95 ?_
        refine W.eq (g2 := F0 m 96 ls [.int (nI (2 * j28)), .int x34, .ref a0]) (congrArg (fun z : Int32 => F0 m 96 ls (.int z :: [.int x34, .ref a0])) (pk_mul 2 j28)) ?_
        refine lv_iadd hx hb dX7_writeWord_96 ?_
        refine lv_topi (fun x35 ex35 => ?_)
        refine lv_aload_n hx hb dX7_writeWord_97 rfl (lv_at hl 2 rfl) ?_
        refine lv_iload hx hb dX7_writeWord_98 (lv_at hl 4 rfl) ?_
        refine lv_iconst (v := 1) hx hb dX7_writeWord_100 (by decide) ?_
        refine lv_iadd hx hb dX7_writeWord_101 ?_
        refine W.eq (g2 := F0 m 102 ls [.int (nI (j28 + 1)), .ref a2, .int x35, .ref a0]) (congrArg (fun z : Int32 => F0 m 102 ls (.int z :: [.ref a2, .int x35, .ref a0])) (nI_add j28 1)) ?_
        obtain ⟨y2_36, y3_36, hy3_36, he36⟩ := ok_X10 hok ha2
        refine vp_callSi (va_Run.run (va_runV (As := [.int (nI (j28 + 1))]) (rest := [.int x35, .ref a0]) ⟨hx, hb, hml, hown, noTs⟩ (t_X10_numberAt l dC dI H.size G cs tt mm a2 ha2 (nI (j28 + 1))) ⟨cbE 1 (wd_717 hE) (wd_120 hE) (wd_714 hE) rfl rfl (by decide +kernel) ⟨Nat.le_of_ble_eq_true rfl, Nat.le_of_ble_eq_true rfl⟩, (wd_715 hE), (wd_716 hE)⟩ ⟨PT.blind, th_recv hK hP ha2.1 he36 rfl, (th_pre (av := [.ref a2, .int (nI (j28 + 1))]) trivial hK hP hok hnd hWT hE)⟩ rfl rfl hl.1 rfl (lv_room (Nat.le_of_ble_eq_true rfl)) dX7_writeWord_102 ⟨Nat.le_of_ble_eq_true rfl, Nat.le_of_ble_eq_true rfl⟩)) (fun r37 hr37 => ?_)
        have he38 := ok_X7 hok ha0
        refine tc_v hAL hS hA (va_runV (As := [.int x35, .int r37]) (rest := []) ⟨hx, hb, hml, hown, noTs⟩ (t_X7_put l dC dI H.size G cs tt mm a0 ha0 x35 r37) ⟨cbE 2 (wd_590 hE) (wd_116 hE) (wd_587 hE) rfl rfl (by decide +kernel) ⟨Nat.le_of_ble_eq_true rfl, Nat.le_of_ble_eq_true rfl⟩, (wd_589 hE), (wd_14 hE)⟩ ⟨PT.blind, th_recv hK hP ha0.1 he38 rfl, (th_pre (av := [.ref a0, .int x35, .int r37]) trivial hK hP hok hnd hWT hE)⟩ rfl rfl hl.1 rfl (lv_room (Nat.le_of_ble_eq_true rfl)) dX7_writeWord_105 ⟨Nat.le_of_ble_eq_true rfl, Nat.le_of_ble_eq_true rfl⟩) (fun f39 H locs hr39 hok hP hS => ?_)
        obtain ⟨z40, ez40⟩ : ∃ z : Int32, z = (nI j28) + 1 := ⟨_, rfl⟩
        refine lv_iinc (v := z40) (lv' := [(4, .int z40), (0, .ref a0), (1, .int v1), (2, .ref a2), (3, .int x9)]) hx hb dX7_writeWord_108 hl (k := 4) rfl (by rw [ez40]; rfl) (by decide) rfl (fun ls hl => ?_)
        have ic40 : z40.toInt = (nI j28).toInt + 1 := by rw [ez40]; exact ic_up (by have := i_rng r2; have := i_rng (nI y3_4); have := i_rng (nI j28); have := i_rng (nI y3_23); simp only [i_lt, i_le, i_eq, ti_m9, ti_m1, ti_0, ti_1, ti_2, ti_3, ti_4, ti_5, ti_6, ti_7, ti_9, ti_12, ti_20, ti_99, ti_700, ti_24, ti_156, ti_72, ti_8, ti_60, ti_543, ti_10, ti_33, ti_51, ti_178, ti_119, ti_111, ti_114, ti_100, ti_32, ti_62, ti_59, ti_48, ti_701, ti_97, ti_122, ti_57, ti_73, ti_128, ti_61, nt6, nt25, nt29] at c3 c7 hlo22 c26 ⊢; omega)
        refine lv_goto (tgt := 61) hx hb dX7_writeWord_111 (by decide) ?_
        exact ih22 _ f39 _ _ _ (by first | omega | (simp only [i_lt, i_le, i_eq, ti_m9, ti_m1, ti_0, ti_1, ti_2, ti_3, ti_4, ti_5, ti_6, ti_7, ti_9, ti_12, ti_20, ti_99, ti_700, ti_24, ti_156, ti_72, ti_8, ti_60, ti_543, ti_10, ti_33, ti_51, ti_178, ti_119, ti_111, ti_114, ti_100, ti_32, ti_62, ti_59, ti_48, ti_701, ti_97, ti_122, ti_57, ti_73, ti_128, ti_61, nt6, nt25, nt29, ic40] at c3 c7 hlo22 c26 ic40 ⊢; omega)) ⟨hok, hP, hS, z40, rfl, (by first | omega | (simp only [i_lt, i_le, i_eq, ti_m9, ti_m1, ti_0, ti_1, ti_2, ti_3, ti_4, ti_5, ti_6, ti_7, ti_9, ti_12, ti_20, ti_99, ti_700, ti_24, ti_156, ti_72, ti_8, ti_60, ti_543, ti_10, ti_33, ti_51, ti_178, ti_119, ti_111, ti_114, ti_100, ti_32, ti_62, ti_59, ti_48, ti_701, ti_97, ti_122, ti_57, ti_73, ti_128, ti_61, nt6, nt25, nt29, ic40] at c3 c7 hlo22 c26 ⊢; omega)), lv_sub hl [1, 2, 3, 4, 0] rfl⟩
    · exact W.vret hx hb hr (fun t ht hW => ⟨⟨f0, rfl, trivial, hok, by rw [ht]; exact hP⟩, hS.F ht⟩) hS.2.2 dX7_writeWord_17

set_option maxHeartbeats 4000000 in
set_option maxRecDepth 100000 in
theorem t_X7_addWord (l : Launch) (dC : Nat → ClassId) (dI : Nat → Nat → Nat) (sz : Nat) (G : GT) (cs : Nat → ClassId) (tt mm : Nat) (a0 : Nat) (ha0 : Ty G a0 7) (a1 : Nat) (ha1 : Ty G a1 10) : Met l yX7_addWord [.code yX7_addWord cX7_addWord 3 (some .int)] ({ frames := 2, cells := 0, slots := 0, locals := 80 }) (PT [.ref a0, .ref a1] sz dC dI G cs tt mm (fun _ => True)) (va_Qi (fun (r : Int32) (u : Nat → va_E) => True) (BT dC dI G cs tt mm) (AT G sz)) 0 0 (AT G sz) := by
  refine Met.ofW (cc := cX7_addWord) (maxL := 3) (ret := (some .int)) (by decide) rfl ?_
  intro p e s m args below meth c s₁ B hml hv
  obtain ⟨rfl, hsz, ⟨f0, hok, hP, hX⟩, hK, hnd, hWT, hE⟩ := hv
  have hx := B.exec
  have hb := B.bytes
  have hr := B.returns
  have hown : s.vm.findClass RX7 = some m.cls := findClass_of_methodNamed B.named
  have hlocks := B.notSynchronized
  subst hsz
  have hAL : ∀ a, a ∈ gL G → AT G s.heap.size a := fun a h => Or.inl h
  have hA : ∀ q : Nat, s.heap.size ≤ q → AT G s.heap.size q := fun q h => Or.inr h
  have hS : va_S (AT G s.heap.size) s.heap s.heap [] := va_S.rf
  have hl := lv_entry ([.ref a0, .ref a1]) (n := 3) (Nat.le_of_ble_eq_true rfl)
  rw [lg_entry_eq]
  generalize (lg_sl ([.ref a0, .ref a1]) ++ List.replicate (3 - (lg_sl ([.ref a0, .ref a1])).length) Slot.unset).toArray = ls at hl ⊢
  have hl : lv_has ls 3 [(0, .ref a0), (1, .ref a1)] := hl
  refine lv_aload_n hx hb dX7_addWord_0 rfl (lv_at hl 0 rfl) ?_
  have he1 := ok_X7 hok ha0
  refine vp_callSi (va_Run.run (va_runV (As := []) (rest := []) ⟨hx, hb, hml, hown, noTs⟩ (t_X7_words l dC dI s.heap.size G cs tt mm a0 ha0) ⟨cbE 0 (wd_700 hE) (wd_116 hE) (wd_697 hE) rfl rfl (by decide +kernel) ⟨Nat.le_of_ble_eq_true rfl, Nat.le_of_ble_eq_true rfl⟩, (wd_698 hE), (wd_699 hE)⟩ ⟨PT.blind, th_recv hK hP ha0.1 he1 rfl, (th_pre (av := [.ref a0]) trivial hK hP hok hnd hWT hE)⟩ rfl rfl hl.1 rfl (lv_room (Nat.le_of_ble_eq_true rfl)) dX7_addWord_1 ⟨Nat.le_of_ble_eq_true rfl, Nat.le_of_ble_eq_true rfl⟩)) (fun r2 hr2 => ?_)
  refine lv_istore_n (lv' := [(2, .int r2), (0, .ref a0), (1, .ref a1)]) hx hb dX7_addWord_4 rfl hl (by decide) rfl (fun ls hl => ?_)
  refine lv_iload_n hx hb dX7_addWord_5 rfl (lv_at hl 0 rfl) ?_
  refine lv_bipush (v := 10) hx hb dX7_addWord_6 (by decide) ?_
  refine lv_icmp_lt (tgt := 13) hx hb dX7_addWord_8 (by decide) (fun c3 => ?_) (fun c3 => ?_)
  · refine lv_aload_n hx hb dX7_addWord_13 rfl (lv_at hl 1 rfl) ?_
    refine lv_iconst (v := 2) hx hb dX7_addWord_14 (by decide) ?_
    refine lv_iload_n hx hb dX7_addWord_15 rfl (lv_at hl 0 rfl) ?_
    refine lv_iconst (v := 1) hx hb dX7_addWord_16 (by decide) ?_
    refine lv_iadd hx hb dX7_addWord_17 ?_
    refine lv_topi (fun x4 ex4 => ?_)
    refine tc_v hAL hS hA (va_runV (As := [.int 2, .int x4]) (rest := []) ⟨hx, hb, hml, hown, noTs⟩ (t_X7_put l dC dI s.heap.size G cs tt mm a0 ha0 2 x4) ⟨cbE 2 (wd_590 hE) (wd_116 hE) (wd_587 hE) rfl rfl (by decide +kernel) ⟨Nat.le_of_ble_eq_true rfl, Nat.le_of_ble_eq_true rfl⟩, (wd_589 hE), (wd_14 hE)⟩ ⟨PT.blind, th_recv hK hP ha0.1 he1 rfl, (th_pre (av := [.ref a0, .int 2, .int x4]) trivial hK hP hok hnd hWT hE)⟩ rfl rfl hl.1 rfl (lv_room (Nat.le_of_ble_eq_true rfl)) dX7_addWord_18 ⟨Nat.le_of_ble_eq_true rfl, Nat.le_of_ble_eq_true rfl⟩) (fun f5 H locs hr5 hok hP hS => ?_)
    refine lv_aload_n hx hb dX7_addWord_21 rfl (lv_at hl 1 rfl) ?_
    refine lv_iload_n hx hb dX7_addWord_22 rfl (lv_at hl 0 rfl) ?_
    refine lv_aload_n hx hb dX7_addWord_23 rfl (lv_at hl 2 rfl) ?_
    have he6 := ok_X7 hok ha0
    refine tc_v hAL hS hA (va_runV (As := [.int r2, .ref a1]) (rest := []) ⟨hx, hb, hml, hown, noTs⟩ (t_X7_writeWord l dC dI H.size G cs tt mm a0 ha0 r2 a1 ha1) ⟨cbE 2 (wd_704 hE) (wd_116 hE) (wd_701 hE) rfl rfl (by decide +kernel) ⟨Nat.le_of_ble_eq_true rfl, Nat.le_of_ble_eq_true rfl⟩, (wd_702 hE), (wd_703 hE)⟩ ⟨PT.blind, th_recv hK hP ha0.1 he6 rfl, (th_pre (av := [.ref a0, .int r2, .ref a1]) trivial hK hP hok hnd hWT hE)⟩ rfl rfl hl.1 rfl (lv_room (Nat.le_of_ble_eq_true rfl)) dX7_addWord_24 ⟨Nat.le_of_ble_eq_true rfl, Nat.le_of_ble_eq_true rfl⟩) (fun f7 H locs hr7 hok hP hS => ?_)
    refine lv_iload_n hx hb dX7_addWord_27 rfl (lv_at hl 0 rfl) ?_
    exact W.iret (v := r2) hx hb hr (fun t ht hW => ⟨⟨r2, f7, rfl, trivial, hok, by rw [ht]; exact hP⟩, hS.F ht⟩) hS.2.2 dX7_addWord_28
  · refine lv_iconst (v := -1) hx hb dX7_addWord_11 (by decide) ?_
    exact W.iret (v := -1) hx hb hr (fun t ht hW => ⟨⟨-1, f0, rfl, trivial, hok, by rw [ht]; exact hP⟩, hS.F ht⟩) hS.2.2 dX7_addWord_12

set_option maxHeartbeats 4000000 in
set_option maxRecDepth 100000 in
theorem t_X5_readWalk (l : Launch) (dC : Nat → ClassId) (dI : Nat → Nat → Nat) (sz : Nat) (G : GT) (cs : Nat → ClassId) (tt mm : Nat) (a0 : Nat) (ha0 : Ty G a0 5) : Met l yX5_readWalk [.code yX5_readWalk cX5_readWalk 2 none] ({ frames := 4, cells := 0, slots := 0, locals := 160 }) (PT [.ref a0] sz dC dI G cs tt mm (fun _ => True)) (va_Qv (fun (u : Nat → va_E) => True) (BT dC dI G cs tt mm) (AT G sz)) 0 0 (AT G sz) := by
  refine Met.ofW (cc := cX5_readWalk) (maxL := 2) (ret := none) (by decide) rfl ?_
  intro p e s m args below meth c s₁ B hml hv
  obtain ⟨rfl, hsz, ⟨f0, hok, hP, hX⟩, hK, hnd, hWT, hE⟩ := hv
  have hx := B.exec
  have hb := B.bytes
  have hr := B.returns
  have hown : s.vm.findClass RX5 = some m.cls := findClass_of_methodNamed B.named
  have hlocks := B.notSynchronized
  subst hsz
  have hAL : ∀ a, a ∈ gL G → AT G s.heap.size a := fun a h => Or.inl h
  have hA : ∀ q : Nat, s.heap.size ≤ q → AT G s.heap.size q := fun q h => Or.inr h
  have hS : va_S (AT G s.heap.size) s.heap s.heap [] := va_S.rf
  have hl := lv_entry ([.ref a0]) (n := 2) (Nat.le_of_ble_eq_true rfl)
  rw [lg_entry_eq]
  generalize (lg_sl ([.ref a0]) ++ List.replicate (2 - (lg_sl ([.ref a0])).length) Slot.unset).toArray = ls at hl ⊢
  have hl : lv_has ls 2 [(0, .ref a0)] := hl
  refine lv_aload_n hx hb dX5_readWalk_0 rfl (lv_at hl 0 rfl) ?_
  refine lv_iconst (v := 5) hx hb dX5_readWalk_1 (by decide) ?_
  obtain ⟨y3_1, y4_1, y5_1, y6_1, y7_1, y8_1, y9_1, he1⟩ := ok_X5 hok ha0
  refine tc_i hAL hS hA (va_runV (As := [.int 5]) (rest := []) ⟨hx, hb, hml, hown, noTs⟩ (t_X5_stands l dC dI s.heap.size G cs tt mm a0 ha0 5) ⟨cbE 1 (wd_577 hE) (wd_118 hE) (wd_574 hE) rfl rfl (by decide +kernel) ⟨Nat.le_of_ble_eq_true rfl, Nat.le_of_ble_eq_true rfl⟩, (wd_576 hE), (wd_12 hE)⟩ ⟨PT.blind, th_recv hK hP ha0.1 he1 rfl, (th_pre (av := [.ref a0, .int 5]) trivial hK hP hok hnd hWT hE)⟩ rfl rfl hl.1 rfl (lv_room (Nat.le_of_ble_eq_true rfl)) dX5_readWalk_2 ⟨Nat.le_of_ble_eq_true rfl, Nat.le_of_ble_eq_true rfl⟩) (fun r2 f2 H locs hr2 hok hP hS => ?_)
  refine lv_if_eq (tgt := 32) hx hb dX5_readWalk_5 (by decide) (fun c3 => ?_) (fun c3 => ?_)
  · exact W.vret hx hb hr (fun t ht hW => ⟨⟨f2, rfl, trivial, hok, by rw [ht]; exact hP⟩, hS.F ht⟩) hS.2.2 dX5_readWalk_32
  · refine lv_aload_n hx hb dX5_readWalk_8 rfl (lv_at hl 0 rfl) ?_
    refine lv_aload_n hx hb dX5_readWalk_9 rfl (lv_at hl 0 rfl) ?_
    obtain ⟨y3_4, y4_4, y5_4, y6_4, y7_4, y8_4, y9_4, he4⟩ := ok_X5 hok ha0
    refine th_get hx hb (ly_X5 hE) hown hK hP ha0.1 he4 rfl 1 (by decide) (wd_228 hE) (fun _ h9 => h9) rfl dX5_readWalk_10 ?_
    have he5 := ok_X7 hok (wt_X5_1 hWT ha0)
    refine vp_callSi (va_Run.run (va_runV (As := []) (rest := [.ref a0]) ⟨hx, hb, hml, hown, noTs⟩ (t_X7_isFull l dC dI H.size G cs tt mm (gR G a0 1) ((wt_X5_1 hWT ha0))) ⟨cbE 0 (wd_633 hE) (wd_116 hE) (wd_630 hE) rfl rfl (by decide +kernel) ⟨Nat.le_of_ble_eq_true rfl, Nat.le_of_ble_eq_true rfl⟩, (wd_631 hE), (wd_632 hE)⟩ ⟨PT.blind, th_recv hK hP (wt_X5_1 hWT ha0).1 he5 rfl, (th_pre (av := [.ref (gR G a0 1)]) trivial hK hP hok hnd hWT hE)⟩ rfl rfl hl.1 rfl (lv_room (Nat.le_of_ble_eq_true rfl)) dX5_readWalk_13 ⟨Nat.le_of_ble_eq_true rfl, Nat.le_of_ble_eq_true rfl⟩)) (fun r6 hr6 => ?_)
    refine lv_if_ne (tgt := 23) hx hb dX5_readWalk_16 (by decide) (fun c7 => ?_) (fun c7 => ?_)
    · refine lv_iconst (v := 0) hx hb dX5_readWalk_23 (by decide) ?_
      refine lv_bipush (v := 6) hx hb dX5_readWalk_24 (by decide) ?_
      refine tc_i hAL hS hA (va_runV (As := [.int 0, .int 6]) (rest := []) ⟨hx, hb, hml, hown, noTs⟩ (t_X5_passes l dC dI H.size G cs tt mm a0 ha0 0 6) ⟨cbE 2 (wd_561 hE) (wd_118 hE) (wd_558 hE) rfl rfl (by decide +kernel) ⟨Nat.le_of_ble_eq_true rfl, Nat.le_of_ble_eq_true rfl⟩, (wd_560 hE), (wd_10 hE)⟩ ⟨PT.blind, th_recv hK hP ha0.1 he4 rfl, (th_pre (av := [.ref a0, .int 0, .int 6]) trivial hK hP hok hnd hWT hE)⟩ rfl rfl hl.1 rfl (lv_room (Nat.le_of_ble_eq_true rfl)) dX5_readWalk_26 ⟨Nat.le_of_ble_eq_true rfl, Nat.le_of_ble_eq_true rfl⟩) (fun r8 f8 H locs hr8 hok hP hS => ?_)
      refine lv_if_ne (tgt := 33) hx hb dX5_readWalk_29 (by decide) (fun c9 => ?_) (fun c9 => ?_)
      · refine lv_aload_n hx hb dX5_readWalk_33 rfl (lv_at hl 0 rfl) ?_
        refine lv_dup hx hb dX5_readWalk_34 rfl ?_
        obtain ⟨y3_10, y4_10, y5_10, y6_10, y7_10, y8_10, y9_10, he10⟩ := ok_X5 hok ha0
        refine th_get hx hb (ly_X5 hE) hown hK hP ha0.1 he10 rfl 4 (by decide) (wd_231 hE) (fun _ h9 => h9) rfl dX5_readWalk_35 ?_
        refine lv_iconst (v := 1) hx hb dX5_readWalk_38 (by decide) ?_
        refine lv_iadd hx hb dX5_readWalk_39 ?_
        refine lv_topi (fun x11 ex11 => ?_)
        refine th_put (v := .int x11) (ty := .int) hx hb (ly_X5 hE) tyX5 tyX5_ok nmX5 hown hK hP hnd hAL hS ha0.1 he10 rfl 4 (by decide) (wd_231 hE) (fun _ h9 => h9) rfl (by decide +kernel) rfl rfl (Nat.le_of_ble_eq_true rfl) (up_X5 hok ha0 ⟨y3_10, x11, y5_10, y6_10, y7_10, y8_10, y9_10, rfl⟩) dX5_readWalk_40 (fun f12 H locs hfa12 hfo12 hok hP hS => ?_)
        refine lv_aload_n hx hb dX5_readWalk_43 rfl (lv_at hl 0 rfl) ?_
        refine lv_aload_n hx hb dX5_readWalk_44 rfl (lv_at hl 0 rfl) ?_
        refine tc_i hAL hS hA (va_runV (As := []) (rest := [.ref a0]) ⟨hx, hb, hml, hown, noTs⟩ (t_X5_readPlace l dC dI H.size G cs tt mm a0 ha0) ⟨cbE 0 (wd_602 hE) (wd_118 hE) (wd_599 hE) rfl rfl (by decide +kernel) ⟨Nat.le_of_ble_eq_true rfl, Nat.le_of_ble_eq_true rfl⟩, (wd_601 hE), (wd_16 hE)⟩ ⟨PT.blind, th_recv hK hP ha0.1 hfa12 rfl, (th_pre (av := [.ref a0]) trivial hK hP hok hnd hWT hE)⟩ rfl rfl hl.1 rfl (lv_room (Nat.le_of_ble_eq_true rfl)) dX5_readWalk_45 ⟨Nat.le_of_ble_eq_true rfl, Nat.le_of_ble_eq_true rfl⟩) (fun r13 f13 H locs hr13 hok hP hS => ?_)
        obtain ⟨y3_14, y4_14, y5_14, y6_14, y7_14, y8_14, y9_14, he14⟩ := ok_X5 hok ha0
        refine th_put (v := .int r13) (ty := .int) hx hb (ly_X5 hE) tyX5 tyX5_ok nmX5 hown hK hP hnd hAL hS ha0.1 he14 rfl 5 (by decide) (wd_232 hE) (fun _ h9 => h9) rfl (by decide +kernel) rfl rfl (Nat.le_of_ble_eq_true rfl) (up_X5 hok ha0 ⟨y3_14, y4_14, r13, y6_14, y7_14, y8_14, y9_14, rfl⟩) dX5_readWalk_48 (fun f15 H locs hfa15 hfo15 hok hP hS => ?_)
        refine lv_aload_n hx hb dX5_readWalk_51 rfl (lv_at hl 0 rfl) ?_
        refine th_get hx hb (ly_X5 hE) hown hK hP ha0.1 hfa15 rfl 2 (by decide) (wd_229 hE) (fun _ h9 => h9) rfl dX5_readWalk_52 ?_
        refine lv_aload_n hx hb dX5_readWalk_55 rfl (lv_at hl 0 rfl) ?_
        refine th_get hx hb (ly_X5 hE) hown hK hP ha0.1 hfa15 rfl 5 (by decide) (wd_232 hE) (fun _ h9 => h9) rfl dX5_readWalk_56 ?_
        refine lv_iconst (v := 0) hx hb dX5_readWalk_59 (by decide) ?_
        obtain ⟨y2_16, y3_16, hy3_16, he16⟩ := ok_X10 hok (wt_X5_2 hWT ha0)
        refine tc_v hAL hS hA (va_runV (As := [.int r13, .int 0]) (rest := []) ⟨hx, hb, hml, hown, noTs⟩ (t_X10_start l dC dI H.size G cs tt mm (gR G a0 2) ((wt_X5_2 hWT ha0)) r13 0) ⟨cbE 2 (wd_637 hE) (wd_120 hE) (wd_634 hE) rfl rfl (by decide +kernel) ⟨Nat.le_of_ble_eq_true rfl, Nat.le_of_ble_eq_true rfl⟩, (wd_635 hE), (wd_636 hE)⟩ ⟨PT.blind, th_recv hK hP (wt_X5_2 hWT ha0).1 he16 rfl, (th_pre (av := [.ref (gR G a0 2), .int r13, .int 0]) trivial hK hP hok hnd hWT hE)⟩ rfl rfl hl.1 rfl (lv_room (Nat.le_of_ble_eq_true rfl)) dX5_readWalk_60 ⟨Nat.le_of_ble_eq_true rfl, Nat.le_of_ble_eq_true rfl⟩) (fun f17 H locs hr17 hok hP hS => ?_)
        refine lv_aload_n hx hb dX5_readWalk_63 rfl (lv_at hl 0 rfl) ?_
        obtain ⟨y3_18, y4_18, y5_18, y6_18, y7_18, y8_18, y9_18, he18⟩ := ok_X5 hok ha0
        refine tc_v hAL hS hA (va_runV (As := []) (rest := []) ⟨hx, hb, hml, hown, noTs⟩ (t_X5_readNumber l dC dI H.size G cs tt mm a0 ha0) ⟨cbE 0 (wd_641 hE) (wd_118 hE) (wd_638 hE) rfl rfl (by decide +kernel) ⟨Nat.le_of_ble_eq_true rfl, Nat.le_of_ble_eq_true rfl⟩, (wd_640 hE), (wd_19 hE)⟩ ⟨PT.blind, th_recv hK hP ha0.1 he18 rfl, (th_pre (av := [.ref a0]) trivial hK hP hok hnd hWT hE)⟩ rfl rfl hl.1 rfl (lv_room (Nat.le_of_ble_eq_true rfl)) dX5_readWalk_64 ⟨Nat.le_of_ble_eq_true rfl, Nat.le_of_ble_eq_true rfl⟩) (fun f19 H locs hr19 hok hP hS => ?_)
        refine lv_iconst (v := 0) hx hb dX5_readWalk_67 (by decide) ?_
        refine lv_istore_n (lv' := [(1, .int 0), (0, .ref a0)]) hx hb dX5_readWalk_68 rfl hl (by decide) rfl (fun ls hl => ?_)
        refine w_ind (I := fun n f H locs ls => OKT G cs tt mm f ∧ va_P (dC, dI) vwCl (va_pl (gL G) f) H ∧ va_S (AT G s.heap.size) s.heap H locs ∧ ∃ (w1_20 : Int32), n = (2147483647 - w1_20.toInt).toNat ∧ 0 ≤ w1_20 ∧ lv_has ls 2 [(0, .ref a0), (1, .int w1_20)]) (fun n f20 H locs ls hI ih20 => ?_) _ f19 _ _ _ ⟨hok, hP, hS, 0, rfl, (by first | omega | (simp only [i_lt, i_le, i_eq, ti_m9, ti_m1, ti_0, ti_1, ti_2, ti_3, ti_4, ti_5, ti_6, ti_7, ti_9, ti_12, ti_20, ti_99, ti_700, ti_24, ti_156, ti_72, ti_8, ti_60, ti_543, ti_10, ti_33, ti_51, ti_178, ti_119, ti_111, ti_114, ti_100, ti_32, ti_62, ti_59, ti_48, ti_701, ti_97, ti_122, ti_57, ti_73, ti_128, ti_61] at c3 c7 c9 ⊢; omega)), lv_sub hl [1, 0] rfl⟩
        obtain ⟨hok, hP, hS, w1_20, hmu20, hlo20, hl⟩ := hI
        subst hmu20
        refine lv_iload_n hx hb dX5_readWalk_69 rfl (lv_at hl 1 rfl) ?_
        refine lv_bipush (v := 24) hx hb dX5_readWalk_70 (by decide) ?_
        refine lv_icmp_gt (tgt := 96) hx hb dX5_readWalk_72 (by decide) (fun c21 => ?_) (fun c21 => ?_)
        · refine lv_aload_n hx hb dX5_readWalk_96 rfl (lv_at hl 0 rfl) ?_
          obtain ⟨y3_22, y4_22, y5_22, y6_22, y7_22, y8_22, y9_22, he22⟩ := ok_X5 hok ha0
          refine th_get hx hb (ly_X5 hE) hown hK hP ha0.1 he22 rfl 7 (by decide) (wd_234 hE) (fun _ h9 => h9) rfl dX5_readWalk_97 ?_
          refine lv_if_ne (tgt := 122) hx hb dX5_readWalk_100 (by decide) (fun c23 => ?_) (fun c23 => ?_)
          · exact W.vret hx hb hr (fun t ht hW => ⟨⟨f20, rfl, trivial, hok, by rw [ht]; exact hP⟩, hS.F ht⟩) hS.2.2 dX5_readWalk_122
          · refine lv_aload_n hx hb dX5_readWalk_103 rfl (lv_at hl 0 rfl) ?_
            refine tc_i hAL hS hA (va_runV (As := []) (rest := []) ⟨hx, hb, hml, hown, noTs⟩ (t_X5_endsLine l dC dI H.size G cs tt mm a0 ha0) ⟨cbE 0 (wd_581 hE) (wd_118 hE) (wd_578 hE) rfl rfl (by decide +kernel) ⟨Nat.le_of_ble_eq_true rfl, Nat.le_of_ble_eq_true rfl⟩, (wd_580 hE), (wd_13 hE)⟩ ⟨PT.blind, th_recv hK hP ha0.1 he22 rfl, (th_pre (av := [.ref a0]) trivial hK hP hok hnd hWT hE)⟩ rfl rfl hl.1 rfl (lv_room (Nat.le_of_ble_eq_true rfl)) dX5_readWalk_104 ⟨Nat.le_of_ble_eq_true rfl, Nat.le_of_ble_eq_true rfl⟩) (fun r24 f24 H locs hr24 hok hP hS => ?_)
            refine lv_if_eq (tgt := 122) hx hb dX5_readWalk_107 (by decide) (fun c25 => ?_) (fun c25 => ?_)
            · exact W.vret hx hb hr (fun t ht hW => ⟨⟨f24, rfl, trivial, hok, by rw [ht]; exact hP⟩, hS.F ht⟩) hS.2.2 dX5_readWalk_122
            · refine lv_aload_n hx hb dX5_readWalk_110 rfl (lv_at hl 0 rfl) ?_
              obtain ⟨y3_26, y4_26, y5_26, y6_26, y7_26, y8_26, y9_26, he26⟩ := ok_X5 hok ha0
              refine th_get hx hb (ly_X5 hE) hown hK hP ha0.1 he26 rfl 1 (by decide) (wd_228 hE) (fun _ h9 => h9) rfl dX5_readWalk_111 ?_
              refine lv_aload_n hx hb dX5_readWalk_114 rfl (lv_at hl 0 rfl) ?_
              refine th_get hx hb (ly_X5 hE) hown hK hP ha0.1 he26 rfl 2 (by decide) (wd_229 hE) (fun _ h9 => h9) rfl dX5_readWalk_115 ?_
              have he27 := ok_X7 hok (wt_X5_1 hWT ha0)
              refine tc_i hAL hS hA (va_runV (As := [.ref (gR G a0 2)]) (rest := []) ⟨hx, hb, hml, hown, noTs⟩ (t_X7_addWord l dC dI H.size G cs tt mm (gR G a0 1) ((wt_X5_1 hWT ha0)) (gR G a0 2) ((wt_X5_2 hWT ha0))) ⟨cbE 1 (wd_696 hE) (wd_116 hE) (wd_693 hE) rfl rfl (by decide +kernel) ⟨Nat.le_of_ble_eq_true rfl, Nat.le_of_ble_eq_true rfl⟩, (wd_694 hE), (wd_695 hE)⟩ ⟨PT.blind, th_recv hK hP (wt_X5_1 hWT ha0).1 he27 rfl, (th_pre (av := [.ref (gR G a0 1), .ref (gR G a0 2)]) trivial hK hP hok hnd hWT hE)⟩ rfl rfl hl.1 rfl (lv_room (Nat.le_of_ble_eq_true rfl)) dX5_readWalk_118 ⟨Nat.le_of_ble_eq_true rfl, Nat.le_of_ble_eq_true rfl⟩) (fun r28 f28 H locs hr28 hok hP hS => ?_)
              refine lv_pop hx hb dX5_readWalk_121 rfl ?_
              exact W.vret hx hb hr (fun t ht hW => ⟨⟨f28, rfl, trivial, hok, by rw [ht]; exact hP⟩, hS.F ht⟩) hS.2.2 dX5_readWalk_122
        · refine lv_aload_n hx hb dX5_readWalk_75 rfl (lv_at hl 0 rfl) ?_
          obtain ⟨y3_29, y4_29, y5_29, y6_29, y7_29, y8_29, y9_29, he29⟩ := ok_X5 hok ha0
          refine vp_callSi (va_Run.run (va_runV (As := []) (rest := []) ⟨hx, hb, hml, hown, noTs⟩ (t_X5_isSign l dC dI H.size G cs tt mm a0 ha0) ⟨cbE 0 (wd_658 hE) (wd_118 hE) (wd_655 hE) rfl rfl (by decide +kernel) ⟨Nat.le_of_ble_eq_true rfl, Nat.le_of_ble_eq_true rfl⟩, (wd_657 hE), (wd_20 hE)⟩ ⟨PT.blind, th_recv hK hP ha0.1 he29 rfl, (th_pre (av := [.ref a0]) trivial hK hP hok hnd hWT hE)⟩ rfl rfl hl.1 rfl (lv_room (Nat.le_of_ble_eq_true rfl)) dX5_readWalk_76 ⟨Nat.le_of_ble_eq_true rfl, Nat.le_of_ble_eq_true rfl⟩)) (fun r30 hr30 => ?_)
          refine lv_if_eq (tgt := 96) hx hb dX5_readWalk_79 (by decide) (fun c31 => ?_) (fun c31 => ?_)
          · refine lv_aload_n hx hb dX5_readWalk_96 rfl (lv_at hl 0 rfl) ?_
            refine th_get hx hb (ly_X5 hE) hown hK hP ha0.1 he29 rfl 7 (by decide) (wd_234 hE) (fun _ h9 => h9) rfl dX5_readWalk_97 ?_
            refine lv_if_ne (tgt := 122) hx hb dX5_readWalk_100 (by decide) (fun c32 => ?_) (fun c32 => ?_)
            · exact W.vret hx hb hr (fun t ht hW => ⟨⟨f20, rfl, trivial, hok, by rw [ht]; exact hP⟩, hS.F ht⟩) hS.2.2 dX5_readWalk_122
            · refine lv_aload_n hx hb dX5_readWalk_103 rfl (lv_at hl 0 rfl) ?_
              refine tc_i hAL hS hA (va_runV (As := []) (rest := []) ⟨hx, hb, hml, hown, noTs⟩ (t_X5_endsLine l dC dI H.size G cs tt mm a0 ha0) ⟨cbE 0 (wd_581 hE) (wd_118 hE) (wd_578 hE) rfl rfl (by decide +kernel) ⟨Nat.le_of_ble_eq_true rfl, Nat.le_of_ble_eq_true rfl⟩, (wd_580 hE), (wd_13 hE)⟩ ⟨PT.blind, th_recv hK hP ha0.1 he29 rfl, (th_pre (av := [.ref a0]) trivial hK hP hok hnd hWT hE)⟩ rfl rfl hl.1 rfl (lv_room (Nat.le_of_ble_eq_true rfl)) dX5_readWalk_104 ⟨Nat.le_of_ble_eq_true rfl, Nat.le_of_ble_eq_true rfl⟩) (fun r33 f33 H locs hr33 hok hP hS => ?_)
              refine lv_if_eq (tgt := 122) hx hb dX5_readWalk_107 (by decide) (fun c34 => ?_) (fun c34 => ?_)
              · exact W.vret hx hb hr (fun t ht hW => ⟨⟨f33, rfl, trivial, hok, by rw [ht]; exact hP⟩, hS.F ht⟩) hS.2.2 dX5_readWalk_122
              · refine lv_aload_n hx hb dX5_readWalk_110 rfl (lv_at hl 0 rfl) ?_
                obtain ⟨y3_35, y4_35, y5_35, y6_35, y7_35, y8_35, y9_35, he35⟩ := ok_X5 hok ha0
                refine th_get hx hb (ly_X5 hE) hown hK hP ha0.1 he35 rfl 1 (by decide) (wd_228 hE) (fun _ h9 => h9) rfl dX5_readWalk_111 ?_
                refine lv_aload_n hx hb dX5_readWalk_114 rfl (lv_at hl 0 rfl) ?_
                refine th_get hx hb (ly_X5 hE) hown hK hP ha0.1 he35 rfl 2 (by decide) (wd_229 hE) (fun _ h9 => h9) rfl dX5_readWalk_115 ?_
                have he36 := ok_X7 hok (wt_X5_1 hWT ha0)
                refine tc_i hAL hS hA (va_runV (As := [.ref (gR G a0 2)]) (rest := []) ⟨hx, hb, hml, hown, noTs⟩ (t_X7_addWord l dC dI H.size G cs tt mm (gR G a0 1) ((wt_X5_1 hWT ha0)) (gR G a0 2) ((wt_X5_2 hWT ha0))) ⟨cbE 1 (wd_696 hE) (wd_116 hE) (wd_693 hE) rfl rfl (by decide +kernel) ⟨Nat.le_of_ble_eq_true rfl, Nat.le_of_ble_eq_true rfl⟩, (wd_694 hE), (wd_695 hE)⟩ ⟨PT.blind, th_recv hK hP (wt_X5_1 hWT ha0).1 he36 rfl, (th_pre (av := [.ref (gR G a0 1), .ref (gR G a0 2)]) trivial hK hP hok hnd hWT hE)⟩ rfl rfl hl.1 rfl (lv_room (Nat.le_of_ble_eq_true rfl)) dX5_readWalk_118 ⟨Nat.le_of_ble_eq_true rfl, Nat.le_of_ble_eq_true rfl⟩) (fun r37 f37 H locs hr37 hok hP hS => ?_)
                refine lv_pop hx hb dX5_readWalk_121 rfl ?_
                exact W.vret hx hb hr (fun t ht hW => ⟨⟨f37, rfl, trivial, hok, by rw [ht]; exact hP⟩, hS.F ht⟩) hS.2.2 dX5_readWalk_122
          · refine lv_aload_n hx hb dX5_readWalk_82 rfl (lv_at hl 0 rfl) ?_
            refine tc_v hAL hS hA (va_runV (As := []) (rest := []) ⟨hx, hb, hml, hown, noTs⟩ (t_X5_readStep l dC dI H.size G cs tt mm a0 ha0) ⟨cbE 0 (wd_662 hE) (wd_118 hE) (wd_659 hE) rfl rfl (by decide +kernel) ⟨Nat.le_of_ble_eq_true rfl, Nat.le_of_ble_eq_true rfl⟩, (wd_661 hE), (wd_21 hE)⟩ ⟨PT.blind, th_recv hK hP ha0.1 he29 rfl, (th_pre (av := [.ref a0]) trivial hK hP hok hnd hWT hE)⟩ rfl rfl hl.1 rfl (lv_room (Nat.le_of_ble_eq_true rfl)) dX5_readWalk_83 ⟨Nat.le_of_ble_eq_true rfl, Nat.le_of_ble_eq_true rfl⟩) (fun f38 H locs hr38 hok hP hS => ?_)
            refine lv_aload_n hx hb dX5_readWalk_86 rfl (lv_at hl 0 rfl) ?_
            obtain ⟨y3_39, y4_39, y5_39, y6_39, y7_39, y8_39, y9_39, he39⟩ := ok_X5 hok ha0
            refine tc_v hAL hS hA (va_runV (As := []) (rest := []) ⟨hx, hb, hml, hown, noTs⟩ (t_X5_readNumber l dC dI H.size G cs tt mm a0 ha0) ⟨cbE 0 (wd_641 hE) (wd_118 hE) (wd_638 hE) rfl rfl (by decide +kernel) ⟨Nat.le_of_ble_eq_true rfl, Nat.le_of_ble_eq_true rfl⟩, (wd_640 hE), (wd_19 hE)⟩ ⟨PT.blind, th_recv hK hP ha0.1 he39 rfl, (th_pre (av := [.ref a0]) trivial hK hP hok hnd hWT hE)⟩ rfl rfl hl.1 rfl (lv_room (Nat.le_of_ble_eq_true rfl)) dX5_readWalk_87 ⟨Nat.le_of_ble_eq_true rfl, Nat.le_of_ble_eq_true rfl⟩) (fun f40 H locs hr40 hok hP hS => ?_)
            obtain ⟨z41, ez41⟩ : ∃ z : Int32, z = w1_20 + 1 := ⟨_, rfl⟩
            refine lv_iinc (v := z41) (lv' := [(1, .int z41), (0, .ref a0)]) hx hb dX5_readWalk_90 hl (k := 1) rfl (by rw [ez41]; rfl) (by decide) rfl (fun ls hl => ?_)
            have ic41 : z41.toInt = w1_20.toInt + 1 := by rw [ez41]; exact ic_up (by have := i_rng r2; have := i_rng r6; have := i_rng r8; have := i_rng w1_20; have := i_rng r30; simp only [i_lt, i_le, i_eq, ti_m9, ti_m1, ti_0, ti_1, ti_2, ti_3, ti_4, ti_5, ti_6, ti_7, ti_9, ti_12, ti_20, ti_99, ti_700, ti_24, ti_156, ti_72, ti_8, ti_60, ti_543, ti_10, ti_33, ti_51, ti_178, ti_119, ti_111, ti_114, ti_100, ti_32, ti_62, ti_59, ti_48, ti_701, ti_97, ti_122, ti_57, ti_73, ti_128, ti_61] at c3 c7 c9 hlo20 c21 c31 ⊢; omega)
            refine lv_goto (tgt := 69) hx hb dX5_readWalk_93 (by decide) ?_
            exact ih20 _ f40 _ _ _ (by first | omega | (simp only [i_lt, i_le, i_eq, ti_m9, ti_m1, ti_0, ti_1, ti_2, ti_3, ti_4, ti_5, ti_6, ti_7, ti_9, ti_12, ti_20, ti_99, ti_700, ti_24, ti_156, ti_72, ti_8, ti_60, ti_543, ti_10, ti_33, ti_51, ti_178, ti_119, ti_111, ti_114, ti_100, ti_32, ti_62, ti_59, ti_48, ti_701, ti_97, ti_122, ti_57, ti_73, ti_128, ti_61, ic41] at c3 c7 c9 hlo20 c21 c31 ic41 ⊢; omega)) ⟨hok, hP, hS, z41, rfl, (by first | omega | (simp only [i_lt, i_le, i_eq, ti_m9, ti_m1, ti_0, ti_1, ti_2, ti_3, ti_4, ti_5, ti_6, ti_7, ti_9, ti_12, ti_20, ti_99, ti_700, ti_24, ti_156, ti_72, ti_8, ti_60, ti_543, ti_10, ti_33, ti_51, ti_178, ti_119, ti_111, ti_114, ti_100, ti_32, ti_62, ti_59, ti_48, ti_701, ti_97, ti_122, ti_57, ti_73, ti_128, ti_61, ic41] at c3 c7 c9 hlo20 c21 c31 ⊢; omega)), lv_sub hl [1, 0] rfl⟩
      · exact W.vret hx hb hr (fun t ht hW => ⟨⟨f8, rfl, trivial, hok, by rw [ht]; exact hP⟩, hS.F ht⟩) hS.2.2 dX5_readWalk_32
    · refine lv_iconst (v := 1) hx hb dX5_readWalk_19 (by decide) ?_
      refine lv_goto (tgt := 24) hx hb dX5_readWalk_20 (by decide) ?_
      refine lv_bipush (v := 6) hx hb dX5_readWalk_24 (by decide) ?_
      refine tc_i hAL hS hA (va_runV (As := [.int 1, .int 6]) (rest := []) ⟨hx, hb, hml, hown, noTs⟩ (t_X5_passes l dC dI H.size G cs tt mm a0 ha0 1 6) ⟨cbE 2 (wd_561 hE) (wd_118 hE) (wd_558 hE) rfl rfl (by decide +kernel) ⟨Nat.le_of_ble_eq_true rfl, Nat.le_of_ble_eq_true rfl⟩, (wd_560 hE), (wd_10 hE)⟩ ⟨PT.blind, th_recv hK hP ha0.1 he4 rfl, (th_pre (av := [.ref a0, .int 1, .int 6]) trivial hK hP hok hnd hWT hE)⟩ rfl rfl hl.1 rfl (lv_room (Nat.le_of_ble_eq_true rfl)) dX5_readWalk_26 ⟨Nat.le_of_ble_eq_true rfl, Nat.le_of_ble_eq_true rfl⟩) (fun r42 f42 H locs hr42 hok hP hS => ?_)
      refine lv_if_ne (tgt := 33) hx hb dX5_readWalk_29 (by decide) (fun c43 => ?_) (fun c43 => ?_)
      · refine lv_aload_n hx hb dX5_readWalk_33 rfl (lv_at hl 0 rfl) ?_
        refine lv_dup hx hb dX5_readWalk_34 rfl ?_
        obtain ⟨y3_44, y4_44, y5_44, y6_44, y7_44, y8_44, y9_44, he44⟩ := ok_X5 hok ha0
        refine th_get hx hb (ly_X5 hE) hown hK hP ha0.1 he44 rfl 4 (by decide) (wd_231 hE) (fun _ h9 => h9) rfl dX5_readWalk_35 ?_
        refine lv_iconst (v := 1) hx hb dX5_readWalk_38 (by decide) ?_
        refine lv_iadd hx hb dX5_readWalk_39 ?_
        refine lv_topi (fun x45 ex45 => ?_)
        refine th_put (v := .int x45) (ty := .int) hx hb (ly_X5 hE) tyX5 tyX5_ok nmX5 hown hK hP hnd hAL hS ha0.1 he44 rfl 4 (by decide) (wd_231 hE) (fun _ h9 => h9) rfl (by decide +kernel) rfl rfl (Nat.le_of_ble_eq_true rfl) (up_X5 hok ha0 ⟨y3_44, x45, y5_44, y6_44, y7_44, y8_44, y9_44, rfl⟩) dX5_readWalk_40 (fun f46 H locs hfa46 hfo46 hok hP hS => ?_)
        refine lv_aload_n hx hb dX5_readWalk_43 rfl (lv_at hl 0 rfl) ?_
        refine lv_aload_n hx hb dX5_readWalk_44 rfl (lv_at hl 0 rfl) ?_
        refine tc_i hAL hS hA (va_runV (As := []) (rest := [.ref a0]) ⟨hx, hb, hml, hown, noTs⟩ (t_X5_readPlace l dC dI H.size G cs tt mm a0 ha0) ⟨cbE 0 (wd_602 hE) (wd_118 hE) (wd_599 hE) rfl rfl (by decide +kernel) ⟨Nat.le_of_ble_eq_true rfl, Nat.le_of_ble_eq_true rfl⟩, (wd_601 hE), (wd_16 hE)⟩ ⟨PT.blind, th_recv hK hP ha0.1 hfa46 rfl, (th_pre (av := [.ref a0]) trivial hK hP hok hnd hWT hE)⟩ rfl rfl hl.1 rfl (lv_room (Nat.le_of_ble_eq_true rfl)) dX5_readWalk_45 ⟨Nat.le_of_ble_eq_true rfl, Nat.le_of_ble_eq_true rfl⟩) (fun r47 f47 H locs hr47 hok hP hS => ?_)
        obtain ⟨y3_48, y4_48, y5_48, y6_48, y7_48, y8_48, y9_48, he48⟩ := ok_X5 hok ha0
        refine th_put (v := .int r47) (ty := .int) hx hb (ly_X5 hE) tyX5 tyX5_ok nmX5 hown hK hP hnd hAL hS ha0.1 he48 rfl 5 (by decide) (wd_232 hE) (fun _ h9 => h9) rfl (by decide +kernel) rfl rfl (Nat.le_of_ble_eq_true rfl) (up_X5 hok ha0 ⟨y3_48, y4_48, r47, y6_48, y7_48, y8_48, y9_48, rfl⟩) dX5_readWalk_48 (fun f49 H locs hfa49 hfo49 hok hP hS => ?_)
        refine lv_aload_n hx hb dX5_readWalk_51 rfl (lv_at hl 0 rfl) ?_
        refine th_get hx hb (ly_X5 hE) hown hK hP ha0.1 hfa49 rfl 2 (by decide) (wd_229 hE) (fun _ h9 => h9) rfl dX5_readWalk_52 ?_
        refine lv_aload_n hx hb dX5_readWalk_55 rfl (lv_at hl 0 rfl) ?_
        refine th_get hx hb (ly_X5 hE) hown hK hP ha0.1 hfa49 rfl 5 (by decide) (wd_232 hE) (fun _ h9 => h9) rfl dX5_readWalk_56 ?_
        refine lv_iconst (v := 0) hx hb dX5_readWalk_59 (by decide) ?_
        obtain ⟨y2_50, y3_50, hy3_50, he50⟩ := ok_X10 hok (wt_X5_2 hWT ha0)
        refine tc_v hAL hS hA (va_runV (As := [.int r47, .int 0]) (rest := []) ⟨hx, hb, hml, hown, noTs⟩ (t_X10_start l dC dI H.size G cs tt mm (gR G a0 2) ((wt_X5_2 hWT ha0)) r47 0) ⟨cbE 2 (wd_637 hE) (wd_120 hE) (wd_634 hE) rfl rfl (by decide +kernel) ⟨Nat.le_of_ble_eq_true rfl, Nat.le_of_ble_eq_true rfl⟩, (wd_635 hE), (wd_636 hE)⟩ ⟨PT.blind, th_recv hK hP (wt_X5_2 hWT ha0).1 he50 rfl, (th_pre (av := [.ref (gR G a0 2), .int r47, .int 0]) trivial hK hP hok hnd hWT hE)⟩ rfl rfl hl.1 rfl (lv_room (Nat.le_of_ble_eq_true rfl)) dX5_readWalk_60 ⟨Nat.le_of_ble_eq_true rfl, Nat.le_of_ble_eq_true rfl⟩) (fun f51 H locs hr51 hok hP hS => ?_)
        refine lv_aload_n hx hb dX5_readWalk_63 rfl (lv_at hl 0 rfl) ?_
        obtain ⟨y3_52, y4_52, y5_52, y6_52, y7_52, y8_52, y9_52, he52⟩ := ok_X5 hok ha0
        refine tc_v hAL hS hA (va_runV (As := []) (rest := []) ⟨hx, hb, hml, hown, noTs⟩ (t_X5_readNumber l dC dI H.size G cs tt mm a0 ha0) ⟨cbE 0 (wd_641 hE) (wd_118 hE) (wd_638 hE) rfl rfl (by decide +kernel) ⟨Nat.le_of_ble_eq_true rfl, Nat.le_of_ble_eq_true rfl⟩, (wd_640 hE), (wd_19 hE)⟩ ⟨PT.blind, th_recv hK hP ha0.1 he52 rfl, (th_pre (av := [.ref a0]) trivial hK hP hok hnd hWT hE)⟩ rfl rfl hl.1 rfl (lv_room (Nat.le_of_ble_eq_true rfl)) dX5_readWalk_64 ⟨Nat.le_of_ble_eq_true rfl, Nat.le_of_ble_eq_true rfl⟩) (fun f53 H locs hr53 hok hP hS => ?_)
        refine lv_iconst (v := 0) hx hb dX5_readWalk_67 (by decide) ?_
        refine lv_istore_n (lv' := [(1, .int 0), (0, .ref a0)]) hx hb dX5_readWalk_68 rfl hl (by decide) rfl (fun ls hl => ?_)
        refine w_ind (I := fun n f H locs ls => OKT G cs tt mm f ∧ va_P (dC, dI) vwCl (va_pl (gL G) f) H ∧ va_S (AT G s.heap.size) s.heap H locs ∧ ∃ (w1_54 : Int32), n = (2147483647 - w1_54.toInt).toNat ∧ 0 ≤ w1_54 ∧ lv_has ls 2 [(0, .ref a0), (1, .int w1_54)]) (fun n f54 H locs ls hI ih54 => ?_) _ f53 _ _ _ ⟨hok, hP, hS, 0, rfl, (by first | omega | (simp only [i_lt, i_le, i_eq, ti_m9, ti_m1, ti_0, ti_1, ti_2, ti_3, ti_4, ti_5, ti_6, ti_7, ti_9, ti_12, ti_20, ti_99, ti_700, ti_24, ti_156, ti_72, ti_8, ti_60, ti_543, ti_10, ti_33, ti_51, ti_178, ti_119, ti_111, ti_114, ti_100, ti_32, ti_62, ti_59, ti_48, ti_701, ti_97, ti_122, ti_57, ti_73, ti_128, ti_61] at c3 c7 c43 ⊢; omega)), lv_sub hl [1, 0] rfl⟩
        obtain ⟨hok, hP, hS, w1_54, hmu54, hlo54, hl⟩ := hI
        subst hmu54
        refine lv_iload_n hx hb dX5_readWalk_69 rfl (lv_at hl 1 rfl) ?_
        refine lv_bipush (v := 24) hx hb dX5_readWalk_70 (by decide) ?_
        refine lv_icmp_gt (tgt := 96) hx hb dX5_readWalk_72 (by decide) (fun c55 => ?_) (fun c55 => ?_)
        · refine lv_aload_n hx hb dX5_readWalk_96 rfl (lv_at hl 0 rfl) ?_
          obtain ⟨y3_56, y4_56, y5_56, y6_56, y7_56, y8_56, y9_56, he56⟩ := ok_X5 hok ha0
          refine th_get hx hb (ly_X5 hE) hown hK hP ha0.1 he56 rfl 7 (by decide) (wd_234 hE) (fun _ h9 => h9) rfl dX5_readWalk_97 ?_
          refine lv_if_ne (tgt := 122) hx hb dX5_readWalk_100 (by decide) (fun c57 => ?_) (fun c57 => ?_)
          · exact W.vret hx hb hr (fun t ht hW => ⟨⟨f54, rfl, trivial, hok, by rw [ht]; exact hP⟩, hS.F ht⟩) hS.2.2 dX5_readWalk_122
          · refine lv_aload_n hx hb dX5_readWalk_103 rfl (lv_at hl 0 rfl) ?_
            refine tc_i hAL hS hA (va_runV (As := []) (rest := []) ⟨hx, hb, hml, hown, noTs⟩ (t_X5_endsLine l dC dI H.size G cs tt mm a0 ha0) ⟨cbE 0 (wd_581 hE) (wd_118 hE) (wd_578 hE) rfl rfl (by decide +kernel) ⟨Nat.le_of_ble_eq_true rfl, Nat.le_of_ble_eq_true rfl⟩, (wd_580 hE), (wd_13 hE)⟩ ⟨PT.blind, th_recv hK hP ha0.1 he56 rfl, (th_pre (av := [.ref a0]) trivial hK hP hok hnd hWT hE)⟩ rfl rfl hl.1 rfl (lv_room (Nat.le_of_ble_eq_true rfl)) dX5_readWalk_104 ⟨Nat.le_of_ble_eq_true rfl, Nat.le_of_ble_eq_true rfl⟩) (fun r58 f58 H locs hr58 hok hP hS => ?_)
            refine lv_if_eq (tgt := 122) hx hb dX5_readWalk_107 (by decide) (fun c59 => ?_) (fun c59 => ?_)
            · exact W.vret hx hb hr (fun t ht hW => ⟨⟨f58, rfl, trivial, hok, by rw [ht]; exact hP⟩, hS.F ht⟩) hS.2.2 dX5_readWalk_122
            · refine lv_aload_n hx hb dX5_readWalk_110 rfl (lv_at hl 0 rfl) ?_
              obtain ⟨y3_60, y4_60, y5_60, y6_60, y7_60, y8_60, y9_60, he60⟩ := ok_X5 hok ha0
              refine th_get hx hb (ly_X5 hE) hown hK hP ha0.1 he60 rfl 1 (by decide) (wd_228 hE) (fun _ h9 => h9) rfl dX5_readWalk_111 ?_
              refine lv_aload_n hx hb dX5_readWalk_114 rfl (lv_at hl 0 rfl) ?_
              refine th_get hx hb (ly_X5 hE) hown hK hP ha0.1 he60 rfl 2 (by decide) (wd_229 hE) (fun _ h9 => h9) rfl dX5_readWalk_115 ?_
              have he61 := ok_X7 hok (wt_X5_1 hWT ha0)
              refine tc_i hAL hS hA (va_runV (As := [.ref (gR G a0 2)]) (rest := []) ⟨hx, hb, hml, hown, noTs⟩ (t_X7_addWord l dC dI H.size G cs tt mm (gR G a0 1) ((wt_X5_1 hWT ha0)) (gR G a0 2) ((wt_X5_2 hWT ha0))) ⟨cbE 1 (wd_696 hE) (wd_116 hE) (wd_693 hE) rfl rfl (by decide +kernel) ⟨Nat.le_of_ble_eq_true rfl, Nat.le_of_ble_eq_true rfl⟩, (wd_694 hE), (wd_695 hE)⟩ ⟨PT.blind, th_recv hK hP (wt_X5_1 hWT ha0).1 he61 rfl, (th_pre (av := [.ref (gR G a0 1), .ref (gR G a0 2)]) trivial hK hP hok hnd hWT hE)⟩ rfl rfl hl.1 rfl (lv_room (Nat.le_of_ble_eq_true rfl)) dX5_readWalk_118 ⟨Nat.le_of_ble_eq_true rfl, Nat.le_of_ble_eq_true rfl⟩) (fun r62 f62 H locs hr62 hok hP hS => ?_)
              refine lv_pop hx hb dX5_readWalk_121 rfl ?_
              exact W.vret hx hb hr (fun t ht hW => ⟨⟨f62, rfl, trivial, hok, by rw [ht]; exact hP⟩, hS.F ht⟩) hS.2.2 dX5_readWalk_122
        · refine lv_aload_n hx hb dX5_readWalk_75 rfl (lv_at hl 0 rfl) ?_
          obtain ⟨y3_63, y4_63, y5_63, y6_63, y7_63, y8_63, y9_63, he63⟩ := ok_X5 hok ha0
          refine vp_callSi (va_Run.run (va_runV (As := []) (rest := []) ⟨hx, hb, hml, hown, noTs⟩ (t_X5_isSign l dC dI H.size G cs tt mm a0 ha0) ⟨cbE 0 (wd_658 hE) (wd_118 hE) (wd_655 hE) rfl rfl (by decide +kernel) ⟨Nat.le_of_ble_eq_true rfl, Nat.le_of_ble_eq_true rfl⟩, (wd_657 hE), (wd_20 hE)⟩ ⟨PT.blind, th_recv hK hP ha0.1 he63 rfl, (th_pre (av := [.ref a0]) trivial hK hP hok hnd hWT hE)⟩ rfl rfl hl.1 rfl (lv_room (Nat.le_of_ble_eq_true rfl)) dX5_readWalk_76 ⟨Nat.le_of_ble_eq_true rfl, Nat.le_of_ble_eq_true rfl⟩)) (fun r64 hr64 => ?_)
          refine lv_if_eq (tgt := 96) hx hb dX5_readWalk_79 (by decide) (fun c65 => ?_) (fun c65 => ?_)
          · refine lv_aload_n hx hb dX5_readWalk_96 rfl (lv_at hl 0 rfl) ?_
            refine th_get hx hb (ly_X5 hE) hown hK hP ha0.1 he63 rfl 7 (by decide) (wd_234 hE) (fun _ h9 => h9) rfl dX5_readWalk_97 ?_
            refine lv_if_ne (tgt := 122) hx hb dX5_readWalk_100 (by decide) (fun c66 => ?_) (fun c66 => ?_)
            · exact W.vret hx hb hr (fun t ht hW => ⟨⟨f54, rfl, trivial, hok, by rw [ht]; exact hP⟩, hS.F ht⟩) hS.2.2 dX5_readWalk_122
            · refine lv_aload_n hx hb dX5_readWalk_103 rfl (lv_at hl 0 rfl) ?_
              refine tc_i hAL hS hA (va_runV (As := []) (rest := []) ⟨hx, hb, hml, hown, noTs⟩ (t_X5_endsLine l dC dI H.size G cs tt mm a0 ha0) ⟨cbE 0 (wd_581 hE) (wd_118 hE) (wd_578 hE) rfl rfl (by decide +kernel) ⟨Nat.le_of_ble_eq_true rfl, Nat.le_of_ble_eq_true rfl⟩, (wd_580 hE), (wd_13 hE)⟩ ⟨PT.blind, th_recv hK hP ha0.1 he63 rfl, (th_pre (av := [.ref a0]) trivial hK hP hok hnd hWT hE)⟩ rfl rfl hl.1 rfl (lv_room (Nat.le_of_ble_eq_true rfl)) dX5_readWalk_104 ⟨Nat.le_of_ble_eq_true rfl, Nat.le_of_ble_eq_true rfl⟩) (fun r67 f67 H locs hr67 hok hP hS => ?_)
              refine lv_if_eq (tgt := 122) hx hb dX5_readWalk_107 (by decide) (fun c68 => ?_) (fun c68 => ?_)
              · exact W.vret hx hb hr (fun t ht hW => ⟨⟨f67, rfl, trivial, hok, by rw [ht]; exact hP⟩, hS.F ht⟩) hS.2.2 dX5_readWalk_122
              · refine lv_aload_n hx hb dX5_readWalk_110 rfl (lv_at hl 0 rfl) ?_
                obtain ⟨y3_69, y4_69, y5_69, y6_69, y7_69, y8_69, y9_69, he69⟩ := ok_X5 hok ha0
                refine th_get hx hb (ly_X5 hE) hown hK hP ha0.1 he69 rfl 1 (by decide) (wd_228 hE) (fun _ h9 => h9) rfl dX5_readWalk_111 ?_
                refine lv_aload_n hx hb dX5_readWalk_114 rfl (lv_at hl 0 rfl) ?_
                refine th_get hx hb (ly_X5 hE) hown hK hP ha0.1 he69 rfl 2 (by decide) (wd_229 hE) (fun _ h9 => h9) rfl dX5_readWalk_115 ?_
                have he70 := ok_X7 hok (wt_X5_1 hWT ha0)
                refine tc_i hAL hS hA (va_runV (As := [.ref (gR G a0 2)]) (rest := []) ⟨hx, hb, hml, hown, noTs⟩ (t_X7_addWord l dC dI H.size G cs tt mm (gR G a0 1) ((wt_X5_1 hWT ha0)) (gR G a0 2) ((wt_X5_2 hWT ha0))) ⟨cbE 1 (wd_696 hE) (wd_116 hE) (wd_693 hE) rfl rfl (by decide +kernel) ⟨Nat.le_of_ble_eq_true rfl, Nat.le_of_ble_eq_true rfl⟩, (wd_694 hE), (wd_695 hE)⟩ ⟨PT.blind, th_recv hK hP (wt_X5_1 hWT ha0).1 he70 rfl, (th_pre (av := [.ref (gR G a0 1), .ref (gR G a0 2)]) trivial hK hP hok hnd hWT hE)⟩ rfl rfl hl.1 rfl (lv_room (Nat.le_of_ble_eq_true rfl)) dX5_readWalk_118 ⟨Nat.le_of_ble_eq_true rfl, Nat.le_of_ble_eq_true rfl⟩) (fun r71 f71 H locs hr71 hok hP hS => ?_)
                refine lv_pop hx hb dX5_readWalk_121 rfl ?_
                exact W.vret hx hb hr (fun t ht hW => ⟨⟨f71, rfl, trivial, hok, by rw [ht]; exact hP⟩, hS.F ht⟩) hS.2.2 dX5_readWalk_122
          · refine lv_aload_n hx hb dX5_readWalk_82 rfl (lv_at hl 0 rfl) ?_
            refine tc_v hAL hS hA (va_runV (As := []) (rest := []) ⟨hx, hb, hml, hown, noTs⟩ (t_X5_readStep l dC dI H.size G cs tt mm a0 ha0) ⟨cbE 0 (wd_662 hE) (wd_118 hE) (wd_659 hE) rfl rfl (by decide +kernel) ⟨Nat.le_of_ble_eq_true rfl, Nat.le_of_ble_eq_true rfl⟩, (wd_661 hE), (wd_21 hE)⟩ ⟨PT.blind, th_recv hK hP ha0.1 he63 rfl, (th_pre (av := [.ref a0]) trivial hK hP hok hnd hWT hE)⟩ rfl rfl hl.1 rfl (lv_room (Nat.le_of_ble_eq_true rfl)) dX5_readWalk_83 ⟨Nat.le_of_ble_eq_true rfl, Nat.le_of_ble_eq_true rfl⟩) (fun f72 H locs hr72 hok hP hS => ?_)
            refine lv_aload_n hx hb dX5_readWalk_86 rfl (lv_at hl 0 rfl) ?_
            obtain ⟨y3_73, y4_73, y5_73, y6_73, y7_73, y8_73, y9_73, he73⟩ := ok_X5 hok ha0
            refine tc_v hAL hS hA (va_runV (As := []) (rest := []) ⟨hx, hb, hml, hown, noTs⟩ (t_X5_readNumber l dC dI H.size G cs tt mm a0 ha0) ⟨cbE 0 (wd_641 hE) (wd_118 hE) (wd_638 hE) rfl rfl (by decide +kernel) ⟨Nat.le_of_ble_eq_true rfl, Nat.le_of_ble_eq_true rfl⟩, (wd_640 hE), (wd_19 hE)⟩ ⟨PT.blind, th_recv hK hP ha0.1 he73 rfl, (th_pre (av := [.ref a0]) trivial hK hP hok hnd hWT hE)⟩ rfl rfl hl.1 rfl (lv_room (Nat.le_of_ble_eq_true rfl)) dX5_readWalk_87 ⟨Nat.le_of_ble_eq_true rfl, Nat.le_of_ble_eq_true rfl⟩) (fun f74 H locs hr74 hok hP hS => ?_)
            obtain ⟨z75, ez75⟩ : ∃ z : Int32, z = w1_54 + 1 := ⟨_, rfl⟩
            refine lv_iinc (v := z75) (lv' := [(1, .int z75), (0, .ref a0)]) hx hb dX5_readWalk_90 hl (k := 1) rfl (by rw [ez75]; rfl) (by decide) rfl (fun ls hl => ?_)
            have ic75 : z75.toInt = w1_54.toInt + 1 := by rw [ez75]; exact ic_up (by have := i_rng r2; have := i_rng r6; have := i_rng r42; have := i_rng w1_54; have := i_rng r64; simp only [i_lt, i_le, i_eq, ti_m9, ti_m1, ti_0, ti_1, ti_2, ti_3, ti_4, ti_5, ti_6, ti_7, ti_9, ti_12, ti_20, ti_99, ti_700, ti_24, ti_156, ti_72, ti_8, ti_60, ti_543, ti_10, ti_33, ti_51, ti_178, ti_119, ti_111, ti_114, ti_100, ti_32, ti_62, ti_59, ti_48, ti_701, ti_97, ti_122, ti_57, ti_73, ti_128, ti_61] at c3 c7 c43 hlo54 c55 c65 ⊢; omega)
            refine lv_goto (tgt := 69) hx hb dX5_readWalk_93 (by decide) ?_
            exact ih54 _ f74 _ _ _ (by first | omega | (simp only [i_lt, i_le, i_eq, ti_m9, ti_m1, ti_0, ti_1, ti_2, ti_3, ti_4, ti_5, ti_6, ti_7, ti_9, ti_12, ti_20, ti_99, ti_700, ti_24, ti_156, ti_72, ti_8, ti_60, ti_543, ti_10, ti_33, ti_51, ti_178, ti_119, ti_111, ti_114, ti_100, ti_32, ti_62, ti_59, ti_48, ti_701, ti_97, ti_122, ti_57, ti_73, ti_128, ti_61, ic75] at c3 c7 c43 hlo54 c55 c65 ic75 ⊢; omega)) ⟨hok, hP, hS, z75, rfl, (by first | omega | (simp only [i_lt, i_le, i_eq, ti_m9, ti_m1, ti_0, ti_1, ti_2, ti_3, ti_4, ti_5, ti_6, ti_7, ti_9, ti_12, ti_20, ti_99, ti_700, ti_24, ti_156, ti_72, ti_8, ti_60, ti_543, ti_10, ti_33, ti_51, ti_178, ti_119, ti_111, ti_114, ti_100, ti_32, ti_62, ti_59, ti_48, ti_701, ti_97, ti_122, ti_57, ti_73, ti_128, ti_61, ic75] at c3 c7 c43 hlo54 c55 c65 ⊢; omega)), lv_sub hl [1, 0] rfl⟩
      · exact W.vret hx hb hr (fun t ht hW => ⟨⟨f42, rfl, trivial, hok, by rw [ht]; exact hP⟩, hS.F ht⟩) hS.2.2 dX5_readWalk_32
