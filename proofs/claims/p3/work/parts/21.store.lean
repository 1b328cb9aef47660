set_option maxHeartbeats 4000000 in
set_option maxRecDepth 100000 in
theorem t_X7_edgePart (l : Launch) (dC : Nat → ClassId) (dI : Nat → Nat → Nat) (sz : Nat) (G : GT) (cs : Nat → ClassId) (tt mm : Nat) (a0 : Nat) (ha0 : Ty G a0 7) (v1 : Int32) (v2 : Int32) : Met l yX7_edgePart [.code yX7_edgePart cX7_edgePart 4 (some .int)] ({ frames := 0, cells := 0, slots := 0, locals := 0 }) (PT [.ref a0, .int v1, .int v2] sz dC dI G cs tt mm) (vp_Si (fun (r : Int32) => True)) 0 0 (fun _ => False) := by
  refine Met.ofW (cc := cX7_edgePart) (maxL := 4) (ret := (some .int)) (by decide) rfl ?_
  intro p e s m args below meth c s₁ B hml hv
  obtain ⟨rfl, hsz, ⟨f0, hok, hP⟩, hK, hnd, hWT, hE⟩ := hv
  have hx := B.exec
  have hb := B.bytes
  have hr := B.returns
  have hown : s.vm.findClass RX7 = some m.cls := findClass_of_methodNamed B.named
  have hlocks := B.notSynchronized
  subst hsz
  have hl := lv_entry ([.ref a0, .int v1, .int v2]) (n := 4) (Nat.le_of_ble_eq_true rfl)
  rw [lg_entry_eq]
  generalize (lg_sl ([.ref a0, .int v1, .int v2]) ++ List.replicate (4 - (lg_sl ([.ref a0, .int v1, .int v2])).length) Slot.unset).toArray = ls at hl ⊢
  have hl : lv_has ls 4 [(0, .ref a0), (1, .int v1), (2, .int v2)] := hl
  refine lv_iload_n hx hb dX7_edgePart_0 rfl (lv_at hl 1 rfl) ?_
  refine lv_if_lt (tgt := 23) hx hb dX7_edgePart_1 (by decide) (fun c1 => ?_) (fun c1 => ?_)
  · refine lv_iconst (v := 0) hx hb dX7_edgePart_23 (by decide) ?_
    refine lv_istore_n (lv' := [(3, .int 0), (0, .ref a0), (1, .int v1), (2, .int v2)]) hx hb dX7_edgePart_24 rfl hl (by decide) rfl (fun ls hl => ?_)
    refine lv_iload_n hx hb dX7_edgePart_25 rfl (lv_at hl 0 rfl) ?_
    refine lv_if_eq (tgt := 45) hx hb dX7_edgePart_26 (by decide) (fun c2 => ?_) (fun c2 => absurd c2 (by decide))
    refine lv_iconst (v := 0) hx hb dX7_edgePart_45 (by decide) ?_
    exact W.iret (v := 0) hx hb hr (fun t ht hW => ⟨0, rfl, trivial, ht⟩) (fun _ h => absurd h List.not_mem_nil) dX7_edgePart_46
  · refine lv_iload_n hx hb dX7_edgePart_4 rfl (lv_at hl 1 rfl) ?_
    refine lv_bipush (v := 6) hx hb dX7_edgePart_5 (by decide) ?_
    refine lv_icmp_ge (tgt := 23) hx hb dX7_edgePart_7 (by decide) (fun c3 => ?_) (fun c3 => ?_)
    · refine lv_iconst (v := 0) hx hb dX7_edgePart_23 (by decide) ?_
      refine lv_istore_n (lv' := [(3, .int 0), (0, .ref a0), (1, .int v1), (2, .int v2)]) hx hb dX7_edgePart_24 rfl hl (by decide) rfl (fun ls hl => ?_)
      refine lv_iload_n hx hb dX7_edgePart_25 rfl (lv_at hl 0 rfl) ?_
      refine lv_if_eq (tgt := 45) hx hb dX7_edgePart_26 (by decide) (fun c4 => ?_) (fun c4 => absurd c4 (by decide))
      refine lv_iconst (v := 0) hx hb dX7_edgePart_45 (by decide) ?_
      exact W.iret (v := 0) hx hb hr (fun t ht hW => ⟨0, rfl, trivial, ht⟩) (fun _ h => absurd h List.not_mem_nil) dX7_edgePart_46
    · refine lv_iload_n hx hb dX7_edgePart_10 rfl (lv_at hl 2 rfl) ?_
      refine lv_if_lt (tgt := 23) hx hb dX7_edgePart_11 (by decide) (fun c5 => ?_) (fun c5 => ?_)
      · refine lv_iconst (v := 0) hx hb dX7_edgePart_23 (by decide) ?_
        refine lv_istore_n (lv' := [(3, .int 0), (0, .ref a0), (1, .int v1), (2, .int v2)]) hx hb dX7_edgePart_24 rfl hl (by decide) rfl (fun ls hl => ?_)
        refine lv_iload_n hx hb dX7_edgePart_25 rfl (lv_at hl 0 rfl) ?_
        refine lv_if_eq (tgt := 45) hx hb dX7_edgePart_26 (by decide) (fun c6 => ?_) (fun c6 => absurd c6 (by decide))
        refine lv_iconst (v := 0) hx hb dX7_edgePart_45 (by decide) ?_
        exact W.iret (v := 0) hx hb hr (fun t ht hW => ⟨0, rfl, trivial, ht⟩) (fun _ h => absurd h List.not_mem_nil) dX7_edgePart_46
      · refine lv_iload_n hx hb dX7_edgePart_14 rfl (lv_at hl 2 rfl) ?_
        refine lv_iconst (v := 4) hx hb dX7_edgePart_15 (by decide) ?_
        refine lv_icmp_ge (tgt := 23) hx hb dX7_edgePart_16 (by decide) (fun c7 => ?_) (fun c7 => ?_)
        · refine lv_iconst (v := 0) hx hb dX7_edgePart_23 (by decide) ?_
          refine lv_istore_n (lv' := [(3, .int 0), (0, .ref a0), (1, .int v1), (2, .int v2)]) hx hb dX7_edgePart_24 rfl hl (by decide) rfl (fun ls hl => ?_)
          refine lv_iload_n hx hb dX7_edgePart_25 rfl (lv_at hl 0 rfl) ?_
          refine lv_if_eq (tgt := 45) hx hb dX7_edgePart_26 (by decide) (fun c8 => ?_) (fun c8 => absurd c8 (by decide))
          refine lv_iconst (v := 0) hx hb dX7_edgePart_45 (by decide) ?_
          exact W.iret (v := 0) hx hb hr (fun t ht hW => ⟨0, rfl, trivial, ht⟩) (fun _ h => absurd h List.not_mem_nil) dX7_edgePart_46
        · refine lv_iconst (v := 1) hx hb dX7_edgePart_19 (by decide) ?_
          refine lv_goto (tgt := 24) hx hb dX7_edgePart_20 (by decide) ?_
          refine lv_istore_n (lv' := [(3, .int 1), (0, .ref a0), (1, .int v1), (2, .int v2)]) hx hb dX7_edgePart_24 rfl hl (by decide) rfl (fun ls hl => ?_)
          refine lv_iload_n hx hb dX7_edgePart_25 rfl (lv_at hl 0 rfl) ?_
          refine lv_if_eq (tgt := 45) hx hb dX7_edgePart_26 (by decide) (fun c9 => absurd c9 (by decide)) (fun c9 => ?_)
          refine lv_aload_n hx hb dX7_edgePart_29 rfl (lv_at hl 1 rfl) ?_
          have he10 := ok_X7 hok ha0
          refine th_get hx hb (ly_X7 hE) hown hK hP ha0.1 he10 rfl 0 (by decide) (wd_149 hE) (fun _ h9 => h9) rfl dX7_edgePart_30 ?_
          refine lv_bipush (v := 9) hx hb dX7_edgePart_33 (by decide) ?_
          refine lv_iconst (v := 4) hx hb dX7_edgePart_35 (by decide) ?_
          refine lv_iload_n hx hb dX7_edgePart_36 rfl (lv_at hl 2 rfl) ?_
          obtain ⟨j11, hj11, rfl⟩ : ∃ j : Nat, j ≤ 5 ∧ v1 = nI j := i_nat (by first | omega | (simp only [i_lt, i_le, i_eq, ti_m9, ti_m1, ti_0, ti_1, ti_2, ti_3, ti_4, ti_5, ti_6, ti_7, ti_9, ti_12, ti_20, ti_99, ti_700] at c1 c3 c5 c7 ⊢; omega)) (by first | omega | (simp only [i_lt, i_le, i_eq, ti_m9, ti_m1, ti_0, ti_1, ti_2, ti_3, ti_4, ti_5, ti_6, ti_7, ti_9, ti_12, ti_20, ti_99, ti_700] at c1 c3 c5 c7 ⊢; omega))
          have nt12 : (nI j11).toInt = ((j11 : Nat) : Int) := nI_toInt (by omega)
          refine lv_imul hx hb dX7_edgePart_37 ?_
          refine W.eq (g2 := F0 m 38 ls [.int (nI (4 * j11)), .int 9, .ref (gR G a0 0)]) (congrArg (fun z : Int32 => F0 m 38 ls (.int z :: [.int 9, .ref (gR G a0 0)])) (pk_mul 4 j11)) ?_
          refine lv_iadd hx hb dX7_edgePart_38 ?_
          refine W.eq (g2 := F0 m 39 ls [.int (nI (9 + (4 * j11))), .ref (gR G a0 0)]) (congrArg (fun z : Int32 => F0 m 39 ls (.int z :: [.ref (gR G a0 0)])) (nI_add 9 (4 * j11))) ?_
          refine lv_iload_n hx hb dX7_edgePart_39 rfl (lv_at hl 3 rfl) ?_
          obtain ⟨j13, hj13, rfl⟩ : ∃ j : Nat, j ≤ 3 ∧ v2 = nI j := i_nat (by first | omega | (simp only [i_lt, i_le, i_eq, ti_m9, ti_m1, ti_0, ti_1, ti_2, ti_3, ti_4, ti_5, ti_6, ti_7, ti_9, ti_12, ti_20, ti_99, ti_700, nt12] at c1 c3 c5 c7 ⊢; omega)) (by first | omega | (simp only [i_lt, i_le, i_eq, ti_m9, ti_m1, ti_0, ti_1, ti_2, ti_3, ti_4, ti_5, ti_6, ti_7, ti_9, ti_12, ti_20, ti_99, ti_700, nt12] at c1 c3 c5 c7 ⊢; omega))
          have nt14 : (nI j13).toInt = ((j13 : Nat) : Int) := nI_toInt (by omega)
          refine lv_iadd hx hb dX7_edgePart_40 ?_
          refine W.eq (g2 := F0 m 41 ls [.int (nI ((9 + (4 * j11)) + j13)), .ref (gR G a0 0)]) (congrArg (fun z : Int32 => F0 m 41 ls (.int z :: [.ref (gR G a0 0)])) (nI_add (9 + (4 * j11)) j13)) ?_
          have nt16 : (nI ((9 + (4 * j11)) + j13)).toInt = (((9 + (4 * j11)) + j13 : Nat) : Int) := nI_toInt (by omega)
          refine th_iald hx hb hK hP hok (wt_X7_0 hWT ha0) (n := 543) (wl_X7_0 hWT ha0) (vp_in_iff.mpr (by first | omega | (simp only [i_lt, i_le, i_eq, ti_m9, ti_m1, ti_0, ti_1, ti_2, ti_3, ti_4, ti_5, ti_6, ti_7, ti_9, ti_12, ti_20, ti_99, ti_700, nt12, nt14, nt16] at c1 c3 c5 c7 ⊢; omega))) dX7_edgePart_41 (fun x15 => ?_)
          refine lv_goto (tgt := 46) hx hb dX7_edgePart_42 (by decide) ?_
          exact W.iret (v := x15) hx hb hr (fun t ht hW => ⟨x15, rfl, trivial, ht⟩) (fun _ h => absurd h List.not_mem_nil) dX7_edgePart_46

set_option maxHeartbeats 4000000 in
set_option maxRecDepth 100000 in
theorem t_X7_fromIndex (l : Launch) (dC : Nat → ClassId) (dI : Nat → Nat → Nat) (sz : Nat) (G : GT) (cs : Nat → ClassId) (tt mm : Nat) (a0 : Nat) (ha0 : Ty G a0 7) (v1 : Int32) : Met l yX7_fromIndex [.code yX7_fromIndex cX7_fromIndex 2 (some .int)] ({ frames := 1, cells := 0, slots := 0, locals := 40 }) (PT [.ref a0, .int v1] sz dC dI G cs tt mm) (vp_Si (fun (r : Int32) => True)) 0 0 (fun _ => False) := by
  refine Met.ofW (cc := cX7_fromIndex) (maxL := 2) (ret := (some .int)) (by decide) rfl ?_
  intro p e s m args below meth c s₁ B hml hv
  obtain ⟨rfl, hsz, ⟨f0, hok, hP⟩, hK, hnd, hWT, hE⟩ := hv
  have hx := B.exec
  have hb := B.bytes
  have hr := B.returns
  have hown : s.vm.findClass RX7 = some m.cls := findClass_of_methodNamed B.named
  have hlocks := B.notSynchronized
  subst hsz
  have hl := lv_entry ([.ref a0, .int v1]) (n := 2) (Nat.le_of_ble_eq_true rfl)
  rw [lg_entry_eq]
  generalize (lg_sl ([.ref a0, .int v1]) ++ List.replicate (2 - (lg_sl ([.ref a0, .int v1])).length) Slot.unset).toArray = ls at hl ⊢
  have hl : lv_has ls 2 [(0, .ref a0), (1, .int v1)] := hl
  refine lv_aload_n hx hb dX7_fromIndex_0 rfl (lv_at hl 0 rfl) ?_
  refine lv_iload_n hx hb dX7_fromIndex_1 rfl (lv_at hl 1 rfl) ?_
  refine lv_iconst (v := 1) hx hb dX7_fromIndex_2 (by decide) ?_
  refine lv_ishr hx hb dX7_fromIndex_3 ?_
  refine lv_topi (fun x1 _ => ?_)
  refine lv_iload_n hx hb dX7_fromIndex_4 rfl (lv_at hl 1 rfl) ?_
  refine vp_callSi (va_Run.run (va_runSN (As := [.int v1]) (rest := [.int x1, .ref a0]) ⟨hx, hb, hml, hown, noTs⟩ (t_X11_isBackwards l dC dI s.heap.size G cs tt mm v1) ⟨cnE 1 (wd_680 hE) (wd_115 hE) (wd_678 hE) rfl rfl (by decide +kernel) ⟨Nat.le_of_ble_eq_true rfl, Nat.le_of_ble_eq_true rfl⟩, (wd_679 hE), trivial⟩ ⟨PT.blind, (th_pre (av := [.int v1]) hK hP hok hnd hWT hE)⟩ rfl rfl hl.1 rfl (lv_room (Nat.le_of_ble_eq_true rfl)) dX7_fromIndex_5 ⟨Nat.le_of_ble_eq_true rfl, Nat.le_of_ble_eq_true rfl⟩)) (fun r2 hr2 => ?_)
  refine lv_if_eq (tgt := 15) hx hb dX7_fromIndex_8 (by decide) (fun c3 => ?_) (fun c3 => ?_)
  · refine lv_iconst (v := 1) hx hb dX7_fromIndex_15 (by decide) ?_
    have he4 := ok_X7 hok ha0
    refine vp_callSi (va_Run.run (va_runV (As := [.int x1, .int 1]) (rest := []) ⟨hx, hb, hml, hown, noTs⟩ (t_X7_edgePart l dC dI s.heap.size G cs tt mm a0 ha0 x1 1) ⟨cbE 2 (wd_684 hE) (wd_116 hE) (wd_681 hE) rfl rfl (by decide +kernel) ⟨Nat.le_of_ble_eq_true rfl, Nat.le_of_ble_eq_true rfl⟩, (wd_682 hE), (wd_683 hE)⟩ ⟨PT.blind, th_recv hK hP ha0.1 he4 rfl, (th_pre (av := [.ref a0, .int x1, .int 1]) hK hP hok hnd hWT hE)⟩ rfl rfl hl.1 rfl (lv_room (Nat.le_of_ble_eq_true rfl)) dX7_fromIndex_16 ⟨Nat.le_of_ble_eq_true rfl, Nat.le_of_ble_eq_true rfl⟩)) (fun r5 hr5 => ?_)
    exact W.iret (v := r5) hx hb hr (fun t ht hW => ⟨r5, rfl, trivial, ht⟩) (fun _ h => absurd h List.not_mem_nil) dX7_fromIndex_19
  · refine lv_iconst (v := 3) hx hb dX7_fromIndex_11 (by decide) ?_
    refine lv_goto (tgt := 16) hx hb dX7_fromIndex_12 (by decide) ?_
    have he6 := ok_X7 hok ha0
    refine vp_callSi (va_Run.run (va_runV (As := [.int x1, .int 3]) (rest := []) ⟨hx, hb, hml, hown, noTs⟩ (t_X7_edgePart l dC dI s.heap.size G cs tt mm a0 ha0 x1 3) ⟨cbE 2 (wd_684 hE) (wd_116 hE) (wd_681 hE) rfl rfl (by decide +kernel) ⟨Nat.le_of_ble_eq_true rfl, Nat.le_of_ble_eq_true rfl⟩, (wd_682 hE), (wd_683 hE)⟩ ⟨PT.blind, th_recv hK hP ha0.1 he6 rfl, (th_pre (av := [.ref a0, .int x1, .int 3]) hK hP hok hnd hWT hE)⟩ rfl rfl hl.1 rfl (lv_room (Nat.le_of_ble_eq_true rfl)) dX7_fromIndex_16 ⟨Nat.le_of_ble_eq_true rfl, Nat.le_of_ble_eq_true rfl⟩)) (fun r7 hr7 => ?_)
    exact W.iret (v := r7) hx hb hr (fun t ht hW => ⟨r7, rfl, trivial, ht⟩) (fun _ h => absurd h List.not_mem_nil) dX7_fromIndex_19

set_option maxHeartbeats 4000000 in
set_option maxRecDepth 100000 in
theorem t_X7_toIndex (l : Launch) (dC : Nat → ClassId) (dI : Nat → Nat → Nat) (sz : Nat) (G : GT) (cs : Nat → ClassId) (tt mm : Nat) (a0 : Nat) (ha0 : Ty G a0 7) (v1 : Int32) : Met l yX7_toIndex [.code yX7_toIndex cX7_toIndex 2 (some .int)] ({ frames := 1, cells := 0, slots := 0, locals := 40 }) (PT [.ref a0, .int v1] sz dC dI G cs tt mm) (vp_Si (fun (r : Int32) => True)) 0 0 (fun _ => False) := by
  refine Met.ofW (cc := cX7_toIndex) (maxL := 2) (ret := (some .int)) (by decide) rfl ?_
  intro p e s m args below meth c s₁ B hml hv
  obtain ⟨rfl, hsz, ⟨f0, hok, hP⟩, hK, hnd, hWT, hE⟩ := hv
  have hx := B.exec
  have hb := B.bytes
  have hr := B.returns
  have hown : s.vm.findClass RX7 = some m.cls := findClass_of_methodNamed B.named
  have hlocks := B.notSynchronized
  subst hsz
  have hl := lv_entry ([.ref a0, .int v1]) (n := 2) (Nat.le_of_ble_eq_true rfl)
  rw [lg_entry_eq]
  generalize (lg_sl ([.ref a0, .int v1]) ++ List.replicate (2 - (lg_sl ([.ref a0, .int v1])).length) Slot.unset).toArray = ls at hl ⊢
  have hl : lv_has ls 2 [(0, .ref a0), (1, .int v1)] := hl
  refine lv_aload_n hx hb dX7_toIndex_0 rfl (lv_at hl 0 rfl) ?_
  refine lv_iload_n hx hb dX7_toIndex_1 rfl (lv_at hl 1 rfl) ?_
  refine lv_iconst (v := 1) hx hb dX7_toIndex_2 (by decide) ?_
  refine lv_ishr hx hb dX7_toIndex_3 ?_
  refine lv_topi (fun x1 _ => ?_)
  refine lv_iload_n hx hb dX7_toIndex_4 rfl (lv_at hl 1 rfl) ?_
  refine vp_callSi (va_Run.run (va_runSN (As := [.int v1]) (rest := [.int x1, .ref a0]) ⟨hx, hb, hml, hown, noTs⟩ (t_X11_isBackwards l dC dI s.heap.size G cs tt mm v1) ⟨cnE 1 (wd_680 hE) (wd_115 hE) (wd_678 hE) rfl rfl (by decide +kernel) ⟨Nat.le_of_ble_eq_true rfl, Nat.le_of_ble_eq_true rfl⟩, (wd_679 hE), trivial⟩ ⟨PT.blind, (th_pre (av := [.int v1]) hK hP hok hnd hWT hE)⟩ rfl rfl hl.1 rfl (lv_room (Nat.le_of_ble_eq_true rfl)) dX7_toIndex_5 ⟨Nat.le_of_ble_eq_true rfl, Nat.le_of_ble_eq_true rfl⟩)) (fun r2 hr2 => ?_)
  refine lv_if_eq (tgt := 15) hx hb dX7_toIndex_8 (by decide) (fun c3 => ?_) (fun c3 => ?_)
  · refine lv_iconst (v := 3) hx hb dX7_toIndex_15 (by decide) ?_
    have he4 := ok_X7 hok ha0
    refine vp_callSi (va_Run.run (va_runV (As := [.int x1, .int 3]) (rest := []) ⟨hx, hb, hml, hown, noTs⟩ (t_X7_edgePart l dC dI s.heap.size G cs tt mm a0 ha0 x1 3) ⟨cbE 2 (wd_684 hE) (wd_116 hE) (wd_681 hE) rfl rfl (by decide +kernel) ⟨Nat.le_of_ble_eq_true rfl, Nat.le_of_ble_eq_true rfl⟩, (wd_682 hE), (wd_683 hE)⟩ ⟨PT.blind, th_recv hK hP ha0.1 he4 rfl, (th_pre (av := [.ref a0, .int x1, .int 3]) hK hP hok hnd hWT hE)⟩ rfl rfl hl.1 rfl (lv_room (Nat.le_of_ble_eq_true rfl)) dX7_toIndex_16 ⟨Nat.le_of_ble_eq_true rfl, Nat.le_of_ble_eq_true rfl⟩)) (fun r5 hr5 => ?_)
    exact W.iret (v := r5) hx hb hr (fun t ht hW => ⟨r5, rfl, trivial, ht⟩) (fun _ h => absurd h List.not_mem_nil) dX7_toIndex_19
  · refine lv_iconst (v := 1) hx hb dX7_toIndex_11 (by decide) ?_
    refine lv_goto (tgt := 16) hx hb dX7_toIndex_12 (by decide) ?_
    have he6 := ok_X7 hok ha0
    refine vp_callSi (va_Run.run (va_runV (As := [.int x1, .int 1]) (rest := []) ⟨hx, hb, hml, hown, noTs⟩ (t_X7_edgePart l dC dI s.heap.size G cs tt mm a0 ha0 x1 1) ⟨cbE 2 (wd_684 hE) (wd_116 hE) (wd_681 hE) rfl rfl (by decide +kernel) ⟨Nat.le_of_ble_eq_true rfl, Nat.le_of_ble_eq_true rfl⟩, (wd_682 hE), (wd_683 hE)⟩ ⟨PT.blind, th_recv hK hP ha0.1 he6 rfl, (th_pre (av := [.ref a0, .int x1, .int 1]) hK hP hok hnd hWT hE)⟩ rfl rfl hl.1 rfl (lv_room (Nat.le_of_ble_eq_true rfl)) dX7_toIndex_16 ⟨Nat.le_of_ble_eq_true rfl, Nat.le_of_ble_eq_true rfl⟩)) (fun r7 hr7 => ?_)
    exact W.iret (v := r7) hx hb hr (fun t ht hW => ⟨r7, rfl, trivial, ht⟩) (fun _ h => absurd h List.not_mem_nil) dX7_toIndex_19

set_option maxHeartbeats 4000000 in
set_option maxRecDepth 100000 in
theorem t_X7_toVertex (l : Launch) (dC : Nat → ClassId) (dI : Nat → Nat → Nat) (sz : Nat) (G : GT) (cs : Nat → ClassId) (tt mm : Nat) (a0 : Nat) (ha0 : Ty G a0 7) (v1 : Int32) : Met l yX7_toVertex [.code yX7_toVertex cX7_toVertex 2 (some .int)] ({ frames := 1, cells := 0, slots := 0, locals := 40 }) (PT [.ref a0, .int v1] sz dC dI G cs tt mm) (vp_Si (fun (r : Int32) => True)) 0 0 (fun _ => False) := by
  refine Met.ofW (cc := cX7_toVertex) (maxL := 2) (ret := (some .int)) (by decide) rfl ?_
  intro p e s m args below meth c s₁ B hml hv
  obtain ⟨rfl, hsz, ⟨f0, hok, hP⟩, hK, hnd, hWT, hE⟩ := hv
  have hx := B.exec
  have hb := B.bytes
  have hr := B.returns
  have hown : s.vm.findClass RX7 = some m.cls := findClass_of_methodNamed B.named
  have hlocks := B.notSynchronized
  subst hsz
  have hl := lv_entry ([.ref a0, .int v1]) (n := 2) (Nat.le_of_ble_eq_true rfl)
  rw [lg_entry_eq]
  generalize (lg_sl ([.ref a0, .int v1]) ++ List.replicate (2 - (lg_sl ([.ref a0, .int v1])).length) Slot.unset).toArray = ls at hl ⊢
  have hl : lv_has ls 2 [(0, .ref a0), (1, .int v1)] := hl
  refine lv_aload_n hx hb dX7_toVertex_0 rfl (lv_at hl 0 rfl) ?_
  refine lv_iload_n hx hb dX7_toVertex_1 rfl (lv_at hl 1 rfl) ?_
  refine lv_iconst (v := 1) hx hb dX7_toVertex_2 (by decide) ?_
  refine lv_ishr hx hb dX7_toVertex_3 ?_
  refine lv_topi (fun x1 _ => ?_)
  refine lv_iload_n hx hb dX7_toVertex_4 rfl (lv_at hl 1 rfl) ?_
  refine vp_callSi (va_Run.run (va_runSN (As := [.int v1]) (rest := [.int x1, .ref a0]) ⟨hx, hb, hml, hown, noTs⟩ (t_X11_isBackwards l dC dI s.heap.size G cs tt mm v1) ⟨cnE 1 (wd_680 hE) (wd_115 hE) (wd_678 hE) rfl rfl (by decide +kernel) ⟨Nat.le_of_ble_eq_true rfl, Nat.le_of_ble_eq_true rfl⟩, (wd_679 hE), trivial⟩ ⟨PT.blind, (th_pre (av := [.int v1]) hK hP hok hnd hWT hE)⟩ rfl rfl hl.1 rfl (lv_room (Nat.le_of_ble_eq_true rfl)) dX7_toVertex_5 ⟨Nat.le_of_ble_eq_true rfl, Nat.le_of_ble_eq_true rfl⟩)) (fun r2 hr2 => ?_)
  refine lv_if_eq (tgt := 15) hx hb dX7_toVertex_8 (by decide) (fun c3 => ?_) (fun c3 => ?_)
  · refine lv_iconst (v := 2) hx hb dX7_toVertex_15 (by decide) ?_
    have he4 := ok_X7 hok ha0
    refine vp_callSi (va_Run.run (va_runV (As := [.int x1, .int 2]) (rest := []) ⟨hx, hb, hml, hown, noTs⟩ (t_X7_edgePart l dC dI s.heap.size G cs tt mm a0 ha0 x1 2) ⟨cbE 2 (wd_684 hE) (wd_116 hE) (wd_681 hE) rfl rfl (by decide +kernel) ⟨Nat.le_of_ble_eq_true rfl, Nat.le_of_ble_eq_true rfl⟩, (wd_682 hE), (wd_683 hE)⟩ ⟨PT.blind, th_recv hK hP ha0.1 he4 rfl, (th_pre (av := [.ref a0, .int x1, .int 2]) hK hP hok hnd hWT hE)⟩ rfl rfl hl.1 rfl (lv_room (Nat.le_of_ble_eq_true rfl)) dX7_toVertex_16 ⟨Nat.le_of_ble_eq_true rfl, Nat.le_of_ble_eq_true rfl⟩)) (fun r5 hr5 => ?_)
    exact W.iret (v := r5) hx hb hr (fun t ht hW => ⟨r5, rfl, trivial, ht⟩) (fun _ h => absurd h List.not_mem_nil) dX7_toVertex_19
  · refine lv_iconst (v := 0) hx hb dX7_toVertex_11 (by decide) ?_
    refine lv_goto (tgt := 16) hx hb dX7_toVertex_12 (by decide) ?_
    have he6 := ok_X7 hok ha0
    refine vp_callSi (va_Run.run (va_runV (As := [.int x1, .int 0]) (rest := []) ⟨hx, hb, hml, hown, noTs⟩ (t_X7_edgePart l dC dI s.heap.size G cs tt mm a0 ha0 x1 0) ⟨cbE 2 (wd_684 hE) (wd_116 hE) (wd_681 hE) rfl rfl (by decide +kernel) ⟨Nat.le_of_ble_eq_true rfl, Nat.le_of_ble_eq_true rfl⟩, (wd_682 hE), (wd_683 hE)⟩ ⟨PT.blind, th_recv hK hP ha0.1 he6 rfl, (th_pre (av := [.ref a0, .int x1, .int 0]) hK hP hok hnd hWT hE)⟩ rfl rfl hl.1 rfl (lv_room (Nat.le_of_ble_eq_true rfl)) dX7_toVertex_16 ⟨Nat.le_of_ble_eq_true rfl, Nat.le_of_ble_eq_true rfl⟩)) (fun r7 hr7 => ?_)
    exact W.iret (v := r7) hx hb hr (fun t ht hW => ⟨r7, rfl, trivial, ht⟩) (fun _ h => absurd h List.not_mem_nil) dX7_toVertex_19

set_option maxHeartbeats 4000000 in
set_option maxRecDepth 100000 in
theorem t_X7_orderAt (l : Launch) (dC : Nat → ClassId) (dI : Nat → Nat → Nat) (sz : Nat) (G : GT) (cs : Nat → ClassId) (tt mm : Nat) (a0 : Nat) (ha0 : Ty G a0 7) (v1 : Int32) : Met l yX7_orderAt [.code yX7_orderAt cX7_orderAt 2 (some .int)] ({ frames := 0, cells := 0, slots := 0, locals := 0 }) (PT [.ref a0, .int v1] sz dC dI G cs tt mm) (vp_Si (fun (r : Int32) => True)) 0 0 (fun _ => False) := by
  refine Met.ofW (cc := cX7_orderAt) (maxL := 2) (ret := (some .int)) (by decide) rfl ?_
  intro p e s m args below meth c s₁ B hml hv
  obtain ⟨rfl, hsz, ⟨f0, hok, hP⟩, hK, hnd, hWT, hE⟩ := hv
  have hx := B.exec
  have hb := B.bytes
  have hr := B.returns
  have hown : s.vm.findClass RX7 = some m.cls := findClass_of_methodNamed B.named
  have hlocks := B.notSynchronized
  subst hsz
  have hl := lv_entry ([.ref a0, .int v1]) (n := 2) (Nat.le_of_ble_eq_true rfl)
  rw [lg_entry_eq]
  generalize (lg_sl ([.ref a0, .int v1]) ++ List.replicate (2 - (lg_sl ([.ref a0, .int v1])).length) Slot.unset).toArray = ls at hl ⊢
  have hl : lv_has ls 2 [(0, .ref a0), (1, .int v1)] := hl
  refine lv_iload_n hx hb dX7_orderAt_0 rfl (lv_at hl 1 rfl) ?_
  refine lv_if_lt (tgt := 10) hx hb dX7_orderAt_1 (by decide) (fun c1 => ?_) (fun c1 => ?_)
  · refine lv_iconst (v := 0) hx hb dX7_orderAt_10 (by decide) ?_
    refine lv_goto (tgt := 22) hx hb dX7_orderAt_11 (by decide) ?_
    exact W.iret (v := 0) hx hb hr (fun t ht hW => ⟨0, rfl, trivial, ht⟩) (fun _ h => absurd h List.not_mem_nil) dX7_orderAt_22
  · refine lv_iload_n hx hb dX7_orderAt_4 rfl (lv_at hl 1 rfl) ?_
    refine lv_bipush (v := 6) hx hb dX7_orderAt_5 (by decide) ?_
    refine lv_icmp_lt (tgt := 14) hx hb dX7_orderAt_7 (by decide) (fun c2 => ?_) (fun c2 => ?_)
    · refine lv_aload_n hx hb dX7_orderAt_14 rfl (lv_at hl 0 rfl) ?_
      have he3 := ok_X7 hok ha0
      refine th_get hx hb (ly_X7 hE) hown hK hP ha0.1 he3 rfl 0 (by decide) (wd_149 hE) (fun _ h9 => h9) rfl dX7_orderAt_15 ?_
      refine lv_iconst (v := 3) hx hb dX7_orderAt_18 (by decide) ?_
      refine lv_iload_n hx hb dX7_orderAt_19 rfl (lv_at hl 1 rfl) ?_
      obtain ⟨j4, hj4, rfl⟩ : ∃ j : Nat, j ≤ 5 ∧ v1 = nI j := i_nat (by first | omega | (simp only [i_lt, i_le, i_eq, ti_m9, ti_m1, ti_0, ti_1, ti_2, ti_3, ti_4, ti_5, ti_6, ti_7, ti_9, ti_12, ti_20, ti_99, ti_700] at c1 c2 ⊢; omega)) (by first | omega | (simp only [i_lt, i_le, i_eq, ti_m9, ti_m1, ti_0, ti_1, ti_2, ti_3, ti_4, ti_5, ti_6, ti_7, ti_9, ti_12, ti_20, ti_99, ti_700] at c1 c2 ⊢; omega))
      have nt5 : (nI j4).toInt = ((j4 : Nat) : Int) := nI_toInt (by omega)
      refine lv_iadd hx hb dX7_orderAt_20 ?_
      refine W.eq (g2 := F0 m 21 ls [.int (nI (3 + j4)), .ref (gR G a0 0)]) (congrArg (fun z : Int32 => F0 m 21 ls (.int z :: [.ref (gR G a0 0)])) (nI_add 3 j4)) ?_
      have nt7 : (nI (3 + j4)).toInt = ((3 + j4 : Nat) : Int) := nI_toInt (by omega)
      refine th_iald hx hb hK hP hok (wt_X7_0 hWT ha0) (n := 543) (wl_X7_0 hWT ha0) (vp_in_iff.mpr (by first | omega | (simp only [i_lt, i_le, i_eq, ti_m9, ti_m1, ti_0, ti_1, ti_2, ti_3, ti_4, ti_5, ti_6, ti_7, ti_9, ti_12, ti_20, ti_99, ti_700, nt5, nt7] at c1 c2 ⊢; omega))) dX7_orderAt_21 (fun x6 => ?_)
      exact W.iret (v := x6) hx hb hr (fun t ht hW => ⟨x6, rfl, trivial, ht⟩) (fun _ h => absurd h List.not_mem_nil) dX7_orderAt_22
    · refine lv_iconst (v := 0) hx hb dX7_orderAt_10 (by decide) ?_
      refine lv_goto (tgt := 22) hx hb dX7_orderAt_11 (by decide) ?_
      exact W.iret (v := 0) hx hb hr (fun t ht hW => ⟨0, rfl, trivial, ht⟩) (fun _ h => absurd h List.not_mem_nil) dX7_orderAt_22

set_option maxHeartbeats 4000000 in
set_option maxRecDepth 100000 in
theorem t_X7_stepKinds (l : Launch) (dC : Nat → ClassId) (dI : Nat → Nat → Nat) (sz : Nat) (G : GT) (cs : Nat → ClassId) (tt mm : Nat) (a0 : Nat) (ha0 : Ty G a0 7) : Met l yX7_stepKinds [.code yX7_stepKinds cX7_stepKinds 1 (some .int)] ({ frames := 0, cells := 0, slots := 0, locals := 0 }) (PT [.ref a0] sz dC dI G cs tt mm) (vp_Si (fun (r : Int32) => True)) 0 0 (fun _ => False) := by
  refine Met.ofW (cc := cX7_stepKinds) (maxL := 1) (ret := (some .int)) (by decide) rfl ?_
  intro p e s m args below meth c s₁ B hml hv
  obtain ⟨rfl, hsz, ⟨f0, hok, hP⟩, hK, hnd, hWT, hE⟩ := hv
  have hx := B.exec
  have hb := B.bytes
  have hr := B.returns
  have hown : s.vm.findClass RX7 = some m.cls := findClass_of_methodNamed B.named
  have hlocks := B.notSynchronized
  subst hsz
  have hl := lv_entry ([.ref a0]) (n := 1) (Nat.le_of_ble_eq_true rfl)
  rw [lg_entry_eq]
  generalize (lg_sl ([.ref a0]) ++ List.replicate (1 - (lg_sl ([.ref a0])).length) Slot.unset).toArray = ls at hl ⊢
  have hl : lv_has ls 1 [(0, .ref a0)] := hl
  refine lv_iconst (v := 2) hx hb dX7_stepKinds_0 (by decide) ?_
  refine lv_aload_n hx hb dX7_stepKinds_1 rfl (lv_at hl 0 rfl) ?_
  have he1 := ok_X7 hok ha0
  refine th_get hx hb (ly_X7 hE) hown hK hP ha0.1 he1 rfl 0 (by decide) (wd_149 hE) (fun _ h9 => h9) rfl dX7_stepKinds_2 ?_
  refine lv_iconst (v := 1) hx hb dX7_stepKinds_5 (by decide) ?_
  refine th_iald hx hb hK hP hok (wt_X7_0 hWT ha0) (n := 543) (wl_X7_0 hWT ha0) (by unfold vp_in; decide) dX7_stepKinds_6 (fun x2 => ?_)
  refine lv_imul hx hb dX7_stepKinds_7 ?_
  refine lv_topi (fun x3 _ => ?_)
  exact W.iret (v := x3) hx hb hr (fun t ht hW => ⟨x3, rfl, trivial, ht⟩) (fun _ h => absurd h List.not_mem_nil) dX7_stepKinds_8

set_option maxHeartbeats 4000000 in
set_option maxRecDepth 100000 in
theorem t_X7_fromVertex (l : Launch) (dC : Nat → ClassId) (dI : Nat → Nat → Nat) (sz : Nat) (G : GT) (cs : Nat → ClassId) (tt mm : Nat) (a0 : Nat) (ha0 : Ty G a0 7) (v1 : Int32) : Met l yX7_fromVertex [.code yX7_fromVertex cX7_fromVertex 2 (some .int)] ({ frames := 1, cells := 0, slots := 0, locals := 40 }) (PT [.ref a0, .int v1] sz dC dI G cs tt mm) (vp_Si (fun (r : Int32) => True)) 0 0 (fun _ => False) := by
  refine Met.ofW (cc := cX7_fromVertex) (maxL := 2) (ret := (some .int)) (by decide) rfl ?_
  intro p e s m args below meth c s₁ B hml hv
  obtain ⟨rfl, hsz, ⟨f0, hok, hP⟩, hK, hnd, hWT, hE⟩ := hv
  have hx := B.exec
  have hb := B.bytes
  have hr := B.returns
  have hown : s.vm.findClass RX7 = some m.cls := findClass_of_methodNamed B.named
  have hlocks := B.notSynchronized
  subst hsz
  have hl := lv_entry ([.ref a0, .int v1]) (n := 2) (Nat.le_of_ble_eq_true rfl)
  rw [lg_entry_eq]
  generalize (lg_sl ([.ref a0, .int v1]) ++ List.replicate (2 - (lg_sl ([.ref a0, .int v1])).length) Slot.unset).toArray = ls at hl ⊢
  have hl : lv_has ls 2 [(0, .ref a0), (1, .int v1)] := hl
  refine lv_aload_n hx hb dX7_fromVertex_0 rfl (lv_at hl 0 rfl) ?_
  refine lv_iload_n hx hb dX7_fromVertex_1 rfl (lv_at hl 1 rfl) ?_
  refine lv_iconst (v := 1) hx hb dX7_fromVertex_2 (by decide) ?_
  refine lv_ishr hx hb dX7_fromVertex_3 ?_
  refine lv_topi (fun x1 _ => ?_)
  refine lv_iload_n hx hb dX7_fromVertex_4 rfl (lv_at hl 1 rfl) ?_
  refine vp_callSi (va_Run.run (va_runSN (As := [.int v1]) (rest := [.int x1, .ref a0]) ⟨hx, hb, hml, hown, noTs⟩ (t_X11_isBackwards l dC dI s.heap.size G cs tt mm v1) ⟨cnE 1 (wd_680 hE) (wd_115 hE) (wd_678 hE) rfl rfl (by decide +kernel) ⟨Nat.le_of_ble_eq_true rfl, Nat.le_of_ble_eq_true rfl⟩, (wd_679 hE), trivial⟩ ⟨PT.blind, (th_pre (av := [.int v1]) hK hP hok hnd hWT hE)⟩ rfl rfl hl.1 rfl (lv_room (Nat.le_of_ble_eq_true rfl)) dX7_fromVertex_5 ⟨Nat.le_of_ble_eq_true rfl, Nat.le_of_ble_eq_true rfl⟩)) (fun r2 hr2 => ?_)
  refine lv_if_eq (tgt := 15) hx hb dX7_fromVertex_8 (by decide) (fun c3 => ?_) (fun c3 => ?_)
  · refine lv_iconst (v := 0) hx hb dX7_fromVertex_15 (by decide) ?_
    have he4 := ok_X7 hok ha0
    refine vp_callSi (va_Run.run (va_runV (As := [.int x1, .int 0]) (rest := []) ⟨hx, hb, hml, hown, noTs⟩ (t_X7_edgePart l dC dI s.heap.size G cs tt mm a0 ha0 x1 0) ⟨cbE 2 (wd_684 hE) (wd_116 hE) (wd_681 hE) rfl rfl (by decide +kernel) ⟨Nat.le_of_ble_eq_true rfl, Nat.le_of_ble_eq_true rfl⟩, (wd_682 hE), (wd_683 hE)⟩ ⟨PT.blind, th_recv hK hP ha0.1 he4 rfl, (th_pre (av := [.ref a0, .int x1, .int 0]) hK hP hok hnd hWT hE)⟩ rfl rfl hl.1 rfl (lv_room (Nat.le_of_ble_eq_true rfl)) dX7_fromVertex_16 ⟨Nat.le_of_ble_eq_true rfl, Nat.le_of_ble_eq_true rfl⟩)) (fun r5 hr5 => ?_)
    exact W.iret (v := r5) hx hb hr (fun t ht hW => ⟨r5, rfl, trivial, ht⟩) (fun _ h => absurd h List.not_mem_nil) dX7_fromVertex_19
  · refine lv_iconst (v := 2) hx hb dX7_fromVertex_11 (by decide) ?_
    refine lv_goto (tgt := 16) hx hb dX7_fromVertex_12 (by decide) ?_
    have he6 := ok_X7 hok ha0
    refine vp_callSi (va_Run.run (va_runV (As := [.int x1, .int 2]) (rest := []) ⟨hx, hb, hml, hown, noTs⟩ (t_X7_edgePart l dC dI s.heap.size G cs tt mm a0 ha0 x1 2) ⟨cbE 2 (wd_684 hE) (wd_116 hE) (wd_681 hE) rfl rfl (by decide +kernel) ⟨Nat.le_of_ble_eq_true rfl, Nat.le_of_ble_eq_true rfl⟩, (wd_682 hE), (wd_683 hE)⟩ ⟨PT.blind, th_recv hK hP ha0.1 he6 rfl, (th_pre (av := [.ref a0, .int x1, .int 2]) hK hP hok hnd hWT hE)⟩ rfl rfl hl.1 rfl (lv_room (Nat.le_of_ble_eq_true rfl)) dX7_fromVertex_16 ⟨Nat.le_of_ble_eq_true rfl, Nat.le_of_ble_eq_true rfl⟩)) (fun r7 hr7 => ?_)
    exact W.iret (v := r7) hx hb hr (fun t ht hW => ⟨r7, rfl, trivial, ht⟩) (fun _ h => absurd h List.not_mem_nil) dX7_fromVertex_19

set_option maxHeartbeats 4000000 in
set_option maxRecDepth 100000 in
theorem t_X7_widthBehind (l : Launch) (dC : Nat → ClassId) (dI : Nat → Nat → Nat) (sz : Nat) (G : GT) (cs : Nat → ClassId) (tt mm : Nat) (a0 : Nat) (ha0 : Ty G a0 7) (v1 : Int32) (v2 : Int32) : Met l yX7_widthBehind [.code yX7_widthBehind cX7_widthBehind 3 (some .int)] ({ frames := 2, cells := 0, slots := 0, locals := 80 }) (PT [.ref a0, .int v1, .int v2] sz dC dI G cs tt mm) (vp_Si (fun (r : Int32) => True)) 0 0 (fun _ => False) := by
  refine Met.ofW (cc := cX7_widthBehind) (maxL := 3) (ret := (some .int)) (by decide) rfl ?_
  intro p e s m args below meth c s₁ B hml hv
  obtain ⟨rfl, hsz, ⟨f0, hok, hP⟩, hK, hnd, hWT, hE⟩ := hv
  have hx := B.exec
  have hb := B.bytes
  have hr := B.returns
  have hown : s.vm.findClass RX7 = some m.cls := findClass_of_methodNamed B.named
  have hlocks := B.notSynchronized
  subst hsz
  have hl := lv_entry ([.ref a0, .int v1, .int v2]) (n := 3) (Nat.le_of_ble_eq_true rfl)
  rw [lg_entry_eq]
  generalize (lg_sl ([.ref a0, .int v1, .int v2]) ++ List.replicate (3 - (lg_sl ([.ref a0, .int v1, .int v2])).length) Slot.unset).toArray = ls at hl ⊢
  have hl : lv_has ls 3 [(0, .ref a0), (1, .int v1), (2, .int v2)] := hl
  refine lv_aload_n hx hb dX7_widthBehind_0 rfl (lv_at hl 0 rfl) ?_
  refine lv_iload_n hx hb dX7_widthBehind_1 rfl (lv_at hl 2 rfl) ?_
  have he1 := ok_X7 hok ha0
  refine vp_callSi (va_Run.run (va_runV (As := [.int v2]) (rest := []) ⟨hx, hb, hml, hown, noTs⟩ (t_X7_fromIndex l dC dI s.heap.size G cs tt mm a0 ha0 v2) ⟨cbE 1 (wd_855 hE) (wd_116 hE) (wd_1000 hE) rfl rfl (by decide +kernel) ⟨Nat.le_of_ble_eq_true rfl, Nat.le_of_ble_eq_true rfl⟩, (wd_853 hE), (wd_854 hE)⟩ ⟨PT.blind, th_recv hK hP ha0.1 he1 rfl, (th_pre (av := [.ref a0, .int v2]) hK hP hok hnd hWT hE)⟩ rfl rfl hl.1 rfl (lv_room (Nat.le_of_ble_eq_true rfl)) dX7_widthBehind_2 ⟨Nat.le_of_ble_eq_true rfl, Nat.le_of_ble_eq_true rfl⟩)) (fun r2 hr2 => ?_)
  refine lv_iload_n hx hb dX7_widthBehind_5 rfl (lv_at hl 2 rfl) ?_
  refine lv_iload_n hx hb dX7_widthBehind_6 rfl (lv_at hl 1 rfl) ?_
  refine vp_callSi (va_Run.run (va_runSN (As := [.int v1]) (rest := [.int v2, .int r2]) ⟨hx, hb, hml, hown, noTs⟩ (t_X11_opposite l dC dI s.heap.size G cs tt mm v1) ⟨cnE 1 (wd_865 hE) (wd_115 hE) (wd_1001 hE) rfl rfl (by decide +kernel) ⟨Nat.le_of_ble_eq_true rfl, Nat.le_of_ble_eq_true rfl⟩, (wd_864 hE), trivial⟩ ⟨PT.blind, (th_pre (av := [.int v1]) hK hP hok hnd hWT hE)⟩ rfl rfl hl.1 rfl (lv_room (Nat.le_of_ble_eq_true rfl)) dX7_widthBehind_7 ⟨Nat.le_of_ble_eq_true rfl, Nat.le_of_ble_eq_true rfl⟩)) (fun r3 hr3 => ?_)
  refine lv_icmp_ne (tgt := 17) hx hb dX7_widthBehind_10 (by decide) (fun c4 => ?_) (fun c4 => ?_)
  · refine lv_iconst (v := 0) hx hb dX7_widthBehind_17 (by decide) ?_
    refine vp_callSi (va_Run.run (va_runSN (As := [.int 0]) (rest := [.int r2]) ⟨hx, hb, hml, hown, noTs⟩ (t_X11_bit l dC dI s.heap.size G cs tt mm 0) ⟨cnE 1 (wd_669 hE) (wd_115 hE) (wd_1002 hE) rfl rfl (by decide +kernel) ⟨Nat.le_of_ble_eq_true rfl, Nat.le_of_ble_eq_true rfl⟩, (wd_668 hE), trivial⟩ ⟨PT.blind, (th_pre (av := [.int 0]) hK hP hok hnd hWT hE)⟩ rfl rfl hl.1 rfl (lv_room (Nat.le_of_ble_eq_true rfl)) dX7_widthBehind_18 ⟨Nat.le_of_ble_eq_true rfl, Nat.le_of_ble_eq_true rfl⟩)) (fun r5 hr5 => ?_)
    refine lv_isub hx hb dX7_widthBehind_21 ?_
    refine lv_topi (fun x6 _ => ?_)
    exact W.iret (v := x6) hx hb hr (fun t ht hW => ⟨x6, rfl, trivial, ht⟩) (fun _ h => absurd h List.not_mem_nil) dX7_widthBehind_22
  · refine lv_iconst (v := 1) hx hb dX7_widthBehind_13 (by decide) ?_
    refine lv_goto (tgt := 18) hx hb dX7_widthBehind_14 (by decide) ?_
    refine vp_callSi (va_Run.run (va_runSN (As := [.int 1]) (rest := [.int r2]) ⟨hx, hb, hml, hown, noTs⟩ (t_X11_bit l dC dI s.heap.size G cs tt mm 1) ⟨cnE 1 (wd_669 hE) (wd_115 hE) (wd_1002 hE) rfl rfl (by decide +kernel) ⟨Nat.le_of_ble_eq_true rfl, Nat.le_of_ble_eq_true rfl⟩, (wd_668 hE), trivial⟩ ⟨PT.blind, (th_pre (av := [.int 1]) hK hP hok hnd hWT hE)⟩ rfl rfl hl.1 rfl (lv_room (Nat.le_of_ble_eq_true rfl)) dX7_widthBehind_18 ⟨Nat.le_of_ble_eq_true rfl, Nat.le_of_ble_eq_true rfl⟩)) (fun r7 hr7 => ?_)
    refine lv_isub hx hb dX7_widthBehind_21 ?_
    refine lv_topi (fun x8 _ => ?_)
    exact W.iret (v := x8) hx hb hr (fun t ht hW => ⟨x8, rfl, trivial, ht⟩) (fun _ h => absurd h List.not_mem_nil) dX7_widthBehind_22

set_option maxHeartbeats 4000000 in
set_option maxRecDepth 100000 in
theorem t_X7_common (l : Launch) (dC : Nat → ClassId) (dI : Nat → Nat → Nat) (sz : Nat) (G : GT) (cs : Nat → ClassId) (tt mm : Nat) (a0 : Nat) (ha0 : Ty G a0 7) (v1 : Int32) : Met l yX7_common [.code yX7_common cX7_common 2 (some .int)] ({ frames := 1, cells := 0, slots := 0, locals := 40 }) (PT [.ref a0, .int v1] sz dC dI G cs tt mm) (vp_Si (fun (r : Int32) => True)) 0 0 (fun _ => False) := by
  refine Met.ofW (cc := cX7_common) (maxL := 2) (ret := (some .int)) (by decide) rfl ?_
  intro p e s m args below meth c s₁ B hml hv
  obtain ⟨rfl, hsz, ⟨f0, hok, hP⟩, hK, hnd, hWT, hE⟩ := hv
  have hx := B.exec
  have hb := B.bytes
  have hr := B.returns
  have hown : s.vm.findClass RX7 = some m.cls := findClass_of_methodNamed B.named
  have hlocks := B.notSynchronized
  subst hsz
  have hl := lv_entry ([.ref a0, .int v1]) (n := 2) (Nat.le_of_ble_eq_true rfl)
  rw [lg_entry_eq]
  generalize (lg_sl ([.ref a0, .int v1]) ++ List.replicate (2 - (lg_sl ([.ref a0, .int v1])).length) Slot.unset).toArray = ls at hl ⊢
  have hl : lv_has ls 2 [(0, .ref a0), (1, .int v1)] := hl
  refine lv_aload_n hx hb dX7_common_0 rfl (lv_at hl 0 rfl) ?_
  refine lv_aload_n hx hb dX7_common_1 rfl (lv_at hl 0 rfl) ?_
  refine lv_iload_n hx hb dX7_common_2 rfl (lv_at hl 1 rfl) ?_
  refine lv_iconst (v := 0) hx hb dX7_common_3 (by decide) ?_
  have he1 := ok_X7 hok ha0
  refine vp_callSi (va_Run.run (va_runV (As := [.int v1, .int 0]) (rest := [.ref a0]) ⟨hx, hb, hml, hown, noTs⟩ (t_X7_edgePart l dC dI s.heap.size G cs tt mm a0 ha0 v1 0) ⟨cbE 2 (wd_684 hE) (wd_116 hE) (wd_681 hE) rfl rfl (by decide +kernel) ⟨Nat.le_of_ble_eq_true rfl, Nat.le_of_ble_eq_true rfl⟩, (wd_682 hE), (wd_683 hE)⟩ ⟨PT.blind, th_recv hK hP ha0.1 he1 rfl, (th_pre (av := [.ref a0, .int v1, .int 0]) hK hP hok hnd hWT hE)⟩ rfl rfl hl.1 rfl (lv_room (Nat.le_of_ble_eq_true rfl)) dX7_common_4 ⟨Nat.le_of_ble_eq_true rfl, Nat.le_of_ble_eq_true rfl⟩)) (fun r2 hr2 => ?_)
  refine vp_callSi (va_Run.run (va_runV (As := [.int r2]) (rest := []) ⟨hx, hb, hml, hown, noTs⟩ (t_X7_orderAt l dC dI s.heap.size G cs tt mm a0 ha0 r2) ⟨cbE 1 (wd_614 hE) (wd_116 hE) (wd_807 hE) rfl rfl (by decide +kernel) ⟨Nat.le_of_ble_eq_true rfl, Nat.le_of_ble_eq_true rfl⟩, (wd_612 hE), (wd_613 hE)⟩ ⟨PT.blind, th_recv hK hP ha0.1 he1 rfl, (th_pre (av := [.ref a0, .int r2]) hK hP hok hnd hWT hE)⟩ rfl rfl hl.1 rfl (lv_room (Nat.le_of_ble_eq_true rfl)) dX7_common_7 ⟨Nat.le_of_ble_eq_true rfl, Nat.le_of_ble_eq_true rfl⟩)) (fun r3 hr3 => ?_)
  refine lv_aload_n hx hb dX7_common_10 rfl (lv_at hl 0 rfl) ?_
  refine lv_iload_n hx hb dX7_common_11 rfl (lv_at hl 1 rfl) ?_
  refine lv_iconst (v := 1) hx hb dX7_common_12 (by decide) ?_
  refine vp_callSi (va_Run.run (va_runV (As := [.int v1, .int 1]) (rest := [.int r3]) ⟨hx, hb, hml, hown, noTs⟩ (t_X7_edgePart l dC dI s.heap.size G cs tt mm a0 ha0 v1 1) ⟨cbE 2 (wd_684 hE) (wd_116 hE) (wd_681 hE) rfl rfl (by decide +kernel) ⟨Nat.le_of_ble_eq_true rfl, Nat.le_of_ble_eq_true rfl⟩, (wd_682 hE), (wd_683 hE)⟩ ⟨PT.blind, th_recv hK hP ha0.1 he1 rfl, (th_pre (av := [.ref a0, .int v1, .int 1]) hK hP hok hnd hWT hE)⟩ rfl rfl hl.1 rfl (lv_room (Nat.le_of_ble_eq_true rfl)) dX7_common_13 ⟨Nat.le_of_ble_eq_true rfl, Nat.le_of_ble_eq_true rfl⟩)) (fun r4 hr4 => ?_)
  refine vp_callSi (va_Run.run (va_runSN (As := [.int r3, .int r4]) (rest := []) ⟨hx, hb, hml, hown, noTs⟩ (t_X11_share l dC dI s.heap.size G cs tt mm r3 r4) ⟨cnE 2 (wd_620 hE) (wd_115 hE) (wd_808 hE) rfl rfl (by decide +kernel) ⟨Nat.le_of_ble_eq_true rfl, Nat.le_of_ble_eq_true rfl⟩, (wd_619 hE), trivial⟩ ⟨PT.blind, (th_pre (av := [.int r3, .int r4]) hK hP hok hnd hWT hE)⟩ rfl rfl hl.1 rfl (lv_room (Nat.le_of_ble_eq_true rfl)) dX7_common_16 ⟨Nat.le_of_ble_eq_true rfl, Nat.le_of_ble_eq_true rfl⟩)) (fun r5 hr5 => ?_)
  exact W.iret (v := r5) hx hb hr (fun t ht hW => ⟨r5, rfl, trivial, ht⟩) (fun _ h => absurd h List.not_mem_nil) dX7_common_19

set_option maxHeartbeats 4000000 in
set_option maxRecDepth 100000 in
theorem t_X7_endOf (l : Launch) (dC : Nat → ClassId) (dI : Nat → Nat → Nat) (sz : Nat) (G : GT) (cs : Nat → ClassId) (tt mm : Nat) (a0 : Nat) (ha0 : Ty G a0 7) (a1 : Nat) (ha1 : Ty G a1 10) : Met l yX7_endOf [.code yX7_endOf cX7_endOf 2 (some .int)] ({ frames := 2, cells := 0, slots := 0, locals := 80 }) (PT [.ref a0, .ref a1] sz dC dI G cs tt mm) (vp_Si (fun (r : Int32) => True)) 0 0 (fun _ => False) := by
  refine Met.ofW (cc := cX7_endOf) (maxL := 2) (ret := (some .int)) (by decide) rfl ?_
  intro p e s m args below meth c s₁ B hml hv
  obtain ⟨rfl, hsz, ⟨f0, hok, hP⟩, hK, hnd, hWT, hE⟩ := hv
  have hx := B.exec
  have hb := B.bytes
  have hr := B.returns
  have hown : s.vm.findClass RX7 = some m.cls := findClass_of_methodNamed B.named
  have hlocks := B.notSynchronized
  subst hsz
  have hl := lv_entry ([.ref a0, .ref a1]) (n := 2) (Nat.le_of_ble_eq_true rfl)
  rw [lg_entry_eq]
  generalize (lg_sl ([.ref a0, .ref a1]) ++ List.replicate (2 - (lg_sl ([.ref a0, .ref a1])).length) Slot.unset).toArray = ls at hl ⊢
  have hl : lv_has ls 2 [(0, .ref a0), (1, .ref a1)] := hl
  refine lv_aload_n hx hb dX7_endOf_0 rfl (lv_at hl 1 rfl) ?_
  obtain ⟨y2_1, y3_1, hy3_1, he1⟩ := ok_X10 hok ha1
  refine vp_callSi (va_Run.run (va_runV (As := []) (rest := []) ⟨hx, hb, hml, hown, noTs⟩ (t_X10_size l dC dI s.heap.size G cs tt mm a1 ha1) ⟨cbE 0 (wd_666 hE) (wd_120 hE) (wd_709 hE) rfl rfl (by decide +kernel) ⟨Nat.le_of_ble_eq_true rfl, Nat.le_of_ble_eq_true rfl⟩, (wd_664 hE), (wd_665 hE)⟩ ⟨PT.blind, th_recv hK hP ha1.1 he1 rfl, (th_pre (av := [.ref a1]) hK hP hok hnd hWT hE)⟩ rfl rfl hl.1 rfl (lv_room (Nat.le_of_ble_eq_true rfl)) dX7_endOf_1 ⟨Nat.le_of_ble_eq_true rfl, Nat.le_of_ble_eq_true rfl⟩)) (fun r2 hr2 => ?_)
  obtain ⟨hra2, hrb2⟩ := hr2
  refine lv_if_ne (tgt := 14) hx hb dX7_endOf_4 (by decide) (fun c3 => ?_) (fun c3 => ?_)
  · refine lv_aload_n hx hb dX7_endOf_14 rfl (lv_at hl 0 rfl) ?_
    refine lv_aload_n hx hb dX7_endOf_15 rfl (lv_at hl 1 rfl) ?_
    refine vp_callSi (va_Run.run (va_runV (As := []) (rest := [.ref a0]) ⟨hx, hb, hml, hown, noTs⟩ (t_X10_lastStep l dC dI s.heap.size G cs tt mm a1 ha1) ⟨cbE 0 (wd_832 hE) (wd_120 hE) (wd_829 hE) rfl rfl (by decide +kernel) ⟨Nat.le_of_ble_eq_true rfl, Nat.le_of_ble_eq_true rfl⟩, (wd_830 hE), (wd_831 hE)⟩ ⟨PT.blind, th_recv hK hP ha1.1 he1 rfl, (th_pre (av := [.ref a1]) hK hP hok hnd hWT hE)⟩ rfl rfl hl.1 rfl (lv_room (Nat.le_of_ble_eq_true rfl)) dX7_endOf_16 ⟨Nat.le_of_ble_eq_true rfl, Nat.le_of_ble_eq_true rfl⟩)) (fun r4 hr4 => ?_)
    have he5 := ok_X7 hok ha0
    refine vp_callSi (va_Run.run (va_runV (As := [.int r4]) (rest := []) ⟨hx, hb, hml, hown, noTs⟩ (t_X7_toVertex l dC dI s.heap.size G cs tt mm a0 ha0 r4) ⟨cbE 1 (wd_692 hE) (wd_116 hE) (wd_833 hE) rfl rfl (by decide +kernel) ⟨Nat.le_of_ble_eq_true rfl, Nat.le_of_ble_eq_true rfl⟩, (wd_690 hE), (wd_691 hE)⟩ ⟨PT.blind, th_recv hK hP ha0.1 he5 rfl, (th_pre (av := [.ref a0, .int r4]) hK hP hok hnd hWT hE)⟩ rfl rfl hl.1 rfl (lv_room (Nat.le_of_ble_eq_true rfl)) dX7_endOf_19 ⟨Nat.le_of_ble_eq_true rfl, Nat.le_of_ble_eq_true rfl⟩)) (fun r6 hr6 => ?_)
    exact W.iret (v := r6) hx hb hr (fun t ht hW => ⟨r6, rfl, trivial, ht⟩) (fun _ h => absurd h List.not_mem_nil) dX7_endOf_22
  · refine lv_aload_n hx hb dX7_endOf_7 rfl (lv_at hl 1 rfl) ?_
    refine vp_callSi (va_Run.run (va_runV (As := []) (rest := []) ⟨hx, hb, hml, hown, noTs⟩ (t_X10_begin l dC dI s.heap.size G cs tt mm a1 ha1) ⟨cbE 0 (wd_713 hE) (wd_120 hE) (wd_710 hE) rfl rfl (by decide +kernel) ⟨Nat.le_of_ble_eq_true rfl, Nat.le_of_ble_eq_true rfl⟩, (wd_711 hE), (wd_712 hE)⟩ ⟨PT.blind, th_recv hK hP ha1.1 he1 rfl, (th_pre (av := [.ref a1]) hK hP hok hnd hWT hE)⟩ rfl rfl hl.1 rfl (lv_room (Nat.le_of_ble_eq_true rfl)) dX7_endOf_8 ⟨Nat.le_of_ble_eq_true rfl, Nat.le_of_ble_eq_true rfl⟩)) (fun r7 hr7 => ?_)
    refine lv_goto (tgt := 22) hx hb dX7_endOf_11 (by decide) ?_
    exact W.iret (v := r7) hx hb hr (fun t ht hW => ⟨r7, rfl, trivial, ht⟩) (fun _ h => absurd h List.not_mem_nil) dX7_endOf_22

set_option maxHeartbeats 4000000 in
set_option maxRecDepth 100000 in
theorem t_X7_copyFrom (l : Launch) (dC : Nat → ClassId) (dI : Nat → Nat → Nat) (sz : Nat) (G : GT) (cs : Nat → ClassId) (tt mm : Nat) (a0 : Nat) (ha0 : Ty G a0 7) (a1 : Nat) (ha1 : Ty G a1 7) : Met l yX7_copyFrom [.code yX7_copyFrom cX7_copyFrom 2 none] ({ frames := 1, cells := 0, slots := 0, locals := 40 }) (PT [.ref a0, .ref a1] sz dC dI G cs tt mm) (va_Qv (fun (u : Nat → va_E) => True) (BT dC dI G cs tt mm) (AT G sz)) 0 0 (AT G sz) := by
  refine Met.ofW (cc := cX7_copyFrom) (maxL := 2) (ret := none) (by decide) rfl ?_
  intro p e s m args below meth c s₁ B hml hv
  obtain ⟨rfl, hsz, ⟨f0, hok, hP⟩, hK, hnd, hWT, hE⟩ := hv
  have hx := B.exec
  have hb := B.bytes
  have hr := B.returns
  have hown : s.vm.findClass RX7 = some m.cls := findClass_of_methodNamed B.named
  have hlocks := B.notSynchronized
  subst hsz
  have hAL : ∀ a, a ∈ gL G → AT G s.heap.size a := fun a h => Or.inl h
  have hA : ∀ q : Nat, s.heap.size ≤ q → AT G s.heap.size q := fun q h => Or.inr h
  have hS : va_S (AT G s.heap.size) s.heap s.heap [] := va_S.rf
  have hl := lv_entry ([.ref a0, .ref a1]) (n := 2) (Nat.le_of_ble_eq_true rfl)
  rw [lg_entry_eq]
  generalize (lg_sl ([.ref a0, .ref a1]) ++ List.replicate (2 - (lg_sl ([.ref a0, .ref a1])).length) Slot.unset).toArray = ls at hl ⊢
  have hl : lv_has ls 2 [(0, .ref a0), (1, .ref a1)] := hl
  refine lv_aload_n hx hb dX7_copyFrom_0 rfl (lv_at hl 1 rfl) ?_
  have he1 := ok_X7 hok ha1
  refine th_get hx hb (ly_X7 hE) hown hK hP ha1.1 he1 rfl 0 (by decide) (wd_149 hE) (fun _ h9 => h9) rfl dX7_copyFrom_1 ?_
  refine lv_iconst (v := 0) hx hb dX7_copyFrom_4 (by decide) ?_
  refine lv_aload_n hx hb dX7_copyFrom_5 rfl (lv_at hl 0 rfl) ?_
  have he2 := ok_X7 hok ha0
  refine th_get hx hb (ly_X7 hE) hown hK hP ha0.1 he2 rfl 0 (by decide) (wd_149 hE) (fun _ h9 => h9) rfl dX7_copyFrom_6 ?_
  refine lv_iconst (v := 0) hx hb dX7_copyFrom_9 (by decide) ?_
  refine lv_aload_n hx hb dX7_copyFrom_10 rfl (lv_at hl 1 rfl) ?_
  refine th_get hx hb (ly_X7 hE) hown hK hP ha1.1 he1 rfl 0 (by decide) (wd_149 hE) (fun _ h9 => h9) rfl dX7_copyFrom_11 ?_
  refine th_len1 hx hb hK hP hok (n := 543) (wl_X7_0 hWT ha1) (Or.inl (wt_X7_0 hWT ha1)) dX7_copyFrom_14 ?_
  refine W.eq (g2 := F0 m 15 ls [.int 543, .int 0, .ref (gR G a0 0), .int 0, .ref (gR G a1 0)]) rfl ?_
  refine lv_aload_n hx hb dX7_copyFrom_15 rfl (lv_at hl 0 rfl) ?_
  refine th_get hx hb (ly_X7 hE) hown hK hP ha0.1 he2 rfl 0 (by decide) (wd_149 hE) (fun _ h9 => h9) rfl dX7_copyFrom_16 ?_
  refine th_len1 hx hb hK hP hok (n := 543) (wl_X7_0 hWT ha0) (Or.inl (wt_X7_0 hWT ha0)) dX7_copyFrom_19 ?_
  refine W.eq (g2 := F0 m 20 ls [.int 543, .int 543, .int 0, .ref (gR G a0 0), .int 0, .ref (gR G a1 0)]) rfl ?_
  refine va_mmin hx hb (by rw [hml]; exact hl.1.symm) hown (wd_735 hE) (wd_453 hE) (wd_128 hE) (wd_454 hE) (Nat.le_of_ble_eq_true rfl) (Nat.le_of_ble_eq_true rfl) (Nat.le_of_ble_eq_true rfl) (Nat.le_of_ble_eq_true rfl) dX7_copyFrom_20 ?_
  refine lv_topi (fun x3 ex3 => ?_)
  have hmn3 : x3 ≤ 543 ∧ x3 ≤ 543 := by rw [ex3]; exact i_min 543 543
  obtain ⟨hma3, hmb3⟩ := hmn3
  refine th_copy hx hb (by rw [hml]; exact hl.1.symm) hown (wd_736 hE) (wd_738 hE) (wd_737 hE) (wd_133 hE) hK hP hok hnd hAL hS (wt_X7_0 hWT ha1) (wt_X7_0 hWT ha0) (wl_X7_0 hWT ha1) (wl_X7_0 hWT ha0) (by decide) (by first | omega | (simp only [i_lt, i_le, i_eq, ti_m9, ti_m1, ti_0, ti_1, ti_2, ti_3, ti_4, ti_5, ti_6, ti_7, ti_9, ti_12, ti_20, ti_99, ti_700, ti_24, ti_72, ti_8] at hma3 hmb3 ⊢; omega)) (by first | omega | (simp only [i_lt, i_le, i_eq, ti_m9, ti_m1, ti_0, ti_1, ti_2, ti_3, ti_4, ti_5, ti_6, ti_7, ti_9, ti_12, ti_20, ti_99, ti_700, ti_24, ti_72, ti_8] at hma3 hmb3 ⊢; omega)) (by first | omega | (simp only [i_lt, i_le, i_eq, ti_m9, ti_m1, ti_0, ti_1, ti_2, ti_3, ti_4, ti_5, ti_6, ti_7, ti_9, ti_12, ti_20, ti_99, ti_700, ti_24, ti_72, ti_8] at hma3 hmb3 ⊢; omega)) (Nat.le_of_ble_eq_true rfl) (Nat.le_of_ble_eq_true rfl) dX7_copyFrom_23 (fun f4 H locs hfo4 hok hP hS => ?_)
  have he5 := (hfo4 a1 (Ty.ne ha1 (wt_X7_0 hWT ha0) (by decide))).trans he1
  have he6 := (hfo4 a0 (Ty.ne ha0 (wt_X7_0 hWT ha0) (by decide))).trans he2
  exact W.vret hx hb hr (fun t ht hW => ⟨⟨f4, rfl, trivial, hok, by rw [ht]; exact hP⟩, hS.F ht⟩) hS.2.2 dX7_copyFrom_26

set_option maxHeartbeats 4000000 in
set_option maxRecDepth 100000 in
theorem t_X7_clear (l : Launch) (dC : Nat → ClassId) (dI : Nat → Nat → Nat) (sz : Nat) (G : GT) (cs : Nat → ClassId) (tt mm : Nat) (a0 : Nat) (ha0 : Ty G a0 7) : Met l yX7_clear [.code yX7_clear cX7_clear 1 none] ({ frames := 1, cells := 0, slots := 0, locals := 40 }) (PT [.ref a0] sz dC dI G cs tt mm) (va_Qv (fun (u : Nat → va_E) => True) (BT dC dI G cs tt mm) (AT G sz)) 0 0 (AT G sz) := by
  refine Met.ofW (cc := cX7_clear) (maxL := 1) (ret := none) (by decide) rfl ?_
  intro p e s m args below meth c s₁ B hml hv
  obtain ⟨rfl, hsz, ⟨f0, hok, hP⟩, hK, hnd, hWT, hE⟩ := hv
  have hx := B.exec
  have hb := B.bytes
  have hr := B.returns
  have hown : s.vm.findClass RX7 = some m.cls := findClass_of_methodNamed B.named
  have hlocks := B.notSynchronized
  subst hsz
  have hAL : ∀ a, a ∈ gL G → AT G s.heap.size a := fun a h => Or.inl h
  have hA : ∀ q : Nat, s.heap.size ≤ q → AT G s.heap.size q := fun q h => Or.inr h
  have hS : va_S (AT G s.heap.size) s.heap s.heap [] := va_S.rf
  have hl := lv_entry ([.ref a0]) (n := 1) (Nat.le_of_ble_eq_true rfl)
  rw [lg_entry_eq]
  generalize (lg_sl ([.ref a0]) ++ List.replicate (1 - (lg_sl ([.ref a0])).length) Slot.unset).toArray = ls at hl ⊢
  have hl : lv_has ls 1 [(0, .ref a0)] := hl
  refine lv_aload_n hx hb dX7_clear_0 rfl (lv_at hl 0 rfl) ?_
  have he1 := ok_X7 hok ha0
  refine th_get hx hb (ly_X7 hE) hown hK hP ha0.1 he1 rfl 0 (by decide) (wd_149 hE) (fun _ h9 => h9) rfl dX7_clear_1 ?_
  refine lv_iconst (v := 0) hx hb dX7_clear_4 (by decide) ?_
  refine tc_v hAL hS hA (va_runS (As := [.ref (gR G a0 0), .int 0]) (rest := []) ⟨hx, hb, hml, hown, noTs⟩ (t_J7_fill_53178 l dC dI s.heap.size G cs tt mm (gR G a0 0) ((wt_X7_0 hWT ha0)) 543 ((wl_X7_0 hWT ha0)) 0) ⟨cbE 2 (wd_447 hE) (wd_127 hE) (wd_445 hE) rfl rfl (by decide +kernel) ⟨Nat.le_of_ble_eq_true rfl, Nat.le_of_ble_eq_true rfl⟩, (wd_446 hE)⟩ ⟨PT.blind, (th_pre (av := [.ref (gR G a0 0), .int 0]) hK hP hok hnd hWT hE)⟩ rfl rfl hl.1 rfl (lv_room (Nat.le_of_ble_eq_true rfl)) dX7_clear_5 ⟨Nat.le_of_ble_eq_true rfl, Nat.le_of_ble_eq_true rfl⟩) (fun f2 H locs hr2 hok hP hS => ?_)
  exact W.vret hx hb hr (fun t ht hW => ⟨⟨f2, rfl, trivial, hok, by rw [ht]; exact hP⟩, hS.F ht⟩) hS.2.2 dX7_clear_8

set_option maxHeartbeats 4000000 in
set_option maxRecDepth 100000 in
theorem t_X7_vertices (l : Launch) (dC : Nat → ClassId) (dI : Nat → Nat → Nat) (sz : Nat) (G : GT) (cs : Nat → ClassId) (tt mm : Nat) (a0 : Nat) (ha0 : Ty G a0 7) : Met l yX7_vertices [.code yX7_vertices cX7_vertices 1 (some .int)] ({ frames := 0, cells := 0, slots := 0, locals := 0 }) (PT [.ref a0] sz dC dI G cs tt mm) (vp_Si (fun (r : Int32) => True)) 0 0 (fun _ => False) := by
  refine Met.ofW (cc := cX7_vertices) (maxL := 1) (ret := (some .int)) (by decide) rfl ?_
  intro p e s m args below meth c s₁ B hml hv
  obtain ⟨rfl, hsz, ⟨f0, hok, hP⟩, hK, hnd, hWT, hE⟩ := hv
  have hx := B.exec
  have hb := B.bytes
  have hr := B.returns
  have hown : s.vm.findClass RX7 = some m.cls := findClass_of_methodNamed B.named
  have hlocks := B.notSynchronized
  subst hsz
  have hl := lv_entry ([.ref a0]) (n := 1) (Nat.le_of_ble_eq_true rfl)
  rw [lg_entry_eq]
  generalize (lg_sl ([.ref a0]) ++ List.replicate (1 - (lg_sl ([.ref a0])).length) Slot.unset).toArray = ls at hl ⊢
  have hl : lv_has ls 1 [(0, .ref a0)] := hl
  refine lv_aload_n hx hb dX7_vertices_0 rfl (lv_at hl 0 rfl) ?_
  have he1 := ok_X7 hok ha0
  refine th_get hx hb (ly_X7 hE) hown hK hP ha0.1 he1 rfl 0 (by decide) (wd_149 hE) (fun _ h9 => h9) rfl dX7_vertices_1 ?_
  refine lv_iconst (v := 0) hx hb dX7_vertices_4 (by decide) ?_
  refine th_iald hx hb hK hP hok (wt_X7_0 hWT ha0) (n := 543) (wl_X7_0 hWT ha0) (by unfold vp_in; decide) dX7_vertices_5 (fun x2 => ?_)
  exact W.iret (v := x2) hx hb hr (fun t ht hW => ⟨x2, rfl, trivial, ht⟩) (fun _ h => absurd h List.not_mem_nil) dX7_vertices_6

set_option maxHeartbeats 4000000 in
set_option maxRecDepth 100000 in
theorem t_X7_put (l : Launch) (dC : Nat → ClassId) (dI : Nat → Nat → Nat) (sz : Nat) (G : GT) (cs : Nat → ClassId) (tt mm : Nat) (a0 : Nat) (ha0 : Ty G a0 7) (v1 : Int32) (v2 : Int32) : Met l yX7_put [.code yX7_put cX7_put 3 none] ({ frames := 0, cells := 0, slots := 0, locals := 0 }) (PT [.ref a0, .int v1, .int v2] sz dC dI G cs tt mm) (va_Qv (fun (u : Nat → va_E) => True) (BT dC dI G cs tt mm) (AT G sz)) 0 0 (AT G sz) := by
  refine Met.ofW (cc := cX7_put) (maxL := 3) (ret := none) (by decide) rfl ?_
  intro p e s m args below meth c s₁ B hml hv
  obtain ⟨rfl, hsz, ⟨f0, hok, hP⟩, hK, hnd, hWT, hE⟩ := hv
  have hx := B.exec
  have hb := B.bytes
  have hr := B.returns
  have hown : s.vm.findClass RX7 = some m.cls := findClass_of_methodNamed B.named
  have hlocks := B.notSynchronized
  subst hsz
  have hAL : ∀ a, a ∈ gL G → AT G s.heap.size a := fun a h => Or.inl h
  have hA : ∀ q : Nat, s.heap.size ≤ q → AT G s.heap.size q := fun q h => Or.inr h
  have hS : va_S (AT G s.heap.size) s.heap s.heap [] := va_S.rf
  have hl := lv_entry ([.ref a0, .int v1, .int v2]) (n := 3) (Nat.le_of_ble_eq_true rfl)
  rw [lg_entry_eq]
  generalize (lg_sl ([.ref a0, .int v1, .int v2]) ++ List.replicate (3 - (lg_sl ([.ref a0, .int v1, .int v2])).length) Slot.unset).toArray = ls at hl ⊢
  have hl : lv_has ls 3 [(0, .ref a0), (1, .int v1), (2, .int v2)] := hl
  refine lv_iload_n hx hb dX7_put_0 rfl (lv_at hl 1 rfl) ?_
  refine lv_if_lt (tgt := 20) hx hb dX7_put_1 (by decide) (fun c1 => ?_) (fun c1 => ?_)
  · exact W.vret hx hb hr (fun t ht hW => ⟨⟨f0, rfl, trivial, hok, by rw [ht]; exact hP⟩, hS.F ht⟩) hS.2.2 dX7_put_20
  · refine lv_iload_n hx hb dX7_put_4 rfl (lv_at hl 1 rfl) ?_
    refine lv_aload_n hx hb dX7_put_5 rfl (lv_at hl 0 rfl) ?_
    have he2 := ok_X7 hok ha0
    refine th_get hx hb (ly_X7 hE) hown hK hP ha0.1 he2 rfl 0 (by decide) (wd_149 hE) (fun _ h9 => h9) rfl dX7_put_6 ?_
    refine th_len1 hx hb hK hP hok (n := 543) (wl_X7_0 hWT ha0) (Or.inl (wt_X7_0 hWT ha0)) dX7_put_9 ?_
    refine W.eq (g2 := F0 m 10 ls [.int 543, .int v1]) rfl ?_
    refine lv_icmp_ge (tgt := 20) hx hb dX7_put_10 (by decide) (fun c3 => ?_) (fun c3 => ?_)
    · exact W.vret hx hb hr (fun t ht hW => ⟨⟨f0, rfl, trivial, hok, by rw [ht]; exact hP⟩, hS.F ht⟩) hS.2.2 dX7_put_20
    · refine lv_aload_n hx hb dX7_put_13 rfl (lv_at hl 0 rfl) ?_
      refine th_get hx hb (ly_X7 hE) hown hK hP ha0.1 he2 rfl 0 (by decide) (wd_149 hE) (fun _ h9 => h9) rfl dX7_put_14 ?_
      refine lv_iload_n hx hb dX7_put_17 rfl (lv_at hl 1 rfl) ?_
      refine lv_iload_n hx hb dX7_put_18 rfl (lv_at hl 2 rfl) ?_
      refine th_iast hx hb hK hP hok hnd hAL hS (wt_X7_0 hWT ha0) (n := 543) (wl_X7_0 hWT ha0) (vp_in_iff.mpr (by first | omega | (simp only [i_lt, i_le, i_eq, ti_m9, ti_m1, ti_0, ti_1, ti_2, ti_3, ti_4, ti_5, ti_6, ti_7, ti_9, ti_12, ti_20, ti_99, ti_700, ti_24, ti_72, ti_8, ti_128, ti_97, ti_122, ti_48, ti_57, ti_59, ti_60, ti_61, ti_62, ti_10] at c1 c3 ⊢; omega))) dX7_put_19 (fun f4 H locs hfo4 hok hP hS => ?_)
      have he5 := (hfo4 a0 (Ty.ne ha0 (wt_X7_0 hWT ha0) (by decide))).trans he2
      exact W.vret hx hb hr (fun t ht hW => ⟨⟨f4, rfl, trivial, hok, by rw [ht]; exact hP⟩, hS.F ht⟩) hS.2.2 dX7_put_20

set_option maxHeartbeats 4000000 in
set_option maxRecDepth 100000 in
theorem t_X7_addVertex (l : Launch) (dC : Nat → ClassId) (dI : Nat → Nat → Nat) (sz : Nat) (G : GT) (cs : Nat → ClassId) (tt mm : Nat) (a0 : Nat) (ha0 : Ty G a0 7) (v1 : Int32) : Met l yX7_addVertex [.code yX7_addVertex cX7_addVertex 2 none] ({ frames := 1, cells := 0, slots := 0, locals := 40 }) (PT [.ref a0, .int v1] sz dC dI G cs tt mm) (va_Qv (fun (u : Nat → va_E) => True) (BT dC dI G cs tt mm) (AT G sz)) 0 0 (AT G sz) := by
  refine Met.ofW (cc := cX7_addVertex) (maxL := 2) (ret := none) (by decide) rfl ?_
  intro p e s m args below meth c s₁ B hml hv
  obtain ⟨rfl, hsz, ⟨f0, hok, hP⟩, hK, hnd, hWT, hE⟩ := hv
  have hx := B.exec
  have hb := B.bytes
  have hr := B.returns
  have hown : s.vm.findClass RX7 = some m.cls := findClass_of_methodNamed B.named
  have hlocks := B.notSynchronized
  subst hsz
  have hAL : ∀ a, a ∈ gL G → AT G s.heap.size a := fun a h => Or.inl h
  have hA : ∀ q : Nat, s.heap.size ≤ q → AT G s.heap.size q := fun q h => Or.inr h
  have hS : va_S (AT G s.heap.size) s.heap s.heap [] := va_S.rf
  have hl := lv_entry ([.ref a0, .int v1]) (n := 2) (Nat.le_of_ble_eq_true rfl)
  rw [lg_entry_eq]
  generalize (lg_sl ([.ref a0, .int v1]) ++ List.replicate (2 - (lg_sl ([.ref a0, .int v1])).length) Slot.unset).toArray = ls at hl ⊢
  have hl : lv_has ls 2 [(0, .ref a0), (1, .int v1)] := hl
  refine lv_aload_n hx hb dX7_addVertex_0 rfl (lv_at hl 0 rfl) ?_
  have he1 := ok_X7 hok ha0
  refine vp_callSi (va_Run.run (va_runV (As := []) (rest := []) ⟨hx, hb, hml, hown, noTs⟩ (t_X7_vertices l dC dI s.heap.size G cs tt mm a0 ha0) ⟨cbE 0 (wd_557 hE) (wd_116 hE) (wd_586 hE) rfl rfl (by decide +kernel) ⟨Nat.le_of_ble_eq_true rfl, Nat.le_of_ble_eq_true rfl⟩, (wd_555 hE), (wd_556 hE)⟩ ⟨PT.blind, th_recv hK hP ha0.1 he1 rfl, (th_pre (av := [.ref a0]) hK hP hok hnd hWT hE)⟩ rfl rfl hl.1 rfl (lv_room (Nat.le_of_ble_eq_true rfl)) dX7_addVertex_1 ⟨Nat.le_of_ble_eq_true rfl, Nat.le_of_ble_eq_true rfl⟩)) (fun r2 hr2 => ?_)
  refine lv_bipush (v := 6) hx hb dX7_addVertex_4 (by decide) ?_
  refine lv_icmp_ge (tgt := 31) hx hb dX7_addVertex_6 (by decide) (fun c3 => ?_) (fun c3 => ?_)
  · exact W.vret hx hb hr (fun t ht hW => ⟨⟨f0, rfl, trivial, hok, by rw [ht]; exact hP⟩, hS.F ht⟩) hS.2.2 dX7_addVertex_31
  · refine lv_aload_n hx hb dX7_addVertex_9 rfl (lv_at hl 0 rfl) ?_
    refine lv_iconst (v := 3) hx hb dX7_addVertex_10 (by decide) ?_
    refine lv_aload_n hx hb dX7_addVertex_11 rfl (lv_at hl 0 rfl) ?_
    refine vp_callSi (va_Run.run (va_runV (As := []) (rest := [.int 3, .ref a0]) ⟨hx, hb, hml, hown, noTs⟩ (t_X7_vertices l dC dI s.heap.size G cs tt mm a0 ha0) ⟨cbE 0 (wd_557 hE) (wd_116 hE) (wd_586 hE) rfl rfl (by decide +kernel) ⟨Nat.le_of_ble_eq_true rfl, Nat.le_of_ble_eq_true rfl⟩, (wd_555 hE), (wd_556 hE)⟩ ⟨PT.blind, th_recv hK hP ha0.1 he1 rfl, (th_pre (av := [.ref a0]) hK hP hok hnd hWT hE)⟩ rfl rfl hl.1 rfl (lv_room (Nat.le_of_ble_eq_true rfl)) dX7_addVertex_12 ⟨Nat.le_of_ble_eq_true rfl, Nat.le_of_ble_eq_true rfl⟩)) (fun r4 hr4 => ?_)
    refine lv_iadd hx hb dX7_addVertex_15 ?_
    refine lv_topi (fun x5 _ => ?_)
    refine lv_iload_n hx hb dX7_addVertex_16 rfl (lv_at hl 1 rfl) ?_
    refine tc_v hAL hS hA (va_runV (As := [.int x5, .int v1]) (rest := []) ⟨hx, hb, hml, hown, noTs⟩ (t_X7_put l dC dI s.heap.size G cs tt mm a0 ha0 x5 v1) ⟨cbE 2 (wd_590 hE) (wd_116 hE) (wd_587 hE) rfl rfl (by decide +kernel) ⟨Nat.le_of_ble_eq_true rfl, Nat.le_of_ble_eq_true rfl⟩, (wd_589 hE), (wd_14 hE)⟩ ⟨PT.blind, th_recv hK hP ha0.1 he1 rfl, (th_pre (av := [.ref a0, .int x5, .int v1]) hK hP hok hnd hWT hE)⟩ rfl rfl hl.1 rfl (lv_room (Nat.le_of_ble_eq_true rfl)) dX7_addVertex_17 ⟨Nat.le_of_ble_eq_true rfl, Nat.le_of_ble_eq_true rfl⟩) (fun f6 H locs hr6 hok hP hS => ?_)
    refine lv_aload_n hx hb dX7_addVertex_20 rfl (lv_at hl 0 rfl) ?_
    refine lv_iconst (v := 0) hx hb dX7_addVertex_21 (by decide) ?_
    refine lv_aload_n hx hb dX7_addVertex_22 rfl (lv_at hl 0 rfl) ?_
    have he7 := ok_X7 hok ha0
    refine vp_callSi (va_Run.run (va_runV (As := []) (rest := [.int 0, .ref a0]) ⟨hx, hb, hml, hown, noTs⟩ (t_X7_vertices l dC dI H.size G cs tt mm a0 ha0) ⟨cbE 0 (wd_557 hE) (wd_116 hE) (wd_586 hE) rfl rfl (by decide +kernel) ⟨Nat.le_of_ble_eq_true rfl, Nat.le_of_ble_eq_true rfl⟩, (wd_555 hE), (wd_556 hE)⟩ ⟨PT.blind, th_recv hK hP ha0.1 he7 rfl, (th_pre (av := [.ref a0]) hK hP hok hnd hWT hE)⟩ rfl rfl hl.1 rfl (lv_room (Nat.le_of_ble_eq_true rfl)) dX7_addVertex_23 ⟨Nat.le_of_ble_eq_true rfl, Nat.le_of_ble_eq_true rfl⟩)) (fun r8 hr8 => ?_)
    refine lv_iconst (v := 1) hx hb dX7_addVertex_26 (by decide) ?_
    refine lv_iadd hx hb dX7_addVertex_27 ?_
    refine lv_topi (fun x9 _ => ?_)
    refine tc_v hAL hS hA (va_runV (As := [.int 0, .int x9]) (rest := []) ⟨hx, hb, hml, hown, noTs⟩ (t_X7_put l dC dI H.size G cs tt mm a0 ha0 0 x9) ⟨cbE 2 (wd_590 hE) (wd_116 hE) (wd_587 hE) rfl rfl (by decide +kernel) ⟨Nat.le_of_ble_eq_true rfl, Nat.le_of_ble_eq_true rfl⟩, (wd_589 hE), (wd_14 hE)⟩ ⟨PT.blind, th_recv hK hP ha0.1 he7 rfl, (th_pre (av := [.ref a0, .int 0, .int x9]) hK hP hok hnd hWT hE)⟩ rfl rfl hl.1 rfl (lv_room (Nat.le_of_ble_eq_true rfl)) dX7_addVertex_28 ⟨Nat.le_of_ble_eq_true rfl, Nat.le_of_ble_eq_true rfl⟩) (fun f10 H locs hr10 hok hP hS => ?_)
    exact W.vret hx hb hr (fun t ht hW => ⟨⟨f10, rfl, trivial, hok, by rw [ht]; exact hP⟩, hS.F ht⟩) hS.2.2 dX7_addVertex_31

set_option maxHeartbeats 4000000 in
set_option maxRecDepth 100000 in
theorem t_X7_edges (l : Launch) (dC : Nat → ClassId) (dI : Nat → Nat → Nat) (sz : Nat) (G : GT) (cs : Nat → ClassId) (tt mm : Nat) (a0 : Nat) (ha0 : Ty G a0 7) : Met l yX7_edges [.code yX7_edges cX7_edges 1 (some .int)] ({ frames := 0, cells := 0, slots := 0, locals := 0 }) (PT [.ref a0] sz dC dI G cs tt mm) (vp_Si (fun (r : Int32) => True)) 0 0 (fun _ => False) := by
  refine Met.ofW (cc := cX7_edges) (maxL := 1) (ret := (some .int)) (by decide) rfl ?_
  intro p e s m args below meth c s₁ B hml hv
  obtain ⟨rfl, hsz, ⟨f0, hok, hP⟩, hK, hnd, hWT, hE⟩ := hv
  have hx := B.exec
  have hb := B.bytes
  have hr := B.returns
  have hown : s.vm.findClass RX7 = some m.cls := findClass_of_methodNamed B.named
  have hlocks := B.notSynchronized
  subst hsz
  have hl := lv_entry ([.ref a0]) (n := 1) (Nat.le_of_ble_eq_true rfl)
  rw [lg_entry_eq]
  generalize (lg_sl ([.ref a0]) ++ List.replicate (1 - (lg_sl ([.ref a0])).length) Slot.unset).toArray = ls at hl ⊢
  have hl : lv_has ls 1 [(0, .ref a0)] := hl
  refine lv_aload_n hx hb dX7_edges_0 rfl (lv_at hl 0 rfl) ?_
  have he1 := ok_X7 hok ha0
  refine th_get hx hb (ly_X7 hE) hown hK hP ha0.1 he1 rfl 0 (by decide) (wd_149 hE) (fun _ h9 => h9) rfl dX7_edges_1 ?_
  refine lv_iconst (v := 1) hx hb dX7_edges_4 (by decide) ?_
  refine th_iald hx hb hK hP hok (wt_X7_0 hWT ha0) (n := 543) (wl_X7_0 hWT ha0) (by unfold vp_in; decide) dX7_edges_5 (fun x2 => ?_)
  exact W.iret (v := x2) hx hb hr (fun t ht hW => ⟨x2, rfl, trivial, ht⟩) (fun _ h => absurd h List.not_mem_nil) dX7_edges_6

set_option maxHeartbeats 4000000 in
set_option maxRecDepth 100000 in
theorem t_X7_hasVertex (l : Launch) (dC : Nat → ClassId) (dI : Nat → Nat → Nat) (sz : Nat) (G : GT) (cs : Nat → ClassId) (tt mm : Nat) (a0 : Nat) (ha0 : Ty G a0 7) (v1 : Int32) : Met l yX7_hasVertex [.code yX7_hasVertex cX7_hasVertex 2 (some .boolean)] ({ frames := 0, cells := 0, slots := 0, locals := 0 }) (PT [.ref a0, .int v1] sz dC dI G cs tt mm) (vp_Si (fun (r : Int32) => r = 0 ∨ r = 1)) 0 0 (fun _ => False) := by
  refine Met.ofW (cc := cX7_hasVertex) (maxL := 2) (ret := (some .boolean)) (by decide) rfl ?_
  intro p e s m args below meth c s₁ B hml hv
  obtain ⟨rfl, hsz, ⟨f0, hok, hP⟩, hK, hnd, hWT, hE⟩ := hv
  have hx := B.exec
  have hb := B.bytes
  have hr := B.returns
  have hown : s.vm.findClass RX7 = some m.cls := findClass_of_methodNamed B.named
  have hlocks := B.notSynchronized
  subst hsz
  have hl := lv_entry ([.ref a0, .int v1]) (n := 2) (Nat.le_of_ble_eq_true rfl)
  rw [lg_entry_eq]
  generalize (lg_sl ([.ref a0, .int v1]) ++ List.replicate (2 - (lg_sl ([.ref a0, .int v1])).length) Slot.unset).toArray = ls at hl ⊢
  have hl : lv_has ls 2 [(0, .ref a0), (1, .int v1)] := hl
  refine lv_iload_n hx hb dX7_hasVertex_0 rfl (lv_at hl 1 rfl) ?_
  refine lv_if_lt (tgt := 18) hx hb dX7_hasVertex_1 (by decide) (fun c1 => ?_) (fun c1 => ?_)
  · refine lv_iconst (v := 0) hx hb dX7_hasVertex_18 (by decide) ?_
    exact W.zret (v := 0) hx hb hr rfl (fun t ht hW => ⟨0, rfl, Or.inl rfl, ht⟩) (fun _ h => absurd h List.not_mem_nil) dX7_hasVertex_19
  · refine lv_iload_n hx hb dX7_hasVertex_4 rfl (lv_at hl 1 rfl) ?_
    refine lv_aload_n hx hb dX7_hasVertex_5 rfl (lv_at hl 0 rfl) ?_
    have he2 := ok_X7 hok ha0
    refine th_get hx hb (ly_X7 hE) hown hK hP ha0.1 he2 rfl 0 (by decide) (wd_149 hE) (fun _ h9 => h9) rfl dX7_hasVertex_6 ?_
    refine lv_iconst (v := 0) hx hb dX7_hasVertex_9 (by decide) ?_
    refine th_iald hx hb hK hP hok (wt_X7_0 hWT ha0) (n := 543) (wl_X7_0 hWT ha0) (by unfold vp_in; decide) dX7_hasVertex_10 (fun x3 => ?_)
    refine lv_icmp_ge (tgt := 18) hx hb dX7_hasVertex_11 (by decide) (fun c4 => ?_) (fun c4 => ?_)
    · refine lv_iconst (v := 0) hx hb dX7_hasVertex_18 (by decide) ?_
      exact W.zret (v := 0) hx hb hr rfl (fun t ht hW => ⟨0, rfl, Or.inl rfl, ht⟩) (fun _ h => absurd h List.not_mem_nil) dX7_hasVertex_19
    · refine lv_iconst (v := 1) hx hb dX7_hasVertex_14 (by decide) ?_
      refine lv_goto (tgt := 19) hx hb dX7_hasVertex_15 (by decide) ?_
      exact W.zret (v := 1) hx hb hr rfl (fun t ht hW => ⟨1, rfl, Or.inr rfl, ht⟩) (fun _ h => absurd h List.not_mem_nil) dX7_hasVertex_19

set_option maxHeartbeats 4000000 in
set_option maxRecDepth 100000 in
theorem t_X7_addEdge (l : Launch) (dC : Nat → ClassId) (dI : Nat → Nat → Nat) (sz : Nat) (G : GT) (cs : Nat → ClassId) (tt mm : Nat) (a0 : Nat) (ha0 : Ty G a0 7) (v1 : Int32) (v2 : Int32) (v3 : Int32) (v4 : Int32) : Met l yX7_addEdge [.code yX7_addEdge cX7_addEdge 6 none] ({ frames := 1, cells := 0, slots := 0, locals := 40 }) (PT [.ref a0, .int v1, .int v2, .int v3, .int v4] sz dC dI G cs tt mm) (va_Qv (fun (u : Nat → va_E) => True) (BT dC dI G cs tt mm) (AT G sz)) 0 0 (AT G sz) := by
  refine Met.ofW (cc := cX7_addEdge) (maxL := 6) (ret := none) (by decide) rfl ?_
  intro p e s m args below meth c s₁ B hml hv
  obtain ⟨rfl, hsz, ⟨f0, hok, hP⟩, hK, hnd, hWT, hE⟩ := hv
  have hx := B.exec
  have hb := B.bytes
  have hr := B.returns
  have hown : s.vm.findClass RX7 = some m.cls := findClass_of_methodNamed B.named
  have hlocks := B.notSynchronized
  subst hsz
  have hAL : ∀ a, a ∈ gL G → AT G s.heap.size a := fun a h => Or.inl h
  have hA : ∀ q : Nat, s.heap.size ≤ q → AT G s.heap.size q := fun q h => Or.inr h
  have hS : va_S (AT G s.heap.size) s.heap s.heap [] := va_S.rf
  have hl := lv_entry ([.ref a0, .int v1, .int v2, .int v3, .int v4]) (n := 6) (Nat.le_of_ble_eq_true rfl)
  rw [lg_entry_eq]
  generalize (lg_sl ([.ref a0, .int v1, .int v2, .int v3, .int v4]) ++ List.replicate (6 - (lg_sl ([.ref a0, .int v1, .int v2, .int v3, .int v4])).length) Slot.unset).toArray = ls at hl ⊢
  have hl : lv_has ls 6 [(0, .ref a0), (1, .int v1), (2, .int v2), (3, .int v3), (4, .int v4)] := hl
  refine lv_aload_n hx hb dX7_addEdge_0 rfl (lv_at hl 0 rfl) ?_
  have he1 := ok_X7 hok ha0
  refine vp_callSi (va_Run.run (va_runV (As := []) (rest := []) ⟨hx, hb, hml, hown, noTs⟩ (t_X7_edges l dC dI s.heap.size G cs tt mm a0 ha0) ⟨cbE 0 (wd_598 hE) (wd_116 hE) (wd_625 hE) rfl rfl (by decide +kernel) ⟨Nat.le_of_ble_eq_true rfl, Nat.le_of_ble_eq_true rfl⟩, (wd_596 hE), (wd_597 hE)⟩ ⟨PT.blind, th_recv hK hP ha0.1 he1 rfl, (th_pre (av := [.ref a0]) hK hP hok hnd hWT hE)⟩ rfl rfl hl.1 rfl (lv_room (Nat.le_of_ble_eq_true rfl)) dX7_addEdge_1 ⟨Nat.le_of_ble_eq_true rfl, Nat.le_of_ble_eq_true rfl⟩)) (fun r2 hr2 => ?_)
  refine lv_bipush (v := 6) hx hb dX7_addEdge_4 (by decide) ?_
  refine lv_icmp_ge (tgt := 66) hx hb dX7_addEdge_6 (by decide) (fun c3 => ?_) (fun c3 => ?_)
  · exact W.vret hx hb hr (fun t ht hW => ⟨⟨f0, rfl, trivial, hok, by rw [ht]; exact hP⟩, hS.F ht⟩) hS.2.2 dX7_addEdge_66
  · refine lv_bipush (v := 9) hx hb dX7_addEdge_9 (by decide) ?_
    refine lv_iconst (v := 4) hx hb dX7_addEdge_11 (by decide) ?_
    refine lv_aload_n hx hb dX7_addEdge_12 rfl (lv_at hl 0 rfl) ?_
    refine vp_callSi (va_Run.run (va_runV (As := []) (rest := [.int 4, .int 9]) ⟨hx, hb, hml, hown, noTs⟩ (t_X7_edges l dC dI s.heap.size G cs tt mm a0 ha0) ⟨cbE 0 (wd_598 hE) (wd_116 hE) (wd_625 hE) rfl rfl (by decide +kernel) ⟨Nat.le_of_ble_eq_true rfl, Nat.le_of_ble_eq_true rfl⟩, (wd_596 hE), (wd_597 hE)⟩ ⟨PT.blind, th_recv hK hP ha0.1 he1 rfl, (th_pre (av := [.ref a0]) hK hP hok hnd hWT hE)⟩ rfl rfl hl.1 rfl (lv_room (Nat.le_of_ble_eq_true rfl)) dX7_addEdge_13 ⟨Nat.le_of_ble_eq_true rfl, Nat.le_of_ble_eq_true rfl⟩)) (fun r4 hr4 => ?_)
    refine lv_imul hx hb dX7_addEdge_16 ?_
    refine lv_topi (fun x5 _ => ?_)
    refine lv_iadd hx hb dX7_addEdge_17 ?_
    refine lv_topi (fun x6 _ => ?_)
    refine lv_istore (lv' := [(5, .int x6), (0, .ref a0), (1, .int v1), (2, .int v2), (3, .int v3), (4, .int v4)]) hx hb dX7_addEdge_18 hl (by decide) rfl (fun ls hl => ?_)
    refine lv_aload_n hx hb dX7_addEdge_20 rfl (lv_at hl 1 rfl) ?_
    refine lv_iload hx hb dX7_addEdge_21 (lv_at hl 0 rfl) ?_
    refine lv_iload_n hx hb dX7_addEdge_23 rfl (lv_at hl 2 rfl) ?_
    refine tc_v hAL hS hA (va_runV (As := [.int x6, .int v1]) (rest := []) ⟨hx, hb, hml, hown, noTs⟩ (t_X7_put l dC dI s.heap.size G cs tt mm a0 ha0 x6 v1) ⟨cbE 2 (wd_590 hE) (wd_116 hE) (wd_587 hE) rfl rfl (by decide +kernel) ⟨Nat.le_of_ble_eq_true rfl, Nat.le_of_ble_eq_true rfl⟩, (wd_589 hE), (wd_14 hE)⟩ ⟨PT.blind, th_recv hK hP ha0.1 he1 rfl, (th_pre (av := [.ref a0, .int x6, .int v1]) hK hP hok hnd hWT hE)⟩ rfl rfl hl.1 rfl (lv_room (Nat.le_of_ble_eq_true rfl)) dX7_addEdge_24 ⟨Nat.le_of_ble_eq_true rfl, Nat.le_of_ble_eq_true rfl⟩) (fun f7 H locs hr7 hok hP hS => ?_)
    refine lv_aload_n hx hb dX7_addEdge_27 rfl (lv_at hl 1 rfl) ?_
    refine lv_iload hx hb dX7_addEdge_28 (lv_at hl 0 rfl) ?_
    refine lv_iconst (v := 1) hx hb dX7_addEdge_30 (by decide) ?_
    refine lv_iadd hx hb dX7_addEdge_31 ?_
    refine lv_topi (fun x8 _ => ?_)
    refine lv_iload_n hx hb dX7_addEdge_32 rfl (lv_at hl 3 rfl) ?_
    have he9 := ok_X7 hok ha0
    refine tc_v hAL hS hA (va_runV (As := [.int x8, .int v2]) (rest := []) ⟨hx, hb, hml, hown, noTs⟩ (t_X7_put l dC dI H.size G cs tt mm a0 ha0 x8 v2) ⟨cbE 2 (wd_590 hE) (wd_116 hE) (wd_587 hE) rfl rfl (by decide +kernel) ⟨Nat.le_of_ble_eq_true rfl, Nat.le_of_ble_eq_true rfl⟩, (wd_589 hE), (wd_14 hE)⟩ ⟨PT.blind, th_recv hK hP ha0.1 he9 rfl, (th_pre (av := [.ref a0, .int x8, .int v2]) hK hP hok hnd hWT hE)⟩ rfl rfl hl.1 rfl (lv_room (Nat.le_of_ble_eq_true rfl)) dX7_addEdge_33 ⟨Nat.le_of_ble_eq_true rfl, Nat.le_of_ble_eq_true rfl⟩) (fun f10 H locs hr10 hok hP hS => ?_)
    refine lv_aload_n hx hb dX7_addEdge_36 rfl (lv_at hl 1 rfl) ?_
    refine lv_iload hx hb dX7_addEdge_37 (lv_at hl 0 rfl) ?_
    refine lv_iconst (v := 2) hx hb dX7_addEdge_39 (by decide) ?_
    refine lv_iadd hx hb dX7_addEdge_40 ?_
    refine lv_topi (fun x11 _ => ?_)
    refine lv_iload_n hx hb dX7_addEdge_41 rfl (lv_at hl 4 rfl) ?_
    have he12 := ok_X7 hok ha0
    refine tc_v hAL hS hA (va_runV (As := [.int x11, .int v3]) (rest := []) ⟨hx, hb, hml, hown, noTs⟩ (t_X7_put l dC dI H.size G cs tt mm a0 ha0 x11 v3) ⟨cbE 2 (wd_590 hE) (wd_116 hE) (wd_587 hE) rfl rfl (by decide +kernel) ⟨Nat.le_of_ble_eq_true rfl, Nat.le_of_ble_eq_true rfl⟩, (wd_589 hE), (wd_14 hE)⟩ ⟨PT.blind, th_recv hK hP ha0.1 he12 rfl, (th_pre (av := [.ref a0, .int x11, .int v3]) hK hP hok hnd hWT hE)⟩ rfl rfl hl.1 rfl (lv_room (Nat.le_of_ble_eq_true rfl)) dX7_addEdge_42 ⟨Nat.le_of_ble_eq_true rfl, Nat.le_of_ble_eq_true rfl⟩) (fun f13 H locs hr13 hok hP hS => ?_)
    refine lv_aload_n hx hb dX7_addEdge_45 rfl (lv_at hl 1 rfl) ?_
    refine lv_iload hx hb dX7_addEdge_46 (lv_at hl 0 rfl) ?_
    refine lv_iconst (v := 3) hx hb dX7_addEdge_48 (by decide) ?_
    refine lv_iadd hx hb dX7_addEdge_49 ?_
    refine lv_topi (fun x14 _ => ?_)
    refine lv_iload hx hb dX7_addEdge_50 (lv_at hl 5 rfl) ?_
    have he15 := ok_X7 hok ha0
    refine tc_v hAL hS hA (va_runV (As := [.int x14, .int v4]) (rest := []) ⟨hx, hb, hml, hown, noTs⟩ (t_X7_put l dC dI H.size G cs tt mm a0 ha0 x14 v4) ⟨cbE 2 (wd_590 hE) (wd_116 hE) (wd_587 hE) rfl rfl (by decide +kernel) ⟨Nat.le_of_ble_eq_true rfl, Nat.le_of_ble_eq_true rfl⟩, (wd_589 hE), (wd_14 hE)⟩ ⟨PT.blind, th_recv hK hP ha0.1 he15 rfl, (th_pre (av := [.ref a0, .int x14, .int v4]) hK hP hok hnd hWT hE)⟩ rfl rfl hl.1 rfl (lv_room (Nat.le_of_ble_eq_true rfl)) dX7_addEdge_52 ⟨Nat.le_of_ble_eq_true rfl, Nat.le_of_ble_eq_true rfl⟩) (fun f16 H locs hr16 hok hP hS => ?_)
    refine lv_aload_n hx hb dX7_addEdge_55 rfl (lv_at hl 1 rfl) ?_
    refine lv_iconst (v := 1) hx hb dX7_addEdge_56 (by decide) ?_
    refine lv_aload_n hx hb dX7_addEdge_57 rfl (lv_at hl 1 rfl) ?_
    have he17 := ok_X7 hok ha0
    refine vp_callSi (va_Run.run (va_runV (As := []) (rest := [.int 1, .ref a0]) ⟨hx, hb, hml, hown, noTs⟩ (t_X7_edges l dC dI H.size G cs tt mm a0 ha0) ⟨cbE 0 (wd_598 hE) (wd_116 hE) (wd_625 hE) rfl rfl (by decide +kernel) ⟨Nat.le_of_ble_eq_true rfl, Nat.le_of_ble_eq_true rfl⟩, (wd_596 hE), (wd_597 hE)⟩ ⟨PT.blind, th_recv hK hP ha0.1 he17 rfl, (th_pre (av := [.ref a0]) hK hP hok hnd hWT hE)⟩ rfl rfl hl.1 rfl (lv_room (Nat.le_of_ble_eq_true rfl)) dX7_addEdge_58 ⟨Nat.le_of_ble_eq_true rfl, Nat.le_of_ble_eq_true rfl⟩)) (fun r18 hr18 => ?_)
    refine lv_iconst (v := 1) hx hb dX7_addEdge_61 (by decide) ?_
    refine lv_iadd hx hb dX7_addEdge_62 ?_
    refine lv_topi (fun x19 _ => ?_)
    refine tc_v hAL hS hA (va_runV (As := [.int 1, .int x19]) (rest := []) ⟨hx, hb, hml, hown, noTs⟩ (t_X7_put l dC dI H.size G cs tt mm a0 ha0 1 x19) ⟨cbE 2 (wd_590 hE) (wd_116 hE) (wd_587 hE) rfl rfl (by decide +kernel) ⟨Nat.le_of_ble_eq_true rfl, Nat.le_of_ble_eq_true rfl⟩, (wd_589 hE), (wd_14 hE)⟩ ⟨PT.blind, th_recv hK hP ha0.1 he17 rfl, (th_pre (av := [.ref a0, .int 1, .int x19]) hK hP hok hnd hWT hE)⟩ rfl rfl hl.1 rfl (lv_room (Nat.le_of_ble_eq_true rfl)) dX7_addEdge_63 ⟨Nat.le_of_ble_eq_true rfl, Nat.le_of_ble_eq_true rfl⟩) (fun f20 H locs hr20 hok hP hS => ?_)
    exact W.vret hx hb hr (fun t ht hW => ⟨⟨f20, rfl, trivial, hok, by rw [ht]; exact hP⟩, hS.F ht⟩) hS.2.2 dX7_addEdge_66

set_option maxHeartbeats 4000000 in
set_option maxRecDepth 100000 in
theorem t_X7_isFull (l : Launch) (dC : Nat → ClassId) (dI : Nat → Nat → Nat) (sz : Nat) (G : GT) (cs : Nat → ClassId) (tt mm : Nat) (a0 : Nat) (ha0 : Ty G a0 7) : Met l yX7_isFull [.code yX7_isFull cX7_isFull 1 (some .boolean)] ({ frames := 0, cells := 0, slots := 0, locals := 0 }) (PT [.ref a0] sz dC dI G cs tt mm) (vp_Si (fun (r : Int32) => r = 0 ∨ r = 1)) 0 0 (fun _ => False) := by
  refine Met.ofW (cc := cX7_isFull) (maxL := 1) (ret := (some .boolean)) (by decide) rfl ?_
  intro p e s m args below meth c s₁ B hml hv
  obtain ⟨rfl, hsz, ⟨f0, hok, hP⟩, hK, hnd, hWT, hE⟩ := hv
  have hx := B.exec
  have hb := B.bytes
  have hr := B.returns
  have hown : s.vm.findClass RX7 = some m.cls := findClass_of_methodNamed B.named
  have hlocks := B.notSynchronized
  subst hsz
  have hl := lv_entry ([.ref a0]) (n := 1) (Nat.le_of_ble_eq_true rfl)
  rw [lg_entry_eq]
  generalize (lg_sl ([.ref a0]) ++ List.replicate (1 - (lg_sl ([.ref a0])).length) Slot.unset).toArray = ls at hl ⊢
  have hl : lv_has ls 1 [(0, .ref a0)] := hl
  refine lv_aload_n hx hb dX7_isFull_0 rfl (lv_at hl 0 rfl) ?_
  have he1 := ok_X7 hok ha0
  refine th_get hx hb (ly_X7 hE) hown hK hP ha0.1 he1 rfl 0 (by decide) (wd_149 hE) (fun _ h9 => h9) rfl dX7_isFull_1 ?_
  refine lv_iconst (v := 2) hx hb dX7_isFull_4 (by decide) ?_
  refine th_iald hx hb hK hP hok (wt_X7_0 hWT ha0) (n := 543) (wl_X7_0 hWT ha0) (by unfold vp_in; decide) dX7_isFull_5 (fun x2 => ?_)
  refine lv_bipush (v := 10) hx hb dX7_isFull_6 (by decide) ?_
  refine lv_icmp_lt (tgt := 15) hx hb dX7_isFull_8 (by decide) (fun c3 => ?_) (fun c3 => ?_)
  · refine lv_iconst (v := 0) hx hb dX7_isFull_15 (by decide) ?_
    exact W.zret (v := 0) hx hb hr rfl (fun t ht hW => ⟨0, rfl, Or.inl rfl, ht⟩) (fun _ h => absurd h List.not_mem_nil) dX7_isFull_16
  · refine lv_iconst (v := 1) hx hb dX7_isFull_11 (by decide) ?_
    refine lv_goto (tgt := 16) hx hb dX7_isFull_12 (by decide) ?_
    exact W.zret (v := 1) hx hb hr rfl (fun t ht hW => ⟨1, rfl, Or.inr rfl, ht⟩) (fun _ h => absurd h List.not_mem_nil) dX7_isFull_16

set_option maxHeartbeats 4000000 in
set_option maxRecDepth 100000 in
theorem t_X7_hasEdge (l : Launch) (dC : Nat → ClassId) (dI : Nat → Nat → Nat) (sz : Nat) (G : GT) (cs : Nat → ClassId) (tt mm : Nat) (a0 : Nat) (ha0 : Ty G a0 7) (v1 : Int32) : Met l yX7_hasEdge [.code yX7_hasEdge cX7_hasEdge 2 (some .boolean)] ({ frames := 0, cells := 0, slots := 0, locals := 0 }) (PT [.ref a0, .int v1] sz dC dI G cs tt mm) (vp_Si (fun (r : Int32) => r = 0 ∨ r = 1)) 0 0 (fun _ => False) := by
  refine Met.ofW (cc := cX7_hasEdge) (maxL := 2) (ret := (some .boolean)) (by decide) rfl ?_
  intro p e s m args below meth c s₁ B hml hv
  obtain ⟨rfl, hsz, ⟨f0, hok, hP⟩, hK, hnd, hWT, hE⟩ := hv
  have hx := B.exec
  have hb := B.bytes
  have hr := B.returns
  have hown : s.vm.findClass RX7 = some m.cls := findClass_of_methodNamed B.named
  have hlocks := B.notSynchronized
  subst hsz
  have hl := lv_entry ([.ref a0, .int v1]) (n := 2) (Nat.le_of_ble_eq_true rfl)
  rw [lg_entry_eq]
  generalize (lg_sl ([.ref a0, .int v1]) ++ List.replicate (2 - (lg_sl ([.ref a0, .int v1])).length) Slot.unset).toArray = ls at hl ⊢
  have hl : lv_has ls 2 [(0, .ref a0), (1, .int v1)] := hl
  refine lv_iload_n hx hb dX7_hasEdge_0 rfl (lv_at hl 1 rfl) ?_
  refine lv_if_lt (tgt := 18) hx hb dX7_hasEdge_1 (by decide) (fun c1 => ?_) (fun c1 => ?_)
  · refine lv_iconst (v := 0) hx hb dX7_hasEdge_18 (by decide) ?_
    exact W.zret (v := 0) hx hb hr rfl (fun t ht hW => ⟨0, rfl, Or.inl rfl, ht⟩) (fun _ h => absurd h List.not_mem_nil) dX7_hasEdge_19
  · refine lv_iload_n hx hb dX7_hasEdge_4 rfl (lv_at hl 1 rfl) ?_
    refine lv_aload_n hx hb dX7_hasEdge_5 rfl (lv_at hl 0 rfl) ?_
    have he2 := ok_X7 hok ha0
    refine th_get hx hb (ly_X7 hE) hown hK hP ha0.1 he2 rfl 0 (by decide) (wd_149 hE) (fun _ h9 => h9) rfl dX7_hasEdge_6 ?_
    refine lv_iconst (v := 1) hx hb dX7_hasEdge_9 (by decide) ?_
    refine th_iald hx hb hK hP hok (wt_X7_0 hWT ha0) (n := 543) (wl_X7_0 hWT ha0) (by unfold vp_in; decide) dX7_hasEdge_10 (fun x3 => ?_)
    refine lv_icmp_ge (tgt := 18) hx hb dX7_hasEdge_11 (by decide) (fun c4 => ?_) (fun c4 => ?_)
    · refine lv_iconst (v := 0) hx hb dX7_hasEdge_18 (by decide) ?_
      exact W.zret (v := 0) hx hb hr rfl (fun t ht hW => ⟨0, rfl, Or.inl rfl, ht⟩) (fun _ h => absurd h List.not_mem_nil) dX7_hasEdge_19
    · refine lv_iconst (v := 1) hx hb dX7_hasEdge_14 (by decide) ?_
      refine lv_goto (tgt := 19) hx hb dX7_hasEdge_15 (by decide) ?_
      exact W.zret (v := 1) hx hb hr rfl (fun t ht hW => ⟨1, rfl, Or.inr rfl, ht⟩) (fun _ h => absurd h List.not_mem_nil) dX7_hasEdge_19

set_option maxHeartbeats 4000000 in
set_option maxRecDepth 100000 in
theorem t_X7_words (l : Launch) (dC : Nat → ClassId) (dI : Nat → Nat → Nat) (sz : Nat) (G : GT) (cs : Nat → ClassId) (tt mm : Nat) (a0 : Nat) (ha0 : Ty G a0 7) : Met l yX7_words [.code yX7_words cX7_words 1 (some .int)] ({ frames := 0, cells := 0, slots := 0, locals := 0 }) (PT [.ref a0] sz dC dI G cs tt mm) (vp_Si (fun (r : Int32) => True)) 0 0 (fun _ => False) := by
  refine Met.ofW (cc := cX7_words) (maxL := 1) (ret := (some .int)) (by decide) rfl ?_
  intro p e s m args below meth c s₁ B hml hv
  obtain ⟨rfl, hsz, ⟨f0, hok, hP⟩, hK, hnd, hWT, hE⟩ := hv
  have hx := B.exec
  have hb := B.bytes
  have hr := B.returns
  have hown : s.vm.findClass RX7 = some m.cls := findClass_of_methodNamed B.named
  have hlocks := B.notSynchronized
  subst hsz
  have hl := lv_entry ([.ref a0]) (n := 1) (Nat.le_of_ble_eq_true rfl)
  rw [lg_entry_eq]
  generalize (lg_sl ([.ref a0]) ++ List.replicate (1 - (lg_sl ([.ref a0])).length) Slot.unset).toArray = ls at hl ⊢
  have hl : lv_has ls 1 [(0, .ref a0)] := hl
  refine lv_aload_n hx hb dX7_words_0 rfl (lv_at hl 0 rfl) ?_
  have he1 := ok_X7 hok ha0
  refine th_get hx hb (ly_X7 hE) hown hK hP ha0.1 he1 rfl 0 (by decide) (wd_149 hE) (fun _ h9 => h9) rfl dX7_words_1 ?_
  refine lv_iconst (v := 2) hx hb dX7_words_4 (by decide) ?_
  refine th_iald hx hb hK hP hok (wt_X7_0 hWT ha0) (n := 543) (wl_X7_0 hWT ha0) (by unfold vp_in; decide) dX7_words_5 (fun x2 => ?_)
  exact W.iret (v := x2) hx hb hr (fun t ht hW => ⟨x2, rfl, trivial, ht⟩) (fun _ h => absurd h List.not_mem_nil) dX7_words_6

set_option maxHeartbeats 4000000 in
set_option maxRecDepth 100000 in
theorem t_X7_hasWord (l : Launch) (dC : Nat → ClassId) (dI : Nat → Nat → Nat) (sz : Nat) (G : GT) (cs : Nat → ClassId) (tt mm : Nat) (a0 : Nat) (ha0 : Ty G a0 7) (v1 : Int32) : Met l yX7_hasWord [.code yX7_hasWord cX7_hasWord 2 (some .boolean)] ({ frames := 0, cells := 0, slots := 0, locals := 0 }) (PT [.ref a0, .int v1] sz dC dI G cs tt mm) (vp_Si (fun (r : Int32) => r = 0 ∨ r = 1)) 0 0 (fun _ => False) := by
  refine Met.ofW (cc := cX7_hasWord) (maxL := 2) (ret := (some .boolean)) (by decide) rfl ?_
  intro p e s m args below meth c s₁ B hml hv
  obtain ⟨rfl, hsz, ⟨f0, hok, hP⟩, hK, hnd, hWT, hE⟩ := hv
  have hx := B.exec
  have hb := B.bytes
  have hr := B.returns
  have hown : s.vm.findClass RX7 = some m.cls := findClass_of_methodNamed B.named
  have hlocks := B.notSynchronized
  subst hsz
  have hl := lv_entry ([.ref a0, .int v1]) (n := 2) (Nat.le_of_ble_eq_true rfl)
  rw [lg_entry_eq]
  generalize (lg_sl ([.ref a0, .int v1]) ++ List.replicate (2 - (lg_sl ([.ref a0, .int v1])).length) Slot.unset).toArray = ls at hl ⊢
  have hl : lv_has ls 2 [(0, .ref a0), (1, .int v1)] := hl
  refine lv_iload_n hx hb dX7_hasWord_0 rfl (lv_at hl 1 rfl) ?_
  refine lv_if_lt (tgt := 18) hx hb dX7_hasWord_1 (by decide) (fun c1 => ?_) (fun c1 => ?_)
  · refine lv_iconst (v := 0) hx hb dX7_hasWord_18 (by decide) ?_
    exact W.zret (v := 0) hx hb hr rfl (fun t ht hW => ⟨0, rfl, Or.inl rfl, ht⟩) (fun _ h => absurd h List.not_mem_nil) dX7_hasWord_19
  · refine lv_iload_n hx hb dX7_hasWord_4 rfl (lv_at hl 1 rfl) ?_
    refine lv_aload_n hx hb dX7_hasWord_5 rfl (lv_at hl 0 rfl) ?_
    have he2 := ok_X7 hok ha0
    refine th_get hx hb (ly_X7 hE) hown hK hP ha0.1 he2 rfl 0 (by decide) (wd_149 hE) (fun _ h9 => h9) rfl dX7_hasWord_6 ?_
    refine lv_iconst (v := 2) hx hb dX7_hasWord_9 (by decide) ?_
    refine th_iald hx hb hK hP hok (wt_X7_0 hWT ha0) (n := 543) (wl_X7_0 hWT ha0) (by unfold vp_in; decide) dX7_hasWord_10 (fun x3 => ?_)
    refine lv_icmp_ge (tgt := 18) hx hb dX7_hasWord_11 (by decide) (fun c4 => ?_) (fun c4 => ?_)
    · refine lv_iconst (v := 0) hx hb dX7_hasWord_18 (by decide) ?_
      exact W.zret (v := 0) hx hb hr rfl (fun t ht hW => ⟨0, rfl, Or.inl rfl, ht⟩) (fun _ h => absurd h List.not_mem_nil) dX7_hasWord_19
    · refine lv_iconst (v := 1) hx hb dX7_hasWord_14 (by decide) ?_
      refine lv_goto (tgt := 19) hx hb dX7_hasWord_15 (by decide) ?_
      exact W.zret (v := 1) hx hb hr rfl (fun t ht hW => ⟨1, rfl, Or.inr rfl, ht⟩) (fun _ h => absurd h List.not_mem_nil) dX7_hasWord_19

set_option maxHeartbeats 4000000 in
set_option maxRecDepth 100000 in
theorem t_X7_writeWord (l : Launch) (dC : Nat → ClassId) (dI : Nat → Nat → Nat) (sz : Nat) (G : GT) (cs : Nat → ClassId) (tt mm : Nat) (a0 : Nat) (ha0 : Ty G a0 7) (v1 : Int32) (a2 : Nat) (ha2 : Ty G a2 10) : Met l yX7_writeWord [.code yX7_writeWord cX7_writeWord 5 none] ({ frames := 1, cells := 0, slots := 0, locals := 40 }) (PT [.ref a0, .int v1, .ref a2] sz dC dI G cs tt mm) (va_Qv (fun (u : Nat → va_E) => True) (BT dC dI G cs tt mm) (AT G sz)) 0 0 (AT G sz) := by
  refine Met.ofW (cc := cX7_writeWord) (maxL := 5) (ret := none) (by decide) rfl ?_
  intro p e s m args below meth c s₁ B hml hv
  obtain ⟨rfl, hsz, ⟨f0, hok, hP⟩, hK, hnd, hWT, hE⟩ := hv
  have hx := B.exec
  have hb := B.bytes
  have hr := B.returns
  have hown : s.vm.findClass RX7 = some m.cls := findClass_of_methodNamed B.named
  have hlocks := B.notSynchronized
  subst hsz
  have hAL : ∀ a, a ∈ gL G → AT G s.heap.size a := fun a h => Or.inl h
  have hA : ∀ q : Nat, s.heap.size ≤ q → AT G s.heap.size q := fun q h => Or.inr h
  have hS : va_S (AT G s.heap.size) s.heap s.heap [] := va_S.rf
  have hl := lv_entry ([.ref a0, .int v1, .ref a2]) (n := 5) (Nat.le_of_ble_eq_true rfl)
  rw [lg_entry_eq]
  generalize (lg_sl ([.ref a0, .int v1, .ref a2]) ++ List.replicate (5 - (lg_sl ([.ref a0, .int v1, .ref a2])).length) Slot.unset).toArray = ls at hl ⊢
  have hl : lv_has ls 5 [(0, .ref a0), (1, .int v1), (2, .ref a2)] := hl
  refine lv_aload_n hx hb dX7_writeWord_0 rfl (lv_at hl 0 rfl) ?_
  refine lv_iload_n hx hb dX7_writeWord_1 rfl (lv_at hl 1 rfl) ?_
  have he1 := ok_X7 hok ha0
  refine vp_callSi (va_Run.run (va_runV (As := [.int v1]) (rest := []) ⟨hx, hb, hml, hown, noTs⟩ (t_X7_hasWord l dC dI s.heap.size G cs tt mm a0 ha0 v1) ⟨cbE 1 (wd_708 hE) (wd_116 hE) (wd_705 hE) rfl rfl (by decide +kernel) ⟨Nat.le_of_ble_eq_true rfl, Nat.le_of_ble_eq_true rfl⟩, (wd_706 hE), (wd_707 hE)⟩ ⟨PT.blind, th_recv hK hP ha0.1 he1 rfl, (th_pre (av := [.ref a0, .int v1]) hK hP hok hnd hWT hE)⟩ rfl rfl hl.1 rfl (lv_room (Nat.le_of_ble_eq_true rfl)) dX7_writeWord_2 ⟨Nat.le_of_ble_eq_true rfl, Nat.le_of_ble_eq_true rfl⟩)) (fun r2 hr2 => ?_)
  refine lv_if_eq (tgt := 17) hx hb dX7_writeWord_5 (by decide) (fun c3 => ?_) (fun c3 => ?_)
  · exact W.vret hx hb hr (fun t ht hW => ⟨⟨f0, rfl, trivial, hok, by rw [ht]; exact hP⟩, hS.F ht⟩) hS.2.2 dX7_writeWord_17
  · refine lv_aload_n hx hb dX7_writeWord_8 rfl (lv_at hl 2 rfl) ?_
    obtain ⟨y2_4, y3_4, hy3_4, he4⟩ := ok_X10 hok ha2
    refine vp_callSi (va_Run.run (va_runV (As := []) (rest := []) ⟨hx, hb, hml, hown, noTs⟩ (t_X10_size l dC dI s.heap.size G cs tt mm a2 ha2) ⟨cbE 0 (wd_666 hE) (wd_120 hE) (wd_709 hE) rfl rfl (by decide +kernel) ⟨Nat.le_of_ble_eq_true rfl, Nat.le_of_ble_eq_true rfl⟩, (wd_664 hE), (wd_665 hE)⟩ ⟨PT.blind, th_recv hK hP ha2.1 he4 rfl, (th_pre (av := [.ref a2]) hK hP hok hnd hWT hE)⟩ rfl rfl hl.1 rfl (lv_room (Nat.le_of_ble_eq_true rfl)) dX7_writeWord_9 ⟨Nat.le_of_ble_eq_true rfl, Nat.le_of_ble_eq_true rfl⟩)) (fun r5 hr5 => ?_)
    obtain ⟨hra5, hrb5⟩ := hr5
    refine lv_bipush (v := 24) hx hb dX7_writeWord_12 (by decide) ?_
    refine lv_icmp_le (tgt := 18) hx hb dX7_writeWord_14 (by decide) (fun c6 => ?_) (fun c6 => ?_)
    · refine lv_bipush (v := 33) hx hb dX7_writeWord_18 (by decide) ?_
      refine lv_bipush (v := 51) hx hb dX7_writeWord_20 (by decide) ?_
      refine lv_iload_n hx hb dX7_writeWord_22 rfl (lv_at hl 1 rfl) ?_
      refine lv_imul hx hb dX7_writeWord_23 ?_
      refine lv_topi (fun x7 _ => ?_)
      refine lv_iadd hx hb dX7_writeWord_24 ?_
      refine lv_topi (fun x8 _ => ?_)
      refine lv_istore_n (lv' := [(3, .int x8), (0, .ref a0), (1, .int v1), (2, .ref a2)]) hx hb dX7_writeWord_25 rfl hl (by decide) rfl (fun ls hl => ?_)
      refine lv_aload_n hx hb dX7_writeWord_26 rfl (lv_at hl 1 rfl) ?_
      refine lv_iload_n hx hb dX7_writeWord_27 rfl (lv_at hl 0 rfl) ?_
      refine lv_aload_n hx hb dX7_writeWord_28 rfl (lv_at hl 3 rfl) ?_
      refine vp_callSi (va_Run.run (va_runV (As := []) (rest := [.int x8, .ref a0]) ⟨hx, hb, hml, hown, noTs⟩ (t_X10_begin l dC dI s.heap.size G cs tt mm a2 ha2) ⟨cbE 0 (wd_713 hE) (wd_120 hE) (wd_710 hE) rfl rfl (by decide +kernel) ⟨Nat.le_of_ble_eq_true rfl, Nat.le_of_ble_eq_true rfl⟩, (wd_711 hE), (wd_712 hE)⟩ ⟨PT.blind, th_recv hK hP ha2.1 he4 rfl, (th_pre (av := [.ref a2]) hK hP hok hnd hWT hE)⟩ rfl rfl hl.1 rfl (lv_room (Nat.le_of_ble_eq_true rfl)) dX7_writeWord_29 ⟨Nat.le_of_ble_eq_true rfl, Nat.le_of_ble_eq_true rfl⟩)) (fun r9 hr9 => ?_)
      refine tc_v hAL hS hA (va_runV (As := [.int x8, .int r9]) (rest := []) ⟨hx, hb, hml, hown, noTs⟩ (t_X7_put l dC dI s.heap.size G cs tt mm a0 ha0 x8 r9) ⟨cbE 2 (wd_590 hE) (wd_116 hE) (wd_587 hE) rfl rfl (by decide +kernel) ⟨Nat.le_of_ble_eq_true rfl, Nat.le_of_ble_eq_true rfl⟩, (wd_589 hE), (wd_14 hE)⟩ ⟨PT.blind, th_recv hK hP ha0.1 he1 rfl, (th_pre (av := [.ref a0, .int x8, .int r9]) hK hP hok hnd hWT hE)⟩ rfl rfl hl.1 rfl (lv_room (Nat.le_of_ble_eq_true rfl)) dX7_writeWord_32 ⟨Nat.le_of_ble_eq_true rfl, Nat.le_of_ble_eq_true rfl⟩) (fun f10 H locs hr10 hok hP hS => ?_)
      refine lv_aload_n hx hb dX7_writeWord_35 rfl (lv_at hl 1 rfl) ?_
      refine lv_iload_n hx hb dX7_writeWord_36 rfl (lv_at hl 0 rfl) ?_
      refine lv_iconst (v := 1) hx hb dX7_writeWord_37 (by decide) ?_
      refine lv_iadd hx hb dX7_writeWord_38 ?_
      refine lv_topi (fun x11 _ => ?_)
      refine lv_aload_n hx hb dX7_writeWord_39 rfl (lv_at hl 3 rfl) ?_
      obtain ⟨y2_12, y3_12, hy3_12, he12⟩ := ok_X10 hok ha2
      refine vp_callSi (va_Run.run (va_runV (As := []) (rest := [.int x11, .ref a0]) ⟨hx, hb, hml, hown, noTs⟩ (t_X10_size l dC dI H.size G cs tt mm a2 ha2) ⟨cbE 0 (wd_666 hE) (wd_120 hE) (wd_709 hE) rfl rfl (by decide +kernel) ⟨Nat.le_of_ble_eq_true rfl, Nat.le_of_ble_eq_true rfl⟩, (wd_664 hE), (wd_665 hE)⟩ ⟨PT.blind, th_recv hK hP ha2.1 he12 rfl, (th_pre (av := [.ref a2]) hK hP hok hnd hWT hE)⟩ rfl rfl hl.1 rfl (lv_room (Nat.le_of_ble_eq_true rfl)) dX7_writeWord_40 ⟨Nat.le_of_ble_eq_true rfl, Nat.le_of_ble_eq_true rfl⟩)) (fun r13 hr13 => ?_)
      obtain ⟨hra13, hrb13⟩ := hr13
      have he14 := ok_X7 hok ha0
      refine tc_v hAL hS hA (va_runV (As := [.int x11, .int r13]) (rest := []) ⟨hx, hb, hml, hown, noTs⟩ (t_X7_put l dC dI H.size G cs tt mm a0 ha0 x11 r13) ⟨cbE 2 (wd_590 hE) (wd_116 hE) (wd_587 hE) rfl rfl (by decide +kernel) ⟨Nat.le_of_ble_eq_true rfl, Nat.le_of_ble_eq_true rfl⟩, (wd_589 hE), (wd_14 hE)⟩ ⟨PT.blind, th_recv hK hP ha0.1 he14 rfl, (th_pre (av := [.ref a0, .int x11, .int r13]) hK hP hok hnd hWT hE)⟩ rfl rfl hl.1 rfl (lv_room (Nat.le_of_ble_eq_true rfl)) dX7_writeWord_43 ⟨Nat.le_of_ble_eq_true rfl, Nat.le_of_ble_eq_true rfl⟩) (fun f15 H locs hr15 hok hP hS => ?_)
      refine lv_aload_n hx hb dX7_writeWord_46 rfl (lv_at hl 1 rfl) ?_
      refine lv_iload_n hx hb dX7_writeWord_47 rfl (lv_at hl 0 rfl) ?_
      refine lv_iconst (v := 2) hx hb dX7_writeWord_48 (by decide) ?_
      refine lv_iadd hx hb dX7_writeWord_49 ?_
      refine lv_topi (fun x16 _ => ?_)
      refine lv_aload_n hx hb dX7_writeWord_50 rfl (lv_at hl 3 rfl) ?_
      refine lv_iconst (v := 0) hx hb dX7_writeWord_51 (by decide) ?_
      obtain ⟨y2_17, y3_17, hy3_17, he17⟩ := ok_X10 hok ha2
      refine vp_callSi (va_Run.run (va_runV (As := [.int 0]) (rest := [.int x16, .ref a0]) ⟨hx, hb, hml, hown, noTs⟩ (t_X10_numberAt l dC dI H.size G cs tt mm a2 ha2 0) ⟨cbE 1 (wd_717 hE) (wd_120 hE) (wd_714 hE) rfl rfl (by decide +kernel) ⟨Nat.le_of_ble_eq_true rfl, Nat.le_of_ble_eq_true rfl⟩, (wd_715 hE), (wd_716 hE)⟩ ⟨PT.blind, th_recv hK hP ha2.1 he17 rfl, (th_pre (av := [.ref a2, .int 0]) hK hP hok hnd hWT hE)⟩ rfl rfl hl.1 rfl (lv_room (Nat.le_of_ble_eq_true rfl)) dX7_writeWord_52 ⟨Nat.le_of_ble_eq_true rfl, Nat.le_of_ble_eq_true rfl⟩)) (fun r18 hr18 => ?_)
      have he19 := ok_X7 hok ha0
      refine tc_v hAL hS hA (va_runV (As := [.int x16, .int r18]) (rest := []) ⟨hx, hb, hml, hown, noTs⟩ (t_X7_put l dC dI H.size G cs tt mm a0 ha0 x16 r18) ⟨cbE 2 (wd_590 hE) (wd_116 hE) (wd_587 hE) rfl rfl (by decide +kernel) ⟨Nat.le_of_ble_eq_true rfl, Nat.le_of_ble_eq_true rfl⟩, (wd_589 hE), (wd_14 hE)⟩ ⟨PT.blind, th_recv hK hP ha0.1 he19 rfl, (th_pre (av := [.ref a0, .int x16, .int r18]) hK hP hok hnd hWT hE)⟩ rfl rfl hl.1 rfl (lv_room (Nat.le_of_ble_eq_true rfl)) dX7_writeWord_55 ⟨Nat.le_of_ble_eq_true rfl, Nat.le_of_ble_eq_true rfl⟩) (fun f20 H locs hr20 hok hP hS => ?_)
      refine lv_iconst (v := 0) hx hb dX7_writeWord_58 (by decide) ?_
      refine lv_istore (lv' := [(4, .int 0), (3, .int x8), (0, .ref a0), (1, .int v1), (2, .ref a2)]) hx hb dX7_writeWord_59 hl (by decide) rfl (fun ls hl => ?_)
      refine w_ind (I := fun n f H locs ls => OKT G cs tt mm f ∧ va_P (dC, dI) vwCl (va_pl (gL G) f) H ∧ va_S (AT G s.heap.size) s.heap H locs ∧ ∃ (w4_21 : Int32), n = (2147483647 - w4_21.toInt).toNat ∧ 0 ≤ w4_21 ∧ lv_has ls 5 [(0, .ref a0), (1, .int v1), (2, .ref a2), (3, .int x8), (4, .int w4_21)]) (fun n f21 H locs ls hI ih21 => ?_) _ f20 _ _ _ ⟨hok, hP, hS, 0, rfl, (by first | omega | (simp only [i_lt, i_le, i_eq, ti_m9, ti_m1, ti_0, ti_1, ti_2, ti_3, ti_4, ti_5, ti_6, ti_7, ti_9, ti_12, ti_20, ti_99, ti_700, ti_24, ti_72, ti_8, ti_128, ti_97, ti_122, ti_48, ti_57, ti_59, ti_60, ti_61, ti_62, ti_10, ti_33, ti_51] at c3 hra5 hrb5 c6 hra13 hrb13 ⊢; omega)), lv_sub hl [2, 3, 4, 1, 0] rfl⟩
      obtain ⟨hok, hP, hS, w4_21, hmu21, hlo21, hl⟩ := hI
      subst hmu21
      refine lv_iload hx hb dX7_writeWord_61 (lv_at hl 4 rfl) ?_
      refine lv_aload_n hx hb dX7_writeWord_63 rfl (lv_at hl 2 rfl) ?_
      obtain ⟨y2_22, y3_22, hy3_22, he22⟩ := ok_X10 hok ha2
      refine vp_callSi (va_Run.run (va_runV (As := []) (rest := [.int w4_21]) ⟨hx, hb, hml, hown, noTs⟩ (t_X10_size l dC dI H.size G cs tt mm a2 ha2) ⟨cbE 0 (wd_666 hE) (wd_120 hE) (wd_709 hE) rfl rfl (by decide +kernel) ⟨Nat.le_of_ble_eq_true rfl, Nat.le_of_ble_eq_true rfl⟩, (wd_664 hE), (wd_665 hE)⟩ ⟨PT.blind, th_recv hK hP ha2.1 he22 rfl, (th_pre (av := [.ref a2]) hK hP hok hnd hWT hE)⟩ rfl rfl hl.1 rfl (lv_room (Nat.le_of_ble_eq_true rfl)) dX7_writeWord_64 ⟨Nat.le_of_ble_eq_true rfl, Nat.le_of_ble_eq_true rfl⟩)) (fun r23 hr23 => ?_)
      obtain ⟨hra23, hrb23⟩ := hr23
      refine lv_icmp_ge (tgt := 114) hx hb dX7_writeWord_67 (by decide) (fun c24 => ?_) (fun c24 => ?_)
      · exact W.vret hx hb hr (fun t ht hW => ⟨⟨f21, rfl, trivial, hok, by rw [ht]; exact hP⟩, hS.F ht⟩) hS.2.2 dX7_writeWord_114
      · refine lv_aload_n hx hb dX7_writeWord_70 rfl (lv_at hl 0 rfl) ?_
        refine lv_iload_n hx hb dX7_writeWord_71 rfl (lv_at hl 3 rfl) ?_
        refine lv_iconst (v := 3) hx hb dX7_writeWord_72 (by decide) ?_
        refine lv_iadd hx hb dX7_writeWord_73 ?_
        refine lv_topi (fun x25 _ => ?_)
        refine lv_iconst (v := 2) hx hb dX7_writeWord_74 (by decide) ?_
        refine lv_iload hx hb dX7_writeWord_75 (lv_at hl 4 rfl) ?_
        refine lv_imul hx hb dX7_writeWord_77 ?_
        refine lv_topi (fun x26 _ => ?_)
        refine lv_iadd hx hb dX7_writeWord_78 ?_
        refine lv_topi (fun x27 _ => ?_)
        refine lv_aload_n hx hb dX7_writeWord_79 rfl (lv_at hl 2 rfl) ?_
        refine lv_iload hx hb dX7_writeWord_80 (lv_at hl 4 rfl) ?_
        refine vp_callSi (va_Run.run (va_runV (As := [.int w4_21]) (rest := [.int x27, .ref a0]) ⟨hx, hb, hml, hown, noTs⟩ (t_X10_stepAt l dC dI H.size G cs tt mm a2 ha2 w4_21) ⟨cbE 1 (wd_721 hE) (wd_120 hE) (wd_718 hE) rfl rfl (by decide +kernel) ⟨Nat.le_of_ble_eq_true rfl, Nat.le_of_ble_eq_true rfl⟩, (wd_719 hE), (wd_720 hE)⟩ ⟨PT.blind, th_recv hK hP ha2.1 he22 rfl, (th_pre (av := [.ref a2, .int w4_21]) hK hP hok hnd hWT hE)⟩ rfl rfl hl.1 rfl (lv_room (Nat.le_of_ble_eq_true rfl)) dX7_writeWord_82 ⟨Nat.le_of_ble_eq_true rfl, Nat.le_of_ble_eq_true rfl⟩)) (fun r28 hr28 => ?_)
        have he29 := ok_X7 hok ha0
        refine tc_v hAL hS hA (va_runV (As := [.int x27, .int r28]) (rest := []) ⟨hx, hb, hml, hown, noTs⟩ (t_X7_put l dC dI H.size G cs tt mm a0 ha0 x27 r28) ⟨cbE 2 (wd_590 hE) (wd_116 hE) (wd_587 hE) rfl rfl (by decide +kernel) ⟨Nat.le_of_ble_eq_true rfl, Nat.le_of_ble_eq_true rfl⟩, (wd_589 hE), (wd_14 hE)⟩ ⟨PT.blind, th_recv hK hP ha0.1 he29 rfl, (th_pre (av := [.ref a0, .int x27, .int r28]) hK hP hok hnd hWT hE)⟩ rfl rfl hl.1 rfl (lv_room (Nat.le_of_ble_eq_true rfl)) dX7_writeWord_85 ⟨Nat.le_of_ble_eq_true rfl, Nat.le_of_ble_eq_true rfl⟩) (fun f30 H locs hr30 hok hP hS => ?_)
        refine lv_aload_n hx hb dX7_writeWord_88 rfl (lv_at hl 0 rfl) ?_
        refine lv_iload_n hx hb dX7_writeWord_89 rfl (lv_at hl 3 rfl) ?_
        refine lv_iconst (v := 4) hx hb dX7_writeWord_90 (by decide) ?_
        refine lv_iadd hx hb dX7_writeWord_91 ?_
        refine lv_topi (fun x31 _ => ?_)
        refine lv_iconst (v := 2) hx hb dX7_writeWord_92 (by decide) ?_
        refine lv_iload hx hb dX7_writeWord_93 (lv_at hl 4 rfl) ?_
        refine lv_imul hx hb dX7_writeWord_95 ?_
        refine lv_topi (fun x32 _ => ?_)
        refine lv_iadd hx hb dX7_writeWord_96 ?_
        refine lv_topi (fun x33 _ => ?_)
        refine lv_aload_n hx hb dX7_writeWord_97 rfl (lv_at hl 2 rfl) ?_
        refine lv_iload hx hb dX7_writeWord_98 (lv_at hl 4 rfl) ?_
        refine lv_iconst (v := 1) hx hb dX7_writeWord_100 (by decide) ?_
        refine lv_iadd hx hb dX7_writeWord_101 ?_
        refine lv_topi (fun x34 _ => ?_)
        obtain ⟨y2_35, y3_35, hy3_35, he35⟩ := ok_X10 hok ha2
        refine vp_callSi (va_Run.run (va_runV (As := [.int x34]) (rest := [.int x33, .ref a0]) ⟨hx, hb, hml, hown, noTs⟩ (t_X10_numberAt l dC dI H.size G cs tt mm a2 ha2 x34) ⟨cbE 1 (wd_717 hE) (wd_120 hE) (wd_714 hE) rfl rfl (by decide +kernel) ⟨Nat.le_of_ble_eq_true rfl, Nat.le_of_ble_eq_true rfl⟩, (wd_715 hE), (wd_716 hE)⟩ ⟨PT.blind, th_recv hK hP ha2.1 he35 rfl, (th_pre (av := [.ref a2, .int x34]) hK hP hok hnd hWT hE)⟩ rfl rfl hl.1 rfl (lv_room (Nat.le_of_ble_eq_true rfl)) dX7_writeWord_102 ⟨Nat.le_of_ble_eq_true rfl, Nat.le_of_ble_eq_true rfl⟩)) (fun r36 hr36 => ?_)
        have he37 := ok_X7 hok ha0
        refine tc_v hAL hS hA (va_runV (As := [.int x33, .int r36]) (rest := []) ⟨hx, hb, hml, hown, noTs⟩ (t_X7_put l dC dI H.size G cs tt mm a0 ha0 x33 r36) ⟨cbE 2 (wd_590 hE) (wd_116 hE) (wd_587 hE) rfl rfl (by decide +kernel) ⟨Nat.le_of_ble_eq_true rfl, Nat.le_of_ble_eq_true rfl⟩, (wd_589 hE), (wd_14 hE)⟩ ⟨PT.blind, th_recv hK hP ha0.1 he37 rfl, (th_pre (av := [.ref a0, .int x33, .int r36]) hK hP hok hnd hWT hE)⟩ rfl rfl hl.1 rfl (lv_room (Nat.le_of_ble_eq_true rfl)) dX7_writeWord_105 ⟨Nat.le_of_ble_eq_true rfl, Nat.le_of_ble_eq_true rfl⟩) (fun f38 H locs hr38 hok hP hS => ?_)
        obtain ⟨z39, ez39⟩ : ∃ z : Int32, z = w4_21 + 1 := ⟨_, rfl⟩
        refine lv_iinc (v := z39) (lv' := [(4, .int z39), (0, .ref a0), (1, .int v1), (2, .ref a2), (3, .int x8)]) hx hb dX7_writeWord_108 hl (k := 4) rfl (by rw [ez39]; rfl) (by decide) rfl (fun ls hl => ?_)
        have ic39 : z39.toInt = w4_21.toInt + 1 := by rw [ez39]; exact ic_up (by have := i_rng r2; have := i_rng r5; have := i_rng r13; have := i_rng r23; have := i_rng w4_21; simp only [i_lt, i_le, i_eq, ti_m9, ti_m1, ti_0, ti_1, ti_2, ti_3, ti_4, ti_5, ti_6, ti_7, ti_9, ti_12, ti_20, ti_99, ti_700, ti_24, ti_72, ti_8, ti_128, ti_97, ti_122, ti_48, ti_57, ti_59, ti_60, ti_61, ti_62, ti_10, ti_33, ti_51] at c3 hra5 hrb5 c6 hra13 hrb13 hlo21 hra23 hrb23 c24 ⊢; omega)
        refine lv_goto (tgt := 61) hx hb dX7_writeWord_111 (by decide) ?_
        exact ih21 _ f38 _ _ _ (by first | omega | (simp only [i_lt, i_le, i_eq, ti_m9, ti_m1, ti_0, ti_1, ti_2, ti_3, ti_4, ti_5, ti_6, ti_7, ti_9, ti_12, ti_20, ti_99, ti_700, ti_24, ti_72, ti_8, ti_128, ti_97, ti_122, ti_48, ti_57, ti_59, ti_60, ti_61, ti_62, ti_10, ti_33, ti_51, ic39] at c3 hra5 hrb5 c6 hra13 hrb13 hlo21 hra23 hrb23 c24 ic39 ⊢; omega)) ⟨hok, hP, hS, z39, rfl, (by first | omega | (simp only [i_lt, i_le, i_eq, ti_m9, ti_m1, ti_0, ti_1, ti_2, ti_3, ti_4, ti_5, ti_6, ti_7, ti_9, ti_12, ti_20, ti_99, ti_700, ti_24, ti_72, ti_8, ti_128, ti_97, ti_122, ti_48, ti_57, ti_59, ti_60, ti_61, ti_62, ti_10, ti_33, ti_51, ic39] at c3 hra5 hrb5 c6 hra13 hrb13 hlo21 hra23 hrb23 c24 ⊢; omega)), lv_sub hl [1, 2, 3, 4, 0] rfl⟩
    · exact W.vret hx hb hr (fun t ht hW => ⟨⟨f0, rfl, trivial, hok, by rw [ht]; exact hP⟩, hS.F ht⟩) hS.2.2 dX7_writeWord_17

set_option maxHeartbeats 4000000 in
set_option maxRecDepth 100000 in
theorem t_X7_addWord (l : Launch) (dC : Nat → ClassId) (dI : Nat → Nat → Nat) (sz : Nat) (G : GT) (cs : Nat → ClassId) (tt mm : Nat) (a0 : Nat) (ha0 : Ty G a0 7) (a1 : Nat) (ha1 : Ty G a1 10) : Met l yX7_addWord [.code yX7_addWord cX7_addWord 3 (some .int)] ({ frames := 2, cells := 0, slots := 0, locals := 80 }) (PT [.ref a0, .ref a1] sz dC dI G cs tt mm) (va_Qi (fun (r : Int32) (u : Nat → va_E) => True) (BT dC dI G cs tt mm) (AT G sz)) 0 0 (AT G sz) := by
  refine Met.ofW (cc := cX7_addWord) (maxL := 3) (ret := (some .int)) (by decide) rfl ?_
  intro p e s m args below meth c s₁ B hml hv
  obtain ⟨rfl, hsz, ⟨f0, hok, hP⟩, hK, hnd, hWT, hE⟩ := hv
  have hx := B.exec
  have hb := B.bytes
  have hr := B.returns
  have hown : s.vm.findClass RX7 = some m.cls := findClass_of_methodNamed B.named
  have hlocks := B.notSynchronized
  subst hsz
  have hAL : ∀ a, a ∈ gL G → AT G s.heap.size a := fun a h => Or.inl h
  have hA : ∀ q : Nat, s.heap.size ≤ q → AT G s.heap.size q := fun q h => Or.inr h
  have hS : va_S (AT G s.heap.size) s.heap s.heap [] := va_S.rf
  have hl := lv_entry ([.ref a0, .ref a1]) (n := 3) (Nat.le_of_ble_eq_true rfl)
  rw [lg_entry_eq]
  generalize (lg_sl ([.ref a0, .ref a1]) ++ List.replicate (3 - (lg_sl ([.ref a0, .ref a1])).length) Slot.unset).toArray = ls at hl ⊢
  have hl : lv_has ls 3 [(0, .ref a0), (1, .ref a1)] := hl
  refine lv_aload_n hx hb dX7_addWord_0 rfl (lv_at hl 0 rfl) ?_
  have he1 := ok_X7 hok ha0
  refine vp_callSi (va_Run.run (va_runV (As := []) (rest := []) ⟨hx, hb, hml, hown, noTs⟩ (t_X7_words l dC dI s.heap.size G cs tt mm a0 ha0) ⟨cbE 0 (wd_700 hE) (wd_116 hE) (wd_697 hE) rfl rfl (by decide +kernel) ⟨Nat.le_of_ble_eq_true rfl, Nat.le_of_ble_eq_true rfl⟩, (wd_698 hE), (wd_699 hE)⟩ ⟨PT.blind, th_recv hK hP ha0.1 he1 rfl, (th_pre (av := [.ref a0]) hK hP hok hnd hWT hE)⟩ rfl rfl hl.1 rfl (lv_room (Nat.le_of_ble_eq_true rfl)) dX7_addWord_1 ⟨Nat.le_of_ble_eq_true rfl, Nat.le_of_ble_eq_true rfl⟩)) (fun r2 hr2 => ?_)
  refine lv_istore_n (lv' := [(2, .int r2), (0, .ref a0), (1, .ref a1)]) hx hb dX7_addWord_4 rfl hl (by decide) rfl (fun ls hl => ?_)
  refine lv_iload_n hx hb dX7_addWord_5 rfl (lv_at hl 0 rfl) ?_
  refine lv_bipush (v := 10) hx hb dX7_addWord_6 (by decide) ?_
  refine lv_icmp_lt (tgt := 13) hx hb dX7_addWord_8 (by decide) (fun c3 => ?_) (fun c3 => ?_)
  · refine lv_aload_n hx hb dX7_addWord_13 rfl (lv_at hl 1 rfl) ?_
    refine lv_iconst (v := 2) hx hb dX7_addWord_14 (by decide) ?_
    refine lv_iload_n hx hb dX7_addWord_15 rfl (lv_at hl 0 rfl) ?_
    refine lv_iconst (v := 1) hx hb dX7_addWord_16 (by decide) ?_
    refine lv_iadd hx hb dX7_addWord_17 ?_
    refine lv_topi (fun x4 _ => ?_)
    refine tc_v hAL hS hA (va_runV (As := [.int 2, .int x4]) (rest := []) ⟨hx, hb, hml, hown, noTs⟩ (t_X7_put l dC dI s.heap.size G cs tt mm a0 ha0 2 x4) ⟨cbE 2 (wd_590 hE) (wd_116 hE) (wd_587 hE) rfl rfl (by decide +kernel) ⟨Nat.le_of_ble_eq_true rfl, Nat.le_of_ble_eq_true rfl⟩, (wd_589 hE), (wd_14 hE)⟩ ⟨PT.blind, th_recv hK hP ha0.1 he1 rfl, (th_pre (av := [.ref a0, .int 2, .int x4]) hK hP hok hnd hWT hE)⟩ rfl rfl hl.1 rfl (lv_room (Nat.le_of_ble_eq_true rfl)) dX7_addWord_18 ⟨Nat.le_of_ble_eq_true rfl, Nat.le_of_ble_eq_true rfl⟩) (fun f5 H locs hr5 hok hP hS => ?_)
    refine lv_aload_n hx hb dX7_addWord_21 rfl (lv_at hl 1 rfl) ?_
    refine lv_iload_n hx hb dX7_addWord_22 rfl (lv_at hl 0 rfl) ?_
    refine lv_aload_n hx hb dX7_addWord_23 rfl (lv_at hl 2 rfl) ?_
    have he6 := ok_X7 hok ha0
    refine tc_v hAL hS hA (va_runV (As := [.int r2, .ref a1]) (rest := []) ⟨hx, hb, hml, hown, noTs⟩ (t_X7_writeWord l dC dI H.size G cs tt mm a0 ha0 r2 a1 ha1) ⟨cbE 2 (wd_704 hE) (wd_116 hE) (wd_701 hE) rfl rfl (by decide +kernel) ⟨Nat.le_of_ble_eq_true rfl, Nat.le_of_ble_eq_true rfl⟩, (wd_702 hE), (wd_703 hE)⟩ ⟨PT.blind, th_recv hK hP ha0.1 he6 rfl, (th_pre (av := [.ref a0, .int r2, .ref a1]) hK hP hok hnd hWT hE)⟩ rfl rfl hl.1 rfl (lv_room (Nat.le_of_ble_eq_true rfl)) dX7_addWord_24 ⟨Nat.le_of_ble_eq_true rfl, Nat.le_of_ble_eq_true rfl⟩) (fun f7 H locs hr7 hok hP hS => ?_)
    refine lv_iload_n hx hb dX7_addWord_27 rfl (lv_at hl 0 rfl) ?_
    exact W.iret (v := r2) hx hb hr (fun t ht hW => ⟨⟨r2, f7, rfl, trivial, hok, by rw [ht]; exact hP⟩, hS.F ht⟩) hS.2.2 dX7_addWord_28
  · refine lv_iconst (v := -1) hx hb dX7_addWord_11 (by decide) ?_
    exact W.iret (v := -1) hx hb hr (fun t ht hW => ⟨⟨-1, f0, rfl, trivial, hok, by rw [ht]; exact hP⟩, hS.F ht⟩) hS.2.2 dX7_addWord_12

set_option maxHeartbeats 4000000 in
set_option maxRecDepth 100000 in
theorem t_X7_cell (l : Launch) (dC : Nat → ClassId) (dI : Nat → Nat → Nat) (sz : Nat) (G : GT) (cs : Nat → ClassId) (tt mm : Nat) (a0 : Nat) (ha0 : Ty G a0 7) (v1 : Int32) : Met l yX7_cell [.code yX7_cell cX7_cell 2 (some .int)] ({ frames := 0, cells := 0, slots := 0, locals := 0 }) (PT [.ref a0, .int v1] sz dC dI G cs tt mm) (vp_Si (fun (r : Int32) => True)) 0 0 (fun _ => False) := by
  refine Met.ofW (cc := cX7_cell) (maxL := 2) (ret := (some .int)) (by decide) rfl ?_
  intro p e s m args below meth c s₁ B hml hv
  obtain ⟨rfl, hsz, ⟨f0, hok, hP⟩, hK, hnd, hWT, hE⟩ := hv
  have hx := B.exec
  have hb := B.bytes
  have hr := B.returns
  have hown : s.vm.findClass RX7 = some m.cls := findClass_of_methodNamed B.named
  have hlocks := B.notSynchronized
  subst hsz
  have hl := lv_entry ([.ref a0, .int v1]) (n := 2) (Nat.le_of_ble_eq_true rfl)
  rw [lg_entry_eq]
  generalize (lg_sl ([.ref a0, .int v1]) ++ List.replicate (2 - (lg_sl ([.ref a0, .int v1])).length) Slot.unset).toArray = ls at hl ⊢
  have hl : lv_has ls 2 [(0, .ref a0), (1, .int v1)] := hl
  refine lv_iload_n hx hb dX7_cell_0 rfl (lv_at hl 1 rfl) ?_
  refine lv_if_lt (tgt := 13) hx hb dX7_cell_1 (by decide) (fun c1 => ?_) (fun c1 => ?_)
  · refine lv_iconst (v := 0) hx hb dX7_cell_13 (by decide) ?_
    refine lv_goto (tgt := 23) hx hb dX7_cell_14 (by decide) ?_
    exact W.iret (v := 0) hx hb hr (fun t ht hW => ⟨0, rfl, trivial, ht⟩) (fun _ h => absurd h List.not_mem_nil) dX7_cell_23
  · refine lv_iload_n hx hb dX7_cell_4 rfl (lv_at hl 1 rfl) ?_
    refine lv_aload_n hx hb dX7_cell_5 rfl (lv_at hl 0 rfl) ?_
    have he2 := ok_X7 hok ha0
    refine th_get hx hb (ly_X7 hE) hown hK hP ha0.1 he2 rfl 0 (by decide) (wd_149 hE) (fun _ h9 => h9) rfl dX7_cell_6 ?_
    refine th_len1 hx hb hK hP hok (n := 543) (wl_X7_0 hWT ha0) (Or.inl (wt_X7_0 hWT ha0)) dX7_cell_9 ?_
    refine W.eq (g2 := F0 m 10 ls [.int 543, .int v1]) rfl ?_
    refine lv_icmp_lt (tgt := 17) hx hb dX7_cell_10 (by decide) (fun c3 => ?_) (fun c3 => ?_)
    · refine lv_aload_n hx hb dX7_cell_17 rfl (lv_at hl 0 rfl) ?_
      refine th_get hx hb (ly_X7 hE) hown hK hP ha0.1 he2 rfl 0 (by decide) (wd_149 hE) (fun _ h9 => h9) rfl dX7_cell_18 ?_
      refine lv_iload_n hx hb dX7_cell_21 rfl (lv_at hl 1 rfl) ?_
      refine th_iald hx hb hK hP hok (wt_X7_0 hWT ha0) (n := 543) (wl_X7_0 hWT ha0) (vp_in_iff.mpr (by first | omega | (simp only [i_lt, i_le, i_eq, ti_m9, ti_m1, ti_0, ti_1, ti_2, ti_3, ti_4, ti_5, ti_6, ti_7, ti_9, ti_12, ti_20, ti_99, ti_700, ti_24, ti_72, ti_8, ti_128, ti_97, ti_122, ti_48, ti_57, ti_59, ti_60, ti_61, ti_62, ti_10, ti_33, ti_51] at c1 c3 ⊢; omega))) dX7_cell_22 (fun x4 => ?_)
      exact W.iret (v := x4) hx hb hr (fun t ht hW => ⟨x4, rfl, trivial, ht⟩) (fun _ h => absurd h List.not_mem_nil) dX7_cell_23
    · refine lv_iconst (v := 0) hx hb dX7_cell_13 (by decide) ?_
      refine lv_goto (tgt := 23) hx hb dX7_cell_14 (by decide) ?_
      exact W.iret (v := 0) hx hb hr (fun t ht hW => ⟨0, rfl, trivial, ht⟩) (fun _ h => absurd h List.not_mem_nil) dX7_cell_23

set_option maxHeartbeats 4000000 in
set_option maxRecDepth 100000 in
theorem t_X7_isLoop (l : Launch) (dC : Nat → ClassId) (dI : Nat → Nat → Nat) (sz : Nat) (G : GT) (cs : Nat → ClassId) (tt mm : Nat) (a0 : Nat) (ha0 : Ty G a0 7) (a1 : Nat) (ha1 : Ty G a1 10) : Met l yX7_isLoop [.code yX7_isLoop cX7_isLoop 2 (some .boolean)] ({ frames := 3, cells := 0, slots := 0, locals := 120 }) (PT [.ref a0, .ref a1] sz dC dI G cs tt mm) (vp_Si (fun (r : Int32) => r = 0 ∨ r = 1)) 0 0 (fun _ => False) := by
  refine Met.ofW (cc := cX7_isLoop) (maxL := 2) (ret := (some .boolean)) (by decide) rfl ?_
  intro p e s m args below meth c s₁ B hml hv
  obtain ⟨rfl, hsz, ⟨f0, hok, hP⟩, hK, hnd, hWT, hE⟩ := hv
  have hx := B.exec
  have hb := B.bytes
  have hr := B.returns
  have hown : s.vm.findClass RX7 = some m.cls := findClass_of_methodNamed B.named
  have hlocks := B.notSynchronized
  subst hsz
  have hl := lv_entry ([.ref a0, .ref a1]) (n := 2) (Nat.le_of_ble_eq_true rfl)
  rw [lg_entry_eq]
  generalize (lg_sl ([.ref a0, .ref a1]) ++ List.replicate (2 - (lg_sl ([.ref a0, .ref a1])).length) Slot.unset).toArray = ls at hl ⊢
  have hl : lv_has ls 2 [(0, .ref a0), (1, .ref a1)] := hl
  refine lv_aload_n hx hb dX7_isLoop_0 rfl (lv_at hl 0 rfl) ?_
  refine lv_aload_n hx hb dX7_isLoop_1 rfl (lv_at hl 1 rfl) ?_
  have he1 := ok_X7 hok ha0
  refine vp_callSi (va_Run.run (va_runV (As := [.ref a1]) (rest := []) ⟨hx, hb, hml, hown, noTs⟩ (t_X7_endOf l dC dI s.heap.size G cs tt mm a0 ha0 a1 ha1) ⟨cbE 1 (wd_828 hE) (wd_116 hE) (wd_950 hE) rfl rfl (by decide +kernel) ⟨Nat.le_of_ble_eq_true rfl, Nat.le_of_ble_eq_true rfl⟩, (wd_826 hE), (wd_827 hE)⟩ ⟨PT.blind, th_recv hK hP ha0.1 he1 rfl, (th_pre (av := [.ref a0, .ref a1]) hK hP hok hnd hWT hE)⟩ rfl rfl hl.1 rfl (lv_room (Nat.le_of_ble_eq_true rfl)) dX7_isLoop_2 ⟨Nat.le_of_ble_eq_true rfl, Nat.le_of_ble_eq_true rfl⟩)) (fun r2 hr2 => ?_)
  refine lv_aload_n hx hb dX7_isLoop_5 rfl (lv_at hl 1 rfl) ?_
  obtain ⟨y2_3, y3_3, hy3_3, he3⟩ := ok_X10 hok ha1
  refine vp_callSi (va_Run.run (va_runV (As := []) (rest := [.int r2]) ⟨hx, hb, hml, hown, noTs⟩ (t_X10_begin l dC dI s.heap.size G cs tt mm a1 ha1) ⟨cbE 0 (wd_713 hE) (wd_120 hE) (wd_710 hE) rfl rfl (by decide +kernel) ⟨Nat.le_of_ble_eq_true rfl, Nat.le_of_ble_eq_true rfl⟩, (wd_711 hE), (wd_712 hE)⟩ ⟨PT.blind, th_recv hK hP ha1.1 he3 rfl, (th_pre (av := [.ref a1]) hK hP hok hnd hWT hE)⟩ rfl rfl hl.1 rfl (lv_room (Nat.le_of_ble_eq_true rfl)) dX7_isLoop_6 ⟨Nat.le_of_ble_eq_true rfl, Nat.le_of_ble_eq_true rfl⟩)) (fun r4 hr4 => ?_)
  refine lv_icmp_ne (tgt := 16) hx hb dX7_isLoop_9 (by decide) (fun c5 => ?_) (fun c5 => ?_)
  · refine lv_iconst (v := 0) hx hb dX7_isLoop_16 (by decide) ?_
    exact W.zret (v := 0) hx hb hr rfl (fun t ht hW => ⟨0, rfl, Or.inl rfl, ht⟩) (fun _ h => absurd h List.not_mem_nil) dX7_isLoop_17
  · refine lv_iconst (v := 1) hx hb dX7_isLoop_12 (by decide) ?_
    refine lv_goto (tgt := 17) hx hb dX7_isLoop_13 (by decide) ?_
    exact W.zret (v := 1) hx hb hr rfl (fun t ht hW => ⟨1, rfl, Or.inr rfl, ht⟩) (fun _ h => absurd h List.not_mem_nil) dX7_isLoop_17

set_option maxHeartbeats 4000000 in
set_option maxRecDepth 100000 in
theorem t_X7_readWord (l : Launch) (dC : Nat → ClassId) (dI : Nat → Nat → Nat) (sz : Nat) (G : GT) (cs : Nat → ClassId) (tt mm : Nat) (a0 : Nat) (ha0 : Ty G a0 7) (v1 : Int32) (a2 : Nat) (ha2 : Ty G a2 10) : Met l yX7_readWord [.code yX7_readWord cX7_readWord 6 (some .boolean)] ({ frames := 1, cells := 0, slots := 0, locals := 40 }) (PT [.ref a0, .int v1, .ref a2] sz dC dI G cs tt mm) (va_Qi (fun (r : Int32) (u : Nat → va_E) => r = 0 ∨ r = 1) (BT dC dI G cs tt mm) (AT G sz)) 0 0 (AT G sz) := by
  refine Met.ofW (cc := cX7_readWord) (maxL := 6) (ret := (some .boolean)) (by decide) rfl ?_
  intro p e s m args below meth c s₁ B hml hv
  obtain ⟨rfl, hsz, ⟨f0, hok, hP⟩, hK, hnd, hWT, hE⟩ := hv
  have hx := B.exec
  have hb := B.bytes
  have hr := B.returns
  have hown : s.vm.findClass RX7 = some m.cls := findClass_of_methodNamed B.named
  have hlocks := B.notSynchronized
  subst hsz
  have hAL : ∀ a, a ∈ gL G → AT G s.heap.size a := fun a h => Or.inl h
  have hA : ∀ q : Nat, s.heap.size ≤ q → AT G s.heap.size q := fun q h => Or.inr h
  have hS : va_S (AT G s.heap.size) s.heap s.heap [] := va_S.rf
  have hl := lv_entry ([.ref a0, .int v1, .ref a2]) (n := 6) (Nat.le_of_ble_eq_true rfl)
  rw [lg_entry_eq]
  generalize (lg_sl ([.ref a0, .int v1, .ref a2]) ++ List.replicate (6 - (lg_sl ([.ref a0, .int v1, .ref a2])).length) Slot.unset).toArray = ls at hl ⊢
  have hl : lv_has ls 6 [(0, .ref a0), (1, .int v1), (2, .ref a2)] := hl
  refine lv_aload_n hx hb dX7_readWord_0 rfl (lv_at hl 0 rfl) ?_
  refine lv_iload_n hx hb dX7_readWord_1 rfl (lv_at hl 1 rfl) ?_
  have he1 := ok_X7 hok ha0
  refine vp_callSi (va_Run.run (va_runV (As := [.int v1]) (rest := []) ⟨hx, hb, hml, hown, noTs⟩ (t_X7_hasWord l dC dI s.heap.size G cs tt mm a0 ha0 v1) ⟨cbE 1 (wd_708 hE) (wd_116 hE) (wd_705 hE) rfl rfl (by decide +kernel) ⟨Nat.le_of_ble_eq_true rfl, Nat.le_of_ble_eq_true rfl⟩, (wd_706 hE), (wd_707 hE)⟩ ⟨PT.blind, th_recv hK hP ha0.1 he1 rfl, (th_pre (av := [.ref a0, .int v1]) hK hP hok hnd hWT hE)⟩ rfl rfl hl.1 rfl (lv_room (Nat.le_of_ble_eq_true rfl)) dX7_readWord_2 ⟨Nat.le_of_ble_eq_true rfl, Nat.le_of_ble_eq_true rfl⟩)) (fun r2 hr2 => ?_)
  refine lv_if_ne (tgt := 10) hx hb dX7_readWord_5 (by decide) (fun c3 => ?_) (fun c3 => ?_)
  · refine lv_bipush (v := 33) hx hb dX7_readWord_10 (by decide) ?_
    refine lv_bipush (v := 51) hx hb dX7_readWord_12 (by decide) ?_
    refine lv_iload_n hx hb dX7_readWord_14 rfl (lv_at hl 1 rfl) ?_
    refine lv_imul hx hb dX7_readWord_15 ?_
    refine lv_topi (fun x4 _ => ?_)
    refine lv_iadd hx hb dX7_readWord_16 ?_
    refine lv_topi (fun x5 _ => ?_)
    refine lv_istore_n (lv' := [(3, .int x5), (0, .ref a0), (1, .int v1), (2, .ref a2)]) hx hb dX7_readWord_17 rfl hl (by decide) rfl (fun ls hl => ?_)
    refine lv_aload_n hx hb dX7_readWord_18 rfl (lv_at hl 1 rfl) ?_
    refine lv_iload_n hx hb dX7_readWord_19 rfl (lv_at hl 0 rfl) ?_
    refine lv_iconst (v := 1) hx hb dX7_readWord_20 (by decide) ?_
    refine lv_iadd hx hb dX7_readWord_21 ?_
    refine lv_topi (fun x6 _ => ?_)
    refine vp_callSi (va_Run.run (va_runV (As := [.int x6]) (rest := []) ⟨hx, hb, hml, hown, noTs⟩ (t_X7_cell l dC dI s.heap.size G cs tt mm a0 ha0 x6) ⟨cbE 1 (wd_821 hE) (wd_116 hE) (wd_818 hE) rfl rfl (by decide +kernel) ⟨Nat.le_of_ble_eq_true rfl, Nat.le_of_ble_eq_true rfl⟩, (wd_820 hE), (wd_27 hE)⟩ ⟨PT.blind, th_recv hK hP ha0.1 he1 rfl, (th_pre (av := [.ref a0, .int x6]) hK hP hok hnd hWT hE)⟩ rfl rfl hl.1 rfl (lv_room (Nat.le_of_ble_eq_true rfl)) dX7_readWord_22 ⟨Nat.le_of_ble_eq_true rfl, Nat.le_of_ble_eq_true rfl⟩)) (fun r7 hr7 => ?_)
    refine lv_istore (lv' := [(4, .int r7), (3, .int x5), (0, .ref a0), (1, .int v1), (2, .ref a2)]) hx hb dX7_readWord_25 hl (by decide) rfl (fun ls hl => ?_)
    refine lv_aload_n hx hb dX7_readWord_27 rfl (lv_at hl 4 rfl) ?_
    refine lv_aload_n hx hb dX7_readWord_28 rfl (lv_at hl 2 rfl) ?_
    refine lv_iload_n hx hb dX7_readWord_29 rfl (lv_at hl 1 rfl) ?_
    refine vp_callSi (va_Run.run (va_runV (As := [.int x5]) (rest := [.ref a2]) ⟨hx, hb, hml, hown, noTs⟩ (t_X7_cell l dC dI s.heap.size G cs tt mm a0 ha0 x5) ⟨cbE 1 (wd_821 hE) (wd_116 hE) (wd_818 hE) rfl rfl (by decide +kernel) ⟨Nat.le_of_ble_eq_true rfl, Nat.le_of_ble_eq_true rfl⟩, (wd_820 hE), (wd_27 hE)⟩ ⟨PT.blind, th_recv hK hP ha0.1 he1 rfl, (th_pre (av := [.ref a0, .int x5]) hK hP hok hnd hWT hE)⟩ rfl rfl hl.1 rfl (lv_room (Nat.le_of_ble_eq_true rfl)) dX7_readWord_30 ⟨Nat.le_of_ble_eq_true rfl, Nat.le_of_ble_eq_true rfl⟩)) (fun r8 hr8 => ?_)
    refine lv_aload_n hx hb dX7_readWord_33 rfl (lv_at hl 2 rfl) ?_
    refine lv_iload_n hx hb dX7_readWord_34 rfl (lv_at hl 1 rfl) ?_
    refine lv_iconst (v := 2) hx hb dX7_readWord_35 (by decide) ?_
    refine lv_iadd hx hb dX7_readWord_36 ?_
    refine lv_topi (fun x9 _ => ?_)
    refine vp_callSi (va_Run.run (va_runV (As := [.int x9]) (rest := [.int r8, .ref a2]) ⟨hx, hb, hml, hown, noTs⟩ (t_X7_cell l dC dI s.heap.size G cs tt mm a0 ha0 x9) ⟨cbE 1 (wd_821 hE) (wd_116 hE) (wd_818 hE) rfl rfl (by decide +kernel) ⟨Nat.le_of_ble_eq_true rfl, Nat.le_of_ble_eq_true rfl⟩, (wd_820 hE), (wd_27 hE)⟩ ⟨PT.blind, th_recv hK hP ha0.1 he1 rfl, (th_pre (av := [.ref a0, .int x9]) hK hP hok hnd hWT hE)⟩ rfl rfl hl.1 rfl (lv_room (Nat.le_of_ble_eq_true rfl)) dX7_readWord_37 ⟨Nat.le_of_ble_eq_true rfl, Nat.le_of_ble_eq_true rfl⟩)) (fun r10 hr10 => ?_)
    obtain ⟨y2_11, y3_11, hy3_11, he11⟩ := ok_X10 hok ha2
    refine tc_v hAL hS hA (va_runV (As := [.int r8, .int r10]) (rest := []) ⟨hx, hb, hml, hown, noTs⟩ (t_X10_start l dC dI s.heap.size G cs tt mm a2 ha2 r8 r10) ⟨cbE 2 (wd_637 hE) (wd_120 hE) (wd_822 hE) rfl rfl (by decide +kernel) ⟨Nat.le_of_ble_eq_true rfl, Nat.le_of_ble_eq_true rfl⟩, (wd_635 hE), (wd_636 hE)⟩ ⟨PT.blind, th_recv hK hP ha2.1 he11 rfl, (th_pre (av := [.ref a2, .int r8, .int r10]) hK hP hok hnd hWT hE)⟩ rfl rfl hl.1 rfl (lv_room (Nat.le_of_ble_eq_true rfl)) dX7_readWord_40 ⟨Nat.le_of_ble_eq_true rfl, Nat.le_of_ble_eq_true rfl⟩) (fun f12 H locs hr12 hok hP hS => ?_)
    refine lv_iconst (v := 0) hx hb dX7_readWord_43 (by decide) ?_
    refine lv_istore (lv' := [(5, .int 0), (4, .int r7), (3, .int x5), (0, .ref a0), (1, .int v1), (2, .ref a2)]) hx hb dX7_readWord_44 hl (by decide) rfl (fun ls hl => ?_)
    refine w_ind (I := fun n f H locs ls => OKT G cs tt mm f ∧ va_P (dC, dI) vwCl (va_pl (gL G) f) H ∧ va_S (AT G s.heap.size) s.heap H locs ∧ ∃ (w5_13 : Int32), n = (2147483647 - w5_13.toInt).toNat ∧ 0 ≤ w5_13 ∧ lv_has ls 6 [(0, .ref a0), (1, .int v1), (2, .ref a2), (3, .int x5), (4, .int r7), (5, .int w5_13)]) (fun n f13 H locs ls hI ih13 => ?_) _ f12 _ _ _ ⟨hok, hP, hS, 0, rfl, (by first | omega | (simp only [i_lt, i_le, i_eq, ti_m9, ti_m1, ti_0, ti_1, ti_2, ti_3, ti_4, ti_5, ti_6, ti_7, ti_9, ti_12, ti_20, ti_99, ti_700, ti_24, ti_72, ti_8, ti_128, ti_97, ti_122, ti_48, ti_57, ti_59, ti_60, ti_61, ti_62, ti_10, ti_33, ti_51] at c3 ⊢; omega)), lv_sub hl [3, 4, 5, 2, 1, 0] rfl⟩
    obtain ⟨hok, hP, hS, w5_13, hmu13, hlo13, hl⟩ := hI
    subst hmu13
    refine lv_iload hx hb dX7_readWord_46 (lv_at hl 5 rfl) ?_
    refine lv_iload hx hb dX7_readWord_48 (lv_at hl 4 rfl) ?_
    refine lv_icmp_ge (tgt := 87) hx hb dX7_readWord_50 (by decide) (fun c14 => ?_) (fun c14 => ?_)
    · refine lv_iconst (v := 1) hx hb dX7_readWord_87 (by decide) ?_
      exact W.zret (v := 1) hx hb hr rfl (fun t ht hW => ⟨⟨1, f13, rfl, Or.inr rfl, hok, by rw [ht]; exact hP⟩, hS.F ht⟩) hS.2.2 dX7_readWord_88
    · refine lv_aload_n hx hb dX7_readWord_53 rfl (lv_at hl 2 rfl) ?_
      refine lv_aload_n hx hb dX7_readWord_54 rfl (lv_at hl 0 rfl) ?_
      refine lv_iload_n hx hb dX7_readWord_55 rfl (lv_at hl 3 rfl) ?_
      refine lv_iconst (v := 3) hx hb dX7_readWord_56 (by decide) ?_
      refine lv_iadd hx hb dX7_readWord_57 ?_
      refine lv_topi (fun x15 _ => ?_)
      refine lv_iconst (v := 2) hx hb dX7_readWord_58 (by decide) ?_
      refine lv_iload hx hb dX7_readWord_59 (lv_at hl 5 rfl) ?_
      refine lv_imul hx hb dX7_readWord_61 ?_
      refine lv_topi (fun x16 _ => ?_)
      refine lv_iadd hx hb dX7_readWord_62 ?_
      refine lv_topi (fun x17 _ => ?_)
      have he18 := ok_X7 hok ha0
      refine vp_callSi (va_Run.run (va_runV (As := [.int x17]) (rest := [.ref a2]) ⟨hx, hb, hml, hown, noTs⟩ (t_X7_cell l dC dI H.size G cs tt mm a0 ha0 x17) ⟨cbE 1 (wd_821 hE) (wd_116 hE) (wd_818 hE) rfl rfl (by decide +kernel) ⟨Nat.le_of_ble_eq_true rfl, Nat.le_of_ble_eq_true rfl⟩, (wd_820 hE), (wd_27 hE)⟩ ⟨PT.blind, th_recv hK hP ha0.1 he18 rfl, (th_pre (av := [.ref a0, .int x17]) hK hP hok hnd hWT hE)⟩ rfl rfl hl.1 rfl (lv_room (Nat.le_of_ble_eq_true rfl)) dX7_readWord_63 ⟨Nat.le_of_ble_eq_true rfl, Nat.le_of_ble_eq_true rfl⟩)) (fun r19 hr19 => ?_)
      refine lv_aload_n hx hb dX7_readWord_66 rfl (lv_at hl 0 rfl) ?_
      refine lv_iload_n hx hb dX7_readWord_67 rfl (lv_at hl 3 rfl) ?_
      refine lv_iconst (v := 4) hx hb dX7_readWord_68 (by decide) ?_
      refine lv_iadd hx hb dX7_readWord_69 ?_
      refine lv_topi (fun x20 _ => ?_)
      refine lv_iconst (v := 2) hx hb dX7_readWord_70 (by decide) ?_
      refine lv_iload hx hb dX7_readWord_71 (lv_at hl 5 rfl) ?_
      refine lv_imul hx hb dX7_readWord_73 ?_
      refine lv_topi (fun x21 _ => ?_)
      refine lv_iadd hx hb dX7_readWord_74 ?_
      refine lv_topi (fun x22 _ => ?_)
      refine vp_callSi (va_Run.run (va_runV (As := [.int x22]) (rest := [.int r19, .ref a2]) ⟨hx, hb, hml, hown, noTs⟩ (t_X7_cell l dC dI H.size G cs tt mm a0 ha0 x22) ⟨cbE 1 (wd_821 hE) (wd_116 hE) (wd_818 hE) rfl rfl (by decide +kernel) ⟨Nat.le_of_ble_eq_true rfl, Nat.le_of_ble_eq_true rfl⟩, (wd_820 hE), (wd_27 hE)⟩ ⟨PT.blind, th_recv hK hP ha0.1 he18 rfl, (th_pre (av := [.ref a0, .int x22]) hK hP hok hnd hWT hE)⟩ rfl rfl hl.1 rfl (lv_room (Nat.le_of_ble_eq_true rfl)) dX7_readWord_75 ⟨Nat.le_of_ble_eq_true rfl, Nat.le_of_ble_eq_true rfl⟩)) (fun r23 hr23 => ?_)
      obtain ⟨y2_24, y3_24, hy3_24, he24⟩ := ok_X10 hok ha2
      refine tc_v hAL hS hA (va_runV (As := [.int r19, .int r23]) (rest := []) ⟨hx, hb, hml, hown, noTs⟩ (t_X10_push l dC dI H.size G cs tt mm a2 ha2 r19 r23) ⟨cbE 2 (wd_688 hE) (wd_120 hE) (wd_823 hE) rfl rfl (by decide +kernel) ⟨Nat.le_of_ble_eq_true rfl, Nat.le_of_ble_eq_true rfl⟩, (wd_686 hE), (wd_687 hE)⟩ ⟨PT.blind, th_recv hK hP ha2.1 he24 rfl, (th_pre (av := [.ref a2, .int r19, .int r23]) hK hP hok hnd hWT hE)⟩ rfl rfl hl.1 rfl (lv_room (Nat.le_of_ble_eq_true rfl)) dX7_readWord_78 ⟨Nat.le_of_ble_eq_true rfl, Nat.le_of_ble_eq_true rfl⟩) (fun f25 H locs hr25 hok hP hS => ?_)
      obtain ⟨z26, ez26⟩ : ∃ z : Int32, z = w5_13 + 1 := ⟨_, rfl⟩
      refine lv_iinc (v := z26) (lv' := [(5, .int z26), (0, .ref a0), (1, .int v1), (2, .ref a2), (3, .int x5), (4, .int r7)]) hx hb dX7_readWord_81 hl (k := 5) rfl (by rw [ez26]; rfl) (by decide) rfl (fun ls hl => ?_)
      have ic26 : z26.toInt = w5_13.toInt + 1 := by rw [ez26]; exact ic_up (by have := i_rng r2; have := i_rng w5_13; have := i_rng r7; simp only [i_lt, i_le, i_eq, ti_m9, ti_m1, ti_0, ti_1, ti_2, ti_3, ti_4, ti_5, ti_6, ti_7, ti_9, ti_12, ti_20, ti_99, ti_700, ti_24, ti_72, ti_8, ti_128, ti_97, ti_122, ti_48, ti_57, ti_59, ti_60, ti_61, ti_62, ti_10, ti_33, ti_51] at c3 hlo13 c14 ⊢; omega)
      refine lv_goto (tgt := 46) hx hb dX7_readWord_84 (by decide) ?_
      exact ih13 _ f25 _ _ _ (by first | omega | (simp only [i_lt, i_le, i_eq, ti_m9, ti_m1, ti_0, ti_1, ti_2, ti_3, ti_4, ti_5, ti_6, ti_7, ti_9, ti_12, ti_20, ti_99, ti_700, ti_24, ti_72, ti_8, ti_128, ti_97, ti_122, ti_48, ti_57, ti_59, ti_60, ti_61, ti_62, ti_10, ti_33, ti_51, ic26] at c3 hlo13 c14 ic26 ⊢; omega)) ⟨hok, hP, hS, z26, rfl, (by first | omega | (simp only [i_lt, i_le, i_eq, ti_m9, ti_m1, ti_0, ti_1, ti_2, ti_3, ti_4, ti_5, ti_6, ti_7, ti_9, ti_12, ti_20, ti_99, ti_700, ti_24, ti_72, ti_8, ti_128, ti_97, ti_122, ti_48, ti_57, ti_59, ti_60, ti_61, ti_62, ti_10, ti_33, ti_51, ic26] at c3 hlo13 c14 ⊢; omega)), lv_sub hl [1, 2, 3, 4, 5, 0] rfl⟩
  · refine lv_iconst (v := 0) hx hb dX7_readWord_8 (by decide) ?_
    exact W.zret (v := 0) hx hb hr rfl (fun t ht hW => ⟨⟨0, f0, rfl, Or.inl rfl, hok, by rw [ht]; exact hP⟩, hS.F ht⟩) hS.2.2 dX7_readWord_9

set_option maxHeartbeats 4000000 in
set_option maxRecDepth 100000 in
theorem t_X7_removeWord (l : Launch) (dC : Nat → ClassId) (dI : Nat → Nat → Nat) (sz : Nat) (G : GT) (cs : Nat → ClassId) (tt mm : Nat) (a0 : Nat) (ha0 : Ty G a0 7) (v1 : Int32) : Met l yX7_removeWord [.code yX7_removeWord cX7_removeWord 4 none] ({ frames := 1, cells := 0, slots := 0, locals := 40 }) (PT [.ref a0, .int v1] sz dC dI G cs tt mm) (va_Qv (fun (u : Nat → va_E) => True) (BT dC dI G cs tt mm) (AT G sz)) 0 0 (AT G sz) := by
  refine Met.ofW (cc := cX7_removeWord) (maxL := 4) (ret := none) (by decide) rfl ?_
  intro p e s m args below meth c s₁ B hml hv
  obtain ⟨rfl, hsz, ⟨f0, hok, hP⟩, hK, hnd, hWT, hE⟩ := hv
  have hx := B.exec
  have hb := B.bytes
  have hr := B.returns
  have hown : s.vm.findClass RX7 = some m.cls := findClass_of_methodNamed B.named
  have hlocks := B.notSynchronized
  subst hsz
  have hAL : ∀ a, a ∈ gL G → AT G s.heap.size a := fun a h => Or.inl h
  have hA : ∀ q : Nat, s.heap.size ≤ q → AT G s.heap.size q := fun q h => Or.inr h
  have hS : va_S (AT G s.heap.size) s.heap s.heap [] := va_S.rf
  have hl := lv_entry ([.ref a0, .int v1]) (n := 4) (Nat.le_of_ble_eq_true rfl)
  rw [lg_entry_eq]
  generalize (lg_sl ([.ref a0, .int v1]) ++ List.replicate (4 - (lg_sl ([.ref a0, .int v1])).length) Slot.unset).toArray = ls at hl ⊢
  have hl : lv_has ls 4 [(0, .ref a0), (1, .int v1)] := hl
  refine lv_aload_n hx hb dX7_removeWord_0 rfl (lv_at hl 0 rfl) ?_
  refine lv_iload_n hx hb dX7_removeWord_1 rfl (lv_at hl 1 rfl) ?_
  have he1 := ok_X7 hok ha0
  refine vp_callSi (va_Run.run (va_runV (As := [.int v1]) (rest := []) ⟨hx, hb, hml, hown, noTs⟩ (t_X7_hasWord l dC dI s.heap.size G cs tt mm a0 ha0 v1) ⟨cbE 1 (wd_708 hE) (wd_116 hE) (wd_705 hE) rfl rfl (by decide +kernel) ⟨Nat.le_of_ble_eq_true rfl, Nat.le_of_ble_eq_true rfl⟩, (wd_706 hE), (wd_707 hE)⟩ ⟨PT.blind, th_recv hK hP ha0.1 he1 rfl, (th_pre (av := [.ref a0, .int v1]) hK hP hok hnd hWT hE)⟩ rfl rfl hl.1 rfl (lv_room (Nat.le_of_ble_eq_true rfl)) dX7_removeWord_2 ⟨Nat.le_of_ble_eq_true rfl, Nat.le_of_ble_eq_true rfl⟩)) (fun r2 hr2 => ?_)
  refine lv_if_ne (tgt := 9) hx hb dX7_removeWord_5 (by decide) (fun c3 => ?_) (fun c3 => ?_)
  · refine lv_bipush (v := 33) hx hb dX7_removeWord_9 (by decide) ?_
    refine lv_bipush (v := 51) hx hb dX7_removeWord_11 (by decide) ?_
    refine lv_aload_n hx hb dX7_removeWord_13 rfl (lv_at hl 0 rfl) ?_
    refine vp_callSi (va_Run.run (va_runV (As := []) (rest := [.int 51, .int 33]) ⟨hx, hb, hml, hown, noTs⟩ (t_X7_words l dC dI s.heap.size G cs tt mm a0 ha0) ⟨cbE 0 (wd_700 hE) (wd_116 hE) (wd_697 hE) rfl rfl (by decide +kernel) ⟨Nat.le_of_ble_eq_true rfl, Nat.le_of_ble_eq_true rfl⟩, (wd_698 hE), (wd_699 hE)⟩ ⟨PT.blind, th_recv hK hP ha0.1 he1 rfl, (th_pre (av := [.ref a0]) hK hP hok hnd hWT hE)⟩ rfl rfl hl.1 rfl (lv_room (Nat.le_of_ble_eq_true rfl)) dX7_removeWord_14 ⟨Nat.le_of_ble_eq_true rfl, Nat.le_of_ble_eq_true rfl⟩)) (fun r4 hr4 => ?_)
    refine lv_iconst (v := 1) hx hb dX7_removeWord_17 (by decide) ?_
    refine lv_isub hx hb dX7_removeWord_18 ?_
    refine lv_topi (fun x5 _ => ?_)
    refine lv_imul hx hb dX7_removeWord_19 ?_
    refine lv_topi (fun x6 _ => ?_)
    refine lv_iadd hx hb dX7_removeWord_20 ?_
    refine lv_topi (fun x7 _ => ?_)
    refine lv_istore_n (lv' := [(2, .int x7), (0, .ref a0), (1, .int v1)]) hx hb dX7_removeWord_21 rfl hl (by decide) rfl (fun ls hl => ?_)
    refine lv_bipush (v := 33) hx hb dX7_removeWord_22 (by decide) ?_
    refine lv_bipush (v := 51) hx hb dX7_removeWord_24 (by decide) ?_
    refine lv_iload_n hx hb dX7_removeWord_26 rfl (lv_at hl 2 rfl) ?_
    refine lv_imul hx hb dX7_removeWord_27 ?_
    refine lv_topi (fun x8 _ => ?_)
    refine lv_iadd hx hb dX7_removeWord_28 ?_
    refine lv_topi (fun x9 _ => ?_)
    refine lv_istore_n (lv' := [(3, .int x9), (2, .int x7), (0, .ref a0), (1, .int v1)]) hx hb dX7_removeWord_29 rfl hl (by decide) rfl (fun ls hl => ?_)
    refine w_ind (I := fun n f H locs ls => OKT G cs tt mm f ∧ va_P (dC, dI) vwCl (va_pl (gL G) f) H ∧ va_S (AT G s.heap.size) s.heap H locs ∧ ∃ (w3_10 : Int32), n = (2147483647 - w3_10.toInt).toNat ∧ lv_has ls 4 [(0, .ref a0), (1, .int v1), (2, .int x7), (3, .int w3_10)]) (fun n f10 H locs ls hI ih10 => ?_) _ f0 _ _ _ ⟨hok, hP, hS, x9, rfl, lv_sub hl [2, 3, 1, 0] rfl⟩
    obtain ⟨hok, hP, hS, w3_10, hmu10, hl⟩ := hI
    subst hmu10
    refine lv_iload_n hx hb dX7_removeWord_30 rfl (lv_at hl 3 rfl) ?_
    refine lv_iload_n hx hb dX7_removeWord_31 rfl (lv_at hl 2 rfl) ?_
    refine lv_icmp_ge (tgt := 54) hx hb dX7_removeWord_32 (by decide) (fun c11 => ?_) (fun c11 => ?_)
    · refine lv_aload_n hx hb dX7_removeWord_54 rfl (lv_at hl 0 rfl) ?_
      refine lv_iconst (v := 2) hx hb dX7_removeWord_55 (by decide) ?_
      refine lv_aload_n hx hb dX7_removeWord_56 rfl (lv_at hl 0 rfl) ?_
      have he12 := ok_X7 hok ha0
      refine vp_callSi (va_Run.run (va_runV (As := []) (rest := [.int 2, .ref a0]) ⟨hx, hb, hml, hown, noTs⟩ (t_X7_words l dC dI H.size G cs tt mm a0 ha0) ⟨cbE 0 (wd_700 hE) (wd_116 hE) (wd_697 hE) rfl rfl (by decide +kernel) ⟨Nat.le_of_ble_eq_true rfl, Nat.le_of_ble_eq_true rfl⟩, (wd_698 hE), (wd_699 hE)⟩ ⟨PT.blind, th_recv hK hP ha0.1 he12 rfl, (th_pre (av := [.ref a0]) hK hP hok hnd hWT hE)⟩ rfl rfl hl.1 rfl (lv_room (Nat.le_of_ble_eq_true rfl)) dX7_removeWord_57 ⟨Nat.le_of_ble_eq_true rfl, Nat.le_of_ble_eq_true rfl⟩)) (fun r13 hr13 => ?_)
      refine lv_iconst (v := 1) hx hb dX7_removeWord_60 (by decide) ?_
      refine lv_isub hx hb dX7_removeWord_61 ?_
      refine lv_topi (fun x14 _ => ?_)
      refine tc_v hAL hS hA (va_runV (As := [.int 2, .int x14]) (rest := []) ⟨hx, hb, hml, hown, noTs⟩ (t_X7_put l dC dI H.size G cs tt mm a0 ha0 2 x14) ⟨cbE 2 (wd_590 hE) (wd_116 hE) (wd_587 hE) rfl rfl (by decide +kernel) ⟨Nat.le_of_ble_eq_true rfl, Nat.le_of_ble_eq_true rfl⟩, (wd_589 hE), (wd_14 hE)⟩ ⟨PT.blind, th_recv hK hP ha0.1 he12 rfl, (th_pre (av := [.ref a0, .int 2, .int x14]) hK hP hok hnd hWT hE)⟩ rfl rfl hl.1 rfl (lv_room (Nat.le_of_ble_eq_true rfl)) dX7_removeWord_62 ⟨Nat.le_of_ble_eq_true rfl, Nat.le_of_ble_eq_true rfl⟩) (fun f15 H locs hr15 hok hP hS => ?_)
      exact W.vret hx hb hr (fun t ht hW => ⟨⟨f15, rfl, trivial, hok, by rw [ht]; exact hP⟩, hS.F ht⟩) hS.2.2 dX7_removeWord_65
    · refine lv_aload_n hx hb dX7_removeWord_35 rfl (lv_at hl 0 rfl) ?_
      refine lv_iload_n hx hb dX7_removeWord_36 rfl (lv_at hl 3 rfl) ?_
      refine lv_aload_n hx hb dX7_removeWord_37 rfl (lv_at hl 0 rfl) ?_
      refine lv_iload_n hx hb dX7_removeWord_38 rfl (lv_at hl 3 rfl) ?_
      refine lv_bipush (v := 51) hx hb dX7_removeWord_39 (by decide) ?_
      refine lv_iadd hx hb dX7_removeWord_41 ?_
      refine lv_topi (fun x16 _ => ?_)
      have he17 := ok_X7 hok ha0
      refine vp_callSi (va_Run.run (va_runV (As := [.int x16]) (rest := [.int w3_10, .ref a0]) ⟨hx, hb, hml, hown, noTs⟩ (t_X7_cell l dC dI H.size G cs tt mm a0 ha0 x16) ⟨cbE 1 (wd_821 hE) (wd_116 hE) (wd_818 hE) rfl rfl (by decide +kernel) ⟨Nat.le_of_ble_eq_true rfl, Nat.le_of_ble_eq_true rfl⟩, (wd_820 hE), (wd_27 hE)⟩ ⟨PT.blind, th_recv hK hP ha0.1 he17 rfl, (th_pre (av := [.ref a0, .int x16]) hK hP hok hnd hWT hE)⟩ rfl rfl hl.1 rfl (lv_room (Nat.le_of_ble_eq_true rfl)) dX7_removeWord_42 ⟨Nat.le_of_ble_eq_true rfl, Nat.le_of_ble_eq_true rfl⟩)) (fun r18 hr18 => ?_)
      refine tc_v hAL hS hA (va_runV (As := [.int w3_10, .int r18]) (rest := []) ⟨hx, hb, hml, hown, noTs⟩ (t_X7_put l dC dI H.size G cs tt mm a0 ha0 w3_10 r18) ⟨cbE 2 (wd_590 hE) (wd_116 hE) (wd_587 hE) rfl rfl (by decide +kernel) ⟨Nat.le_of_ble_eq_true rfl, Nat.le_of_ble_eq_true rfl⟩, (wd_589 hE), (wd_14 hE)⟩ ⟨PT.blind, th_recv hK hP ha0.1 he17 rfl, (th_pre (av := [.ref a0, .int w3_10, .int r18]) hK hP hok hnd hWT hE)⟩ rfl rfl hl.1 rfl (lv_room (Nat.le_of_ble_eq_true rfl)) dX7_removeWord_45 ⟨Nat.le_of_ble_eq_true rfl, Nat.le_of_ble_eq_true rfl⟩) (fun f19 H locs hr19 hok hP hS => ?_)
      obtain ⟨z20, ez20⟩ : ∃ z : Int32, z = w3_10 + 1 := ⟨_, rfl⟩
      refine lv_iinc (v := z20) (lv' := [(3, .int z20), (0, .ref a0), (1, .int v1), (2, .int x7)]) hx hb dX7_removeWord_48 hl (k := 3) rfl (by rw [ez20]; rfl) (by decide) rfl (fun ls hl => ?_)
      have ic20 : z20.toInt = w3_10.toInt + 1 := by rw [ez20]; exact ic_up (by have := i_rng r2; have := i_rng w3_10; have := i_rng x7; simp only [i_lt, i_le, i_eq, ti_m9, ti_m1, ti_0, ti_1, ti_2, ti_3, ti_4, ti_5, ti_6, ti_7, ti_9, ti_12, ti_20, ti_99, ti_700, ti_24, ti_72, ti_8, ti_128, ti_97, ti_122, ti_48, ti_57, ti_59, ti_60, ti_61, ti_62, ti_10, ti_33, ti_51] at c3 c11 ⊢; omega)
      refine lv_goto (tgt := 30) hx hb dX7_removeWord_51 (by decide) ?_
      exact ih10 _ f19 _ _ _ (by first | omega | (simp only [i_lt, i_le, i_eq, ti_m9, ti_m1, ti_0, ti_1, ti_2, ti_3, ti_4, ti_5, ti_6, ti_7, ti_9, ti_12, ti_20, ti_99, ti_700, ti_24, ti_72, ti_8, ti_128, ti_97, ti_122, ti_48, ti_57, ti_59, ti_60, ti_61, ti_62, ti_10, ti_33, ti_51, ic20] at c3 c11 ic20 ⊢; omega)) ⟨hok, hP, hS, z20, rfl, lv_sub hl [1, 2, 3, 0] rfl⟩
  · exact W.vret hx hb hr (fun t ht hW => ⟨⟨f0, rfl, trivial, hok, by rw [ht]; exact hP⟩, hS.F ht⟩) hS.2.2 dX7_removeWord_8
