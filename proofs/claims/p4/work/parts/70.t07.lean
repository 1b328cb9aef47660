set_option maxHeartbeats 4000000 in
set_option maxRecDepth 100000 in
theorem t_X7_words (l : Launch) (dC : Nat → ClassId) (dI : Nat → Nat → Nat) (sz : Nat) (G : GT) (cs : Nat → ClassId) (tt mm : Nat) (a0 : Nat) (ha0 : Ty G a0 7) : Met l yX7_words [.code yX7_words cX7_words 1 (some .int)] ({ frames := 0, cells := 0, slots := 0, locals := 0 }) (PT [.ref a0] sz dC dI G cs tt mm (fun _ => True)) (vp_Si (fun (r : Int32) => True)) 0 0 (fun _ => False) := by
  refine Met.ofW (cc := cX7_words) (maxL := 1) (ret := (some .int)) (by decide) rfl ?_
  intro p e s m args below meth c s₁ B hml hv
  obtain ⟨rfl, hsz, ⟨f0, hok, hP, hX⟩, hK, hnd, hWT, hE⟩ := hv
  have hx := B.exec
  have hb := B.bytes
  have hr := B.returns
  have hown : s.vm.findClass RX7 = some m.cls := findClass_of_methodNamed B.named
  have hlocks := B.notSynchronized
  subst hsz
  have hl := lv_entry ([.ref a0]) (n := 1) (Nat.le_of_ble_eq_true rfl)
  rw [lg_entry_eq]
  generalize (lg_sl ([.ref a0]) ++ List.replicate (1 - (lg_sl ([.ref a0])).length) Slot.unset).toArray = ls at hl ⊢
  have hl : lv_has ls 1 [(0, .ref a0)] := hl
  refine lv_aload_n hx hb dX7_words_0 rfl (lv_at hl 0 rfl) ?_
  have he1 := ok_X7 hok ha0
  refine th_get hx hb (ly_X7 hE) hown hK hP ha0.1 he1 rfl 0 (by decide) (wd_149 hE) (fun _ h9 => h9) rfl dX7_words_1 ?_
  refine lv_iconst (v := 2) hx hb dX7_words_4 (by decide) ?_
  refine th_iald hx hb hK hP hok (wt_X7_0 hWT ha0) (n := 543) (wl_X7_0 hWT ha0) (by unfold vp_in; decide) dX7_words_5 (fun x2 => ?_)
  exact W.iret (v := x2) hx hb hr (fun t ht hW => ⟨x2, rfl, trivial, ht⟩) (fun _ h => absurd h List.not_mem_nil) dX7_words_6

set_option maxHeartbeats 4000000 in
set_option maxRecDepth 100000 in
theorem t_X7_hasWord (l : Launch) (dC : Nat → ClassId) (dI : Nat → Nat → Nat) (sz : Nat) (G : GT) (cs : Nat → ClassId) (tt mm : Nat) (a0 : Nat) (ha0 : Ty G a0 7) (v1 : Int32) : Met l yX7_hasWord [.code yX7_hasWord cX7_hasWord 2 (some .boolean)] ({ frames := 0, cells := 0, slots := 0, locals := 0 }) (PT [.ref a0, .int v1] sz dC dI G cs tt mm (fun _ => True)) (vp_Si (fun (r : Int32) => r = 0 ∨ r = 1)) 0 0 (fun _ => False) := by
  refine Met.ofW (cc := cX7_hasWord) (maxL := 2) (ret := (some .boolean)) (by decide) rfl ?_
  intro p e s m args below meth c s₁ B hml hv
  obtain ⟨rfl, hsz, ⟨f0, hok, hP, hX⟩, hK, hnd, hWT, hE⟩ := hv
  have hx := B.exec
  have hb := B.bytes
  have hr := B.returns
  have hown : s.vm.findClass RX7 = some m.cls := findClass_of_methodNamed B.named
  have hlocks := B.notSynchronized
  subst hsz
  have hl := lv_entry ([.ref a0, .int v1]) (n := 2) (Nat.le_of_ble_eq_true rfl)
  rw [lg_entry_eq]
  generalize (lg_sl ([.ref a0, .int v1]) ++ List.replicate (2 - (lg_sl ([.ref a0, .int v1])).length) Slot.unset).toArray = ls at hl ⊢
  have hl : lv_has ls 2 [(0, .ref a0), (1, .int v1)] := hl
  refine lv_iload_n hx hb dX7_hasWord_0 rfl (lv_at hl 1 rfl) ?_
  refine lv_if_lt (tgt := 18) hx hb dX7_hasWord_1 (by decide) (fun c1 => ?_) (fun c1 => ?_)
  · refine lv_iconst (v := 0) hx hb dX7_hasWord_18 (by decide) ?_
    exact W.zret (v := 0) hx hb hr rfl (fun t ht hW => ⟨0, rfl, Or.inl rfl, ht⟩) (fun _ h => absurd h List.not_mem_nil) dX7_hasWord_19
  · refine lv_iload_n hx hb dX7_hasWord_4 rfl (lv_at hl 1 rfl) ?_
    refine lv_aload_n hx hb dX7_hasWord_5 rfl (lv_at hl 0 rfl) ?_
    have he2 := ok_X7 hok ha0
    refine th_get hx hb (ly_X7 hE) hown hK hP ha0.1 he2 rfl 0 (by decide) (wd_149 hE) (fun _ h9 => h9) rfl dX7_hasWord_6 ?_
    refine lv_iconst (v := 2) hx hb dX7_hasWord_9 (by decide) ?_
    refine th_iald hx hb hK hP hok (wt_X7_0 hWT ha0) (n := 543) (wl_X7_0 hWT ha0) (by unfold vp_in; decide) dX7_hasWord_10 (fun x3 => ?_)
    refine lv_icmp_ge (tgt := 18) hx hb dX7_hasWord_11 (by decide) (fun c4 => ?_) (fun c4 => ?_)
    · refine lv_iconst (v := 0) hx hb dX7_hasWord_18 (by decide) ?_
      exact W.zret (v := 0) hx hb hr rfl (fun t ht hW => ⟨0, rfl, Or.inl rfl, ht⟩) (fun _ h => absurd h List.not_mem_nil) dX7_hasWord_19
    · refine lv_iconst (v := 1) hx hb dX7_hasWord_14 (by decide) ?_
      refine lv_goto (tgt := 19) hx hb dX7_hasWord_15 (by decide) ?_
      exact W.zret (v := 1) hx hb hr rfl (fun t ht hW => ⟨1, rfl, Or.inr rfl, ht⟩) (fun _ h => absurd h List.not_mem_nil) dX7_hasWord_19

set_option maxHeartbeats 4000000 in
set_option maxRecDepth 100000 in
theorem t_X7_writeWord (l : Launch) (dC : Nat → ClassId) (dI : Nat → Nat → Nat) (sz : Nat) (G : GT) (cs : Nat → ClassId) (tt mm : Nat) (a0 : Nat) (ha0 : Ty G a0 7) (v1 : Int32) (a2 : Nat) (ha2 : Ty G a2 10) : Met l yX7_writeWord [.code yX7_writeWord cX7_writeWord 5 none] ({ frames := 1, cells := 0, slots := 0, locals := 40 }) (PT [.ref a0, .int v1, .ref a2] sz dC dI G cs tt mm (fun _ => True)) (va_Qv (fun (u : Nat → va_E) => True) (BT dC dI G cs tt mm) (AT G sz)) 0 0 (AT G sz) := by
  refine Met.ofW (cc := cX7_writeWord) (maxL := 5) (ret := none) (by decide) rfl ?_
  intro p e s m args below meth c s₁ B hml hv
  obtain ⟨rfl, hsz, ⟨f0, hok, hP, hX⟩, hK, hnd, hWT, hE⟩ := hv
  have hx := B.exec
  have hb := B.bytes
  have hr := B.returns
  have hown : s.vm.findClass RX7 = some m.cls := findClass_of_methodNamed B.named
  have hlocks := B.notSynchronized
  subst hsz
  have hAL : ∀ a, a ∈ gL G → AT G s.heap.size a := fun a h => Or.inl h
  have hA : ∀ q : Nat, s.heap.size ≤ q → AT G s.heap.size q := fun q h => Or.inr h
  have hS : va_S (AT G s.heap.size) s.heap s.heap [] := va_S.rf
  have hl := lv_entry ([.ref a0, .int v1, .ref a2]) (n := 5) (Nat.le_of_ble_eq_true rfl)
  rw [lg_entry_eq]
  generalize (lg_sl ([.ref a0, .int v1, .ref a2]) ++ List.replicate (5 - (lg_sl ([.ref a0, .int v1, .ref a2])).length) Slot.unset).toArray = ls at hl ⊢
  have hl : lv_has ls 5 [(0, .ref a0), (1, .int v1), (2, .ref a2)] := hl
  refine lv_aload_n hx hb dX7_writeWord_0 rfl (lv_at hl 0 rfl) ?_
  refine lv_iload_n hx hb dX7_writeWord_1 rfl (lv_at hl 1 rfl) ?_
  have he1 := ok_X7 hok ha0
  refine vp_callSi (va_Run.run (va_runV (As := [.int v1]) (rest := []) ⟨hx, hb, hml, hown, noTs⟩ (t_X7_hasWord l dC dI s.heap.size G cs tt mm a0 ha0 v1) ⟨cbE 1 (wd_708 hE) (wd_116 hE) (wd_705 hE) rfl rfl (by decide +kernel) ⟨Nat.le_of_ble_eq_true rfl, Nat.le_of_ble_eq_true rfl⟩, (wd_706 hE), (wd_707 hE)⟩ ⟨PT.blind, th_recv hK hP ha0.1 he1 rfl, (th_pre (av := [.ref a0, .int v1]) trivial hK hP hok hnd hWT hE)⟩ rfl rfl hl.1 rfl (lv_room (Nat.le_of_ble_eq_true rfl)) dX7_writeWord_2 ⟨Nat.le_of_ble_eq_true rfl, Nat.le_of_ble_eq_true rfl⟩)) (fun r2 hr2 => ?_)
  refine lv_if_eq (tgt := 17) hx hb dX7_writeWord_5 (by decide) (fun c3 => ?_) (fun c3 => ?_)
  · exact W.vret hx hb hr (fun t ht hW => ⟨⟨f0, rfl, trivial, hok, by rw [ht]; exact hP⟩, hS.F ht⟩) hS.2.2 dX7_writeWord_17
  · refine lv_aload_n hx hb dX7_writeWord_8 rfl (lv_at hl 2 rfl) ?_
    obtain ⟨y2_4, y3_4, hy3_4, he4⟩ := ok_X10 hok ha2
    refine vp_callSi (va_Run.run (va_runV (As := []) (rest := []) ⟨hx, hb, hml, hown, noTs⟩ (t_X10_size l dC dI s.heap.size G cs tt mm a2 ha2 y2_4 y3_4) ⟨cbE 0 (wd_666 hE) (wd_120 hE) (wd_709 hE) rfl rfl (by decide +kernel) ⟨Nat.le_of_ble_eq_true rfl, Nat.le_of_ble_eq_true rfl⟩, (wd_664 hE), (wd_665 hE)⟩ ⟨PT.blind, th_recv hK hP ha2.1 he4 rfl, (th_pre (av := [.ref a2]) he4 hK hP hok hnd hWT hE)⟩ rfl rfl hl.1 rfl (lv_room (Nat.le_of_ble_eq_true rfl)) dX7_writeWord_9 ⟨Nat.le_of_ble_eq_true rfl, Nat.le_of_ble_eq_true rfl⟩)) (fun r5 hr5 => ?_)
    subst hr5
    refine lv_bipush (v := 24) hx hb dX7_writeWord_12 (by decide) ?_
    have nt6 : (nI y3_4).toInt = ((y3_4 : Nat) : Int) := nI_toInt (by omega)
    refine lv_icmp_le (tgt := 18) hx hb dX7_writeWord_14 (by decide) (fun c7 => ?_) (fun c7 => ?_)
    · refine lv_bipush (v := 33) hx hb dX7_writeWord_18 (by decide) ?_
      refine lv_bipush (v := 51) hx hb dX7_writeWord_20 (by decide) ?_
      refine lv_iload_n hx hb dX7_writeWord_22 rfl (lv_at hl 1 rfl) ?_
      refine lv_imul hx hb dX7_writeWord_23 ?_
      refine lv_topi (fun x8 ex8 => ?_)
      refine lv_iadd hx hb dX7_writeWord_24 ?_
      refine lv_topi (fun x9 ex9 => ?_)
      refine lv_istore_n (lv' := [(3, .int x9), (0, .ref a0), (1, .int v1), (2, .ref a2)]) hx hb dX7_writeWord_25 rfl hl (by decide) rfl (fun ls hl => ?_)
      refine lv_aload_n hx hb dX7_writeWord_26 rfl (lv_at hl 1 rfl) ?_
      refine lv_iload_n hx hb dX7_writeWord_27 rfl (lv_at hl 0 rfl) ?_
      refine lv_aload_n hx hb dX7_writeWord_28 rfl (lv_at hl 3 rfl) ?_
      refine vp_callSi (va_Run.run (va_runV (As := []) (rest := [.int x9, .ref a0]) ⟨hx, hb, hml, hown, noTs⟩ (t_X10_begin l dC dI s.heap.size G cs tt mm a2 ha2) ⟨cbE 0 (wd_713 hE) (wd_120 hE) (wd_710 hE) rfl rfl (by decide +kernel) ⟨Nat.le_of_ble_eq_true rfl, Nat.le_of_ble_eq_true rfl⟩, (wd_711 hE), (wd_712 hE)⟩ ⟨PT.blind, th_recv hK hP ha2.1 he4 rfl, (th_pre (av := [.ref a2]) trivial hK hP hok hnd hWT hE)⟩ rfl rfl hl.1 rfl (lv_room (Nat.le_of_ble_eq_true rfl)) dX7_writeWord_29 ⟨Nat.le_of_ble_eq_true rfl, Nat.le_of_ble_eq_true rfl⟩)) (fun r10 hr10 => ?_)
      refine tc_v hAL hS hA (va_runV (As := [.int x9, .int r10]) (rest := []) ⟨hx, hb, hml, hown, noTs⟩ (t_X7_put l dC dI s.heap.size G cs tt mm a0 ha0 x9 r10) ⟨cbE 2 (wd_590 hE) (wd_116 hE) (wd_587 hE) rfl rfl (by decide +kernel) ⟨Nat.le_of_ble_eq_true rfl, Nat.le_of_ble_eq_true rfl⟩, (wd_589 hE), (wd_14 hE)⟩ ⟨PT.blind, th_recv hK hP ha0.1 he1 rfl, (th_pre (av := [.ref a0, .int x9, .int r10]) trivial hK hP hok hnd hWT hE)⟩ rfl rfl hl.1 rfl (lv_room (Nat.le_of_ble_eq_true rfl)) dX7_writeWord_32 ⟨Nat.le_of_ble_eq_true rfl, Nat.le_of_ble_eq_true rfl⟩) (fun f11 H locs hr11 hok hP hS => ?_)
      refine lv_aload_n hx hb dX7_writeWord_35 rfl (lv_at hl 1 rfl) ?_
      refine lv_iload_n hx hb dX7_writeWord_36 rfl (lv_at hl 0 rfl) ?_
      refine lv_iconst (v := 1) hx hb dX7_writeWord_37 (by decide) ?_
      refine lv_iadd hx hb dX7_writeWord_38 ?_
      refine lv_topi (fun x12 ex12 => ?_)
      refine lv_aload_n hx hb dX7_writeWord_39 rfl (lv_at hl 3 rfl) ?_
      obtain ⟨y2_13, y3_13, hy3_13, he13⟩ := ok_X10 hok ha2
      refine vp_callSi (va_Run.run (va_runV (As := []) (rest := [.int x12, .ref a0]) ⟨hx, hb, hml, hown, noTs⟩ (t_X10_size l dC dI H.size G cs tt mm a2 ha2 y2_13 y3_13) ⟨cbE 0 (wd_666 hE) (wd_120 hE) (wd_709 hE) rfl rfl (by decide +kernel) ⟨Nat.le_of_ble_eq_true rfl, Nat.le_of_ble_eq_true rfl⟩, (wd_664 hE), (wd_665 hE)⟩ ⟨PT.blind, th_recv hK hP ha2.1 he13 rfl, (th_pre (av := [.ref a2]) he13 hK hP hok hnd hWT hE)⟩ rfl rfl hl.1 rfl (lv_room (Nat.le_of_ble_eq_true rfl)) dX7_writeWord_40 ⟨Nat.le_of_ble_eq_true rfl, Nat.le_of_ble_eq_true rfl⟩)) (fun r14 hr14 => ?_)
      subst hr14
      have he15 := ok_X7 hok ha0
      refine tc_v hAL hS hA (va_runV (As := [.int x12, .int (nI y3_13)]) (rest := []) ⟨hx, hb, hml, hown, noTs⟩ (t_X7_put l dC dI H.size G cs tt mm a0 ha0 x12 (nI y3_13)) ⟨cbE 2 (wd_590 hE) (wd_116 hE) (wd_587 hE) rfl rfl (by decide +kernel) ⟨Nat.le_of_ble_eq_true rfl, Nat.le_of_ble_eq_true rfl⟩, (wd_589 hE), (wd_14 hE)⟩ ⟨PT.blind, th_recv hK hP ha0.1 he15 rfl, (th_pre (av := [.ref a0, .int x12, .int (nI y3_13)]) trivial hK hP hok hnd hWT hE)⟩ rfl rfl hl.1 rfl (lv_room (Nat.le_of_ble_eq_true rfl)) dX7_writeWord_43 ⟨Nat.le_of_ble_eq_true rfl, Nat.le_of_ble_eq_true rfl⟩) (fun f16 H locs hr16 hok hP hS => ?_)
      refine lv_aload_n hx hb dX7_writeWord_46 rfl (lv_at hl 1 rfl) ?_
      refine lv_iload_n hx hb dX7_writeWord_47 rfl (lv_at hl 0 rfl) ?_
      refine lv_iconst (v := 2) hx hb dX7_writeWord_48 (by decide) ?_
      refine lv_iadd hx hb dX7_writeWord_49 ?_
      refine lv_topi (fun x17 ex17 => ?_)
      refine lv_aload_n hx hb dX7_writeWord_50 rfl (lv_at hl 3 rfl) ?_
      refine lv_iconst (v := 0) hx hb dX7_writeWord_51 (by decide) ?_
      obtain ⟨y2_18, y3_18, hy3_18, he18⟩ := ok_X10 hok ha2
      refine vp_callSi (va_Run.run (va_runV (As := [.int 0]) (rest := [.int x17, .ref a0]) ⟨hx, hb, hml, hown, noTs⟩ (t_X10_numberAt l dC dI H.size G cs tt mm a2 ha2 0) ⟨cbE 1 (wd_717 hE) (wd_120 hE) (wd_714 hE) rfl rfl (by decide +kernel) ⟨Nat.le_of_ble_eq_true rfl, Nat.le_of_ble_eq_true rfl⟩, (wd_715 hE), (wd_716 hE)⟩ ⟨PT.blind, th_recv hK hP ha2.1 he18 rfl, (th_pre (av := [.ref a2, .int 0]) trivial hK hP hok hnd hWT hE)⟩ rfl rfl hl.1 rfl (lv_room (Nat.le_of_ble_eq_true rfl)) dX7_writeWord_52 ⟨Nat.le_of_ble_eq_true rfl, Nat.le_of_ble_eq_true rfl⟩)) (fun r19 hr19 => ?_)
      have he20 := ok_X7 hok ha0
      refine tc_v hAL hS hA (va_runV (As := [.int x17, .int r19]) (rest := []) ⟨hx, hb, hml, hown, noTs⟩ (t_X7_put l dC dI H.size G cs tt mm a0 ha0 x17 r19) ⟨cbE 2 (wd_590 hE) (wd_116 hE) (wd_587 hE) rfl rfl (by decide +kernel) ⟨Nat.le_of_ble_eq_true rfl, Nat.le_of_ble_eq_true rfl⟩, (wd_589 hE), (wd_14 hE)⟩ ⟨PT.blind, th_recv hK hP ha0.1 he20 rfl, (th_pre (av := [.ref a0, .int x17, .int r19]) trivial hK hP hok hnd hWT hE)⟩ rfl rfl hl.1 rfl (lv_room (Nat.le_of_ble_eq_true rfl)) dX7_writeWord_55 ⟨Nat.le_of_ble_eq_true rfl, Nat.le_of_ble_eq_true rfl⟩) (fun f21 H locs hr21 hok hP hS => ?_)
      refine lv_iconst (v := 0) hx hb dX7_writeWord_58 (by decide) ?_
      refine lv_istore (lv' := [(4, .int 0), (3, .int x9), (0, .ref a0), (1, .int v1), (2, .ref a2)]) hx hb dX7_writeWord_59 hl (by decide) rfl (fun ls hl => ?_)
      refine w_ind (I := fun n f H locs ls => OKT G cs tt mm f ∧ va_P (dC, dI) vwCl (va_pl (gL G) f) H ∧ va_S (AT G s.heap.size) s.heap H locs ∧ ∃ (w4_22 : Int32), n = (2147483647 - w4_22.toInt).toNat ∧ 0 ≤ w4_22 ∧ lv_has ls 5 [(0, .ref a0), (1, .int v1), (2, .ref a2), (3, .int x9), (4, .int w4_22)]) (fun n f22 H locs ls hI ih22 => ?_) _ f21 _ _ _ ⟨hok, hP, hS, 0, rfl, (by first | omega | (simp only [i_lt, i_le, i_eq, ti_m9, ti_m1, ti_0, ti_1, ti_2, ti_3, ti_4, ti_5, ti_6, ti_7, ti_9, ti_12, ti_20, ti_99, ti_700, ti_24, ti_156, ti_72, ti_8, ti_60, ti_543, ti_10, ti_33, ti_51, ti_178, ti_119, ti_111, ti_114, ti_100, ti_32, ti_62, ti_59, ti_48, ti_701, ti_97, ti_122, ti_57, ti_73, ti_128, ti_61, nt6] at c3 c7 ⊢; omega)), lv_sub hl [2, 3, 4, 1, 0] rfl⟩
      obtain ⟨hok, hP, hS, w4_22, hmu22, hlo22, hl⟩ := hI
      subst hmu22
      refine lv_iload hx hb dX7_writeWord_61 (lv_at hl 4 rfl) ?_
      refine lv_aload_n hx hb dX7_writeWord_63 rfl (lv_at hl 2 rfl) ?_
      obtain ⟨y2_23, y3_23, hy3_23, he23⟩ := ok_X10 hok ha2
      refine vp_callSi (va_Run.run (va_runV (As := []) (rest := [.int w4_22]) ⟨hx, hb, hml, hown, noTs⟩ (t_X10_size l dC dI H.size G cs tt mm a2 ha2 y2_23 y3_23) ⟨cbE 0 (wd_666 hE) (wd_120 hE) (wd_709 hE) rfl rfl (by decide +kernel) ⟨Nat.le_of_ble_eq_true rfl, Nat.le_of_ble_eq_true rfl⟩, (wd_664 hE), (wd_665 hE)⟩ ⟨PT.blind, th_recv hK hP ha2.1 he23 rfl, (th_pre (av := [.ref a2]) he23 hK hP hok hnd hWT hE)⟩ rfl rfl hl.1 rfl (lv_room (Nat.le_of_ble_eq_true rfl)) dX7_writeWord_64 ⟨Nat.le_of_ble_eq_true rfl, Nat.le_of_ble_eq_true rfl⟩)) (fun r24 hr24 => ?_)
      subst hr24
      have nt25 : (nI y3_23).toInt = ((y3_23 : Nat) : Int) := nI_toInt (by omega)
      refine lv_icmp_ge (tgt := 114) hx hb dX7_writeWord_67 (by decide) (fun c26 => ?_) (fun c26 => ?_)
      · exact W.vret hx hb hr (fun t ht hW => ⟨⟨f22, rfl, trivial, hok, by rw [ht]; exact hP⟩, hS.F ht⟩) hS.2.2 dX7_writeWord_114
      · refine lv_aload_n hx hb dX7_writeWord_70 rfl (lv_at hl 0 rfl) ?_
        refine lv_iload_n hx hb dX7_writeWord_71 rfl (lv_at hl 3 rfl) ?_
        refine lv_iconst (v := 3) hx hb dX7_writeWord_72 (by decide) ?_
        refine lv_iadd hx hb dX7_writeWord_73 ?_
        refine lv_topi (fun x27 ex27 => ?_)
        refine lv_iconst (v := 2) hx hb dX7_writeWord_74 (by decide) ?_
        refine lv_iload hx hb dX7_writeWord_75 (lv_at hl 4 rfl) ?_
        obtain ⟨j28, hj28, rfl⟩ : ∃ j : Nat, j ≤ 71 ∧ w4_22 = nI j := i_nat (by first | omega | (simp only [i_lt, i_le, i_eq, ti_m9, ti_m1, ti_0, ti_1, ti_2, ti_3, ti_4, ti_5, ti_6, ti_7, ti_9, ti_12, ti_20, ti_99, ti_700, ti_24, ti_156, ti_72, ti_8, ti_60, ti_543, ti_10, ti_33, ti_51, ti_178, ti_119, ti_111, ti_114, ti_100, ti_32, ti_62, ti_59, ti_48, ti_701, ti_97, ti_122, ti_57, ti_73, ti_128, ti_61, nt6, nt25] at c3 c7 hlo22 c26 ⊢; omega)) (by first | omega | (simp only [i_lt, i_le, i_eq, ti_m9, ti_m1, ti_0, ti_1, ti_2, ti_3, ti_4, ti_5, ti_6, ti_7, ti_9, ti_12, ti_20, ti_99, ti_700, ti_24, ti_156, ti_72, ti_8, ti_60, ti_543, ti_10, ti_33, ti_51, ti_178, ti_119, ti_111, ti_114, ti_100, ti_32, ti_62, ti_59, ti_48, ti_701, ti_97, ti_122, ti_57, ti_73, ti_128, ti_61, nt6, nt25] at c3 c7 hlo22 c26 ⊢; omega))
        have nt29 : (nI j28).toInt = ((j28 : Nat) : Int) := nI_toInt (by omega)
        refine lv_imul hx hb dX7_writeWord_77 ?_
        refine W.eq (g2 := F0 m 78 ls [.int (nI (2 * j28)), .int x27, .ref a0]) (congrArg (fun z : Int32 => F0 m 78 ls (.int z :: [.int x27, .ref a0])) (pk_mul 2 j28)) ?_
        refine lv_iadd hx hb dX7_writeWord_78 ?_
        refine lv_topi (fun x30 ex30 => ?_)
        refine lv_aload_n hx hb dX7_writeWord_79 rfl (lv_at hl 2 rfl) ?_
        refine lv_iload hx hb dX7_writeWord_80 (lv_at hl 4 rfl) ?_
        refine vp_callSi (va_Run.run (va_runV (As := [.int (nI j28)]) (rest := [.int x30, .ref a0]) ⟨hx, hb, hml, hown, noTs⟩ (t_X10_stepAt l dC dI H.size G cs tt mm a2 ha2 (nI j28)) ⟨cbE 1 (wd_721 hE) (wd_120 hE) (wd_718 hE) rfl rfl (by decide +kernel) ⟨Nat.le_of_ble_eq_true rfl, Nat.le_of_ble_eq_true rfl⟩, (wd_719 hE), (wd_720 hE)⟩ ⟨PT.blind, th_recv hK hP ha2.1 he23 rfl, (th_pre (av := [.ref a2, .int (nI j28)]) trivial hK hP hok hnd hWT hE)⟩ rfl rfl hl.1 rfl (lv_room (Nat.le_of_ble_eq_true rfl)) dX7_writeWord_82 ⟨Nat.le_of_ble_eq_true rfl, Nat.le_of_ble_eq_true rfl⟩)) (fun r31 hr31 => ?_)
        have he32 := ok_X7 hok ha0
        refine tc_v hAL hS hA (va_runV (As := [.int x30, .int r31]) (rest := []) ⟨hx, hb, hml, hown, noTs⟩ (t_X7_put l dC dI H.size G cs tt mm a0 ha0 x30 r31) ⟨cbE 2 (wd_590 hE) (wd_116 hE) (wd_587 hE) rfl rfl (by decide +kernel) ⟨Nat.le_of_ble_eq_true rfl, Nat.le_of_ble_eq_true rfl⟩, (wd_589 hE), (wd_14 hE)⟩ ⟨PT.blind, th_recv hK hP ha0.1 he32 rfl, (th_pre (av := [.ref a0, .int x30, .int r31]) trivial hK hP hok hnd hWT hE)⟩ rfl rfl hl.1 rfl (lv_room (Nat.le_of_ble_eq_true rfl)) dX7_writeWord_85 ⟨Nat.le_of_ble_eq_true rfl, Nat.le_of_ble_eq_true rfl⟩) (fun f33 H locs hr33 hok hP hS => ?_)
        refine lv_aload_n hx hb dX7_writeWord_88 rfl (lv_at hl 0 rfl) ?_
        refine lv_iload_n hx hb dX7_writeWord_89 rfl (lv_at hl 3 rfl) ?_
        refine lv_iconst (v := 4) hx hb dX7_writeWord_90 (by decide) ?_
        refine lv_iadd hx hb dX7_writeWord_91 ?_
        refine lv_topi (fun x34 ex34 => ?_)
        refine lv_iconst (v := 2) hx hb dX7_writeWord_92 (by decide) ?_
        refine lv_iload hx hb dX7_writeWord_93 (lv_at hl 4 rfl) ?_
        refine lv_imul hx hb dX7_writeWord_95 ?_
        refine W.eq (g2 := F0 m 96 ls [.int (nI (2 * j28)), .int x34, .ref a0]) (congrArg (fun z : Int32 => F0 m 96 ls (.int z :: [.int x34, .ref a0])) (pk_mul 2 j28)) ?_
        refine lv_iadd hx hb dX7_writeWord_96 ?_
        refine lv_topi (fun x35 ex35 => ?_)
        refine lv_aload_n hx hb dX7_writeWord_97 rfl (lv_at hl 2 rfl) ?_
        refine lv_iload hx hb dX7_writeWord_98 (lv_at hl 4 rfl) ?_
        refine lv_iconst (v := 1) hx hb dX7_writeWord_100 (by decide) ?_
        refine lv_iadd hx hb dX7_writeWord_101 ?_
        refine W.eq (g2 := F0 m 102 ls [.int (nI (j28 + 1)), .ref a2, .int x35, .ref a0]) (congrArg (fun z : Int32 => F0 m 102 ls (.int z :: [.ref a2, .int x35, .ref a0])) (nI_add j28 1)) ?_
        obtain ⟨y2_36, y3_36, hy3_36, he36⟩ := ok_X10 hok ha2
        refine vp_callSi (va_Run.run (va_runV (As := [.int (nI (j28 + 1))]) (rest := [.int x35, .ref a0]) ⟨hx, hb, hml, hown, noTs⟩ (t_X10_numberAt l dC dI H.size G cs tt mm a2 ha2 (nI (j28 + 1))) ⟨cbE 1 (wd_717 hE) (wd_120 hE) (wd_714 hE) rfl rfl (by decide +kernel) ⟨Nat.le_of_ble_eq_true rfl, Nat.le_of_ble_eq_true rfl⟩, (wd_715 hE), (wd_716 hE)⟩ ⟨PT.blind, th_recv hK hP ha2.1 he36 rfl, (th_pre (av := [.ref a2, .int (nI (j28 + 1))]) trivial hK hP hok hnd hWT hE)⟩ rfl rfl hl.1 rfl (lv_room (Nat.le_of_ble_eq_true rfl)) dX7_writeWord_102 ⟨Nat.le_of_ble_eq_true rfl, Nat.le_of_ble_eq_true rfl⟩)) (fun r37 hr37 => ?_)
        have he38 := ok_X7 hok ha0
        refine tc_v hAL hS hA (va_runV (As := [.int x35, .int r37]) (rest := []) ⟨hx, hb, hml, hown, noTs⟩ (t_X7_put l dC dI H.size G cs tt mm a0 ha0 x35 r37) ⟨cbE 2 (wd_590 hE) (wd_116 hE) (wd_587 hE) rfl rfl (by decide +kernel) ⟨Nat.le_of_ble_eq_true rfl, Nat.le_of_ble_eq_true rfl⟩, (wd_589 hE), (wd_14 hE)⟩ ⟨PT.blind, th_recv hK hP ha0.1 he38 rfl, (th_pre (av := [.ref a0, .int x35, .int r37]) trivial hK hP hok hnd hWT hE)⟩ rfl rfl hl.1 rfl (lv_room (Nat.le_of_ble_eq_true rfl)) dX7_writeWord_105 ⟨Nat.le_of_ble_eq_true rfl, Nat.le_of_ble_eq_true rfl⟩) (fun f39 H locs hr39 hok hP hS => ?_)
        obtain ⟨z40, ez40⟩ : ∃ z : Int32, z = (nI j28) + 1 := ⟨_, rfl⟩
        refine lv_iinc (v := z40) (lv' := [(4, .int z40), (0, .ref a0), (1, .int v1), (2, .ref a2), (3, .int x9)]) hx hb dX7_writeWord_108 hl (k := 4) rfl (by rw [ez40]; rfl) (by decide) rfl (fun ls hl => ?_)
        have ic40 : z40.toInt = (nI j28).toInt + 1 := by rw [ez40]; exact ic_up (by have := i_rng r2; have := i_rng (nI y3_4); have := i_rng (nI j28); have := i_rng (nI y3_23); simp only [i_lt, i_le, i_eq, ti_m9, ti_m1, ti_0, ti_1, ti_2, ti_3, ti_4, ti_5, ti_6, ti_7, ti_9, ti_12, ti_20, ti_99, ti_700, ti_24, ti_156, ti_72, ti_8, ti_60, ti_543, ti_10, ti_33, ti_51, ti_178, ti_119, ti_111, ti_114, ti_100, ti_32, ti_62, ti_59, ti_48, ti_701, ti_97, ti_122, ti_57, ti_73, ti_128, ti_61, nt6, nt25, nt29] at c3 c7 hlo22 c26 ⊢; omega)
        refine lv_goto (tgt := 61) hx hb dX7_writeWord_111 (by decide) ?_
        exact ih22 _ f39 _ _ _ (by have := i_rng z40; first | omega | (simp only [i_lt, i_le, i_eq, ti_m9, ti_m1, ti_0, ti_1, ti_2, ti_3, ti_4, ti_5, ti_6, ti_7, ti_9, ti_12, ti_20, ti_99, ti_700, ti_24, ti_156, ti_72, ti_8, ti_60, ti_543, ti_10, ti_33, ti_51, ti_178, ti_119, ti_111, ti_114, ti_100, ti_32, ti_62, ti_59, ti_48, ti_701, ti_97, ti_122, ti_57, ti_73, ti_128, ti_61, nt6, nt25, nt29, ic40] at c3 c7 hlo22 c26 ic40 ⊢; omega)) ⟨hok, hP, hS, z40, rfl, (by first | omega | (simp only [i_lt, i_le, i_eq, ti_m9, ti_m1, ti_0, ti_1, ti_2, ti_3, ti_4, ti_5, ti_6, ti_7, ti_9, ti_12, ti_20, ti_99, ti_700, ti_24, ti_156, ti_72, ti_8, ti_60, ti_543, ti_10, ti_33, ti_51, ti_178, ti_119, ti_111, ti_114, ti_100, ti_32, ti_62, ti_59, ti_48, ti_701, ti_97, ti_122, ti_57, ti_73, ti_128, ti_61, nt6, nt25, nt29, ic40] at c3 c7 hlo22 c26 ⊢; omega)), lv_sub hl [1, 2, 3, 4, 0] rfl⟩
    · exact W.vret hx hb hr (fun t ht hW => ⟨⟨f0, rfl, trivial, hok, by rw [ht]; exact hP⟩, hS.F ht⟩) hS.2.2 dX7_writeWord_17

set_option maxHeartbeats 4000000 in
set_option maxRecDepth 100000 in
theorem t_X7_addWord (l : Launch) (dC : Nat → ClassId) (dI : Nat → Nat → Nat) (sz : Nat) (G : GT) (cs : Nat → ClassId) (tt mm : Nat) (a0 : Nat) (ha0 : Ty G a0 7) (a1 : Nat) (ha1 : Ty G a1 10) : Met l yX7_addWord [.code yX7_addWord cX7_addWord 3 (some .int)] ({ frames := 2, cells := 0, slots := 0, locals := 80 }) (PT [.ref a0, .ref a1] sz dC dI G cs tt mm (fun _ => True)) (va_Qi (fun (r : Int32) (u : Nat → va_E) => True) (BT dC dI G cs tt mm) (AT G sz)) 0 0 (AT G sz) := by
  refine Met.ofW (cc := cX7_addWord) (maxL := 3) (ret := (some .int)) (by decide) rfl ?_
  intro p e s m args below meth c s₁ B hml hv
  obtain ⟨rfl, hsz, ⟨f0, hok, hP, hX⟩, hK, hnd, hWT, hE⟩ := hv
  have hx := B.exec
  have hb := B.bytes
  have hr := B.returns
  have hown : s.vm.findClass RX7 = some m.cls := findClass_of_methodNamed B.named
  have hlocks := B.notSynchronized
  subst hsz
  have hAL : ∀ a, a ∈ gL G → AT G s.heap.size a := fun a h => Or.inl h
  have hA : ∀ q : Nat, s.heap.size ≤ q → AT G s.heap.size q := fun q h => Or.inr h
  have hS : va_S (AT G s.heap.size) s.heap s.heap [] := va_S.rf
  have hl := lv_entry ([.ref a0, .ref a1]) (n := 3) (Nat.le_of_ble_eq_true rfl)
  rw [lg_entry_eq]
  generalize (lg_sl ([.ref a0, .ref a1]) ++ List.replicate (3 - (lg_sl ([.ref a0, .ref a1])).length) Slot.unset).toArray = ls at hl ⊢
  have hl : lv_has ls 3 [(0, .ref a0), (1, .ref a1)] := hl
  refine lv_aload_n hx hb dX7_addWord_0 rfl (lv_at hl 0 rfl) ?_
  have he1 := ok_X7 hok ha0
  refine vp_callSi (va_Run.run (va_runV (As := []) (rest := []) ⟨hx, hb, hml, hown, noTs⟩ (t_X7_words l dC dI s.heap.size G cs tt mm a0 ha0) ⟨cbE 0 (wd_700 hE) (wd_116 hE) (wd_697 hE) rfl rfl (by decide +kernel) ⟨Nat.le_of_ble_eq_true rfl, Nat.le_of_ble_eq_true rfl⟩, (wd_698 hE), (wd_699 hE)⟩ ⟨PT.blind, th_recv hK hP ha0.1 he1 rfl, (th_pre (av := [.ref a0]) trivial hK hP hok hnd hWT hE)⟩ rfl rfl hl.1 rfl (lv_room (Nat.le_of_ble_eq_true rfl)) dX7_addWord_1 ⟨Nat.le_of_ble_eq_true rfl, Nat.le_of_ble_eq_true rfl⟩)) (fun r2 hr2 => ?_)
  refine lv_istore_n (lv' := [(2, .int r2), (0, .ref a0), (1, .ref a1)]) hx hb dX7_addWord_4 rfl hl (by decide) rfl (fun ls hl => ?_)
  refine lv_iload_n hx hb dX7_addWord_5 rfl (lv_at hl 0 rfl) ?_
  refine lv_bipush (v := 10) hx hb dX7_addWord_6 (by decide) ?_
  refine lv_icmp_lt (tgt := 13) hx hb dX7_addWord_8 (by decide) (fun c3 => ?_) (fun c3 => ?_)
  · refine lv_aload_n hx hb dX7_addWord_13 rfl (lv_at hl 1 rfl) ?_
    refine lv_iconst (v := 2) hx hb dX7_addWord_14 (by decide) ?_
    refine lv_iload_n hx hb dX7_addWord_15 rfl (lv_at hl 0 rfl) ?_
    refine lv_iconst (v := 1) hx hb dX7_addWord_16 (by decide) ?_
    refine lv_iadd hx hb dX7_addWord_17 ?_
    refine lv_topi (fun x4 ex4 => ?_)
    have ic4 : x4.toInt = r2.toInt + 1 := by rw [ex4]; exact ic_up (by have := i_rng r2; simp only [i_lt, i_le, i_eq, ti_m9, ti_m1, ti_0, ti_1, ti_2, ti_3, ti_4, ti_5, ti_6, ti_7, ti_9, ti_12, ti_20, ti_99, ti_700, ti_24, ti_156, ti_72, ti_8, ti_60, ti_543, ti_10, ti_33, ti_51, ti_178, ti_119, ti_111, ti_114, ti_100, ti_32, ti_62, ti_59, ti_48, ti_701, ti_97, ti_122, ti_57, ti_73, ti_128, ti_61] at c3 ⊢; omega)
    refine tc_v hAL hS hA (va_runV (As := [.int 2, .int x4]) (rest := []) ⟨hx, hb, hml, hown, noTs⟩ (t_X7_put l dC dI s.heap.size G cs tt mm a0 ha0 2 x4) ⟨cbE 2 (wd_590 hE) (wd_116 hE) (wd_587 hE) rfl rfl (by decide +kernel) ⟨Nat.le_of_ble_eq_true rfl, Nat.le_of_ble_eq_true rfl⟩, (wd_589 hE), (wd_14 hE)⟩ ⟨PT.blind, th_recv hK hP ha0.1 he1 rfl, (th_pre (av := [.ref a0, .int 2, .int x4]) trivial hK hP hok hnd hWT hE)⟩ rfl rfl hl.1 rfl (lv_room (Nat.le_of_ble_eq_true rfl)) dX7_addWord_18 ⟨Nat.le_of_ble_eq_true rfl, Nat.le_of_ble_eq_true rfl⟩) (fun f5 H locs hr5 hok hP hS => ?_)
    refine lv_aload_n hx hb dX7_addWord_21 rfl (lv_at hl 1 rfl) ?_
    refine lv_iload_n hx hb dX7_addWord_22 rfl (lv_at hl 0 rfl) ?_
    refine lv_aload_n hx hb dX7_addWord_23 rfl (lv_at hl 2 rfl) ?_
    have he6 := ok_X7 hok ha0
    refine tc_v hAL hS hA (va_runV (As := [.int r2, .ref a1]) (rest := []) ⟨hx, hb, hml, hown, noTs⟩ (t_X7_writeWord l dC dI H.size G cs tt mm a0 ha0 r2 a1 ha1) ⟨cbE 2 (wd_704 hE) (wd_116 hE) (wd_701 hE) rfl rfl (by decide +kernel) ⟨Nat.le_of_ble_eq_true rfl, Nat.le_of_ble_eq_true rfl⟩, (wd_702 hE), (wd_703 hE)⟩ ⟨PT.blind, th_recv hK hP ha0.1 he6 rfl, (th_pre (av := [.ref a0, .int r2, .ref a1]) trivial hK hP hok hnd hWT hE)⟩ rfl rfl hl.1 rfl (lv_room (Nat.le_of_ble_eq_true rfl)) dX7_addWord_24 ⟨Nat.le_of_ble_eq_true rfl, Nat.le_of_ble_eq_true rfl⟩) (fun f7 H locs hr7 hok hP hS => ?_)
    refine lv_iload_n hx hb dX7_addWord_27 rfl (lv_at hl 0 rfl) ?_
    exact W.iret (v := r2) hx hb hr (fun t ht hW => ⟨⟨r2, f7, rfl, trivial, hok, by rw [ht]; exact hP⟩, hS.F ht⟩) hS.2.2 dX7_addWord_28
  · refine lv_iconst (v := -1) hx hb dX7_addWord_11 (by decide) ?_
    exact W.iret (v := -1) hx hb hr (fun t ht hW => ⟨⟨-1, f0, rfl, trivial, hok, by rw [ht]; exact hP⟩, hS.F ht⟩) hS.2.2 dX7_addWord_12

set_option maxHeartbeats 4000000 in
set_option maxRecDepth 100000 in
theorem t_X6_leastOf (l : Launch) (dC : Nat → ClassId) (dI : Nat → Nat → Nat) (sz : Nat) (G : GT) (cs : Nat → ClassId) (tt mm : Nat) (a0 : Nat) (ha0 : Ty G a0 6) (v1 : Int32) : Met l yX6_leastOf [.code yX6_leastOf cX6_leastOf 2 (some .int)] ({ frames := 0, cells := 0, slots := 0, locals := 0 }) (PT [.ref a0, .int v1] sz dC dI G cs tt mm (fun _ => True)) (vp_Si (fun (r : Int32) => True)) 0 0 (fun _ => False) := by
  refine Met.ofW (cc := cX6_leastOf) (maxL := 2) (ret := (some .int)) (by decide) rfl ?_
  intro p e s m args below meth c s₁ B hml hv
  obtain ⟨rfl, hsz, ⟨f0, hok, hP, hX⟩, hK, hnd, hWT, hE⟩ := hv
  have hx := B.exec
  have hb := B.bytes
  have hr := B.returns
  have hown : s.vm.findClass RX6 = some m.cls := findClass_of_methodNamed B.named
  have hlocks := B.notSynchronized
  subst hsz
  have hl := lv_entry ([.ref a0, .int v1]) (n := 2) (Nat.le_of_ble_eq_true rfl)
  rw [lg_entry_eq]
  generalize (lg_sl ([.ref a0, .int v1]) ++ List.replicate (2 - (lg_sl ([.ref a0, .int v1])).length) Slot.unset).toArray = ls at hl ⊢
  have hl : lv_has ls 2 [(0, .ref a0), (1, .int v1)] := hl
  refine lv_iload_n hx hb dX6_leastOf_0 rfl (lv_at hl 1 rfl) ?_
  refine lv_if_lt (tgt := 13) hx hb dX6_leastOf_1 (by decide) (fun c1 => ?_) (fun c1 => ?_)
  · refine lv_iconst (v := -1) hx hb dX6_leastOf_13 (by decide) ?_
    refine lv_goto (tgt := 23) hx hb dX6_leastOf_14 (by decide) ?_
    exact W.iret (v := -1) hx hb hr (fun t ht hW => ⟨-1, rfl, trivial, ht⟩) (fun _ h => absurd h List.not_mem_nil) dX6_leastOf_23
  · refine lv_iload_n hx hb dX6_leastOf_4 rfl (lv_at hl 1 rfl) ?_
    refine lv_aload_n hx hb dX6_leastOf_5 rfl (lv_at hl 0 rfl) ?_
    obtain ⟨y1_2, y2_2, he2⟩ := ok_X6 hok ha0
    refine th_get hx hb (ly_X6 hE) hown hK hP ha0.1 he2 rfl 0 (by decide) (wd_338 hE) (fun _ h9 => h9) rfl dX6_leastOf_6 ?_
    refine th_len1 hx hb hK hP hok (n := 6) (wl_X6_0 hWT ha0) (Or.inl (wt_X6_0 hWT ha0)) dX6_leastOf_9 ?_
    refine W.eq (g2 := F0 m 10 ls [.int 6, .int v1]) rfl ?_
    refine lv_icmp_lt (tgt := 17) hx hb dX6_leastOf_10 (by decide) (fun c3 => ?_) (fun c3 => ?_)
    · refine lv_aload_n hx hb dX6_leastOf_17 rfl (lv_at hl 0 rfl) ?_
      refine th_get hx hb (ly_X6 hE) hown hK hP ha0.1 he2 rfl 0 (by decide) (wd_338 hE) (fun _ h9 => h9) rfl dX6_leastOf_18 ?_
      refine lv_iload_n hx hb dX6_leastOf_21 rfl (lv_at hl 1 rfl) ?_
      refine th_iald hx hb hK hP hok (wt_X6_0 hWT ha0) (n := 6) (wl_X6_0 hWT ha0) (vp_in_iff.mpr (by first | omega | (simp only [i_lt, i_le, i_eq, ti_m9, ti_m1, ti_0, ti_1, ti_2, ti_3, ti_4, ti_5, ti_6, ti_7, ti_9, ti_12, ti_20, ti_99, ti_700, ti_24, ti_156, ti_72, ti_8, ti_60, ti_543, ti_10, ti_33, ti_51, ti_178, ti_119, ti_111, ti_114, ti_100, ti_32, ti_62, ti_59, ti_48, ti_701, ti_97, ti_122, ti_57, ti_73, ti_128, ti_61] at c1 c3 ⊢; omega))) dX6_leastOf_22 (fun x4 => ?_)
      exact W.iret (v := x4) hx hb hr (fun t ht hW => ⟨x4, rfl, trivial, ht⟩) (fun _ h => absurd h List.not_mem_nil) dX6_leastOf_23
    · refine lv_iconst (v := -1) hx hb dX6_leastOf_13 (by decide) ?_
      refine lv_goto (tgt := 23) hx hb dX6_leastOf_14 (by decide) ?_
      exact W.iret (v := -1) hx hb hr (fun t ht hW => ⟨-1, rfl, trivial, ht⟩) (fun _ h => absurd h List.not_mem_nil) dX6_leastOf_23

set_option maxHeartbeats 4000000 in
set_option maxRecDepth 100000 in
theorem t_X6_setLeast (l : Launch) (dC : Nat → ClassId) (dI : Nat → Nat → Nat) (sz : Nat) (G : GT) (cs : Nat → ClassId) (tt mm : Nat) (a0 : Nat) (ha0 : Ty G a0 6) (v1 : Int32) (v2 : Int32) : Met l yX6_setLeast [.code yX6_setLeast cX6_setLeast 3 none] ({ frames := 0, cells := 0, slots := 0, locals := 0 }) (PT [.ref a0, .int v1, .int v2] sz dC dI G cs tt mm (fun _ => True)) (va_Qv (fun (u : Nat → va_E) => True) (BT dC dI G cs tt mm) (AT G sz)) 0 0 (AT G sz) := by
  refine Met.ofW (cc := cX6_setLeast) (maxL := 3) (ret := none) (by decide) rfl ?_
  intro p e s m args below meth c s₁ B hml hv
  obtain ⟨rfl, hsz, ⟨f0, hok, hP, hX⟩, hK, hnd, hWT, hE⟩ := hv
  have hx := B.exec
  have hb := B.bytes
  have hr := B.returns
  have hown : s.vm.findClass RX6 = some m.cls := findClass_of_methodNamed B.named
  have hlocks := B.notSynchronized
  subst hsz
  have hAL : ∀ a, a ∈ gL G → AT G s.heap.size a := fun a h => Or.inl h
  have hA : ∀ q : Nat, s.heap.size ≤ q → AT G s.heap.size q := fun q h => Or.inr h
  have hS : va_S (AT G s.heap.size) s.heap s.heap [] := va_S.rf
  have hl := lv_entry ([.ref a0, .int v1, .int v2]) (n := 3) (Nat.le_of_ble_eq_true rfl)
  rw [lg_entry_eq]
  generalize (lg_sl ([.ref a0, .int v1, .int v2]) ++ List.replicate (3 - (lg_sl ([.ref a0, .int v1, .int v2])).length) Slot.unset).toArray = ls at hl ⊢
  have hl : lv_has ls 3 [(0, .ref a0), (1, .int v1), (2, .int v2)] := hl
  refine lv_iload_n hx hb dX6_setLeast_0 rfl (lv_at hl 1 rfl) ?_
  refine lv_if_lt (tgt := 20) hx hb dX6_setLeast_1 (by decide) (fun c1 => ?_) (fun c1 => ?_)
  · exact W.vret hx hb hr (fun t ht hW => ⟨⟨f0, rfl, trivial, hok, by rw [ht]; exact hP⟩, hS.F ht⟩) hS.2.2 dX6_setLeast_20
  · refine lv_iload_n hx hb dX6_setLeast_4 rfl (lv_at hl 1 rfl) ?_
    refine lv_aload_n hx hb dX6_setLeast_5 rfl (lv_at hl 0 rfl) ?_
    obtain ⟨y1_2, y2_2, he2⟩ := ok_X6 hok ha0
    refine th_get hx hb (ly_X6 hE) hown hK hP ha0.1 he2 rfl 0 (by decide) (wd_338 hE) (fun _ h9 => h9) rfl dX6_setLeast_6 ?_
    refine th_len1 hx hb hK hP hok (n := 6) (wl_X6_0 hWT ha0) (Or.inl (wt_X6_0 hWT ha0)) dX6_setLeast_9 ?_
    refine W.eq (g2 := F0 m 10 ls [.int 6, .int v1]) rfl ?_
    refine lv_icmp_ge (tgt := 20) hx hb dX6_setLeast_10 (by decide) (fun c3 => ?_) (fun c3 => ?_)
    · exact W.vret hx hb hr (fun t ht hW => ⟨⟨f0, rfl, trivial, hok, by rw [ht]; exact hP⟩, hS.F ht⟩) hS.2.2 dX6_setLeast_20
    · refine lv_aload_n hx hb dX6_setLeast_13 rfl (lv_at hl 0 rfl) ?_
      refine th_get hx hb (ly_X6 hE) hown hK hP ha0.1 he2 rfl 0 (by decide) (wd_338 hE) (fun _ h9 => h9) rfl dX6_setLeast_14 ?_
      refine lv_iload_n hx hb dX6_setLeast_17 rfl (lv_at hl 1 rfl) ?_
      refine lv_iload_n hx hb dX6_setLeast_18 rfl (lv_at hl 2 rfl) ?_
      refine th_iast hx hb hK hP hok hnd hAL hS (wt_X6_0 hWT ha0) (n := 6) (wl_X6_0 hWT ha0) (vp_in_iff.mpr (by first | omega | (simp only [i_lt, i_le, i_eq, ti_m9, ti_m1, ti_0, ti_1, ti_2, ti_3, ti_4, ti_5, ti_6, ti_7, ti_9, ti_12, ti_20, ti_99, ti_700, ti_24, ti_156, ti_72, ti_8, ti_60, ti_543, ti_10, ti_33, ti_51, ti_178, ti_119, ti_111, ti_114, ti_100, ti_32, ti_62, ti_59, ti_48, ti_701, ti_97, ti_122, ti_57, ti_73, ti_128, ti_61] at c1 c3 ⊢; omega))) dX6_setLeast_19 (fun f4 H locs hfo4 hok hP hS => ?_)
      have he5 := (hfo4 a0 (Ty.ne ha0 (wt_X6_0 hWT ha0) (by decide))).trans he2
      exact W.vret hx hb hr (fun t ht hW => ⟨⟨f4, rfl, trivial, hok, by rw [ht]; exact hP⟩, hS.F ht⟩) hS.2.2 dX6_setLeast_20

set_option maxHeartbeats 4000000 in
set_option maxRecDepth 100000 in
theorem t_X6_join (l : Launch) (dC : Nat → ClassId) (dI : Nat → Nat → Nat) (sz : Nat) (G : GT) (cs : Nat → ClassId) (tt mm : Nat) (a0 : Nat) (ha0 : Ty G a0 6) (a1 : Nat) (ha1 : Ty G a1 7) : Met l yX6_join [.code yX6_join cX6_join 5 none] ({ frames := 2, cells := 0, slots := 0, locals := 80 }) (PT [.ref a0, .ref a1] sz dC dI G cs tt mm (fun _ => True)) (va_Qv (fun (u : Nat → va_E) => True) (BT dC dI G cs tt mm) (AT G sz)) 0 0 (AT G sz) := by
  refine Met.ofW (cc := cX6_join) (maxL := 5) (ret := none) (by decide) rfl ?_
  intro p e s m args below meth c s₁ B hml hv
  obtain ⟨rfl, hsz, ⟨f0, hok, hP, hX⟩, hK, hnd, hWT, hE⟩ := hv
  have hx := B.exec
  have hb := B.bytes
  have hr := B.returns
  have hown : s.vm.findClass RX6 = some m.cls := findClass_of_methodNamed B.named
  have hlocks := B.notSynchronized
  subst hsz
  have hAL : ∀ a, a ∈ gL G → AT G s.heap.size a := fun a h => Or.inl h
  have hA : ∀ q : Nat, s.heap.size ≤ q → AT G s.heap.size q := fun q h => Or.inr h
  have hS : va_S (AT G s.heap.size) s.heap s.heap [] := va_S.rf
  have hl := lv_entry ([.ref a0, .ref a1]) (n := 5) (Nat.le_of_ble_eq_true rfl)
  rw [lg_entry_eq]
  generalize (lg_sl ([.ref a0, .ref a1]) ++ List.replicate (5 - (lg_sl ([.ref a0, .ref a1])).length) Slot.unset).toArray = ls at hl ⊢
  have hl : lv_has ls 5 [(0, .ref a0), (1, .ref a1)] := hl
  refine lv_iconst (v := 0) hx hb dX6_join_0 (by decide) ?_
  refine lv_istore_n (lv' := [(2, .int 0), (0, .ref a0), (1, .ref a1)]) hx hb dX6_join_1 rfl hl (by decide) rfl (fun ls hl => ?_)
  refine w_ind (I := fun n f H locs ls => OKT G cs tt mm f ∧ va_P (dC, dI) vwCl (va_pl (gL G) f) H ∧ va_S (AT G s.heap.size) s.heap H locs ∧ ∃ (w2_1 : Int32), n = (2147483647 - w2_1.toInt).toNat ∧ 0 ≤ w2_1 ∧ lv_has ls 5 [(0, .ref a0), (1, .ref a1), (2, .int w2_1)]) (fun n f1 H locs ls hI ih1 => ?_) _ f0 _ _ _ ⟨hok, hP, hS, 0, rfl, (by first | omega | (simp only [i_lt, i_le, i_eq, ti_m9, ti_m1, ti_0, ti_1, ti_2, ti_3, ti_4, ti_5, ti_6, ti_7, ti_9, ti_12, ti_20, ti_99, ti_700, ti_24, ti_156, ti_72, ti_8, ti_60, ti_543, ti_10, ti_33, ti_51, ti_178, ti_119, ti_111, ti_114, ti_100, ti_32, ti_62, ti_59, ti_48, ti_701, ti_97, ti_122, ti_57, ti_73, ti_128, ti_61]; omega)), lv_sub hl [1, 2, 0] rfl⟩
  obtain ⟨hok, hP, hS, w2_1, hmu1, hlo1, hl⟩ := hI
  subst hmu1
  refine lv_iload_n hx hb dX6_join_2 rfl (lv_at hl 2 rfl) ?_
  refine lv_bipush (v := 6) hx hb dX6_join_3 (by decide) ?_
  refine lv_icmp_ge (tgt := 20) hx hb dX6_join_5 (by decide) (fun c2 => ?_) (fun c2 => ?_)
  · refine lv_iconst (v := 1) hx hb dX6_join_20 (by decide) ?_
    refine lv_istore_n (lv' := [(2, .int 1), (0, .ref a0), (1, .ref a1)]) hx hb dX6_join_21 rfl hl (by decide) rfl (fun ls hl => ?_)
    refine w_ind (I := fun n f H locs ls => OKT G cs tt mm f ∧ va_P (dC, dI) vwCl (va_pl (gL G) f) H ∧ va_S (AT G s.heap.size) s.heap H locs ∧ ∃ (w2_3 : Int32), n = (2147483647 - w2_3.toInt).toNat ∧ 1 ≤ w2_3 ∧ lv_has ls 5 [(0, .ref a0), (1, .ref a1), (2, .int w2_3)]) (fun n f3 H locs ls hI ih3 => ?_) _ f1 _ _ _ ⟨hok, hP, hS, 1, rfl, (by first | omega | (simp only [i_lt, i_le, i_eq, ti_m9, ti_m1, ti_0, ti_1, ti_2, ti_3, ti_4, ti_5, ti_6, ti_7, ti_9, ti_12, ti_20, ti_99, ti_700, ti_24, ti_156, ti_72, ti_8, ti_60, ti_543, ti_10, ti_33, ti_51, ti_178, ti_119, ti_111, ti_114, ti_100, ti_32, ti_62, ti_59, ti_48, ti_701, ti_97, ti_122, ti_57, ti_73, ti_128, ti_61] at hlo1 c2 ⊢; omega)), lv_sub hl [1, 2, 0] rfl⟩
    obtain ⟨hok, hP, hS, w2_3, hmu3, hlo3, hl⟩ := hI
    subst hmu3
    refine lv_iload_n hx hb dX6_join_22 rfl (lv_at hl 2 rfl) ?_
    refine lv_aload_n hx hb dX6_join_23 rfl (lv_at hl 1 rfl) ?_
    have he4 := ok_X7 hok ha1
    refine vp_callSi (va_Run.run (va_runV (As := []) (rest := [.int w2_3]) ⟨hx, hb, hml, hown, noTs⟩ (t_X7_vertices l dC dI H.size G cs tt mm a1 ha1) ⟨cbE 0 (wd_557 hE) (wd_116 hE) (wd_779 hE) rfl rfl (by decide +kernel) ⟨Nat.le_of_ble_eq_true rfl, Nat.le_of_ble_eq_true rfl⟩, (wd_555 hE), (wd_556 hE)⟩ ⟨PT.blind, th_recv hK hP ha1.1 he4 rfl, (th_pre (av := [.ref a1]) trivial hK hP hok hnd hWT hE)⟩ rfl rfl hl.1 rfl (lv_room (Nat.le_of_ble_eq_true rfl)) dX6_join_24 ⟨Nat.le_of_ble_eq_true rfl, Nat.le_of_ble_eq_true rfl⟩)) (fun r5 hr5 => ?_)
    refine lv_icmp_ge (tgt := 83) hx hb dX6_join_27 (by decide) (fun c6 => ?_) (fun c6 => ?_)
    · exact W.vret hx hb hr (fun t ht hW => ⟨⟨f3, rfl, trivial, hok, by rw [ht]; exact hP⟩, hS.F ht⟩) hS.2.2 dX6_join_83
    · refine lv_iconst (v := 0) hx hb dX6_join_30 (by decide) ?_
      refine lv_istore_n (lv' := [(3, .int 0), (0, .ref a0), (1, .ref a1), (2, .int w2_3)]) hx hb dX6_join_31 rfl hl (by decide) rfl (fun ls hl => ?_)
      refine w_ind (I := fun n f H locs ls => OKT G cs tt mm f ∧ va_P (dC, dI) vwCl (va_pl (gL G) f) H ∧ va_S (AT G s.heap.size) s.heap H locs ∧ ∃ (w3_7 : Int32), n = (2147483647 - w3_7.toInt).toNat ∧ 0 ≤ w3_7 ∧ lv_has ls 5 [(0, .ref a0), (1, .ref a1), (2, .int w2_3), (3, .int w3_7)]) (fun n f7 H locs ls hI ih7 => ?_) _ f3 _ _ _ ⟨hok, hP, hS, 0, rfl, (by first | omega | (simp only [i_lt, i_le, i_eq, ti_m9, ti_m1, ti_0, ti_1, ti_2, ti_3, ti_4, ti_5, ti_6, ti_7, ti_9, ti_12, ti_20, ti_99, ti_700, ti_24, ti_156, ti_72, ti_8, ti_60, ti_543, ti_10, ti_33, ti_51, ti_178, ti_119, ti_111, ti_114, ti_100, ti_32, ti_62, ti_59, ti_48, ti_701, ti_97, ti_122, ti_57, ti_73, ti_128, ti_61] at hlo1 c2 hlo3 c6 ⊢; omega)), lv_sub hl [1, 2, 3, 0] rfl⟩
      obtain ⟨hok, hP, hS, w3_7, hmu7, hlo7, hl⟩ := hI
      subst hmu7
      refine lv_iload_n hx hb dX6_join_32 rfl (lv_at hl 3 rfl) ?_
      refine lv_aload_n hx hb dX6_join_33 rfl (lv_at hl 1 rfl) ?_
      have he8 := ok_X7 hok ha1
      refine vp_callSi (va_Run.run (va_runV (As := []) (rest := [.int w3_7]) ⟨hx, hb, hml, hown, noTs⟩ (t_X7_stepKinds l dC dI H.size G cs tt mm a1 ha1) ⟨cbE 0 (wd_783 hE) (wd_116 hE) (wd_780 hE) rfl rfl (by decide +kernel) ⟨Nat.le_of_ble_eq_true rfl, Nat.le_of_ble_eq_true rfl⟩, (wd_781 hE), (wd_782 hE)⟩ ⟨PT.blind, th_recv hK hP ha1.1 he8 rfl, (th_pre (av := [.ref a1]) trivial hK hP hok hnd hWT hE)⟩ rfl rfl hl.1 rfl (lv_room (Nat.le_of_ble_eq_true rfl)) dX6_join_34 ⟨Nat.le_of_ble_eq_true rfl, Nat.le_of_ble_eq_true rfl⟩)) (fun r9 hr9 => ?_)
      refine lv_icmp_ge (tgt := 77) hx hb dX6_join_37 (by decide) (fun c10 => ?_) (fun c10 => ?_)
      · obtain ⟨z11, ez11⟩ : ∃ z : Int32, z = w2_3 + 1 := ⟨_, rfl⟩
        refine lv_iinc (v := z11) (lv' := [(2, .int z11), (0, .ref a0), (1, .ref a1), (3, .int w3_7)]) hx hb dX6_join_77 hl (k := 2) rfl (by rw [ez11]; rfl) (by decide) rfl (fun ls hl => ?_)
        have ic11 : z11.toInt = w2_3.toInt + 1 := by rw [ez11]; exact ic_up (by have := i_rng w2_1; have := i_rng w2_3; have := i_rng r5; have := i_rng w3_7; have := i_rng r9; simp only [i_lt, i_le, i_eq, ti_m9, ti_m1, ti_0, ti_1, ti_2, ti_3, ti_4, ti_5, ti_6, ti_7, ti_9, ti_12, ti_20, ti_99, ti_700, ti_24, ti_156, ti_72, ti_8, ti_60, ti_543, ti_10, ti_33, ti_51, ti_178, ti_119, ti_111, ti_114, ti_100, ti_32, ti_62, ti_59, ti_48, ti_701, ti_97, ti_122, ti_57, ti_73, ti_128, ti_61] at hlo1 c2 hlo3 c6 hlo7 c10 ⊢; omega)
        refine lv_goto (tgt := 22) hx hb dX6_join_80 (by decide) ?_
        exact ih3 _ f7 _ _ _ (by have := i_rng z11; first | omega | (simp only [i_lt, i_le, i_eq, ti_m9, ti_m1, ti_0, ti_1, ti_2, ti_3, ti_4, ti_5, ti_6, ti_7, ti_9, ti_12, ti_20, ti_99, ti_700, ti_24, ti_156, ti_72, ti_8, ti_60, ti_543, ti_10, ti_33, ti_51, ti_178, ti_119, ti_111, ti_114, ti_100, ti_32, ti_62, ti_59, ti_48, ti_701, ti_97, ti_122, ti_57, ti_73, ti_128, ti_61, ic11] at hlo1 c2 hlo3 c6 hlo7 c10 ic11 ⊢; omega)) ⟨hok, hP, hS, z11, rfl, (by first | omega | (simp only [i_lt, i_le, i_eq, ti_m9, ti_m1, ti_0, ti_1, ti_2, ti_3, ti_4, ti_5, ti_6, ti_7, ti_9, ti_12, ti_20, ti_99, ti_700, ti_24, ti_156, ti_72, ti_8, ti_60, ti_543, ti_10, ti_33, ti_51, ti_178, ti_119, ti_111, ti_114, ti_100, ti_32, ti_62, ti_59, ti_48, ti_701, ti_97, ti_122, ti_57, ti_73, ti_128, ti_61, ic11] at hlo1 c2 hlo3 c6 hlo7 c10 ⊢; omega)), lv_sub hl [1, 2, 0] rfl⟩
      · refine lv_aload_n hx hb dX6_join_40 rfl (lv_at hl 1 rfl) ?_
        refine lv_iload_n hx hb dX6_join_41 rfl (lv_at hl 3 rfl) ?_
        refine vp_callSi (va_Run.run (va_runV (As := [.int w3_7]) (rest := []) ⟨hx, hb, hml, hown, noTs⟩ (t_X7_fromVertex l dC dI H.size G cs tt mm a1 ha1 w3_7) ⟨cbE 1 (wd_677 hE) (wd_116 hE) (wd_784 hE) rfl rfl (by decide +kernel) ⟨Nat.le_of_ble_eq_true rfl, Nat.le_of_ble_eq_true rfl⟩, (wd_675 hE), (wd_676 hE)⟩ ⟨PT.blind, th_recv hK hP ha1.1 he8 rfl, (th_pre (av := [.ref a1, .int w3_7]) trivial hK hP hok hnd hWT hE)⟩ rfl rfl hl.1 rfl (lv_room (Nat.le_of_ble_eq_true rfl)) dX6_join_42 ⟨Nat.le_of_ble_eq_true rfl, Nat.le_of_ble_eq_true rfl⟩)) (fun r12 hr12 => ?_)
        refine lv_istore (lv' := [(4, .int r12), (0, .ref a0), (1, .ref a1), (2, .int w2_3), (3, .int w3_7)]) hx hb dX6_join_45 hl (by decide) rfl (fun ls hl => ?_)
        refine lv_aload_n hx hb dX6_join_47 rfl (lv_at hl 1 rfl) ?_
        refine lv_iload hx hb dX6_join_48 (lv_at hl 0 rfl) ?_
        refine lv_aload_n hx hb dX6_join_50 rfl (lv_at hl 1 rfl) ?_
        refine lv_iload hx hb dX6_join_51 (lv_at hl 0 rfl) ?_
        obtain ⟨y1_13, y2_13, he13⟩ := ok_X6 hok ha0
        refine vp_callSi (va_Run.run (va_runV (As := [.int r12]) (rest := [.int r12, .ref a0]) ⟨hx, hb, hml, hown, noTs⟩ (t_X6_leastOf l dC dI H.size G cs tt mm a0 ha0 r12) ⟨cbE 1 (wd_788 hE) (wd_124 hE) (wd_785 hE) rfl rfl (by decide +kernel) ⟨Nat.le_of_ble_eq_true rfl, Nat.le_of_ble_eq_true rfl⟩, (wd_787 hE), (wd_26 hE)⟩ ⟨PT.blind, th_recv hK hP ha0.1 he13 rfl, (th_pre (av := [.ref a0, .int r12]) trivial hK hP hok hnd hWT hE)⟩ rfl rfl hl.1 rfl (lv_room (Nat.le_of_ble_eq_true rfl)) dX6_join_53 ⟨Nat.le_of_ble_eq_true rfl, Nat.le_of_ble_eq_true rfl⟩)) (fun r14 hr14 => ?_)
        refine lv_aload_n hx hb dX6_join_56 rfl (lv_at hl 1 rfl) ?_
        refine lv_aload_n hx hb dX6_join_57 rfl (lv_at hl 2 rfl) ?_
        refine lv_iload_n hx hb dX6_join_58 rfl (lv_at hl 4 rfl) ?_
        refine vp_callSi (va_Run.run (va_runV (As := [.int w3_7]) (rest := [.ref a0, .int r14, .int r12, .ref a0]) ⟨hx, hb, hml, hown, noTs⟩ (t_X7_toVertex l dC dI H.size G cs tt mm a1 ha1 w3_7) ⟨cbE 1 (wd_692 hE) (wd_116 hE) (wd_789 hE) rfl rfl (by decide +kernel) ⟨Nat.le_of_ble_eq_true rfl, Nat.le_of_ble_eq_true rfl⟩, (wd_690 hE), (wd_691 hE)⟩ ⟨PT.blind, th_recv hK hP ha1.1 he8 rfl, (th_pre (av := [.ref a1, .int w3_7]) trivial hK hP hok hnd hWT hE)⟩ rfl rfl hl.1 rfl (lv_room (Nat.le_of_ble_eq_true rfl)) dX6_join_59 ⟨Nat.le_of_ble_eq_true rfl, Nat.le_of_ble_eq_true rfl⟩)) (fun r15 hr15 => ?_)
        refine vp_callSi (va_Run.run (va_runV (As := [.int r15]) (rest := [.int r14, .int r12, .ref a0]) ⟨hx, hb, hml, hown, noTs⟩ (t_X6_leastOf l dC dI H.size G cs tt mm a0 ha0 r15) ⟨cbE 1 (wd_788 hE) (wd_124 hE) (wd_785 hE) rfl rfl (by decide +kernel) ⟨Nat.le_of_ble_eq_true rfl, Nat.le_of_ble_eq_true rfl⟩, (wd_787 hE), (wd_26 hE)⟩ ⟨PT.blind, th_recv hK hP ha0.1 he13 rfl, (th_pre (av := [.ref a0, .int r15]) trivial hK hP hok hnd hWT hE)⟩ rfl rfl hl.1 rfl (lv_room (Nat.le_of_ble_eq_true rfl)) dX6_join_62 ⟨Nat.le_of_ble_eq_true rfl, Nat.le_of_ble_eq_true rfl⟩)) (fun r16 hr16 => ?_)
        refine va_mmin hx hb (by rw [hml]; exact hl.1.symm) hown (wd_790 hE) (wd_453 hE) (wd_128 hE) (wd_454 hE) (Nat.le_of_ble_eq_true rfl) (Nat.le_of_ble_eq_true rfl) (Nat.le_of_ble_eq_true rfl) (Nat.le_of_ble_eq_true rfl) dX6_join_65 ?_
        refine lv_topi (fun x17 ex17 => ?_)
        have hmn17 : x17 ≤ r14 ∧ x17 ≤ r16 := by rw [ex17]; exact i_min r14 r16
        obtain ⟨hma17, hmb17⟩ := hmn17
        refine tc_v hAL hS hA (va_runV (As := [.int r12, .int x17]) (rest := []) ⟨hx, hb, hml, hown, noTs⟩ (t_X6_setLeast l dC dI H.size G cs tt mm a0 ha0 r12 x17) ⟨cbE 2 (wd_778 hE) (wd_124 hE) (wd_775 hE) rfl rfl (by decide +kernel) ⟨Nat.le_of_ble_eq_true rfl, Nat.le_of_ble_eq_true rfl⟩, (wd_777 hE), (wd_25 hE)⟩ ⟨PT.blind, th_recv hK hP ha0.1 he13 rfl, (th_pre (av := [.ref a0, .int r12, .int x17]) trivial hK hP hok hnd hWT hE)⟩ rfl rfl hl.1 rfl (lv_room (Nat.le_of_ble_eq_true rfl)) dX6_join_68 ⟨Nat.le_of_ble_eq_true rfl, Nat.le_of_ble_eq_true rfl⟩) (fun f18 H locs hr18 hok hP hS => ?_)
        obtain ⟨z19, ez19⟩ : ∃ z : Int32, z = w3_7 + 1 := ⟨_, rfl⟩
        refine lv_iinc (v := z19) (lv' := [(3, .int z19), (4, .int r12), (0, .ref a0), (1, .ref a1), (2, .int w2_3)]) hx hb dX6_join_71 hl (k := 4) rfl (by rw [ez19]; rfl) (by decide) rfl (fun ls hl => ?_)
        have ic19 : z19.toInt = w3_7.toInt + 1 := by rw [ez19]; exact ic_up (by have := i_rng w2_1; have := i_rng w2_3; have := i_rng r5; have := i_rng w3_7; have := i_rng r9; simp only [i_lt, i_le, i_eq, ti_m9, ti_m1, ti_0, ti_1, ti_2, ti_3, ti_4, ti_5, ti_6, ti_7, ti_9, ti_12, ti_20, ti_99, ti_700, ti_24, ti_156, ti_72, ti_8, ti_60, ti_543, ti_10, ti_33, ti_51, ti_178, ti_119, ti_111, ti_114, ti_100, ti_32, ti_62, ti_59, ti_48, ti_701, ti_97, ti_122, ti_57, ti_73, ti_128, ti_61] at hlo1 c2 hlo3 c6 hlo7 c10 hma17 hmb17 ⊢; omega)
        refine lv_goto (tgt := 32) hx hb dX6_join_74 (by decide) ?_
        exact ih7 _ f18 _ _ _ (by have := i_rng z19; first | omega | (simp only [i_lt, i_le, i_eq, ti_m9, ti_m1, ti_0, ti_1, ti_2, ti_3, ti_4, ti_5, ti_6, ti_7, ti_9, ti_12, ti_20, ti_99, ti_700, ti_24, ti_156, ti_72, ti_8, ti_60, ti_543, ti_10, ti_33, ti_51, ti_178, ti_119, ti_111, ti_114, ti_100, ti_32, ti_62, ti_59, ti_48, ti_701, ti_97, ti_122, ti_57, ti_73, ti_128, ti_61, ic19] at hlo1 c2 hlo3 c6 hlo7 c10 hma17 hmb17 ic19 ⊢; omega)) ⟨hok, hP, hS, z19, rfl, (by first | omega | (simp only [i_lt, i_le, i_eq, ti_m9, ti_m1, ti_0, ti_1, ti_2, ti_3, ti_4, ti_5, ti_6, ti_7, ti_9, ti_12, ti_20, ti_99, ti_700, ti_24, ti_156, ti_72, ti_8, ti_60, ti_543, ti_10, ti_33, ti_51, ti_178, ti_119, ti_111, ti_114, ti_100, ti_32, ti_62, ti_59, ti_48, ti_701, ti_97, ti_122, ti_57, ti_73, ti_128, ti_61, ic19] at hlo1 c2 hlo3 c6 hlo7 c10 hma17 hmb17 ⊢; omega)), lv_sub hl [2, 3, 4, 0] rfl⟩
  · refine lv_aload_n hx hb dX6_join_8 rfl (lv_at hl 0 rfl) ?_
    refine lv_iload_n hx hb dX6_join_9 rfl (lv_at hl 2 rfl) ?_
    refine lv_iload_n hx hb dX6_join_10 rfl (lv_at hl 2 rfl) ?_
    obtain ⟨y1_20, y2_20, he20⟩ := ok_X6 hok ha0
    refine tc_v hAL hS hA (va_runV (As := [.int w2_1, .int w2_1]) (rest := []) ⟨hx, hb, hml, hown, noTs⟩ (t_X6_setLeast l dC dI H.size G cs tt mm a0 ha0 w2_1 w2_1) ⟨cbE 2 (wd_778 hE) (wd_124 hE) (wd_775 hE) rfl rfl (by decide +kernel) ⟨Nat.le_of_ble_eq_true rfl, Nat.le_of_ble_eq_true rfl⟩, (wd_777 hE), (wd_25 hE)⟩ ⟨PT.blind, th_recv hK hP ha0.1 he20 rfl, (th_pre (av := [.ref a0, .int w2_1, .int w2_1]) trivial hK hP hok hnd hWT hE)⟩ rfl rfl hl.1 rfl (lv_room (Nat.le_of_ble_eq_true rfl)) dX6_join_11 ⟨Nat.le_of_ble_eq_true rfl, Nat.le_of_ble_eq_true rfl⟩) (fun f21 H locs hr21 hok hP hS => ?_)
    obtain ⟨z22, ez22⟩ : ∃ z : Int32, z = w2_1 + 1 := ⟨_, rfl⟩
    refine lv_iinc (v := z22) (lv' := [(2, .int z22), (0, .ref a0), (1, .ref a1)]) hx hb dX6_join_14 hl (k := 2) rfl (by rw [ez22]; rfl) (by decide) rfl (fun ls hl => ?_)
    have ic22 : z22.toInt = w2_1.toInt + 1 := by rw [ez22]; exact ic_up (by have := i_rng w2_1; simp only [i_lt, i_le, i_eq, ti_m9, ti_m1, ti_0, ti_1, ti_2, ti_3, ti_4, ti_5, ti_6, ti_7, ti_9, ti_12, ti_20, ti_99, ti_700, ti_24, ti_156, ti_72, ti_8, ti_60, ti_543, ti_10, ti_33, ti_51, ti_178, ti_119, ti_111, ti_114, ti_100, ti_32, ti_62, ti_59, ti_48, ti_701, ti_97, ti_122, ti_57, ti_73, ti_128, ti_61] at hlo1 c2 ⊢; omega)
    refine lv_goto (tgt := 2) hx hb dX6_join_17 (by decide) ?_
    exact ih1 _ f21 _ _ _ (by have := i_rng z22; first | omega | (simp only [i_lt, i_le, i_eq, ti_m9, ti_m1, ti_0, ti_1, ti_2, ti_3, ti_4, ti_5, ti_6, ti_7, ti_9, ti_12, ti_20, ti_99, ti_700, ti_24, ti_156, ti_72, ti_8, ti_60, ti_543, ti_10, ti_33, ti_51, ti_178, ti_119, ti_111, ti_114, ti_100, ti_32, ti_62, ti_59, ti_48, ti_701, ti_97, ti_122, ti_57, ti_73, ti_128, ti_61, ic22] at hlo1 c2 ic22 ⊢; omega)) ⟨hok, hP, hS, z22, rfl, (by first | omega | (simp only [i_lt, i_le, i_eq, ti_m9, ti_m1, ti_0, ti_1, ti_2, ti_3, ti_4, ti_5, ti_6, ti_7, ti_9, ti_12, ti_20, ti_99, ti_700, ti_24, ti_156, ti_72, ti_8, ti_60, ti_543, ti_10, ti_33, ti_51, ti_178, ti_119, ti_111, ti_114, ti_100, ti_32, ti_62, ti_59, ti_48, ti_701, ti_97, ti_122, ti_57, ti_73, ti_128, ti_61, ic22] at hlo1 c2 ⊢; omega)), lv_sub hl [1, 2, 0] rfl⟩

set_option maxHeartbeats 4000000 in
set_option maxRecDepth 100000 in
theorem t_X6_parts (l : Launch) (dC : Nat → ClassId) (dI : Nat → Nat → Nat) (sz : Nat) (G : GT) (cs : Nat → ClassId) (tt mm : Nat) (a0 : Nat) (ha0 : Ty G a0 6) (a1 : Nat) (ha1 : Ty G a1 7) : Met l yX6_parts [.code yX6_parts cX6_parts 4 (some .int)] ({ frames := 3, cells := 0, slots := 0, locals := 120 }) (PT [.ref a0, .ref a1] sz dC dI G cs tt mm (fun _ => True)) (va_Qi (fun (r : Int32) (u : Nat → va_E) => True) (BT dC dI G cs tt mm) (AT G sz)) 0 0 (AT G sz) := by
  refine Met.ofW (cc := cX6_parts) (maxL := 4) (ret := (some .int)) (by decide) rfl ?_
  intro p e s m args below meth c s₁ B hml hv
  obtain ⟨rfl, hsz, ⟨f0, hok, hP, hX⟩, hK, hnd, hWT, hE⟩ := hv
  have hx := B.exec
  have hb := B.bytes
  have hr := B.returns
  have hown : s.vm.findClass RX6 = some m.cls := findClass_of_methodNamed B.named
  have hlocks := B.notSynchronized
  subst hsz
  have hAL : ∀ a, a ∈ gL G → AT G s.heap.size a := fun a h => Or.inl h
  have hA : ∀ q : Nat, s.heap.size ≤ q → AT G s.heap.size q := fun q h => Or.inr h
  have hS : va_S (AT G s.heap.size) s.heap s.heap [] := va_S.rf
  have hl := lv_entry ([.ref a0, .ref a1]) (n := 4) (Nat.le_of_ble_eq_true rfl)
  rw [lg_entry_eq]
  generalize (lg_sl ([.ref a0, .ref a1]) ++ List.replicate (4 - (lg_sl ([.ref a0, .ref a1])).length) Slot.unset).toArray = ls at hl ⊢
  have hl : lv_has ls 4 [(0, .ref a0), (1, .ref a1)] := hl
  refine lv_aload_n hx hb dX6_parts_0 rfl (lv_at hl 0 rfl) ?_
  refine lv_aload_n hx hb dX6_parts_1 rfl (lv_at hl 1 rfl) ?_
  obtain ⟨y1_1, y2_1, he1⟩ := ok_X6 hok ha0
  refine tc_v hAL hS hA (va_runV (As := [.ref a1]) (rest := []) ⟨hx, hb, hml, hown, noTs⟩ (t_X6_join l dC dI s.heap.size G cs tt mm a0 ha0 a1 ha1) ⟨cbE 1 (wd_774 hE) (wd_124 hE) (wd_771 hE) rfl rfl (by decide +kernel) ⟨Nat.le_of_ble_eq_true rfl, Nat.le_of_ble_eq_true rfl⟩, (wd_773 hE), (wd_24 hE)⟩ ⟨PT.blind, th_recv hK hP ha0.1 he1 rfl, (th_pre (av := [.ref a0, .ref a1]) trivial hK hP hok hnd hWT hE)⟩ rfl rfl hl.1 rfl (lv_room (Nat.le_of_ble_eq_true rfl)) dX6_parts_2 ⟨Nat.le_of_ble_eq_true rfl, Nat.le_of_ble_eq_true rfl⟩) (fun f2 H locs hr2 hok hP hS => ?_)
  refine lv_iconst (v := 0) hx hb dX6_parts_5 (by decide) ?_
  refine lv_istore_n (lv' := [(2, .int 0), (0, .ref a0), (1, .ref a1)]) hx hb dX6_parts_6 rfl hl (by decide) rfl (fun ls hl => ?_)
  refine lv_iconst (v := 0) hx hb dX6_parts_7 (by decide) ?_
  refine lv_istore_n (lv' := [(3, .int 0), (2, .int 0), (0, .ref a0), (1, .ref a1)]) hx hb dX6_parts_8 rfl hl (by decide) rfl (fun ls hl => ?_)
  refine w_ind (I := fun n f H locs ls => OKT G cs tt mm f ∧ va_P (dC, dI) vwCl (va_pl (gL G) f) H ∧ va_S (AT G s.heap.size) s.heap H locs ∧ ∃ (w2_3 : Int32) (w3_3 : Int32), n = (2147483647 - w3_3.toInt).toNat ∧ 0 ≤ w3_3 ∧ lv_has ls 4 [(0, .ref a0), (1, .ref a1), (2, .int w2_3), (3, .int w3_3)]) (fun n f3 H locs ls hI ih3 => ?_) _ f2 _ _ _ ⟨hok, hP, hS, 0, 0, rfl, (by first | omega | (simp only [i_lt, i_le, i_eq, ti_m9, ti_m1, ti_0, ti_1, ti_2, ti_3, ti_4, ti_5, ti_6, ti_7, ti_9, ti_12, ti_20, ti_99, ti_700, ti_24, ti_156, ti_72, ti_8, ti_60, ti_543, ti_10, ti_33, ti_51, ti_178, ti_119, ti_111, ti_114, ti_100, ti_32, ti_62, ti_59, ti_48, ti_701, ti_97, ti_122, ti_57, ti_73, ti_128, ti_61]; omega)), lv_sub hl [2, 3, 1, 0] rfl⟩
  obtain ⟨hok, hP, hS, w2_3, w3_3, hmu3, hlo3, hl⟩ := hI
  subst hmu3
  refine lv_iload_n hx hb dX6_parts_9 rfl (lv_at hl 3 rfl) ?_
  refine lv_aload_n hx hb dX6_parts_10 rfl (lv_at hl 1 rfl) ?_
  have he4 := ok_X7 hok ha1
  refine vp_callSi (va_Run.run (va_runV (As := []) (rest := [.int w3_3]) ⟨hx, hb, hml, hown, noTs⟩ (t_X7_vertices l dC dI H.size G cs tt mm a1 ha1) ⟨cbE 0 (wd_557 hE) (wd_116 hE) (wd_779 hE) rfl rfl (by decide +kernel) ⟨Nat.le_of_ble_eq_true rfl, Nat.le_of_ble_eq_true rfl⟩, (wd_555 hE), (wd_556 hE)⟩ ⟨PT.blind, th_recv hK hP ha1.1 he4 rfl, (th_pre (av := [.ref a1]) trivial hK hP hok hnd hWT hE)⟩ rfl rfl hl.1 rfl (lv_room (Nat.le_of_ble_eq_true rfl)) dX6_parts_11 ⟨Nat.le_of_ble_eq_true rfl, Nat.le_of_ble_eq_true rfl⟩)) (fun r5 hr5 => ?_)
  refine lv_icmp_ge (tgt := 43) hx hb dX6_parts_14 (by decide) (fun c6 => ?_) (fun c6 => ?_)
  · refine lv_iload_n hx hb dX6_parts_43 rfl (lv_at hl 2 rfl) ?_
    exact W.iret (v := w2_3) hx hb hr (fun t ht hW => ⟨⟨w2_3, f3, rfl, trivial, hok, by rw [ht]; exact hP⟩, hS.F ht⟩) hS.2.2 dX6_parts_44
  · refine lv_iload_n hx hb dX6_parts_17 rfl (lv_at hl 2 rfl) ?_
    refine lv_aload_n hx hb dX6_parts_18 rfl (lv_at hl 0 rfl) ?_
    refine lv_iload_n hx hb dX6_parts_19 rfl (lv_at hl 3 rfl) ?_
    obtain ⟨y1_7, y2_7, he7⟩ := ok_X6 hok ha0
    refine vp_callSi (va_Run.run (va_runV (As := [.int w3_3]) (rest := [.int w2_3]) ⟨hx, hb, hml, hown, noTs⟩ (t_X6_leastOf l dC dI H.size G cs tt mm a0 ha0 w3_3) ⟨cbE 1 (wd_788 hE) (wd_124 hE) (wd_785 hE) rfl rfl (by decide +kernel) ⟨Nat.le_of_ble_eq_true rfl, Nat.le_of_ble_eq_true rfl⟩, (wd_787 hE), (wd_26 hE)⟩ ⟨PT.blind, th_recv hK hP ha0.1 he7 rfl, (th_pre (av := [.ref a0, .int w3_3]) trivial hK hP hok hnd hWT hE)⟩ rfl rfl hl.1 rfl (lv_room (Nat.le_of_ble_eq_true rfl)) dX6_parts_20 ⟨Nat.le_of_ble_eq_true rfl, Nat.le_of_ble_eq_true rfl⟩)) (fun r8 hr8 => ?_)
    refine lv_iload_n hx hb dX6_parts_23 rfl (lv_at hl 3 rfl) ?_
    refine lv_icmp_ne (tgt := 31) hx hb dX6_parts_24 (by decide) (fun c9 => ?_) (fun c9 => ?_)
    · refine lv_iconst (v := 0) hx hb dX6_parts_31 (by decide) ?_
      refine vp_callSi (va_Run.run (va_runSN (As := [.int 0]) (rest := [.int w2_3]) ⟨hx, hb, hml, hown, noTs⟩ (t_X11_bit l dC dI H.size G cs tt mm 0) ⟨cnE 1 (wd_669 hE) (wd_115 hE) (wd_791 hE) rfl rfl (by decide +kernel) ⟨Nat.le_of_ble_eq_true rfl, Nat.le_of_ble_eq_true rfl⟩, (wd_668 hE), trivial⟩ ⟨PT.blind, (th_pre (av := [.int 0]) trivial hK hP hok hnd hWT hE)⟩ rfl rfl hl.1 rfl (lv_room (Nat.le_of_ble_eq_true rfl)) dX6_parts_32 ⟨Nat.le_of_ble_eq_true rfl, Nat.le_of_ble_eq_true rfl⟩)) (fun r10 hr10 => ?_)
      refine lv_iadd hx hb dX6_parts_35 ?_
      refine lv_topi (fun x11 ex11 => ?_)
      refine lv_istore_n (lv' := [(2, .int x11), (0, .ref a0), (1, .ref a1), (3, .int w3_3)]) hx hb dX6_parts_36 rfl hl (by decide) rfl (fun ls hl => ?_)
      obtain ⟨z12, ez12⟩ : ∃ z : Int32, z = w3_3 + 1 := ⟨_, rfl⟩
      refine lv_iinc (v := z12) (lv' := [(3, .int z12), (2, .int x11), (0, .ref a0), (1, .ref a1)]) hx hb dX6_parts_37 hl (k := 3) rfl (by rw [ez12]; rfl) (by decide) rfl (fun ls hl => ?_)
      have ic12 : z12.toInt = w3_3.toInt + 1 := by rw [ez12]; exact ic_up (by have := i_rng w3_3; have := i_rng r5; have := i_rng r8; simp only [i_lt, i_le, i_eq, ti_m9, ti_m1, ti_0, ti_1, ti_2, ti_3, ti_4, ti_5, ti_6, ti_7, ti_9, ti_12, ti_20, ti_99, ti_700, ti_24, ti_156, ti_72, ti_8, ti_60, ti_543, ti_10, ti_33, ti_51, ti_178, ti_119, ti_111, ti_114, ti_100, ti_32, ti_62, ti_59, ti_48, ti_701, ti_97, ti_122, ti_57, ti_73, ti_128, ti_61] at hlo3 c6 c9 ⊢; omega)
      refine lv_goto (tgt := 9) hx hb dX6_parts_40 (by decide) ?_
      exact ih3 _ f3 _ _ _ (by have := i_rng z12; first | omega | (simp only [i_lt, i_le, i_eq, ti_m9, ti_m1, ti_0, ti_1, ti_2, ti_3, ti_4, ti_5, ti_6, ti_7, ti_9, ti_12, ti_20, ti_99, ti_700, ti_24, ti_156, ti_72, ti_8, ti_60, ti_543, ti_10, ti_33, ti_51, ti_178, ti_119, ti_111, ti_114, ti_100, ti_32, ti_62, ti_59, ti_48, ti_701, ti_97, ti_122, ti_57, ti_73, ti_128, ti_61, ic12] at hlo3 c6 c9 ic12 ⊢; omega)) ⟨hok, hP, hS, x11, z12, rfl, (by first | omega | (simp only [i_lt, i_le, i_eq, ti_m9, ti_m1, ti_0, ti_1, ti_2, ti_3, ti_4, ti_5, ti_6, ti_7, ti_9, ti_12, ti_20, ti_99, ti_700, ti_24, ti_156, ti_72, ti_8, ti_60, ti_543, ti_10, ti_33, ti_51, ti_178, ti_119, ti_111, ti_114, ti_100, ti_32, ti_62, ti_59, ti_48, ti_701, ti_97, ti_122, ti_57, ti_73, ti_128, ti_61, ic12] at hlo3 c6 c9 ⊢; omega)), lv_sub hl [2, 3, 1, 0] rfl⟩
    · refine lv_iconst (v := 1) hx hb dX6_parts_27 (by decide) ?_
      refine lv_goto (tgt := 32) hx hb dX6_parts_28 (by decide) ?_
      refine vp_callSi (va_Run.run (va_runSN (As := [.int 1]) (rest := [.int w2_3]) ⟨hx, hb, hml, hown, noTs⟩ (t_X11_bit l dC dI H.size G cs tt mm 1) ⟨cnE 1 (wd_669 hE) (wd_115 hE) (wd_791 hE) rfl rfl (by decide +kernel) ⟨Nat.le_of_ble_eq_true rfl, Nat.le_of_ble_eq_true rfl⟩, (wd_668 hE), trivial⟩ ⟨PT.blind, (th_pre (av := [.int 1]) trivial hK hP hok hnd hWT hE)⟩ rfl rfl hl.1 rfl (lv_room (Nat.le_of_ble_eq_true rfl)) dX6_parts_32 ⟨Nat.le_of_ble_eq_true rfl, Nat.le_of_ble_eq_true rfl⟩)) (fun r13 hr13 => ?_)
      refine lv_iadd hx hb dX6_parts_35 ?_
      refine lv_topi (fun x14 ex14 => ?_)
      refine lv_istore_n (lv' := [(2, .int x14), (0, .ref a0), (1, .ref a1), (3, .int w3_3)]) hx hb dX6_parts_36 rfl hl (by decide) rfl (fun ls hl => ?_)
      obtain ⟨z15, ez15⟩ : ∃ z : Int32, z = w3_3 + 1 := ⟨_, rfl⟩
      refine lv_iinc (v := z15) (lv' := [(3, .int z15), (2, .int x14), (0, .ref a0), (1, .ref a1)]) hx hb dX6_parts_37 hl (k := 3) rfl (by rw [ez15]; rfl) (by decide) rfl (fun ls hl => ?_)
      have ic15 : z15.toInt = w3_3.toInt + 1 := by rw [ez15]; exact ic_up (by have := i_rng w3_3; have := i_rng r5; have := i_rng r8; simp only [i_lt, i_le, i_eq, ti_m9, ti_m1, ti_0, ti_1, ti_2, ti_3, ti_4, ti_5, ti_6, ti_7, ti_9, ti_12, ti_20, ti_99, ti_700, ti_24, ti_156, ti_72, ti_8, ti_60, ti_543, ti_10, ti_33, ti_51, ti_178, ti_119, ti_111, ti_114, ti_100, ti_32, ti_62, ti_59, ti_48, ti_701, ti_97, ti_122, ti_57, ti_73, ti_128, ti_61] at hlo3 c6 c9 ⊢; omega)
      refine lv_goto (tgt := 9) hx hb dX6_parts_40 (by decide) ?_
      exact ih3 _ f3 _ _ _ (by have := i_rng z15; first | omega | (simp only [i_lt, i_le, i_eq, ti_m9, ti_m1, ti_0, ti_1, ti_2, ti_3, ti_4, ti_5, ti_6, ti_7, ti_9, ti_12, ti_20, ti_99, ti_700, ti_24, ti_156, ti_72, ti_8, ti_60, ti_543, ti_10, ti_33, ti_51, ti_178, ti_119, ti_111, ti_114, ti_100, ti_32, ti_62, ti_59, ti_48, ti_701, ti_97, ti_122, ti_57, ti_73, ti_128, ti_61, ic15] at hlo3 c6 c9 ic15 ⊢; omega)) ⟨hok, hP, hS, x14, z15, rfl, (by first | omega | (simp only [i_lt, i_le, i_eq, ti_m9, ti_m1, ti_0, ti_1, ti_2, ti_3, ti_4, ti_5, ti_6, ti_7, ti_9, ti_12, ti_20, ti_99, ti_700, ti_24, ti_156, ti_72, ti_8, ti_60, ti_543, ti_10, ti_33, ti_51, ti_178, ti_119, ti_111, ti_114, ti_100, ti_32, ti_62, ti_59, ti_48, ti_701, ti_97, ti_122, ti_57, ti_73, ti_128, ti_61, ic15] at hlo3 c6 c9 ⊢; omega)), lv_sub hl [2, 3, 1, 0] rfl⟩

set_option maxHeartbeats 4000000 in
set_option maxRecDepth 100000 in
theorem t_X6_centralOrder (l : Launch) (dC : Nat → ClassId) (dI : Nat → Nat → Nat) (sz : Nat) (G : GT) (cs : Nat → ClassId) (tt mm : Nat) (a0 : Nat) (ha0 : Ty G a0 6) (a1 : Nat) (ha1 : Ty G a1 7) (v2 : Int32) : Met l yX6_centralOrder [.code yX6_centralOrder cX6_centralOrder 6 (some .int)] ({ frames := 3, cells := 0, slots := 0, locals := 120 }) (PT [.ref a0, .ref a1, .int v2] sz dC dI G cs tt mm (fun _ => True)) (va_Qi (fun (r : Int32) (u : Nat → va_E) => True) (BT dC dI G cs tt mm) (AT G sz)) 0 0 (AT G sz) := by
  refine Met.ofW (cc := cX6_centralOrder) (maxL := 6) (ret := (some .int)) (by decide) rfl ?_
  intro p e s m args below meth c s₁ B hml hv
  obtain ⟨rfl, hsz, ⟨f0, hok, hP, hX⟩, hK, hnd, hWT, hE⟩ := hv
  have hx := B.exec
  have hb := B.bytes
  have hr := B.returns
  have hown : s.vm.findClass RX6 = some m.cls := findClass_of_methodNamed B.named
  have hlocks := B.notSynchronized
  subst hsz
  have hAL : ∀ a, a ∈ gL G → AT G s.heap.size a := fun a h => Or.inl h
  have hA : ∀ q : Nat, s.heap.size ≤ q → AT G s.heap.size q := fun q h => Or.inr h
  have hS : va_S (AT G s.heap.size) s.heap s.heap [] := va_S.rf
  have hl := lv_entry ([.ref a0, .ref a1, .int v2]) (n := 6) (Nat.le_of_ble_eq_true rfl)
  rw [lg_entry_eq]
  generalize (lg_sl ([.ref a0, .ref a1, .int v2]) ++ List.replicate (6 - (lg_sl ([.ref a0, .ref a1, .int v2])).length) Slot.unset).toArray = ls at hl ⊢
  have hl : lv_has ls 6 [(0, .ref a0), (1, .ref a1), (2, .int v2)] := hl
  refine lv_aload_n hx hb dX6_centralOrder_0 rfl (lv_at hl 0 rfl) ?_
  refine lv_aload_n hx hb dX6_centralOrder_1 rfl (lv_at hl 1 rfl) ?_
  obtain ⟨y1_1, y2_1, he1⟩ := ok_X6 hok ha0
  refine tc_v hAL hS hA (va_runV (As := [.ref a1]) (rest := []) ⟨hx, hb, hml, hown, noTs⟩ (t_X6_join l dC dI s.heap.size G cs tt mm a0 ha0 a1 ha1) ⟨cbE 1 (wd_774 hE) (wd_124 hE) (wd_771 hE) rfl rfl (by decide +kernel) ⟨Nat.le_of_ble_eq_true rfl, Nat.le_of_ble_eq_true rfl⟩, (wd_773 hE), (wd_24 hE)⟩ ⟨PT.blind, th_recv hK hP ha0.1 he1 rfl, (th_pre (av := [.ref a0, .ref a1]) trivial hK hP hok hnd hWT hE)⟩ rfl rfl hl.1 rfl (lv_room (Nat.le_of_ble_eq_true rfl)) dX6_centralOrder_2 ⟨Nat.le_of_ble_eq_true rfl, Nat.le_of_ble_eq_true rfl⟩) (fun f2 H locs hr2 hok hP hS => ?_)
  refine lv_aload_n hx hb dX6_centralOrder_5 rfl (lv_at hl 1 rfl) ?_
  refine lv_iload_n hx hb dX6_centralOrder_6 rfl (lv_at hl 2 rfl) ?_
  have he3 := ok_X7 hok ha1
  refine vp_callSi (va_Run.run (va_runV (As := [.int v2]) (rest := []) ⟨hx, hb, hml, hown, noTs⟩ (t_X7_orderAt l dC dI H.size G cs tt mm a1 ha1 v2) ⟨cbE 1 (wd_614 hE) (wd_116 hE) (wd_1199 hE) rfl rfl (by decide +kernel) ⟨Nat.le_of_ble_eq_true rfl, Nat.le_of_ble_eq_true rfl⟩, (wd_612 hE), (wd_613 hE)⟩ ⟨PT.blind, th_recv hK hP ha1.1 he3 rfl, (th_pre (av := [.ref a1, .int v2]) trivial hK hP hok hnd hWT hE)⟩ rfl rfl hl.1 rfl (lv_room (Nat.le_of_ble_eq_true rfl)) dX6_centralOrder_7 ⟨Nat.le_of_ble_eq_true rfl, Nat.le_of_ble_eq_true rfl⟩)) (fun r4 hr4 => ?_)
  refine lv_i2l hx hb dX6_centralOrder_10 rfl ?_
  refine lv_topl (fun x5 _ => ?_)
  refine lv_lstore_n (lv' := [(3, .long x5), (0, .ref a0), (1, .ref a1), (2, .int v2)]) hx hb dX6_centralOrder_11 rfl hl (by decide) rfl (fun ls hl => ?_)
  refine lv_iconst (v := 0) hx hb dX6_centralOrder_12 (by decide) ?_
  refine lv_istore (lv' := [(5, .int 0), (3, .long x5), (0, .ref a0), (1, .ref a1), (2, .int v2)]) hx hb dX6_centralOrder_13 hl (by decide) rfl (fun ls hl => ?_)
  refine w_ind (I := fun n f H locs ls => OKT G cs tt mm f ∧ va_P (dC, dI) vwCl (va_pl (gL G) f) H ∧ va_S (AT G s.heap.size) s.heap H locs ∧ ∃ (w3_6 : Int64) (w5_6 : Int32), n = (2147483647 - w5_6.toInt).toNat ∧ 0 ≤ w5_6 ∧ lv_has ls 6 [(0, .ref a0), (1, .ref a1), (2, .int v2), (3, .long w3_6), (5, .int w5_6)]) (fun n f6 H locs ls hI ih6 => ?_) _ f2 _ _ _ ⟨hok, hP, hS, x5, 0, rfl, (by first | omega | (simp only [i_lt, i_le, i_eq, ti_m9, ti_m1, ti_0, ti_1, ti_2, ti_3, ti_4, ti_5, ti_6, ti_7, ti_9, ti_12, ti_20, ti_99, ti_700, ti_24, ti_156, ti_72, ti_8, ti_60, ti_543, ti_10, ti_33, ti_51, ti_178, ti_119, ti_111, ti_114, ti_100, ti_32, ti_62, ti_59, ti_48, ti_701, ti_97, ti_122, ti_57, ti_73, ti_128, ti_61]; omega)), lv_sub hl [2, 3, 4, 1, 0] rfl⟩
  obtain ⟨hok, hP, hS, w3_6, w5_6, hmu6, hlo6, hl⟩ := hI
  subst hmu6
  refine lv_iload hx hb dX6_centralOrder_15 (lv_at hl 4 rfl) ?_
  refine lv_aload_n hx hb dX6_centralOrder_17 rfl (lv_at hl 1 rfl) ?_
  have he7 := ok_X7 hok ha1
  refine vp_callSi (va_Run.run (va_runV (As := []) (rest := [.int w5_6]) ⟨hx, hb, hml, hown, noTs⟩ (t_X7_edges l dC dI H.size G cs tt mm a1 ha1) ⟨cbE 0 (wd_598 hE) (wd_116 hE) (wd_1200 hE) rfl rfl (by decide +kernel) ⟨Nat.le_of_ble_eq_true rfl, Nat.le_of_ble_eq_true rfl⟩, (wd_596 hE), (wd_597 hE)⟩ ⟨PT.blind, th_recv hK hP ha1.1 he7 rfl, (th_pre (av := [.ref a1]) trivial hK hP hok hnd hWT hE)⟩ rfl rfl hl.1 rfl (lv_room (Nat.le_of_ble_eq_true rfl)) dX6_centralOrder_18 ⟨Nat.le_of_ble_eq_true rfl, Nat.le_of_ble_eq_true rfl⟩)) (fun r8 hr8 => ?_)
  refine lv_icmp_ge (tgt := 61) hx hb dX6_centralOrder_21 (by decide) (fun c9 => ?_) (fun c9 => ?_)
  · refine lv_lload_n hx hb dX6_centralOrder_61 rfl (lv_at hl 3 rfl) ?_
    refine lv_l2i hx hb dX6_centralOrder_62 rfl ?_
    refine lv_topi (fun x10 _ => ?_)
    exact W.iret (v := x10) hx hb hr (fun t ht hW => ⟨⟨x10, f6, rfl, trivial, hok, by rw [ht]; exact hP⟩, hS.F ht⟩) hS.2.2 dX6_centralOrder_63
  · refine lv_aload_n hx hb dX6_centralOrder_24 rfl (lv_at hl 0 rfl) ?_
    refine lv_aload_n hx hb dX6_centralOrder_25 rfl (lv_at hl 1 rfl) ?_
    refine lv_iload hx hb dX6_centralOrder_26 (lv_at hl 4 rfl) ?_
    refine lv_iconst (v := 0) hx hb dX6_centralOrder_28 (by decide) ?_
    refine vp_callSi (va_Run.run (va_runV (As := [.int w5_6, .int 0]) (rest := [.ref a0]) ⟨hx, hb, hml, hown, noTs⟩ (t_X7_edgePart l dC dI H.size G cs tt mm a1 ha1 w5_6 0) ⟨cbE 2 (wd_684 hE) (wd_116 hE) (wd_1201 hE) rfl rfl (by decide +kernel) ⟨Nat.le_of_ble_eq_true rfl, Nat.le_of_ble_eq_true rfl⟩, (wd_682 hE), (wd_683 hE)⟩ ⟨PT.blind, th_recv hK hP ha1.1 he7 rfl, (th_pre (av := [.ref a1, .int w5_6, .int 0]) trivial hK hP hok hnd hWT hE)⟩ rfl rfl hl.1 rfl (lv_room (Nat.le_of_ble_eq_true rfl)) dX6_centralOrder_29 ⟨Nat.le_of_ble_eq_true rfl, Nat.le_of_ble_eq_true rfl⟩)) (fun r11 hr11 => ?_)
    obtain ⟨y1_12, y2_12, he12⟩ := ok_X6 hok ha0
    refine vp_callSi (va_Run.run (va_runV (As := [.int r11]) (rest := []) ⟨hx, hb, hml, hown, noTs⟩ (t_X6_leastOf l dC dI H.size G cs tt mm a0 ha0 r11) ⟨cbE 1 (wd_788 hE) (wd_124 hE) (wd_785 hE) rfl rfl (by decide +kernel) ⟨Nat.le_of_ble_eq_true rfl, Nat.le_of_ble_eq_true rfl⟩, (wd_787 hE), (wd_26 hE)⟩ ⟨PT.blind, th_recv hK hP ha0.1 he12 rfl, (th_pre (av := [.ref a0, .int r11]) trivial hK hP hok hnd hWT hE)⟩ rfl rfl hl.1 rfl (lv_room (Nat.le_of_ble_eq_true rfl)) dX6_centralOrder_32 ⟨Nat.le_of_ble_eq_true rfl, Nat.le_of_ble_eq_true rfl⟩)) (fun r13 hr13 => ?_)
    refine lv_aload_n hx hb dX6_centralOrder_35 rfl (lv_at hl 0 rfl) ?_
    refine lv_iload_n hx hb dX6_centralOrder_36 rfl (lv_at hl 2 rfl) ?_
    refine vp_callSi (va_Run.run (va_runV (As := [.int v2]) (rest := [.int r13]) ⟨hx, hb, hml, hown, noTs⟩ (t_X6_leastOf l dC dI H.size G cs tt mm a0 ha0 v2) ⟨cbE 1 (wd_788 hE) (wd_124 hE) (wd_785 hE) rfl rfl (by decide +kernel) ⟨Nat.le_of_ble_eq_true rfl, Nat.le_of_ble_eq_true rfl⟩, (wd_787 hE), (wd_26 hE)⟩ ⟨PT.blind, th_recv hK hP ha0.1 he12 rfl, (th_pre (av := [.ref a0, .int v2]) trivial hK hP hok hnd hWT hE)⟩ rfl rfl hl.1 rfl (lv_room (Nat.le_of_ble_eq_true rfl)) dX6_centralOrder_37 ⟨Nat.le_of_ble_eq_true rfl, Nat.le_of_ble_eq_true rfl⟩)) (fun r14 hr14 => ?_)
    refine lv_icmp_ne (tgt := 55) hx hb dX6_centralOrder_40 (by decide) (fun c15 => ?_) (fun c15 => ?_)
    · obtain ⟨z16, ez16⟩ : ∃ z : Int32, z = w5_6 + 1 := ⟨_, rfl⟩
      refine lv_iinc (v := z16) (lv' := [(5, .int z16), (0, .ref a0), (1, .ref a1), (2, .int v2), (3, .long w3_6)]) hx hb dX6_centralOrder_55 hl (k := 4) rfl (by rw [ez16]; rfl) (by decide) rfl (fun ls hl => ?_)
      have ic16 : z16.toInt = w5_6.toInt + 1 := by rw [ez16]; exact ic_up (by have := i_rng w5_6; have := i_rng r8; have := i_rng r13; have := i_rng r14; simp only [i_lt, i_le, i_eq, ti_m9, ti_m1, ti_0, ti_1, ti_2, ti_3, ti_4, ti_5, ti_6, ti_7, ti_9, ti_12, ti_20, ti_99, ti_700, ti_24, ti_156, ti_72, ti_8, ti_60, ti_543, ti_10, ti_33, ti_51, ti_178, ti_119, ti_111, ti_114, ti_100, ti_32, ti_62, ti_59, ti_48, ti_701, ti_97, ti_122, ti_57, ti_73, ti_128, ti_61] at hlo6 c9 c15 ⊢; omega)
      refine lv_goto (tgt := 15) hx hb dX6_centralOrder_58 (by decide) ?_
      exact ih6 _ f6 _ _ _ (by have := i_rng z16; first | omega | (simp only [i_lt, i_le, i_eq, ti_m9, ti_m1, ti_0, ti_1, ti_2, ti_3, ti_4, ti_5, ti_6, ti_7, ti_9, ti_12, ti_20, ti_99, ti_700, ti_24, ti_156, ti_72, ti_8, ti_60, ti_543, ti_10, ti_33, ti_51, ti_178, ti_119, ti_111, ti_114, ti_100, ti_32, ti_62, ti_59, ti_48, ti_701, ti_97, ti_122, ti_57, ti_73, ti_128, ti_61, ic16] at hlo6 c9 c15 ic16 ⊢; omega)) ⟨hok, hP, hS, w3_6, z16, rfl, (by first | omega | (simp only [i_lt, i_le, i_eq, ti_m9, ti_m1, ti_0, ti_1, ti_2, ti_3, ti_4, ti_5, ti_6, ti_7, ti_9, ti_12, ti_20, ti_99, ti_700, ti_24, ti_156, ti_72, ti_8, ti_60, ti_543, ti_10, ti_33, ti_51, ti_178, ti_119, ti_111, ti_114, ti_100, ti_32, ti_62, ti_59, ti_48, ti_701, ti_97, ti_122, ti_57, ti_73, ti_128, ti_61, ic16] at hlo6 c9 c15 ⊢; omega)), lv_sub hl [1, 2, 3, 4, 0] rfl⟩
    · refine lv_lload_n hx hb dX6_centralOrder_43 rfl (lv_at hl 3 rfl) ?_
      refine lv_aload_n hx hb dX6_centralOrder_44 rfl (lv_at hl 1 rfl) ?_
      refine lv_iload hx hb dX6_centralOrder_45 (lv_at hl 4 rfl) ?_
      refine vp_callSi (va_Run.run (va_runV (As := [.int w5_6]) (rest := [.long w3_6]) ⟨hx, hb, hml, hown, noTs⟩ (t_X7_common l dC dI H.size G cs tt mm a1 ha1 w5_6) ⟨cbE 1 (wd_806 hE) (wd_116 hE) (wd_1202 hE) rfl rfl (by decide +kernel) ⟨Nat.le_of_ble_eq_true rfl, Nat.le_of_ble_eq_true rfl⟩, (wd_804 hE), (wd_805 hE)⟩ ⟨PT.blind, th_recv hK hP ha1.1 he7 rfl, (th_pre (av := [.ref a1, .int w5_6]) trivial hK hP hok hnd hWT hE)⟩ rfl rfl hl.1 rfl (lv_room (Nat.le_of_ble_eq_true rfl)) dX6_centralOrder_47 ⟨Nat.le_of_ble_eq_true rfl, Nat.le_of_ble_eq_true rfl⟩)) (fun r17 hr17 => ?_)
      refine lv_i2l hx hb dX6_centralOrder_50 rfl ?_
      refine lv_topl (fun x18 _ => ?_)
      refine vp_callSl (va_Run.run (va_runSN (As := [.long w3_6, .long x18]) (rest := []) ⟨hx, hb, hml, hown, noTs⟩ (t_X11_greatestDivisor l dC dI H.size G cs tt mm w3_6 x18) ⟨cnE 2 (wd_1089 hE) (wd_115 hE) (wd_1203 hE) rfl rfl (by decide +kernel) ⟨Nat.le_of_ble_eq_true rfl, Nat.le_of_ble_eq_true rfl⟩, (wd_1088 hE), trivial⟩ ⟨PT.blind, (th_pre (av := [.long w3_6, .long x18]) trivial hK hP hok hnd hWT hE)⟩ rfl rfl hl.1 rfl (lv_room (Nat.le_of_ble_eq_true rfl)) dX6_centralOrder_51 ⟨Nat.le_of_ble_eq_true rfl, Nat.le_of_ble_eq_true rfl⟩)) (fun r19 hr19 => ?_)
      refine lv_lstore_n (lv' := [(3, .long r19), (0, .ref a0), (1, .ref a1), (2, .int v2), (5, .int w5_6)]) hx hb dX6_centralOrder_54 rfl hl (by decide) rfl (fun ls hl => ?_)
      obtain ⟨z20, ez20⟩ : ∃ z : Int32, z = w5_6 + 1 := ⟨_, rfl⟩
      refine lv_iinc (v := z20) (lv' := [(5, .int z20), (3, .long r19), (0, .ref a0), (1, .ref a1), (2, .int v2)]) hx hb dX6_centralOrder_55 hl (k := 4) rfl (by rw [ez20]; rfl) (by decide) rfl (fun ls hl => ?_)
      have ic20 : z20.toInt = w5_6.toInt + 1 := by rw [ez20]; exact ic_up (by have := i_rng w5_6; have := i_rng r8; have := i_rng r13; have := i_rng r14; simp only [i_lt, i_le, i_eq, ti_m9, ti_m1, ti_0, ti_1, ti_2, ti_3, ti_4, ti_5, ti_6, ti_7, ti_9, ti_12, ti_20, ti_99, ti_700, ti_24, ti_156, ti_72, ti_8, ti_60, ti_543, ti_10, ti_33, ti_51, ti_178, ti_119, ti_111, ti_114, ti_100, ti_32, ti_62, ti_59, ti_48, ti_701, ti_97, ti_122, ti_57, ti_73, ti_128, ti_61] at hlo6 c9 c15 ⊢; omega)
      refine lv_goto (tgt := 15) hx hb dX6_centralOrder_58 (by decide) ?_
      exact ih6 _ f6 _ _ _ (by have := i_rng z20; first | omega | (simp only [i_lt, i_le, i_eq, ti_m9, ti_m1, ti_0, ti_1, ti_2, ti_3, ti_4, ti_5, ti_6, ti_7, ti_9, ti_12, ti_20, ti_99, ti_700, ti_24, ti_156, ti_72, ti_8, ti_60, ti_543, ti_10, ti_33, ti_51, ti_178, ti_119, ti_111, ti_114, ti_100, ti_32, ti_62, ti_59, ti_48, ti_701, ti_97, ti_122, ti_57, ti_73, ti_128, ti_61, ic20] at hlo6 c9 c15 ic20 ⊢; omega)) ⟨hok, hP, hS, r19, z20, rfl, (by first | omega | (simp only [i_lt, i_le, i_eq, ti_m9, ti_m1, ti_0, ti_1, ti_2, ti_3, ti_4, ti_5, ti_6, ti_7, ti_9, ti_12, ti_20, ti_99, ti_700, ti_24, ti_156, ti_72, ti_8, ti_60, ti_543, ti_10, ti_33, ti_51, ti_178, ti_119, ti_111, ti_114, ti_100, ti_32, ti_62, ti_59, ti_48, ti_701, ti_97, ti_122, ti_57, ti_73, ti_128, ti_61, ic20] at hlo6 c9 c15 ⊢; omega)), lv_sub hl [2, 3, 4, 1, 0] rfl⟩

set_option maxHeartbeats 4000000 in
set_option maxRecDepth 100000 in
theorem t_X6_addPart (l : Launch) (dC : Nat → ClassId) (dI : Nat → Nat → Nat) (sz : Nat) (G : GT) (cs : Nat → ClassId) (tt mm : Nat) (a0 : Nat) (ha0 : Ty G a0 6) (v1 : Int64) (v2 : Int64) : Met l yX6_addPart [.code yX6_addPart cX6_addPart 11 none] ({ frames := 2, cells := 0, slots := 0, locals := 80 }) (PT [.ref a0, .long v1, .long v2] sz dC dI G cs tt mm (fun _ => True)) (va_Qv (fun (u : Nat → va_E) => True) (BT dC dI G cs tt mm) (AT G sz)) 0 0 (AT G sz) := by
  refine Met.ofW (cc := cX6_addPart) (maxL := 11) (ret := none) (by decide) rfl ?_
  intro p e s m args below meth c s₁ B hml hv
  obtain ⟨rfl, hsz, ⟨f0, hok, hP, hX⟩, hK, hnd, hWT, hE⟩ := hv
  have hx := B.exec
  have hb := B.bytes
  have hr := B.returns
  have hown : s.vm.findClass RX6 = some m.cls := findClass_of_methodNamed B.named
  have hlocks := B.notSynchronized
  subst hsz
  have hAL : ∀ a, a ∈ gL G → AT G s.heap.size a := fun a h => Or.inl h
  have hA : ∀ q : Nat, s.heap.size ≤ q → AT G s.heap.size q := fun q h => Or.inr h
  have hS : va_S (AT G s.heap.size) s.heap s.heap [] := va_S.rf
  have hl := lv_entry ([.ref a0, .long v1, .long v2]) (n := 11) (Nat.le_of_ble_eq_true rfl)
  rw [lg_entry_eq]
  generalize (lg_sl ([.ref a0, .long v1, .long v2]) ++ List.replicate (11 - (lg_sl ([.ref a0, .long v1, .long v2])).length) Slot.unset).toArray = ls at hl ⊢
  have hl : lv_has ls 11 [(0, .ref a0), (1, .long v1), (3, .long v2)] := hl
  refine lv_lload_n hx hb dX6_addPart_0 rfl (lv_at hl 2 rfl) ?_
  refine lv_lconst (v := 1) hx hb dX6_addPart_1 (by decide) ?_
  refine W.lcmp hx hb dX6_addPart_2 ?_
  refine lv_topi (fun x1 ex1 => ?_)
  refine lv_if_ge (tgt := 7) hx hb dX6_addPart_3 (by decide) (fun c2 => ?_) (fun c2 => ?_)
  · have nz3 : ¬ v2 = 0 := lc_ge1 ex1 (by simp only [i_lt, i_le, i_eq, ti_m9, ti_m1, ti_0, ti_1, ti_2, ti_3, ti_4, ti_5, ti_6, ti_7, ti_9, ti_12, ti_20, ti_99, ti_700, ti_24, ti_156, ti_72, ti_8, ti_60, ti_543, ti_10, ti_33, ti_51, ti_178, ti_119, ti_111, ti_114, ti_100, ti_32, ti_62, ti_59, ti_48, ti_701, ti_97, ti_122, ti_57, ti_73, ti_128, ti_61] at c2 ⊢; omega)
    refine lv_aload_n hx hb dX6_addPart_7 rfl (lv_at hl 0 rfl) ?_
    obtain ⟨y1_4, y2_4, he4⟩ := ok_X6 hok ha0
    refine th_get hx hb (ly_X6 hE) hown hK hP ha0.1 he4 rfl 1 (by decide) (wd_339 hE) (fun _ h9 => h9) rfl dX6_addPart_8 ?_
    refine lv_lload_n hx hb dX6_addPart_11 rfl (lv_at hl 2 rfl) ?_
    refine lv_lmul hx hb dX6_addPart_12 ?_
    refine lv_topl (fun x5 _ => ?_)
    refine lv_lload_n hx hb dX6_addPart_13 rfl (lv_at hl 1 rfl) ?_
    refine lv_aload_n hx hb dX6_addPart_14 rfl (lv_at hl 0 rfl) ?_
    refine th_get hx hb (ly_X6 hE) hown hK hP ha0.1 he4 rfl 2 (by decide) (wd_340 hE) (fun _ h9 => h9) rfl dX6_addPart_15 ?_
    refine lv_lmul hx hb dX6_addPart_18 ?_
    refine lv_topl (fun x6 _ => ?_)
    refine lv_ladd hx hb dX6_addPart_19 ?_
    refine lv_topl (fun x7 _ => ?_)
    refine lv_lstore (lv' := [(5, .long x7), (0, .ref a0), (1, .long v1), (3, .long v2)]) hx hb dX6_addPart_20 hl (by decide) rfl (fun ls hl => ?_)
    refine lv_aload_n hx hb dX6_addPart_22 rfl (lv_at hl 1 rfl) ?_
    refine th_get hx hb (ly_X6 hE) hown hK hP ha0.1 he4 rfl 2 (by decide) (wd_340 hE) (fun _ h9 => h9) rfl dX6_addPart_23 ?_
    refine lv_lload_n hx hb dX6_addPart_26 rfl (lv_at hl 3 rfl) ?_
    refine lv_lmul hx hb dX6_addPart_27 ?_
    refine lv_topl (fun x8 _ => ?_)
    refine lv_lstore (lv' := [(7, .long x8), (5, .long x7), (0, .ref a0), (1, .long v1), (3, .long v2)]) hx hb dX6_addPart_28 hl (by decide) rfl (fun ls hl => ?_)
    refine lv_lload hx hb dX6_addPart_30 (lv_at hl 1 rfl) ?_
    refine lv_lload hx hb dX6_addPart_32 (lv_at hl 0 rfl) ?_
    refine vp_callSl (va_Run.run (va_runSN (As := [.long x7, .long x8]) (rest := []) ⟨hx, hb, hml, hown, noTs⟩ (t_X11_greatestDivisor l dC dI s.heap.size G cs tt mm x7 x8) ⟨cnE 2 (wd_1089 hE) (wd_115 hE) (wd_1203 hE) rfl rfl (by decide +kernel) ⟨Nat.le_of_ble_eq_true rfl, Nat.le_of_ble_eq_true rfl⟩, (wd_1088 hE), trivial⟩ ⟨PT.blind, (th_pre (av := [.long x7, .long x8]) trivial hK hP hok hnd hWT hE)⟩ rfl rfl hl.1 rfl (lv_room (Nat.le_of_ble_eq_true rfl)) dX6_addPart_34 ⟨Nat.le_of_ble_eq_true rfl, Nat.le_of_ble_eq_true rfl⟩)) (fun r9 hr9 => ?_)
    refine lv_lstore (lv' := [(9, .long r9), (7, .long x8), (5, .long x7), (0, .ref a0), (1, .long v1), (3, .long v2)]) hx hb dX6_addPart_37 hl (by decide) rfl (fun ls hl => ?_)
    refine lv_aload_n hx hb dX6_addPart_39 rfl (lv_at hl 3 rfl) ?_
    refine lv_lload hx hb dX6_addPart_40 (lv_at hl 0 rfl) ?_
    refine lv_lconst (v := 1) hx hb dX6_addPart_42 (by decide) ?_
    refine W.lcmp hx hb dX6_addPart_43 ?_
    refine lv_topi (fun x10 ex10 => ?_)
    refine lv_if_ge (tgt := 51) hx hb dX6_addPart_44 (by decide) (fun c11 => ?_) (fun c11 => ?_)
    · have nz12 : ¬ r9 = 0 := lc_ge1 ex10 (by simp only [i_lt, i_le, i_eq, ti_m9, ti_m1, ti_0, ti_1, ti_2, ti_3, ti_4, ti_5, ti_6, ti_7, ti_9, ti_12, ti_20, ti_99, ti_700, ti_24, ti_156, ti_72, ti_8, ti_60, ti_543, ti_10, ti_33, ti_51, ti_178, ti_119, ti_111, ti_114, ti_100, ti_32, ti_62, ti_59, ti_48, ti_701, ti_97, ti_122, ti_57, ti_73, ti_128, ti_61] at c11 ⊢; omega)
      refine lv_lload hx hb dX6_addPart_51 (lv_at hl 2 rfl) ?_
      refine lv_lload hx hb dX6_addPart_53 (lv_at hl 0 rfl) ?_
      refine lv_ldiv hx hb dX6_addPart_55 nz12 ?_
      refine lv_topl (fun x13 _ => ?_)
      refine th_put (v := .long x13) (ty := .long) hx hb (ly_X6 hE) tyX6 tyX6_ok nmX6 hown hK hP hnd hAL hS ha0.1 he4 rfl 1 (by decide) (wd_339 hE) (fun _ h9 => h9) rfl (by decide +kernel) rfl rfl (Nat.le_of_ble_eq_true rfl) (up_X6 hok ha0 ⟨x13, y2_4, rfl⟩) dX6_addPart_56 (fun f14 H locs hfa14 hfo14 hok hP hS => ?_)
      refine lv_aload_n hx hb dX6_addPart_59 rfl (lv_at hl 3 rfl) ?_
      refine lv_lload hx hb dX6_addPart_60 (lv_at hl 0 rfl) ?_
      refine lv_lconst (v := 1) hx hb dX6_addPart_62 (by decide) ?_
      refine W.lcmp hx hb dX6_addPart_63 ?_
      refine lv_topi (fun x15 ex15 => ?_)
      refine lv_if_ge (tgt := 71) hx hb dX6_addPart_64 (by decide) (fun c16 => ?_) (fun c16 => ?_)
      · have nz17 : ¬ r9 = 0 := lc_ge1 ex15 (by simp only [i_lt, i_le, i_eq, ti_m9, ti_m1, ti_0, ti_1, ti_2, ti_3, ti_4, ti_5, ti_6, ti_7, ti_9, ti_12, ti_20, ti_99, ti_700, ti_24, ti_156, ti_72, ti_8, ti_60, ti_543, ti_10, ti_33, ti_51, ti_178, ti_119, ti_111, ti_114, ti_100, ti_32, ti_62, ti_59, ti_48, ti_701, ti_97, ti_122, ti_57, ti_73, ti_128, ti_61] at c16 ⊢; omega)
        refine lv_lload hx hb dX6_addPart_71 (lv_at hl 1 rfl) ?_
        refine lv_lload hx hb dX6_addPart_73 (lv_at hl 0 rfl) ?_
        refine lv_ldiv hx hb dX6_addPart_75 nz17 ?_
        refine lv_topl (fun x18 _ => ?_)
        refine th_put (v := .long x18) (ty := .long) hx hb (ly_X6 hE) tyX6 tyX6_ok nmX6 hown hK hP hnd hAL hS ha0.1 hfa14 rfl 2 (by decide) (wd_340 hE) (fun _ h9 => h9) rfl (by decide +kernel) rfl rfl (Nat.le_of_ble_eq_true rfl) (up_X6 hok ha0 ⟨x13, x18, rfl⟩) dX6_addPart_76 (fun f19 H locs hfa19 hfo19 hok hP hS => ?_)
        exact W.vret hx hb hr (fun t ht hW => ⟨⟨f19, rfl, trivial, hok, by rw [ht]; exact hP⟩, hS.F ht⟩) hS.2.2 dX6_addPart_79
      · refine lv_lconst (v := 1) hx hb dX6_addPart_67 (by decide) ?_
        refine lv_goto (tgt := 76) hx hb dX6_addPart_68 (by decide) ?_
        refine th_put (v := .long 1) (ty := .long) hx hb (ly_X6 hE) tyX6 tyX6_ok nmX6 hown hK hP hnd hAL hS ha0.1 hfa14 rfl 2 (by decide) (wd_340 hE) (fun _ h9 => h9) rfl (by decide +kernel) rfl rfl (Nat.le_of_ble_eq_true rfl) (up_X6 hok ha0 ⟨x13, 1, rfl⟩) dX6_addPart_76 (fun f20 H locs hfa20 hfo20 hok hP hS => ?_)
        exact W.vret hx hb hr (fun t ht hW => ⟨⟨f20, rfl, trivial, hok, by rw [ht]; exact hP⟩, hS.F ht⟩) hS.2.2 dX6_addPart_79
    · refine lv_lconst (v := 0) hx hb dX6_addPart_47 (by decide) ?_
      refine lv_goto (tgt := 56) hx hb dX6_addPart_48 (by decide) ?_
      refine th_put (v := .long 0) (ty := .long) hx hb (ly_X6 hE) tyX6 tyX6_ok nmX6 hown hK hP hnd hAL hS ha0.1 he4 rfl 1 (by decide) (wd_339 hE) (fun _ h9 => h9) rfl (by decide +kernel) rfl rfl (Nat.le_of_ble_eq_true rfl) (up_X6 hok ha0 ⟨0, y2_4, rfl⟩) dX6_addPart_56 (fun f21 H locs hfa21 hfo21 hok hP hS => ?_)
      refine lv_aload_n hx hb dX6_addPart_59 rfl (lv_at hl 3 rfl) ?_
      refine lv_lload hx hb dX6_addPart_60 (lv_at hl 0 rfl) ?_
      refine lv_lconst (v := 1) hx hb dX6_addPart_62 (by decide) ?_
      refine W.lcmp hx hb dX6_addPart_63 ?_
      refine lv_topi (fun x22 ex22 => ?_)
      refine lv_if_ge (tgt := 71) hx hb dX6_addPart_64 (by decide) (fun c23 => ?_) (fun c23 => ?_)
      · have nz24 : ¬ r9 = 0 := lc_ge1 ex22 (by simp only [i_lt, i_le, i_eq, ti_m9, ti_m1, ti_0, ti_1, ti_2, ti_3, ti_4, ti_5, ti_6, ti_7, ti_9, ti_12, ti_20, ti_99, ti_700, ti_24, ti_156, ti_72, ti_8, ti_60, ti_543, ti_10, ti_33, ti_51, ti_178, ti_119, ti_111, ti_114, ti_100, ti_32, ti_62, ti_59, ti_48, ti_701, ti_97, ti_122, ti_57, ti_73, ti_128, ti_61] at c23 ⊢; omega)
        refine lv_lload hx hb dX6_addPart_71 (lv_at hl 1 rfl) ?_
        refine lv_lload hx hb dX6_addPart_73 (lv_at hl 0 rfl) ?_
        refine lv_ldiv hx hb dX6_addPart_75 nz24 ?_
        refine lv_topl (fun x25 _ => ?_)
        refine th_put (v := .long x25) (ty := .long) hx hb (ly_X6 hE) tyX6 tyX6_ok nmX6 hown hK hP hnd hAL hS ha0.1 hfa21 rfl 2 (by decide) (wd_340 hE) (fun _ h9 => h9) rfl (by decide +kernel) rfl rfl (Nat.le_of_ble_eq_true rfl) (up_X6 hok ha0 ⟨0, x25, rfl⟩) dX6_addPart_76 (fun f26 H locs hfa26 hfo26 hok hP hS => ?_)
        exact W.vret hx hb hr (fun t ht hW => ⟨⟨f26, rfl, trivial, hok, by rw [ht]; exact hP⟩, hS.F ht⟩) hS.2.2 dX6_addPart_79
      · refine lv_lconst (v := 1) hx hb dX6_addPart_67 (by decide) ?_
        refine lv_goto (tgt := 76) hx hb dX6_addPart_68 (by decide) ?_
        refine th_put (v := .long 1) (ty := .long) hx hb (ly_X6 hE) tyX6 tyX6_ok nmX6 hown hK hP hnd hAL hS ha0.1 hfa21 rfl 2 (by decide) (wd_340 hE) (fun _ h9 => h9) rfl (by decide +kernel) rfl rfl (Nat.le_of_ble_eq_true rfl) (up_X6 hok ha0 ⟨0, 1, rfl⟩) dX6_addPart_76 (fun f27 H locs hfa27 hfo27 hok hP hS => ?_)
        exact W.vret hx hb hr (fun t ht hW => ⟨⟨f27, rfl, trivial, hok, by rw [ht]; exact hP⟩, hS.F ht⟩) hS.2.2 dX6_addPart_79
  · exact W.vret hx hb hr (fun t ht hW => ⟨⟨f0, rfl, trivial, hok, by rw [ht]; exact hP⟩, hS.F ht⟩) hS.2.2 dX6_addPart_6
