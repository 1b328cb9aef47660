set_option maxHeartbeats 4000000 in
set_option maxRecDepth 100000 in
theorem t_X2_appendTurned (l : Launch) (dC : Nat → ClassId) (dI : Nat → Nat → Nat) (sz : Nat) (G : GT) (cs : Nat → ClassId) (tt mm : Nat) (a0 : Nat) (ha0 : Ty G a0 7) (a1 : Nat) (ha1 : Ty G a1 10) (a2 : Nat) (ha2 : Ty G a2 10) : Met l yX2_appendTurned [.code yX2_appendTurned cX2_appendTurned 4 none] ({ frames := 3, cells := 0, slots := 0, locals := 120 }) (PT [.ref a0, .ref a1, .ref a2] sz dC dI G cs tt mm (fun _ => True)) (va_Qv (fun (u : Nat → va_E) => True) (BT dC dI G cs tt mm) (AT G sz)) 0 0 (AT G sz) := by
  refine Met.ofW (cc := cX2_appendTurned) (maxL := 4) (ret := none) (by decide) rfl ?_
  intro p e s m args below meth c s₁ B hml hv
  obtain ⟨rfl, hsz, ⟨f0, hok, hP, hX⟩, hK, hnd, hWT, hE⟩ := hv
  have hx := B.exec
  have hb := B.bytes
  have hr := B.returns
  have hown : s.vm.findClass RX2 = some m.cls := findClass_of_methodNamed B.named
  have hlocks := B.notSynchronized
  subst hsz
  have hAL : ∀ a, a ∈ gL G → AT G s.heap.size a := fun a h => Or.inl h
  have hA : ∀ q : Nat, s.heap.size ≤ q → AT G s.heap.size q := fun q h => Or.inr h
  have hS : va_S (AT G s.heap.size) s.heap s.heap [] := va_S.rf
  have hl := lv_entry ([.ref a0, .ref a1, .ref a2]) (n := 4) (Nat.le_of_ble_eq_true rfl)
  rw [lg_entry_eq]
  generalize (lg_sl ([.ref a0, .ref a1, .ref a2]) ++ List.replicate (4 - (lg_sl ([.ref a0, .ref a1, .ref a2])).length) Slot.unset).toArray = ls at hl ⊢
  have hl : lv_has ls 4 [(0, .ref a0), (1, .ref a1), (2, .ref a2)] := hl
  refine lv_aload_n hx hb dX2_appendTurned_0 rfl (lv_at hl 1 rfl) ?_
  refine lv_aload_n hx hb dX2_appendTurned_1 rfl (lv_at hl 2 rfl) ?_
  obtain ⟨y2_1, y3_1, hy3_1, he1⟩ := ok_X10 hok ha2
  refine vp_callSi (va_Run.run (va_runV (As := []) (rest := [.ref a1]) ⟨hx, hb, hml, hown, noTs⟩ (t_X10_lastNumber l dC dI s.heap.size G cs tt mm a2 ha2) ⟨cbE 0 (wd_649 hE) (wd_120 hE) (wd_851 hE) rfl rfl (by decide +kernel) ⟨Nat.le_of_ble_eq_true rfl, Nat.le_of_ble_eq_true rfl⟩, (wd_647 hE), (wd_648 hE)⟩ ⟨PT.blind, th_recv hK hP ha2.1 he1 rfl, (th_pre (av := [.ref a2]) trivial hK hP hok hnd hWT hE)⟩ rfl rfl hl.1 rfl (lv_room (Nat.le_of_ble_eq_true rfl)) dX2_appendTurned_2 ⟨Nat.le_of_ble_eq_true rfl, Nat.le_of_ble_eq_true rfl⟩)) (fun r2 hr2 => ?_)
  refine lv_ineg hx hb dX2_appendTurned_5 ?_
  refine lv_topi (fun x3 _ => ?_)
  refine lv_aload_n hx hb dX2_appendTurned_6 rfl (lv_at hl 0 rfl) ?_
  refine lv_aload_n hx hb dX2_appendTurned_7 rfl (lv_at hl 0 rfl) ?_
  refine lv_aload_n hx hb dX2_appendTurned_8 rfl (lv_at hl 2 rfl) ?_
  have he4 := ok_X7 hok ha0
  refine vp_callSi (va_Run.run (va_runV (As := [.ref a2]) (rest := [.ref a0, .int x3, .ref a1]) ⟨hx, hb, hml, hown, noTs⟩ (t_X7_endOf l dC dI s.heap.size G cs tt mm a0 ha0 a2 ha2) ⟨cbE 1 (wd_828 hE) (wd_116 hE) (wd_930 hE) rfl rfl (by decide +kernel) ⟨Nat.le_of_ble_eq_true rfl, Nat.le_of_ble_eq_true rfl⟩, (wd_826 hE), (wd_827 hE)⟩ ⟨PT.blind, th_recv hK hP ha0.1 he4 rfl, (th_pre (av := [.ref a0, .ref a2]) trivial hK hP hok hnd hWT hE)⟩ rfl rfl hl.1 rfl (lv_room (Nat.le_of_ble_eq_true rfl)) dX2_appendTurned_9 ⟨Nat.le_of_ble_eq_true rfl, Nat.le_of_ble_eq_true rfl⟩)) (fun r5 hr5 => ?_)
  refine vp_callSi (va_Run.run (va_runV (As := [.int r5]) (rest := [.int x3, .ref a1]) ⟨hx, hb, hml, hown, noTs⟩ (t_X7_orderAt l dC dI s.heap.size G cs tt mm a0 ha0 r5) ⟨cbE 1 (wd_614 hE) (wd_116 hE) (wd_844 hE) rfl rfl (by decide +kernel) ⟨Nat.le_of_ble_eq_true rfl, Nat.le_of_ble_eq_true rfl⟩, (wd_612 hE), (wd_613 hE)⟩ ⟨PT.blind, th_recv hK hP ha0.1 he4 rfl, (th_pre (av := [.ref a0, .int r5]) trivial hK hP hok hnd hWT hE)⟩ rfl rfl hl.1 rfl (lv_room (Nat.le_of_ble_eq_true rfl)) dX2_appendTurned_12 ⟨Nat.le_of_ble_eq_true rfl, Nat.le_of_ble_eq_true rfl⟩)) (fun r6 hr6 => ?_)
  obtain ⟨y2_7, y3_7, hy3_7, he7⟩ := ok_X10 hok ha1
  refine tc_v hAL hS hA (va_runV (As := [.int x3, .int r6]) (rest := []) ⟨hx, hb, hml, hown, noTs⟩ (t_X10_addLast l dC dI s.heap.size G cs tt mm a1 ha1 x3 r6) ⟨cbE 2 (wd_645 hE) (wd_120 hE) (wd_845 hE) rfl rfl (by decide +kernel) ⟨Nat.le_of_ble_eq_true rfl, Nat.le_of_ble_eq_true rfl⟩, (wd_643 hE), (wd_644 hE)⟩ ⟨PT.blind, th_recv hK hP ha1.1 he7 rfl, (th_pre (av := [.ref a1, .int x3, .int r6]) trivial hK hP hok hnd hWT hE)⟩ rfl rfl hl.1 rfl (lv_room (Nat.le_of_ble_eq_true rfl)) dX2_appendTurned_15 ⟨Nat.le_of_ble_eq_true rfl, Nat.le_of_ble_eq_true rfl⟩) (fun f8 H locs hr8 hok hP hS => ?_)
  refine lv_aload_n hx hb dX2_appendTurned_18 rfl (lv_at hl 2 rfl) ?_
  obtain ⟨y2_9, y3_9, hy3_9, he9⟩ := ok_X10 hok ha2
  refine vp_callSi (va_Run.run (va_runV (As := []) (rest := []) ⟨hx, hb, hml, hown, noTs⟩ (t_X10_size l dC dI H.size G cs tt mm a2 ha2 y2_9 y3_9) ⟨cbE 0 (wd_666 hE) (wd_120 hE) (wd_846 hE) rfl rfl (by decide +kernel) ⟨Nat.le_of_ble_eq_true rfl, Nat.le_of_ble_eq_true rfl⟩, (wd_664 hE), (wd_665 hE)⟩ ⟨PT.blind, th_recv hK hP ha2.1 he9 rfl, (th_pre (av := [.ref a2]) he9 hK hP hok hnd hWT hE)⟩ rfl rfl hl.1 rfl (lv_room (Nat.le_of_ble_eq_true rfl)) dX2_appendTurned_19 ⟨Nat.le_of_ble_eq_true rfl, Nat.le_of_ble_eq_true rfl⟩)) (fun r10 hr10 => ?_)
  subst hr10
  refine lv_iconst (v := 1) hx hb dX2_appendTurned_22 (by decide) ?_
  refine lv_isub hx hb dX2_appendTurned_23 ?_
  refine lv_topi (fun x11 ex11 => ?_)
  refine lv_istore_n (lv' := [(3, .int x11), (0, .ref a0), (1, .ref a1), (2, .ref a2)]) hx hb dX2_appendTurned_24 rfl hl (by decide) rfl (fun ls hl => ?_)
  refine w_ind (I := fun n f H locs ls => OKT G cs tt mm f ∧ va_P (dC, dI) vwCl (va_pl (gL G) f) H ∧ va_S (AT G s.heap.size) s.heap H locs ∧ ∃ (w3_12 : Int32), n = (w3_12.toInt + 2147483648).toNat ∧ lv_has ls 4 [(0, .ref a0), (1, .ref a1), (2, .ref a2), (3, .int w3_12)]) (fun n f12 H locs ls hI ih12 => ?_) _ f8 _ _ _ ⟨hok, hP, hS, x11, rfl, lv_sub hl [1, 2, 3, 0] rfl⟩
  obtain ⟨hok, hP, hS, w3_12, hmu12, hl⟩ := hI
  subst hmu12
  refine lv_iload_n hx hb dX2_appendTurned_25 rfl (lv_at hl 3 rfl) ?_
  refine lv_if_lt (tgt := 55) hx hb dX2_appendTurned_26 (by decide) (fun c13 => ?_) (fun c13 => ?_)
  · exact W.vret hx hb hr (fun t ht hW => ⟨⟨f12, rfl, trivial, hok, by rw [ht]; exact hP⟩, hS.F ht⟩) hS.2.2 dX2_appendTurned_55
  · refine lv_aload_n hx hb dX2_appendTurned_29 rfl (lv_at hl 0 rfl) ?_
    refine lv_aload_n hx hb dX2_appendTurned_30 rfl (lv_at hl 1 rfl) ?_
    refine lv_aload_n hx hb dX2_appendTurned_31 rfl (lv_at hl 2 rfl) ?_
    refine lv_iload_n hx hb dX2_appendTurned_32 rfl (lv_at hl 3 rfl) ?_
    obtain ⟨y2_14, y3_14, hy3_14, he14⟩ := ok_X10 hok ha2
    refine vp_callSi (va_Run.run (va_runV (As := [.int w3_12]) (rest := [.ref a1, .ref a0]) ⟨hx, hb, hml, hown, noTs⟩ (t_X10_stepAt l dC dI H.size G cs tt mm a2 ha2 w3_12) ⟨cbE 1 (wd_721 hE) (wd_120 hE) (wd_847 hE) rfl rfl (by decide +kernel) ⟨Nat.le_of_ble_eq_true rfl, Nat.le_of_ble_eq_true rfl⟩, (wd_719 hE), (wd_720 hE)⟩ ⟨PT.blind, th_recv hK hP ha2.1 he14 rfl, (th_pre (av := [.ref a2, .int w3_12]) trivial hK hP hok hnd hWT hE)⟩ rfl rfl hl.1 rfl (lv_room (Nat.le_of_ble_eq_true rfl)) dX2_appendTurned_33 ⟨Nat.le_of_ble_eq_true rfl, Nat.le_of_ble_eq_true rfl⟩)) (fun r15 hr15 => ?_)
    refine vp_callSi (va_Run.run (va_runSN (As := [.int r15]) (rest := [.ref a1, .ref a0]) ⟨hx, hb, hml, hown, noTs⟩ (t_X11_opposite l dC dI H.size G cs tt mm r15) ⟨cnE 1 (wd_865 hE) (wd_115 hE) (wd_863 hE) rfl rfl (by decide +kernel) ⟨Nat.le_of_ble_eq_true rfl, Nat.le_of_ble_eq_true rfl⟩, (wd_864 hE), trivial⟩ ⟨PT.blind, (th_pre (av := [.int r15]) trivial hK hP hok hnd hWT hE)⟩ rfl rfl hl.1 rfl (lv_room (Nat.le_of_ble_eq_true rfl)) dX2_appendTurned_36 ⟨Nat.le_of_ble_eq_true rfl, Nat.le_of_ble_eq_true rfl⟩)) (fun r16 hr16 => ?_)
    refine lv_aload_n hx hb dX2_appendTurned_39 rfl (lv_at hl 2 rfl) ?_
    refine lv_iload_n hx hb dX2_appendTurned_40 rfl (lv_at hl 3 rfl) ?_
    refine vp_callSi (va_Run.run (va_runV (As := [.int w3_12]) (rest := [.int r16, .ref a1, .ref a0]) ⟨hx, hb, hml, hown, noTs⟩ (t_X10_numberAt l dC dI H.size G cs tt mm a2 ha2 w3_12) ⟨cbE 1 (wd_717 hE) (wd_120 hE) (wd_843 hE) rfl rfl (by decide +kernel) ⟨Nat.le_of_ble_eq_true rfl, Nat.le_of_ble_eq_true rfl⟩, (wd_715 hE), (wd_716 hE)⟩ ⟨PT.blind, th_recv hK hP ha2.1 he14 rfl, (th_pre (av := [.ref a2, .int w3_12]) trivial hK hP hok hnd hWT hE)⟩ rfl rfl hl.1 rfl (lv_room (Nat.le_of_ble_eq_true rfl)) dX2_appendTurned_41 ⟨Nat.le_of_ble_eq_true rfl, Nat.le_of_ble_eq_true rfl⟩)) (fun r17 hr17 => ?_)
    refine lv_ineg hx hb dX2_appendTurned_44 ?_
    refine lv_topi (fun x18 _ => ?_)
    refine tc_i hAL hS hA (va_runS (As := [.ref a0, .ref a1, .int r16, .int x18]) (rest := []) ⟨hx, hb, hml, hown, noTs⟩ (t_X2_takeStep l dC dI H.size G cs tt mm a0 ha0 a1 ha1 r16 x18) ⟨cbE 4 (wd_850 hE) (wd_134 hE) (wd_848 hE) rfl rfl (by decide +kernel) ⟨Nat.le_of_ble_eq_true rfl, Nat.le_of_ble_eq_true rfl⟩, (wd_849 hE)⟩ ⟨PT.blind, (th_pre (av := [.ref a0, .ref a1, .int r16, .int x18]) trivial hK hP hok hnd hWT hE)⟩ rfl rfl hl.1 rfl (lv_room (Nat.le_of_ble_eq_true rfl)) dX2_appendTurned_45 ⟨Nat.le_of_ble_eq_true rfl, Nat.le_of_ble_eq_true rfl⟩) (fun r19 f19 H locs hr19 hok hP hS => ?_)
    refine lv_pop hx hb dX2_appendTurned_48 rfl ?_
    obtain ⟨z20, ez20⟩ : ∃ z : Int32, z = w3_12 + (-1) := ⟨_, rfl⟩
    refine lv_iinc (v := z20) (lv' := [(3, .int z20), (0, .ref a0), (1, .ref a1), (2, .ref a2)]) hx hb dX2_appendTurned_49 hl (k := 3) rfl (by rw [ez20]; rfl) (by decide) rfl (fun ls hl => ?_)
    have ic20 : z20.toInt = w3_12.toInt - 1 := by rw [ez20]; exact ic_dn (by have := i_rng w3_12; simp only [i_lt, i_le, i_eq, ti_m9, ti_m1, ti_0, ti_1, ti_2, ti_3, ti_4, ti_5, ti_6, ti_7, ti_9, ti_12, ti_20, ti_99, ti_700, ti_24, ti_156, ti_72, ti_8, ti_60, ti_543, ti_10, ti_33, ti_51, ti_178, ti_119, ti_111, ti_114, ti_100, ti_32, ti_62, ti_59, ti_48, ti_701, ti_97, ti_122, ti_57, ti_73, ti_128] at c13 ⊢; omega)
    refine lv_goto (tgt := 25) hx hb dX2_appendTurned_52 (by decide) ?_
    exact ih12 _ f19 _ _ _ (by have := i_rng z20; first | omega | (simp only [i_lt, i_le, i_eq, ti_m9, ti_m1, ti_0, ti_1, ti_2, ti_3, ti_4, ti_5, ti_6, ti_7, ti_9, ti_12, ti_20, ti_99, ti_700, ti_24, ti_156, ti_72, ti_8, ti_60, ti_543, ti_10, ti_33, ti_51, ti_178, ti_119, ti_111, ti_114, ti_100, ti_32, ti_62, ti_59, ti_48, ti_701, ti_97, ti_122, ti_57, ti_73, ti_128, ic20] at c13 ic20 ⊢; omega)) ⟨hok, hP, hS, z20, rfl, lv_sub hl [1, 2, 3, 0] rfl⟩

set_option maxHeartbeats 4000000 in
set_option maxRecDepth 100000 in
theorem t_X2_reduce (l : Launch) (dC : Nat → ClassId) (dI : Nat → Nat → Nat) (sz : Nat) (G : GT) (cs : Nat → ClassId) (tt mm : Nat) (a0 : Nat) (ha0 : Ty G a0 7) (a1 : Nat) (ha1 : Ty G a1 10) (a2 : Nat) (ha2 : Ty G a2 10) : Met l yX2_reduce [.code yX2_reduce cX2_reduce 3 (some .int)] ({ frames := 4, cells := 0, slots := 0, locals := 160 }) (PT [.ref a0, .ref a1, .ref a2] sz dC dI G cs tt mm (fun _ => True)) (va_Qi (fun (r : Int32) (u : Nat → va_E) => True) (BT dC dI G cs tt mm) (AT G sz)) 0 0 (AT G sz) := by
  refine Met.ofW (cc := cX2_reduce) (maxL := 3) (ret := (some .int)) (by decide) rfl ?_
  intro p e s m args below meth c s₁ B hml hv
  obtain ⟨rfl, hsz, ⟨f0, hok, hP, hX⟩, hK, hnd, hWT, hE⟩ := hv
  have hx := B.exec
  have hb := B.bytes
  have hr := B.returns
  have hown : s.vm.findClass RX2 = some m.cls := findClass_of_methodNamed B.named
  have hlocks := B.notSynchronized
  subst hsz
  have hAL : ∀ a, a ∈ gL G → AT G s.heap.size a := fun a h => Or.inl h
  have hA : ∀ q : Nat, s.heap.size ≤ q → AT G s.heap.size q := fun q h => Or.inr h
  have hS : va_S (AT G s.heap.size) s.heap s.heap [] := va_S.rf
  have hl := lv_entry ([.ref a0, .ref a1, .ref a2]) (n := 3) (Nat.le_of_ble_eq_true rfl)
  rw [lg_entry_eq]
  generalize (lg_sl ([.ref a0, .ref a1, .ref a2]) ++ List.replicate (3 - (lg_sl ([.ref a0, .ref a1, .ref a2])).length) Slot.unset).toArray = ls at hl ⊢
  have hl : lv_has ls 3 [(0, .ref a0), (1, .ref a1), (2, .ref a2)] := hl
  refine lv_aload_n hx hb dX2_reduce_0 rfl (lv_at hl 2 rfl) ?_
  refine lv_aload_n hx hb dX2_reduce_1 rfl (lv_at hl 1 rfl) ?_
  obtain ⟨y2_1, y3_1, hy3_1, he1⟩ := ok_X10 hok ha1
  refine vp_callSi (va_Run.run (va_runV (As := []) (rest := [.ref a2]) ⟨hx, hb, hml, hown, noTs⟩ (t_X10_begin l dC dI s.heap.size G cs tt mm a1 ha1) ⟨cbE 0 (wd_713 hE) (wd_120 hE) (wd_838 hE) rfl rfl (by decide +kernel) ⟨Nat.le_of_ble_eq_true rfl, Nat.le_of_ble_eq_true rfl⟩, (wd_711 hE), (wd_712 hE)⟩ ⟨PT.blind, th_recv hK hP ha1.1 he1 rfl, (th_pre (av := [.ref a1]) trivial hK hP hok hnd hWT hE)⟩ rfl rfl hl.1 rfl (lv_room (Nat.le_of_ble_eq_true rfl)) dX2_reduce_2 ⟨Nat.le_of_ble_eq_true rfl, Nat.le_of_ble_eq_true rfl⟩)) (fun r2 hr2 => ?_)
  refine lv_iconst (v := 0) hx hb dX2_reduce_5 (by decide) ?_
  obtain ⟨y2_3, y3_3, hy3_3, he3⟩ := ok_X10 hok ha2
  refine tc_v hAL hS hA (va_runV (As := [.int r2, .int 0]) (rest := []) ⟨hx, hb, hml, hown, noTs⟩ (t_X10_start l dC dI s.heap.size G cs tt mm a2 ha2 r2 0) ⟨cbE 2 (wd_637 hE) (wd_120 hE) (wd_839 hE) rfl rfl (by decide +kernel) ⟨Nat.le_of_ble_eq_true rfl, Nat.le_of_ble_eq_true rfl⟩, (wd_635 hE), (wd_636 hE)⟩ ⟨PT.blind, th_recv hK hP ha2.1 he3 rfl, (th_pre (av := [.ref a2, .int r2, .int 0]) trivial hK hP hok hnd hWT hE)⟩ rfl rfl hl.1 rfl (lv_room (Nat.le_of_ble_eq_true rfl)) dX2_reduce_6 ⟨Nat.le_of_ble_eq_true rfl, Nat.le_of_ble_eq_true rfl⟩) (fun f4 H locs hr4 hok hP hS => ?_)
  refine lv_aload_n hx hb dX2_reduce_9 rfl (lv_at hl 0 rfl) ?_
  refine lv_aload_n hx hb dX2_reduce_10 rfl (lv_at hl 2 rfl) ?_
  refine lv_aload_n hx hb dX2_reduce_11 rfl (lv_at hl 1 rfl) ?_
  refine tc_i hAL hS hA (va_runS (As := [.ref a0, .ref a2, .ref a1]) (rest := []) ⟨hx, hb, hml, hown, noTs⟩ (t_X2_append l dC dI H.size G cs tt mm a0 ha0 a2 ha2 a1 ha1) ⟨cbE 3 (wd_842 hE) (wd_134 hE) (wd_840 hE) rfl rfl (by decide +kernel) ⟨Nat.le_of_ble_eq_true rfl, Nat.le_of_ble_eq_true rfl⟩, (wd_841 hE)⟩ ⟨PT.blind, (th_pre (av := [.ref a0, .ref a2, .ref a1]) trivial hK hP hok hnd hWT hE)⟩ rfl rfl hl.1 rfl (lv_room (Nat.le_of_ble_eq_true rfl)) dX2_reduce_12 ⟨Nat.le_of_ble_eq_true rfl, Nat.le_of_ble_eq_true rfl⟩) (fun r5 f5 H locs hr5 hok hP hS => ?_)
  exact W.iret (v := r5) hx hb hr (fun t ht hW => ⟨⟨r5, f5, rfl, trivial, hok, by rw [ht]; exact hP⟩, hS.F ht⟩) hS.2.2 dX2_reduce_15

set_option maxHeartbeats 4000000 in
set_option maxRecDepth 100000 in
theorem t_X2_turn (l : Launch) (dC : Nat → ClassId) (dI : Nat → Nat → Nat) (sz : Nat) (G : GT) (cs : Nat → ClassId) (tt mm : Nat) (a0 : Nat) (ha0 : Ty G a0 7) (a1 : Nat) (ha1 : Ty G a1 10) (a2 : Nat) (ha2 : Ty G a2 10) : Met l yX2_turn [.code yX2_turn cX2_turn 3 none] ({ frames := 4, cells := 0, slots := 0, locals := 160 }) (PT [.ref a0, .ref a1, .ref a2] sz dC dI G cs tt mm (fun _ => True)) (va_Qv (fun (u : Nat → va_E) => True) (BT dC dI G cs tt mm) (AT G sz)) 0 0 (AT G sz) := by
  refine Met.ofW (cc := cX2_turn) (maxL := 3) (ret := none) (by decide) rfl ?_
  intro p e s m args below meth c s₁ B hml hv
  obtain ⟨rfl, hsz, ⟨f0, hok, hP, hX⟩, hK, hnd, hWT, hE⟩ := hv
  have hx := B.exec
  have hb := B.bytes
  have hr := B.returns
  have hown : s.vm.findClass RX2 = some m.cls := findClass_of_methodNamed B.named
  have hlocks := B.notSynchronized
  subst hsz
  have hAL : ∀ a, a ∈ gL G → AT G s.heap.size a := fun a h => Or.inl h
  have hA : ∀ q : Nat, s.heap.size ≤ q → AT G s.heap.size q := fun q h => Or.inr h
  have hS : va_S (AT G s.heap.size) s.heap s.heap [] := va_S.rf
  have hl := lv_entry ([.ref a0, .ref a1, .ref a2]) (n := 3) (Nat.le_of_ble_eq_true rfl)
  rw [lg_entry_eq]
  generalize (lg_sl ([.ref a0, .ref a1, .ref a2]) ++ List.replicate (3 - (lg_sl ([.ref a0, .ref a1, .ref a2])).length) Slot.unset).toArray = ls at hl ⊢
  have hl : lv_has ls 3 [(0, .ref a0), (1, .ref a1), (2, .ref a2)] := hl
  refine lv_aload_n hx hb dX2_turn_0 rfl (lv_at hl 2 rfl) ?_
  refine lv_aload_n hx hb dX2_turn_1 rfl (lv_at hl 0 rfl) ?_
  refine lv_aload_n hx hb dX2_turn_2 rfl (lv_at hl 1 rfl) ?_
  have he1 := ok_X7 hok ha0
  refine vp_callSi (va_Run.run (va_runV (As := [.ref a1]) (rest := [.ref a2]) ⟨hx, hb, hml, hown, noTs⟩ (t_X7_endOf l dC dI s.heap.size G cs tt mm a0 ha0 a1 ha1) ⟨cbE 1 (wd_828 hE) (wd_116 hE) (wd_930 hE) rfl rfl (by decide +kernel) ⟨Nat.le_of_ble_eq_true rfl, Nat.le_of_ble_eq_true rfl⟩, (wd_826 hE), (wd_827 hE)⟩ ⟨PT.blind, th_recv hK hP ha0.1 he1 rfl, (th_pre (av := [.ref a0, .ref a1]) trivial hK hP hok hnd hWT hE)⟩ rfl rfl hl.1 rfl (lv_room (Nat.le_of_ble_eq_true rfl)) dX2_turn_3 ⟨Nat.le_of_ble_eq_true rfl, Nat.le_of_ble_eq_true rfl⟩)) (fun r2 hr2 => ?_)
  refine lv_iconst (v := 0) hx hb dX2_turn_6 (by decide) ?_
  obtain ⟨y2_3, y3_3, hy3_3, he3⟩ := ok_X10 hok ha2
  refine tc_v hAL hS hA (va_runV (As := [.int r2, .int 0]) (rest := []) ⟨hx, hb, hml, hown, noTs⟩ (t_X10_start l dC dI s.heap.size G cs tt mm a2 ha2 r2 0) ⟨cbE 2 (wd_637 hE) (wd_120 hE) (wd_839 hE) rfl rfl (by decide +kernel) ⟨Nat.le_of_ble_eq_true rfl, Nat.le_of_ble_eq_true rfl⟩, (wd_635 hE), (wd_636 hE)⟩ ⟨PT.blind, th_recv hK hP ha2.1 he3 rfl, (th_pre (av := [.ref a2, .int r2, .int 0]) trivial hK hP hok hnd hWT hE)⟩ rfl rfl hl.1 rfl (lv_room (Nat.le_of_ble_eq_true rfl)) dX2_turn_7 ⟨Nat.le_of_ble_eq_true rfl, Nat.le_of_ble_eq_true rfl⟩) (fun f4 H locs hr4 hok hP hS => ?_)
  refine lv_aload_n hx hb dX2_turn_10 rfl (lv_at hl 0 rfl) ?_
  refine lv_aload_n hx hb dX2_turn_11 rfl (lv_at hl 2 rfl) ?_
  refine lv_aload_n hx hb dX2_turn_12 rfl (lv_at hl 1 rfl) ?_
  refine tc_v hAL hS hA (va_runS (As := [.ref a0, .ref a2, .ref a1]) (rest := []) ⟨hx, hb, hml, hown, noTs⟩ (t_X2_appendTurned l dC dI H.size G cs tt mm a0 ha0 a2 ha2 a1 ha1) ⟨cbE 3 (wd_933 hE) (wd_134 hE) (wd_931 hE) rfl rfl (by decide +kernel) ⟨Nat.le_of_ble_eq_true rfl, Nat.le_of_ble_eq_true rfl⟩, (wd_932 hE)⟩ ⟨PT.blind, (th_pre (av := [.ref a0, .ref a2, .ref a1]) trivial hK hP hok hnd hWT hE)⟩ rfl rfl hl.1 rfl (lv_room (Nat.le_of_ble_eq_true rfl)) dX2_turn_13 ⟨Nat.le_of_ble_eq_true rfl, Nat.le_of_ble_eq_true rfl⟩) (fun f5 H locs hr5 hok hP hS => ?_)
  exact W.vret hx hb hr (fun t ht hW => ⟨⟨f5, rfl, trivial, hok, by rw [ht]; exact hP⟩, hS.F ht⟩) hS.2.2 dX2_turn_16

set_option maxHeartbeats 4000000 in
set_option maxRecDepth 100000 in
theorem t_X2_product (l : Launch) (dC : Nat → ClassId) (dI : Nat → Nat → Nat) (sz : Nat) (G : GT) (cs : Nat → ClassId) (tt mm : Nat) (a0 : Nat) (ha0 : Ty G a0 7) (a1 : Nat) (ha1 : Ty G a1 10) (a2 : Nat) (ha2 : Ty G a2 10) (a3 : Nat) (ha3 : Ty G a3 10) : Met l yX2_product [.code yX2_product cX2_product 4 none] ({ frames := 4, cells := 0, slots := 0, locals := 160 }) (PT [.ref a0, .ref a1, .ref a2, .ref a3] sz dC dI G cs tt mm (fun _ => True)) (va_Qv (fun (u : Nat → va_E) => True) (BT dC dI G cs tt mm) (AT G sz)) 0 0 (AT G sz) := by
  refine Met.ofW (cc := cX2_product) (maxL := 4) (ret := none) (by decide) rfl ?_
  intro p e s m args below meth c s₁ B hml hv
  obtain ⟨rfl, hsz, ⟨f0, hok, hP, hX⟩, hK, hnd, hWT, hE⟩ := hv
  have hx := B.exec
  have hb := B.bytes
  have hr := B.returns
  have hown : s.vm.findClass RX2 = some m.cls := findClass_of_methodNamed B.named
  have hlocks := B.notSynchronized
  subst hsz
  have hAL : ∀ a, a ∈ gL G → AT G s.heap.size a := fun a h => Or.inl h
  have hA : ∀ q : Nat, s.heap.size ≤ q → AT G s.heap.size q := fun q h => Or.inr h
  have hS : va_S (AT G s.heap.size) s.heap s.heap [] := va_S.rf
  have hl := lv_entry ([.ref a0, .ref a1, .ref a2, .ref a3]) (n := 4) (Nat.le_of_ble_eq_true rfl)
  rw [lg_entry_eq]
  generalize (lg_sl ([.ref a0, .ref a1, .ref a2, .ref a3]) ++ List.replicate (4 - (lg_sl ([.ref a0, .ref a1, .ref a2, .ref a3])).length) Slot.unset).toArray = ls at hl ⊢
  have hl : lv_has ls 4 [(0, .ref a0), (1, .ref a1), (2, .ref a2), (3, .ref a3)] := hl
  refine lv_aload_n hx hb dX2_product_0 rfl (lv_at hl 3 rfl) ?_
  refine lv_aload_n hx hb dX2_product_1 rfl (lv_at hl 1 rfl) ?_
  obtain ⟨y2_1, y3_1, hy3_1, he1⟩ := ok_X10 hok ha1
  refine vp_callSi (va_Run.run (va_runV (As := []) (rest := [.ref a3]) ⟨hx, hb, hml, hown, noTs⟩ (t_X10_begin l dC dI s.heap.size G cs tt mm a1 ha1) ⟨cbE 0 (wd_713 hE) (wd_120 hE) (wd_838 hE) rfl rfl (by decide +kernel) ⟨Nat.le_of_ble_eq_true rfl, Nat.le_of_ble_eq_true rfl⟩, (wd_711 hE), (wd_712 hE)⟩ ⟨PT.blind, th_recv hK hP ha1.1 he1 rfl, (th_pre (av := [.ref a1]) trivial hK hP hok hnd hWT hE)⟩ rfl rfl hl.1 rfl (lv_room (Nat.le_of_ble_eq_true rfl)) dX2_product_2 ⟨Nat.le_of_ble_eq_true rfl, Nat.le_of_ble_eq_true rfl⟩)) (fun r2 hr2 => ?_)
  refine lv_iconst (v := 0) hx hb dX2_product_5 (by decide) ?_
  obtain ⟨y2_3, y3_3, hy3_3, he3⟩ := ok_X10 hok ha3
  refine tc_v hAL hS hA (va_runV (As := [.int r2, .int 0]) (rest := []) ⟨hx, hb, hml, hown, noTs⟩ (t_X10_start l dC dI s.heap.size G cs tt mm a3 ha3 r2 0) ⟨cbE 2 (wd_637 hE) (wd_120 hE) (wd_839 hE) rfl rfl (by decide +kernel) ⟨Nat.le_of_ble_eq_true rfl, Nat.le_of_ble_eq_true rfl⟩, (wd_635 hE), (wd_636 hE)⟩ ⟨PT.blind, th_recv hK hP ha3.1 he3 rfl, (th_pre (av := [.ref a3, .int r2, .int 0]) trivial hK hP hok hnd hWT hE)⟩ rfl rfl hl.1 rfl (lv_room (Nat.le_of_ble_eq_true rfl)) dX2_product_6 ⟨Nat.le_of_ble_eq_true rfl, Nat.le_of_ble_eq_true rfl⟩) (fun f4 H locs hr4 hok hP hS => ?_)
  refine lv_aload_n hx hb dX2_product_9 rfl (lv_at hl 0 rfl) ?_
  refine lv_aload_n hx hb dX2_product_10 rfl (lv_at hl 3 rfl) ?_
  refine lv_aload_n hx hb dX2_product_11 rfl (lv_at hl 1 rfl) ?_
  refine tc_i hAL hS hA (va_runS (As := [.ref a0, .ref a3, .ref a1]) (rest := []) ⟨hx, hb, hml, hown, noTs⟩ (t_X2_append l dC dI H.size G cs tt mm a0 ha0 a3 ha3 a1 ha1) ⟨cbE 3 (wd_842 hE) (wd_134 hE) (wd_840 hE) rfl rfl (by decide +kernel) ⟨Nat.le_of_ble_eq_true rfl, Nat.le_of_ble_eq_true rfl⟩, (wd_841 hE)⟩ ⟨PT.blind, (th_pre (av := [.ref a0, .ref a3, .ref a1]) trivial hK hP hok hnd hWT hE)⟩ rfl rfl hl.1 rfl (lv_room (Nat.le_of_ble_eq_true rfl)) dX2_product_12 ⟨Nat.le_of_ble_eq_true rfl, Nat.le_of_ble_eq_true rfl⟩) (fun r5 f5 H locs hr5 hok hP hS => ?_)
  refine lv_pop hx hb dX2_product_15 rfl ?_
  refine lv_aload_n hx hb dX2_product_16 rfl (lv_at hl 0 rfl) ?_
  refine lv_aload_n hx hb dX2_product_17 rfl (lv_at hl 3 rfl) ?_
  refine lv_aload_n hx hb dX2_product_18 rfl (lv_at hl 2 rfl) ?_
  refine tc_i hAL hS hA (va_runS (As := [.ref a0, .ref a3, .ref a2]) (rest := []) ⟨hx, hb, hml, hown, noTs⟩ (t_X2_append l dC dI H.size G cs tt mm a0 ha0 a3 ha3 a2 ha2) ⟨cbE 3 (wd_842 hE) (wd_134 hE) (wd_840 hE) rfl rfl (by decide +kernel) ⟨Nat.le_of_ble_eq_true rfl, Nat.le_of_ble_eq_true rfl⟩, (wd_841 hE)⟩ ⟨PT.blind, (th_pre (av := [.ref a0, .ref a3, .ref a2]) trivial hK hP hok hnd hWT hE)⟩ rfl rfl hl.1 rfl (lv_room (Nat.le_of_ble_eq_true rfl)) dX2_product_19 ⟨Nat.le_of_ble_eq_true rfl, Nat.le_of_ble_eq_true rfl⟩) (fun r6 f6 H locs hr6 hok hP hS => ?_)
  refine lv_pop hx hb dX2_product_22 rfl ?_
  exact W.vret hx hb hr (fun t ht hW => ⟨⟨f6, rfl, trivial, hok, by rw [ht]; exact hP⟩, hS.F ht⟩) hS.2.2 dX2_product_23

set_option maxHeartbeats 4000000 in
set_option maxRecDepth 100000 in
theorem t_X2_seam (l : Launch) (dC : Nat → ClassId) (dI : Nat → Nat → Nat) (sz : Nat) (G : GT) (cs : Nat → ClassId) (tt mm : Nat) (a0 : Nat) (ha0 : Ty G a0 7) (a1 : Nat) (ha1 : Ty G a1 10) : Met l yX2_seam [.code yX2_seam cX2_seam 2 (some .int)] ({ frames := 1, cells := 0, slots := 0, locals := 40 }) (PT [.ref a0, .ref a1] sz dC dI G cs tt mm (fun _ => True)) (vp_Si (fun (r : Int32) => True)) 0 0 (fun _ => False) := by
  refine Met.ofW (cc := cX2_seam) (maxL := 2) (ret := (some .int)) (by decide) rfl ?_
  intro p e s m args below meth c s₁ B hml hv
  obtain ⟨rfl, hsz, ⟨f0, hok, hP, hX⟩, hK, hnd, hWT, hE⟩ := hv
  have hx := B.exec
  have hb := B.bytes
  have hr := B.returns
  have hown : s.vm.findClass RX2 = some m.cls := findClass_of_methodNamed B.named
  have hlocks := B.notSynchronized
  subst hsz
  have hl := lv_entry ([.ref a0, .ref a1]) (n := 2) (Nat.le_of_ble_eq_true rfl)
  rw [lg_entry_eq]
  generalize (lg_sl ([.ref a0, .ref a1]) ++ List.replicate (2 - (lg_sl ([.ref a0, .ref a1])).length) Slot.unset).toArray = ls at hl ⊢
  have hl : lv_has ls 2 [(0, .ref a0), (1, .ref a1)] := hl
  refine lv_aload_n hx hb dX2_seam_0 rfl (lv_at hl 1 rfl) ?_
  obtain ⟨y2_1, y3_1, hy3_1, he1⟩ := ok_X10 hok ha1
  refine vp_callSi (va_Run.run (va_runV (As := []) (rest := []) ⟨hx, hb, hml, hown, noTs⟩ (t_X10_lastNumber l dC dI s.heap.size G cs tt mm a1 ha1) ⟨cbE 0 (wd_649 hE) (wd_120 hE) (wd_851 hE) rfl rfl (by decide +kernel) ⟨Nat.le_of_ble_eq_true rfl, Nat.le_of_ble_eq_true rfl⟩, (wd_647 hE), (wd_648 hE)⟩ ⟨PT.blind, th_recv hK hP ha1.1 he1 rfl, (th_pre (av := [.ref a1]) trivial hK hP hok hnd hWT hE)⟩ rfl rfl hl.1 rfl (lv_room (Nat.le_of_ble_eq_true rfl)) dX2_seam_1 ⟨Nat.le_of_ble_eq_true rfl, Nat.le_of_ble_eq_true rfl⟩)) (fun r2 hr2 => ?_)
  refine lv_aload_n hx hb dX2_seam_4 rfl (lv_at hl 1 rfl) ?_
  refine lv_iconst (v := 0) hx hb dX2_seam_5 (by decide) ?_
  refine vp_callSi (va_Run.run (va_runV (As := [.int 0]) (rest := [.int r2]) ⟨hx, hb, hml, hown, noTs⟩ (t_X10_numberAt l dC dI s.heap.size G cs tt mm a1 ha1 0) ⟨cbE 1 (wd_717 hE) (wd_120 hE) (wd_843 hE) rfl rfl (by decide +kernel) ⟨Nat.le_of_ble_eq_true rfl, Nat.le_of_ble_eq_true rfl⟩, (wd_715 hE), (wd_716 hE)⟩ ⟨PT.blind, th_recv hK hP ha1.1 he1 rfl, (th_pre (av := [.ref a1, .int 0]) trivial hK hP hok hnd hWT hE)⟩ rfl rfl hl.1 rfl (lv_room (Nat.le_of_ble_eq_true rfl)) dX2_seam_6 ⟨Nat.le_of_ble_eq_true rfl, Nat.le_of_ble_eq_true rfl⟩)) (fun r3 hr3 => ?_)
  refine lv_iadd hx hb dX2_seam_9 ?_
  refine lv_topi (fun x4 ex4 => ?_)
  refine lv_aload_n hx hb dX2_seam_10 rfl (lv_at hl 0 rfl) ?_
  refine lv_aload_n hx hb dX2_seam_11 rfl (lv_at hl 1 rfl) ?_
  refine vp_callSi (va_Run.run (va_runV (As := []) (rest := [.ref a0, .int x4]) ⟨hx, hb, hml, hown, noTs⟩ (t_X10_begin l dC dI s.heap.size G cs tt mm a1 ha1) ⟨cbE 0 (wd_713 hE) (wd_120 hE) (wd_838 hE) rfl rfl (by decide +kernel) ⟨Nat.le_of_ble_eq_true rfl, Nat.le_of_ble_eq_true rfl⟩, (wd_711 hE), (wd_712 hE)⟩ ⟨PT.blind, th_recv hK hP ha1.1 he1 rfl, (th_pre (av := [.ref a1]) trivial hK hP hok hnd hWT hE)⟩ rfl rfl hl.1 rfl (lv_room (Nat.le_of_ble_eq_true rfl)) dX2_seam_12 ⟨Nat.le_of_ble_eq_true rfl, Nat.le_of_ble_eq_true rfl⟩)) (fun r5 hr5 => ?_)
  have he6 := ok_X7 hok ha0
  refine vp_callSi (va_Run.run (va_runV (As := [.int r5]) (rest := [.int x4]) ⟨hx, hb, hml, hown, noTs⟩ (t_X7_orderAt l dC dI s.heap.size G cs tt mm a0 ha0 r5) ⟨cbE 1 (wd_614 hE) (wd_116 hE) (wd_844 hE) rfl rfl (by decide +kernel) ⟨Nat.le_of_ble_eq_true rfl, Nat.le_of_ble_eq_true rfl⟩, (wd_612 hE), (wd_613 hE)⟩ ⟨PT.blind, th_recv hK hP ha0.1 he6 rfl, (th_pre (av := [.ref a0, .int r5]) trivial hK hP hok hnd hWT hE)⟩ rfl rfl hl.1 rfl (lv_room (Nat.le_of_ble_eq_true rfl)) dX2_seam_15 ⟨Nat.le_of_ble_eq_true rfl, Nat.le_of_ble_eq_true rfl⟩)) (fun r7 hr7 => ?_)
  refine vp_callSi (va_Run.run (va_runSN (As := [.int x4, .int r7]) (rest := []) ⟨hx, hb, hml, hown, noTs⟩ (t_X11_rest l dC dI s.heap.size G cs tt mm x4 r7) ⟨cnE 2 (wd_617 hE) (wd_115 hE) (wd_866 hE) rfl rfl (by decide +kernel) ⟨Nat.le_of_ble_eq_true rfl, Nat.le_of_ble_eq_true rfl⟩, (wd_616 hE), trivial⟩ ⟨PT.blind, (th_pre (av := [.int x4, .int r7]) trivial hK hP hok hnd hWT hE)⟩ rfl rfl hl.1 rfl (lv_room (Nat.le_of_ble_eq_true rfl)) dX2_seam_18 ⟨Nat.le_of_ble_eq_true rfl, Nat.le_of_ble_eq_true rfl⟩)) (fun r8 hr8 => ?_)
  obtain ⟨hra8, hrb8⟩ := hr8
  exact W.iret (v := r8) hx hb hr (fun t ht hW => ⟨r8, rfl, trivial, ht⟩) (fun _ h => absurd h List.not_mem_nil) dX2_seam_21

set_option maxHeartbeats 4000000 in
set_option maxRecDepth 100000 in
theorem t_X2_canShrink (l : Launch) (dC : Nat → ClassId) (dI : Nat → Nat → Nat) (sz : Nat) (G : GT) (cs : Nat → ClassId) (tt mm : Nat) (a0 : Nat) (ha0 : Ty G a0 7) (a1 : Nat) (ha1 : Ty G a1 10) : Met l yX2_canShrink [.code yX2_canShrink cX2_canShrink 3 (some .boolean)] ({ frames := 2, cells := 0, slots := 0, locals := 80 }) (PT [.ref a0, .ref a1] sz dC dI G cs tt mm (fun _ => True)) (vp_Si (fun (r : Int32) => r = 0 ∨ r = 1)) 0 0 (fun _ => False) := by
  refine Met.ofW (cc := cX2_canShrink) (maxL := 3) (ret := (some .boolean)) (by decide) rfl ?_
  intro p e s m args below meth c s₁ B hml hv
  obtain ⟨rfl, hsz, ⟨f0, hok, hP, hX⟩, hK, hnd, hWT, hE⟩ := hv
  have hx := B.exec
  have hb := B.bytes
  have hr := B.returns
  have hown : s.vm.findClass RX2 = some m.cls := findClass_of_methodNamed B.named
  have hlocks := B.notSynchronized
  subst hsz
  have hl := lv_entry ([.ref a0, .ref a1]) (n := 3) (Nat.le_of_ble_eq_true rfl)
  rw [lg_entry_eq]
  generalize (lg_sl ([.ref a0, .ref a1]) ++ List.replicate (3 - (lg_sl ([.ref a0, .ref a1])).length) Slot.unset).toArray = ls at hl ⊢
  have hl : lv_has ls 3 [(0, .ref a0), (1, .ref a1)] := hl
  refine lv_aload_n hx hb dX2_canShrink_0 rfl (lv_at hl 1 rfl) ?_
  refine lv_iconst (v := 0) hx hb dX2_canShrink_1 (by decide) ?_
  obtain ⟨y2_1, y3_1, hy3_1, he1⟩ := ok_X10 hok ha1
  refine vp_callSi (va_Run.run (va_runV (As := [.int 0]) (rest := []) ⟨hx, hb, hml, hown, noTs⟩ (t_X10_stepAt l dC dI s.heap.size G cs tt mm a1 ha1 0) ⟨cbE 1 (wd_721 hE) (wd_120 hE) (wd_847 hE) rfl rfl (by decide +kernel) ⟨Nat.le_of_ble_eq_true rfl, Nat.le_of_ble_eq_true rfl⟩, (wd_719 hE), (wd_720 hE)⟩ ⟨PT.blind, th_recv hK hP ha1.1 he1 rfl, (th_pre (av := [.ref a1, .int 0]) trivial hK hP hok hnd hWT hE)⟩ rfl rfl hl.1 rfl (lv_room (Nat.le_of_ble_eq_true rfl)) dX2_canShrink_2 ⟨Nat.le_of_ble_eq_true rfl, Nat.le_of_ble_eq_true rfl⟩)) (fun r2 hr2 => ?_)
  refine lv_istore_n (lv' := [(2, .int r2), (0, .ref a0), (1, .ref a1)]) hx hb dX2_canShrink_5 rfl hl (by decide) rfl (fun ls hl => ?_)
  refine lv_aload_n hx hb dX2_canShrink_6 rfl (lv_at hl 2 rfl) ?_
  refine vp_callSi (va_Run.run (va_runV (As := []) (rest := []) ⟨hx, hb, hml, hown, noTs⟩ (t_X10_size l dC dI s.heap.size G cs tt mm a1 ha1 y2_1 y3_1) ⟨cbE 0 (wd_666 hE) (wd_120 hE) (wd_846 hE) rfl rfl (by decide +kernel) ⟨Nat.le_of_ble_eq_true rfl, Nat.le_of_ble_eq_true rfl⟩, (wd_664 hE), (wd_665 hE)⟩ ⟨PT.blind, th_recv hK hP ha1.1 he1 rfl, (th_pre (av := [.ref a1]) he1 hK hP hok hnd hWT hE)⟩ rfl rfl hl.1 rfl (lv_room (Nat.le_of_ble_eq_true rfl)) dX2_canShrink_7 ⟨Nat.le_of_ble_eq_true rfl, Nat.le_of_ble_eq_true rfl⟩)) (fun r3 hr3 => ?_)
  subst hr3
  refine lv_iconst (v := 1) hx hb dX2_canShrink_10 (by decide) ?_
  have nt4 : (nI y3_1).toInt = ((y3_1 : Nat) : Int) := nI_toInt (by omega)
  refine lv_icmp_le (tgt := 45) hx hb dX2_canShrink_11 (by decide) (fun c5 => ?_) (fun c5 => ?_)
  · refine lv_iconst (v := 0) hx hb dX2_canShrink_45 (by decide) ?_
    exact W.zret (v := 0) hx hb hr rfl (fun t ht hW => ⟨0, rfl, Or.inl rfl, ht⟩) (fun _ h => absurd h List.not_mem_nil) dX2_canShrink_46
  · refine lv_aload_n hx hb dX2_canShrink_14 rfl (lv_at hl 2 rfl) ?_
    refine vp_callSi (va_Run.run (va_runV (As := []) (rest := []) ⟨hx, hb, hml, hown, noTs⟩ (t_X10_lastStep l dC dI s.heap.size G cs tt mm a1 ha1) ⟨cbE 0 (wd_832 hE) (wd_120 hE) (wd_862 hE) rfl rfl (by decide +kernel) ⟨Nat.le_of_ble_eq_true rfl, Nat.le_of_ble_eq_true rfl⟩, (wd_830 hE), (wd_831 hE)⟩ ⟨PT.blind, th_recv hK hP ha1.1 he1 rfl, (th_pre (av := [.ref a1]) trivial hK hP hok hnd hWT hE)⟩ rfl rfl hl.1 rfl (lv_room (Nat.le_of_ble_eq_true rfl)) dX2_canShrink_15 ⟨Nat.le_of_ble_eq_true rfl, Nat.le_of_ble_eq_true rfl⟩)) (fun r6 hr6 => ?_)
    refine lv_iload_n hx hb dX2_canShrink_18 rfl (lv_at hl 0 rfl) ?_
    refine vp_callSi (va_Run.run (va_runSN (As := [.int r2]) (rest := [.int r6]) ⟨hx, hb, hml, hown, noTs⟩ (t_X11_opposite l dC dI s.heap.size G cs tt mm r2) ⟨cnE 1 (wd_865 hE) (wd_115 hE) (wd_863 hE) rfl rfl (by decide +kernel) ⟨Nat.le_of_ble_eq_true rfl, Nat.le_of_ble_eq_true rfl⟩, (wd_864 hE), trivial⟩ ⟨PT.blind, (th_pre (av := [.int r2]) trivial hK hP hok hnd hWT hE)⟩ rfl rfl hl.1 rfl (lv_room (Nat.le_of_ble_eq_true rfl)) dX2_canShrink_19 ⟨Nat.le_of_ble_eq_true rfl, Nat.le_of_ble_eq_true rfl⟩)) (fun r7 hr7 => ?_)
    refine lv_icmp_ne (tgt := 45) hx hb dX2_canShrink_22 (by decide) (fun c8 => ?_) (fun c8 => ?_)
    · refine lv_iconst (v := 0) hx hb dX2_canShrink_45 (by decide) ?_
      exact W.zret (v := 0) hx hb hr rfl (fun t ht hW => ⟨0, rfl, Or.inl rfl, ht⟩) (fun _ h => absurd h List.not_mem_nil) dX2_canShrink_46
    · refine lv_aload_n hx hb dX2_canShrink_25 rfl (lv_at hl 1 rfl) ?_
      refine lv_aload_n hx hb dX2_canShrink_26 rfl (lv_at hl 2 rfl) ?_
      refine vp_callSi (va_Run.run (va_runS (As := [.ref a0, .ref a1]) (rest := []) ⟨hx, hb, hml, hown, noTs⟩ (t_X2_seam l dC dI s.heap.size G cs tt mm a0 ha0 a1 ha1) ⟨cbE 2 (wd_968 hE) (wd_134 hE) (wd_966 hE) rfl rfl (by decide +kernel) ⟨Nat.le_of_ble_eq_true rfl, Nat.le_of_ble_eq_true rfl⟩, (wd_967 hE)⟩ ⟨PT.blind, (th_pre (av := [.ref a0, .ref a1]) trivial hK hP hok hnd hWT hE)⟩ rfl rfl hl.1 rfl (lv_room (Nat.le_of_ble_eq_true rfl)) dX2_canShrink_27 ⟨Nat.le_of_ble_eq_true rfl, Nat.le_of_ble_eq_true rfl⟩)) (fun r9 hr9 => ?_)
      refine lv_aload_n hx hb dX2_canShrink_30 rfl (lv_at hl 1 rfl) ?_
      refine lv_iload_n hx hb dX2_canShrink_31 rfl (lv_at hl 0 rfl) ?_
      have he10 := ok_X7 hok ha0
      refine vp_callSi (va_Run.run (va_runV (As := [.int r2]) (rest := [.int r9]) ⟨hx, hb, hml, hown, noTs⟩ (t_X7_fromIndex l dC dI s.heap.size G cs tt mm a0 ha0 r2) ⟨cbE 1 (wd_855 hE) (wd_116 hE) (wd_852 hE) rfl rfl (by decide +kernel) ⟨Nat.le_of_ble_eq_true rfl, Nat.le_of_ble_eq_true rfl⟩, (wd_853 hE), (wd_854 hE)⟩ ⟨PT.blind, th_recv hK hP ha0.1 he10 rfl, (th_pre (av := [.ref a0, .int r2]) trivial hK hP hok hnd hWT hE)⟩ rfl rfl hl.1 rfl (lv_room (Nat.le_of_ble_eq_true rfl)) dX2_canShrink_32 ⟨Nat.le_of_ble_eq_true rfl, Nat.le_of_ble_eq_true rfl⟩)) (fun r11 hr11 => ?_)
      refine vp_callSi (va_Run.run (va_runSN (As := [.int r9, .int r11]) (rest := []) ⟨hx, hb, hml, hown, noTs⟩ (t_X11_rest l dC dI s.heap.size G cs tt mm r9 r11) ⟨cnE 2 (wd_617 hE) (wd_115 hE) (wd_866 hE) rfl rfl (by decide +kernel) ⟨Nat.le_of_ble_eq_true rfl, Nat.le_of_ble_eq_true rfl⟩, (wd_616 hE), trivial⟩ ⟨PT.blind, (th_pre (av := [.int r9, .int r11]) trivial hK hP hok hnd hWT hE)⟩ rfl rfl hl.1 rfl (lv_room (Nat.le_of_ble_eq_true rfl)) dX2_canShrink_35 ⟨Nat.le_of_ble_eq_true rfl, Nat.le_of_ble_eq_true rfl⟩)) (fun r12 hr12 => ?_)
      obtain ⟨hra12, hrb12⟩ := hr12
      refine lv_if_ne (tgt := 45) hx hb dX2_canShrink_38 (by decide) (fun c13 => ?_) (fun c13 => ?_)
      · refine lv_iconst (v := 0) hx hb dX2_canShrink_45 (by decide) ?_
        exact W.zret (v := 0) hx hb hr rfl (fun t ht hW => ⟨0, rfl, Or.inl rfl, ht⟩) (fun _ h => absurd h List.not_mem_nil) dX2_canShrink_46
      · refine lv_iconst (v := 1) hx hb dX2_canShrink_41 (by decide) ?_
        refine lv_goto (tgt := 46) hx hb dX2_canShrink_42 (by decide) ?_
        exact W.zret (v := 1) hx hb hr rfl (fun t ht hW => ⟨1, rfl, Or.inr rfl, ht⟩) (fun _ h => absurd h List.not_mem_nil) dX2_canShrink_46

set_option maxHeartbeats 4000000 in
set_option maxRecDepth 100000 in
theorem t_X2_cutEnds (l : Launch) (dC : Nat → ClassId) (dI : Nat → Nat → Nat) (sz : Nat) (G : GT) (cs : Nat → ClassId) (tt mm : Nat) (a0 : Nat) (ha0 : Ty G a0 7) (a1 : Nat) (ha1 : Ty G a1 10) (a2 : Nat) (ha2 : Ty G a2 10) : Met l yX2_cutEnds [.code yX2_cutEnds cX2_cutEnds 7 none] ({ frames := 2, cells := 0, slots := 0, locals := 80 }) (PT [.ref a0, .ref a1, .ref a2] sz dC dI G cs tt mm (fun _ => True)) (va_Qv (fun (u : Nat → va_E) => True) (BT dC dI G cs tt mm) (AT G sz)) 0 0 (AT G sz) := by
  refine Met.ofW (cc := cX2_cutEnds) (maxL := 7) (ret := none) (by decide) rfl ?_
  intro p e s m args below meth c s₁ B hml hv
  obtain ⟨rfl, hsz, ⟨f0, hok, hP, hX⟩, hK, hnd, hWT, hE⟩ := hv
  have hx := B.exec
  have hb := B.bytes
  have hr := B.returns
  have hown : s.vm.findClass RX2 = some m.cls := findClass_of_methodNamed B.named
  have hlocks := B.notSynchronized
  subst hsz
  have hAL : ∀ a, a ∈ gL G → AT G s.heap.size a := fun a h => Or.inl h
  have hA : ∀ q : Nat, s.heap.size ≤ q → AT G s.heap.size q := fun q h => Or.inr h
  have hS : va_S (AT G s.heap.size) s.heap s.heap [] := va_S.rf
  have hl := lv_entry ([.ref a0, .ref a1, .ref a2]) (n := 7) (Nat.le_of_ble_eq_true rfl)
  rw [lg_entry_eq]
  generalize (lg_sl ([.ref a0, .ref a1, .ref a2]) ++ List.replicate (7 - (lg_sl ([.ref a0, .ref a1, .ref a2])).length) Slot.unset).toArray = ls at hl ⊢
  have hl : lv_has ls 7 [(0, .ref a0), (1, .ref a1), (2, .ref a2)] := hl
  refine lv_aload_n hx hb dX2_cutEnds_0 rfl (lv_at hl 1 rfl) ?_
  refine lv_iconst (v := 0) hx hb dX2_cutEnds_1 (by decide) ?_
  obtain ⟨y2_1, y3_1, hy3_1, he1⟩ := ok_X10 hok ha1
  refine vp_callSi (va_Run.run (va_runV (As := [.int 0]) (rest := []) ⟨hx, hb, hml, hown, noTs⟩ (t_X10_stepAt l dC dI s.heap.size G cs tt mm a1 ha1 0) ⟨cbE 1 (wd_721 hE) (wd_120 hE) (wd_847 hE) rfl rfl (by decide +kernel) ⟨Nat.le_of_ble_eq_true rfl, Nat.le_of_ble_eq_true rfl⟩, (wd_719 hE), (wd_720 hE)⟩ ⟨PT.blind, th_recv hK hP ha1.1 he1 rfl, (th_pre (av := [.ref a1, .int 0]) trivial hK hP hok hnd hWT hE)⟩ rfl rfl hl.1 rfl (lv_room (Nat.le_of_ble_eq_true rfl)) dX2_cutEnds_2 ⟨Nat.le_of_ble_eq_true rfl, Nat.le_of_ble_eq_true rfl⟩)) (fun r2 hr2 => ?_)
  refine lv_istore_n (lv' := [(3, .int r2), (0, .ref a0), (1, .ref a1), (2, .ref a2)]) hx hb dX2_cutEnds_5 rfl hl (by decide) rfl (fun ls hl => ?_)
  refine lv_aload_n hx hb dX2_cutEnds_6 rfl (lv_at hl 1 rfl) ?_
  refine lv_iload_n hx hb dX2_cutEnds_7 rfl (lv_at hl 0 rfl) ?_
  have he3 := ok_X7 hok ha0
  refine vp_callSi (va_Run.run (va_runV (As := [.int r2]) (rest := []) ⟨hx, hb, hml, hown, noTs⟩ (t_X7_toVertex l dC dI s.heap.size G cs tt mm a0 ha0 r2) ⟨cbE 1 (wd_692 hE) (wd_116 hE) (wd_856 hE) rfl rfl (by decide +kernel) ⟨Nat.le_of_ble_eq_true rfl, Nat.le_of_ble_eq_true rfl⟩, (wd_690 hE), (wd_691 hE)⟩ ⟨PT.blind, th_recv hK hP ha0.1 he3 rfl, (th_pre (av := [.ref a0, .int r2]) trivial hK hP hok hnd hWT hE)⟩ rfl rfl hl.1 rfl (lv_room (Nat.le_of_ble_eq_true rfl)) dX2_cutEnds_8 ⟨Nat.le_of_ble_eq_true rfl, Nat.le_of_ble_eq_true rfl⟩)) (fun r4 hr4 => ?_)
  refine lv_istore (lv' := [(4, .int r4), (3, .int r2), (0, .ref a0), (1, .ref a1), (2, .ref a2)]) hx hb dX2_cutEnds_11 hl (by decide) rfl (fun ls hl => ?_)
  refine lv_aload_n hx hb dX2_cutEnds_13 rfl (lv_at hl 2 rfl) ?_
  refine lv_aload_n hx hb dX2_cutEnds_14 rfl (lv_at hl 3 rfl) ?_
  refine vp_callSi (va_Run.run (va_runS (As := [.ref a0, .ref a1]) (rest := []) ⟨hx, hb, hml, hown, noTs⟩ (t_X2_seam l dC dI s.heap.size G cs tt mm a0 ha0 a1 ha1) ⟨cbE 2 (wd_968 hE) (wd_134 hE) (wd_966 hE) rfl rfl (by decide +kernel) ⟨Nat.le_of_ble_eq_true rfl, Nat.le_of_ble_eq_true rfl⟩, (wd_967 hE)⟩ ⟨PT.blind, (th_pre (av := [.ref a0, .ref a1]) trivial hK hP hok hnd hWT hE)⟩ rfl rfl hl.1 rfl (lv_room (Nat.le_of_ble_eq_true rfl)) dX2_cutEnds_15 ⟨Nat.le_of_ble_eq_true rfl, Nat.le_of_ble_eq_true rfl⟩)) (fun r5 hr5 => ?_)
  refine lv_aload_n hx hb dX2_cutEnds_18 rfl (lv_at hl 2 rfl) ?_
  refine lv_iload_n hx hb dX2_cutEnds_19 rfl (lv_at hl 1 rfl) ?_
  refine vp_callSi (va_Run.run (va_runV (As := [.int r2]) (rest := [.int r5]) ⟨hx, hb, hml, hown, noTs⟩ (t_X7_fromIndex l dC dI s.heap.size G cs tt mm a0 ha0 r2) ⟨cbE 1 (wd_855 hE) (wd_116 hE) (wd_852 hE) rfl rfl (by decide +kernel) ⟨Nat.le_of_ble_eq_true rfl, Nat.le_of_ble_eq_true rfl⟩, (wd_853 hE), (wd_854 hE)⟩ ⟨PT.blind, th_recv hK hP ha0.1 he3 rfl, (th_pre (av := [.ref a0, .int r2]) trivial hK hP hok hnd hWT hE)⟩ rfl rfl hl.1 rfl (lv_room (Nat.le_of_ble_eq_true rfl)) dX2_cutEnds_20 ⟨Nat.le_of_ble_eq_true rfl, Nat.le_of_ble_eq_true rfl⟩)) (fun r6 hr6 => ?_)
  refine vp_callSi (va_Run.run (va_runSN (As := [.int r5, .int r6]) (rest := []) ⟨hx, hb, hml, hown, noTs⟩ (t_X11_share l dC dI s.heap.size G cs tt mm r5 r6) ⟨cnE 2 (wd_620 hE) (wd_115 hE) (wd_857 hE) rfl rfl (by decide +kernel) ⟨Nat.le_of_ble_eq_true rfl, Nat.le_of_ble_eq_true rfl⟩, (wd_619 hE), trivial⟩ ⟨PT.blind, (th_pre (av := [.int r5, .int r6]) trivial hK hP hok hnd hWT hE)⟩ rfl rfl hl.1 rfl (lv_room (Nat.le_of_ble_eq_true rfl)) dX2_cutEnds_23 ⟨Nat.le_of_ble_eq_true rfl, Nat.le_of_ble_eq_true rfl⟩)) (fun r7 hr7 => ?_)
  refine lv_aload_n hx hb dX2_cutEnds_26 rfl (lv_at hl 2 rfl) ?_
  refine lv_iload_n hx hb dX2_cutEnds_27 rfl (lv_at hl 1 rfl) ?_
  refine vp_callSi (va_Run.run (va_runV (As := [.int r2]) (rest := [.int r7]) ⟨hx, hb, hml, hown, noTs⟩ (t_X7_toIndex l dC dI s.heap.size G cs tt mm a0 ha0 r2) ⟨cbE 1 (wd_861 hE) (wd_116 hE) (wd_858 hE) rfl rfl (by decide +kernel) ⟨Nat.le_of_ble_eq_true rfl, Nat.le_of_ble_eq_true rfl⟩, (wd_859 hE), (wd_860 hE)⟩ ⟨PT.blind, th_recv hK hP ha0.1 he3 rfl, (th_pre (av := [.ref a0, .int r2]) trivial hK hP hok hnd hWT hE)⟩ rfl rfl hl.1 rfl (lv_room (Nat.le_of_ble_eq_true rfl)) dX2_cutEnds_28 ⟨Nat.le_of_ble_eq_true rfl, Nat.le_of_ble_eq_true rfl⟩)) (fun r8 hr8 => ?_)
  refine lv_imul hx hb dX2_cutEnds_31 ?_
  refine lv_topi (fun x9 ex9 => ?_)
  refine lv_istore (lv' := [(5, .int x9), (4, .int r4), (3, .int r2), (0, .ref a0), (1, .ref a1), (2, .ref a2)]) hx hb dX2_cutEnds_32 hl (by decide) rfl (fun ls hl => ?_)
  refine lv_aload_n hx hb dX2_cutEnds_34 rfl (lv_at hl 5 rfl) ?_
  refine lv_iload hx hb dX2_cutEnds_35 (lv_at hl 1 rfl) ?_
  refine lv_aload_n hx hb dX2_cutEnds_37 rfl (lv_at hl 4 rfl) ?_
  refine lv_iconst (v := 1) hx hb dX2_cutEnds_38 (by decide) ?_
  refine vp_callSi (va_Run.run (va_runV (As := [.int 1]) (rest := [.int r4, .ref a2]) ⟨hx, hb, hml, hown, noTs⟩ (t_X10_numberAt l dC dI s.heap.size G cs tt mm a1 ha1 1) ⟨cbE 1 (wd_717 hE) (wd_120 hE) (wd_843 hE) rfl rfl (by decide +kernel) ⟨Nat.le_of_ble_eq_true rfl, Nat.le_of_ble_eq_true rfl⟩, (wd_715 hE), (wd_716 hE)⟩ ⟨PT.blind, th_recv hK hP ha1.1 he1 rfl, (th_pre (av := [.ref a1, .int 1]) trivial hK hP hok hnd hWT hE)⟩ rfl rfl hl.1 rfl (lv_room (Nat.le_of_ble_eq_true rfl)) dX2_cutEnds_39 ⟨Nat.le_of_ble_eq_true rfl, Nat.le_of_ble_eq_true rfl⟩)) (fun r10 hr10 => ?_)
  obtain ⟨y2_11, y3_11, hy3_11, he11⟩ := ok_X10 hok ha2
  refine tc_v hAL hS hA (va_runV (As := [.int r4, .int r10]) (rest := []) ⟨hx, hb, hml, hown, noTs⟩ (t_X10_start l dC dI s.heap.size G cs tt mm a2 ha2 r4 r10) ⟨cbE 2 (wd_637 hE) (wd_120 hE) (wd_839 hE) rfl rfl (by decide +kernel) ⟨Nat.le_of_ble_eq_true rfl, Nat.le_of_ble_eq_true rfl⟩, (wd_635 hE), (wd_636 hE)⟩ ⟨PT.blind, th_recv hK hP ha2.1 he11 rfl, (th_pre (av := [.ref a2, .int r4, .int r10]) trivial hK hP hok hnd hWT hE)⟩ rfl rfl hl.1 rfl (lv_room (Nat.le_of_ble_eq_true rfl)) dX2_cutEnds_42 ⟨Nat.le_of_ble_eq_true rfl, Nat.le_of_ble_eq_true rfl⟩) (fun f12 H locs hr12 hok hP hS => ?_)
  refine lv_iconst (v := 1) hx hb dX2_cutEnds_45 (by decide) ?_
  refine lv_istore (lv' := [(6, .int 1), (5, .int x9), (4, .int r4), (3, .int r2), (0, .ref a0), (1, .ref a1), (2, .ref a2)]) hx hb dX2_cutEnds_46 hl (by decide) rfl (fun ls hl => ?_)
  refine w_ind (I := fun n f H locs ls => OKT G cs tt mm f ∧ va_P (dC, dI) vwCl (va_pl (gL G) f) H ∧ va_S (AT G s.heap.size) s.heap H locs ∧ ∃ (w6_13 : Int32), n = (2147483647 - w6_13.toInt).toNat ∧ 1 ≤ w6_13 ∧ lv_has ls 7 [(0, .ref a0), (1, .ref a1), (2, .ref a2), (3, .int r2), (4, .int r4), (5, .int x9), (6, .int w6_13)]) (fun n f13 H locs ls hI ih13 => ?_) _ f12 _ _ _ ⟨hok, hP, hS, 1, rfl, (by first | omega | (simp only [i_lt, i_le, i_eq, ti_m9, ti_m1, ti_0, ti_1, ti_2, ti_3, ti_4, ti_5, ti_6, ti_7, ti_9, ti_12, ti_20, ti_99, ti_700, ti_24, ti_156, ti_72, ti_8, ti_60, ti_543, ti_10, ti_33, ti_51, ti_178, ti_119, ti_111, ti_114, ti_100, ti_32, ti_62, ti_59, ti_48, ti_701, ti_97, ti_122, ti_57, ti_73, ti_128]; omega)), lv_sub hl [4, 5, 6, 3, 2, 1, 0] rfl⟩
  obtain ⟨hok, hP, hS, w6_13, hmu13, hlo13, hl⟩ := hI
  subst hmu13
  refine lv_iload hx hb dX2_cutEnds_48 (lv_at hl 6 rfl) ?_
  refine lv_aload_n hx hb dX2_cutEnds_50 rfl (lv_at hl 1 rfl) ?_
  obtain ⟨y2_14, y3_14, hy3_14, he14⟩ := ok_X10 hok ha1
  refine vp_callSi (va_Run.run (va_runV (As := []) (rest := [.int w6_13]) ⟨hx, hb, hml, hown, noTs⟩ (t_X10_size l dC dI H.size G cs tt mm a1 ha1 y2_14 y3_14) ⟨cbE 0 (wd_666 hE) (wd_120 hE) (wd_846 hE) rfl rfl (by decide +kernel) ⟨Nat.le_of_ble_eq_true rfl, Nat.le_of_ble_eq_true rfl⟩, (wd_664 hE), (wd_665 hE)⟩ ⟨PT.blind, th_recv hK hP ha1.1 he14 rfl, (th_pre (av := [.ref a1]) he14 hK hP hok hnd hWT hE)⟩ rfl rfl hl.1 rfl (lv_room (Nat.le_of_ble_eq_true rfl)) dX2_cutEnds_51 ⟨Nat.le_of_ble_eq_true rfl, Nat.le_of_ble_eq_true rfl⟩)) (fun r15 hr15 => ?_)
  subst hr15
  refine lv_iconst (v := 1) hx hb dX2_cutEnds_54 (by decide) ?_
  refine lv_isub hx hb dX2_cutEnds_55 ?_
  refine lv_topi (fun x16 ex16 => ?_)
  refine lv_icmp_ge (tgt := 83) hx hb dX2_cutEnds_56 (by decide) (fun c17 => ?_) (fun c17 => ?_)
  · refine lv_aload_n hx hb dX2_cutEnds_83 rfl (lv_at hl 2 rfl) ?_
    refine lv_iload hx hb dX2_cutEnds_84 (lv_at hl 5 rfl) ?_
    refine lv_aload_n hx hb dX2_cutEnds_86 rfl (lv_at hl 0 rfl) ?_
    refine lv_iload hx hb dX2_cutEnds_87 (lv_at hl 4 rfl) ?_
    have he18 := ok_X7 hok ha0
    refine vp_callSi (va_Run.run (va_runV (As := [.int r4]) (rest := [.int x9, .ref a2]) ⟨hx, hb, hml, hown, noTs⟩ (t_X7_orderAt l dC dI H.size G cs tt mm a0 ha0 r4) ⟨cbE 1 (wd_614 hE) (wd_116 hE) (wd_844 hE) rfl rfl (by decide +kernel) ⟨Nat.le_of_ble_eq_true rfl, Nat.le_of_ble_eq_true rfl⟩, (wd_612 hE), (wd_613 hE)⟩ ⟨PT.blind, th_recv hK hP ha0.1 he18 rfl, (th_pre (av := [.ref a0, .int r4]) trivial hK hP hok hnd hWT hE)⟩ rfl rfl hl.1 rfl (lv_room (Nat.le_of_ble_eq_true rfl)) dX2_cutEnds_89 ⟨Nat.le_of_ble_eq_true rfl, Nat.le_of_ble_eq_true rfl⟩)) (fun r19 hr19 => ?_)
    obtain ⟨y2_20, y3_20, hy3_20, he20⟩ := ok_X10 hok ha2
    refine tc_v hAL hS hA (va_runV (As := [.int x9, .int r19]) (rest := []) ⟨hx, hb, hml, hown, noTs⟩ (t_X10_addLast l dC dI H.size G cs tt mm a2 ha2 x9 r19) ⟨cbE 2 (wd_645 hE) (wd_120 hE) (wd_845 hE) rfl rfl (by decide +kernel) ⟨Nat.le_of_ble_eq_true rfl, Nat.le_of_ble_eq_true rfl⟩, (wd_643 hE), (wd_644 hE)⟩ ⟨PT.blind, th_recv hK hP ha2.1 he20 rfl, (th_pre (av := [.ref a2, .int x9, .int r19]) trivial hK hP hok hnd hWT hE)⟩ rfl rfl hl.1 rfl (lv_room (Nat.le_of_ble_eq_true rfl)) dX2_cutEnds_92 ⟨Nat.le_of_ble_eq_true rfl, Nat.le_of_ble_eq_true rfl⟩) (fun f21 H locs hr21 hok hP hS => ?_)
    exact W.vret hx hb hr (fun t ht hW => ⟨⟨f21, rfl, trivial, hok, by rw [ht]; exact hP⟩, hS.F ht⟩) hS.2.2 dX2_cutEnds_95
  · refine lv_aload_n hx hb dX2_cutEnds_59 rfl (lv_at hl 2 rfl) ?_
    refine lv_aload_n hx hb dX2_cutEnds_60 rfl (lv_at hl 1 rfl) ?_
    refine lv_iload hx hb dX2_cutEnds_61 (lv_at hl 6 rfl) ?_
    refine vp_callSi (va_Run.run (va_runV (As := [.int w6_13]) (rest := [.ref a2]) ⟨hx, hb, hml, hown, noTs⟩ (t_X10_stepAt l dC dI H.size G cs tt mm a1 ha1 w6_13) ⟨cbE 1 (wd_721 hE) (wd_120 hE) (wd_847 hE) rfl rfl (by decide +kernel) ⟨Nat.le_of_ble_eq_true rfl, Nat.le_of_ble_eq_true rfl⟩, (wd_719 hE), (wd_720 hE)⟩ ⟨PT.blind, th_recv hK hP ha1.1 he14 rfl, (th_pre (av := [.ref a1, .int w6_13]) trivial hK hP hok hnd hWT hE)⟩ rfl rfl hl.1 rfl (lv_room (Nat.le_of_ble_eq_true rfl)) dX2_cutEnds_63 ⟨Nat.le_of_ble_eq_true rfl, Nat.le_of_ble_eq_true rfl⟩)) (fun r22 hr22 => ?_)
    refine lv_aload_n hx hb dX2_cutEnds_66 rfl (lv_at hl 1 rfl) ?_
    refine lv_iload hx hb dX2_cutEnds_67 (lv_at hl 6 rfl) ?_
    refine lv_iconst (v := 1) hx hb dX2_cutEnds_69 (by decide) ?_
    refine lv_iadd hx hb dX2_cutEnds_70 ?_
    refine lv_topi (fun x23 ex23 => ?_)
    have ic23 : x23.toInt = w6_13.toInt + 1 := by rw [ex23]; exact ic_up (by have := i_rng w6_13; have := i_rng x16; simp only [i_lt, i_le, i_eq, ti_m9, ti_m1, ti_0, ti_1, ti_2, ti_3, ti_4, ti_5, ti_6, ti_7, ti_9, ti_12, ti_20, ti_99, ti_700, ti_24, ti_156, ti_72, ti_8, ti_60, ti_543, ti_10, ti_33, ti_51, ti_178, ti_119, ti_111, ti_114, ti_100, ti_32, ti_62, ti_59, ti_48, ti_701, ti_97, ti_122, ti_57, ti_73, ti_128] at hlo13 c17 ⊢; omega)
    refine vp_callSi (va_Run.run (va_runV (As := [.int x23]) (rest := [.int r22, .ref a2]) ⟨hx, hb, hml, hown, noTs⟩ (t_X10_numberAt l dC dI H.size G cs tt mm a1 ha1 x23) ⟨cbE 1 (wd_717 hE) (wd_120 hE) (wd_843 hE) rfl rfl (by decide +kernel) ⟨Nat.le_of_ble_eq_true rfl, Nat.le_of_ble_eq_true rfl⟩, (wd_715 hE), (wd_716 hE)⟩ ⟨PT.blind, th_recv hK hP ha1.1 he14 rfl, (th_pre (av := [.ref a1, .int x23]) trivial hK hP hok hnd hWT hE)⟩ rfl rfl hl.1 rfl (lv_room (Nat.le_of_ble_eq_true rfl)) dX2_cutEnds_71 ⟨Nat.le_of_ble_eq_true rfl, Nat.le_of_ble_eq_true rfl⟩)) (fun r24 hr24 => ?_)
    obtain ⟨y2_25, y3_25, hy3_25, he25⟩ := ok_X10 hok ha2
    refine tc_v hAL hS hA (va_runV (As := [.int r22, .int r24]) (rest := []) ⟨hx, hb, hml, hown, noTs⟩ (t_X10_push l dC dI H.size G cs tt mm a2 ha2 r22 r24) ⟨cbE 2 (wd_688 hE) (wd_120 hE) (wd_872 hE) rfl rfl (by decide +kernel) ⟨Nat.le_of_ble_eq_true rfl, Nat.le_of_ble_eq_true rfl⟩, (wd_686 hE), (wd_687 hE)⟩ ⟨PT.blind, th_recv hK hP ha2.1 he25 rfl, (th_pre (av := [.ref a2, .int r22, .int r24]) trivial hK hP hok hnd hWT hE)⟩ rfl rfl hl.1 rfl (lv_room (Nat.le_of_ble_eq_true rfl)) dX2_cutEnds_74 ⟨Nat.le_of_ble_eq_true rfl, Nat.le_of_ble_eq_true rfl⟩) (fun f26 H locs hr26 hok hP hS => ?_)
    obtain ⟨z27, ez27⟩ : ∃ z : Int32, z = w6_13 + 1 := ⟨_, rfl⟩
    refine lv_iinc (v := z27) (lv' := [(6, .int z27), (0, .ref a0), (1, .ref a1), (2, .ref a2), (3, .int r2), (4, .int r4), (5, .int x9)]) hx hb dX2_cutEnds_77 hl (k := 6) rfl (by rw [ez27]; rfl) (by decide) rfl (fun ls hl => ?_)
    have ic27 : z27.toInt = w6_13.toInt + 1 := by rw [ez27]; exact ic_up (by have := i_rng w6_13; have := i_rng x16; simp only [i_lt, i_le, i_eq, ti_m9, ti_m1, ti_0, ti_1, ti_2, ti_3, ti_4, ti_5, ti_6, ti_7, ti_9, ti_12, ti_20, ti_99, ti_700, ti_24, ti_156, ti_72, ti_8, ti_60, ti_543, ti_10, ti_33, ti_51, ti_178, ti_119, ti_111, ti_114, ti_100, ti_32, ti_62, ti_59, ti_48, ti_701, ti_97, ti_122, ti_57, ti_73, ti_128, ic23] at hlo13 c17 ⊢; omega)
    refine lv_goto (tgt := 48) hx hb dX2_cutEnds_80 (by decide) ?_
    exact ih13 _ f26 _ _ _ (by have := i_rng z27; first | omega | (simp only [i_lt, i_le, i_eq, ti_m9, ti_m1, ti_0, ti_1, ti_2, ti_3, ti_4, ti_5, ti_6, ti_7, ti_9, ti_12, ti_20, ti_99, ti_700, ti_24, ti_156, ti_72, ti_8, ti_60, ti_543, ti_10, ti_33, ti_51, ti_178, ti_119, ti_111, ti_114, ti_100, ti_32, ti_62, ti_59, ti_48, ti_701, ti_97, ti_122, ti_57, ti_73, ti_128, ic23, ic27] at hlo13 c17 ic27 ⊢; omega)) ⟨hok, hP, hS, z27, rfl, (by first | omega | (simp only [i_lt, i_le, i_eq, ti_m9, ti_m1, ti_0, ti_1, ti_2, ti_3, ti_4, ti_5, ti_6, ti_7, ti_9, ti_12, ti_20, ti_99, ti_700, ti_24, ti_156, ti_72, ti_8, ti_60, ti_543, ti_10, ti_33, ti_51, ti_178, ti_119, ti_111, ti_114, ti_100, ti_32, ti_62, ti_59, ti_48, ti_701, ti_97, ti_122, ti_57, ti_73, ti_128, ic23, ic27] at hlo13 c17 ⊢; omega)), lv_sub hl [1, 2, 3, 4, 5, 6, 0] rfl⟩

set_option maxHeartbeats 4000000 in
set_option maxRecDepth 100000 in
theorem t_X2_shrink (l : Launch) (dC : Nat → ClassId) (dI : Nat → Nat → Nat) (sz : Nat) (G : GT) (cs : Nat → ClassId) (tt mm : Nat) (a0 : Nat) (ha0 : Ty G a0 7) (a1 : Nat) (ha1 : Ty G a1 10) (a2 : Nat) (ha2 : Ty G a2 10) (a3 : Nat) (ha3 : Ty G a3 10) : Met l yX2_shrink [.code yX2_shrink cX2_shrink 5 none] ({ frames := 4, cells := 0, slots := 0, locals := 160 }) (PT [.ref a0, .ref a1, .ref a2, .ref a3] sz dC dI G cs tt mm (fun _ => True)) (va_Qv (fun (u : Nat → va_E) => True) (BT dC dI G cs tt mm) (AT G sz)) 0 0 (AT G sz) := by
  refine Met.ofW (cc := cX2_shrink) (maxL := 5) (ret := none) (by decide) rfl ?_
  intro p e s m args below meth c s₁ B hml hv
  obtain ⟨rfl, hsz, ⟨f0, hok, hP, hX⟩, hK, hnd, hWT, hE⟩ := hv
  have hx := B.exec
  have hb := B.bytes
  have hr := B.returns
  have hown : s.vm.findClass RX2 = some m.cls := findClass_of_methodNamed B.named
  have hlocks := B.notSynchronized
  subst hsz
  have hAL : ∀ a, a ∈ gL G → AT G s.heap.size a := fun a h => Or.inl h
  have hA : ∀ q : Nat, s.heap.size ≤ q → AT G s.heap.size q := fun q h => Or.inr h
  have hS : va_S (AT G s.heap.size) s.heap s.heap [] := va_S.rf
  have hl := lv_entry ([.ref a0, .ref a1, .ref a2, .ref a3]) (n := 5) (Nat.le_of_ble_eq_true rfl)
  rw [lg_entry_eq]
  generalize (lg_sl ([.ref a0, .ref a1, .ref a2, .ref a3]) ++ List.replicate (5 - (lg_sl ([.ref a0, .ref a1, .ref a2, .ref a3])).length) Slot.unset).toArray = ls at hl ⊢
  have hl : lv_has ls 5 [(0, .ref a0), (1, .ref a1), (2, .ref a2), (3, .ref a3)] := hl
  refine lv_aload_n hx hb dX2_shrink_0 rfl (lv_at hl 2 rfl) ?_
  refine lv_aload_n hx hb dX2_shrink_1 rfl (lv_at hl 1 rfl) ?_
  obtain ⟨y2_1, y3_1, hy3_1, he1⟩ := ok_X10 hok ha1
  refine vp_callSi (va_Run.run (va_runV (As := []) (rest := [.ref a2]) ⟨hx, hb, hml, hown, noTs⟩ (t_X10_begin l dC dI s.heap.size G cs tt mm a1 ha1) ⟨cbE 0 (wd_713 hE) (wd_120 hE) (wd_838 hE) rfl rfl (by decide +kernel) ⟨Nat.le_of_ble_eq_true rfl, Nat.le_of_ble_eq_true rfl⟩, (wd_711 hE), (wd_712 hE)⟩ ⟨PT.blind, th_recv hK hP ha1.1 he1 rfl, (th_pre (av := [.ref a1]) trivial hK hP hok hnd hWT hE)⟩ rfl rfl hl.1 rfl (lv_room (Nat.le_of_ble_eq_true rfl)) dX2_shrink_2 ⟨Nat.le_of_ble_eq_true rfl, Nat.le_of_ble_eq_true rfl⟩)) (fun r2 hr2 => ?_)
  refine lv_iconst (v := 0) hx hb dX2_shrink_5 (by decide) ?_
  obtain ⟨y2_3, y3_3, hy3_3, he3⟩ := ok_X10 hok ha2
  refine tc_v hAL hS hA (va_runV (As := [.int r2, .int 0]) (rest := []) ⟨hx, hb, hml, hown, noTs⟩ (t_X10_start l dC dI s.heap.size G cs tt mm a2 ha2 r2 0) ⟨cbE 2 (wd_637 hE) (wd_120 hE) (wd_839 hE) rfl rfl (by decide +kernel) ⟨Nat.le_of_ble_eq_true rfl, Nat.le_of_ble_eq_true rfl⟩, (wd_635 hE), (wd_636 hE)⟩ ⟨PT.blind, th_recv hK hP ha2.1 he3 rfl, (th_pre (av := [.ref a2, .int r2, .int 0]) trivial hK hP hok hnd hWT hE)⟩ rfl rfl hl.1 rfl (lv_room (Nat.le_of_ble_eq_true rfl)) dX2_shrink_6 ⟨Nat.le_of_ble_eq_true rfl, Nat.le_of_ble_eq_true rfl⟩) (fun f4 H locs hr4 hok hP hS => ?_)
  refine lv_aload_n hx hb dX2_shrink_9 rfl (lv_at hl 0 rfl) ?_
  refine lv_aload_n hx hb dX2_shrink_10 rfl (lv_at hl 2 rfl) ?_
  refine lv_aload_n hx hb dX2_shrink_11 rfl (lv_at hl 1 rfl) ?_
  refine tc_i hAL hS hA (va_runS (As := [.ref a0, .ref a2, .ref a1]) (rest := []) ⟨hx, hb, hml, hown, noTs⟩ (t_X2_append l dC dI H.size G cs tt mm a0 ha0 a2 ha2 a1 ha1) ⟨cbE 3 (wd_842 hE) (wd_134 hE) (wd_840 hE) rfl rfl (by decide +kernel) ⟨Nat.le_of_ble_eq_true rfl, Nat.le_of_ble_eq_true rfl⟩, (wd_841 hE)⟩ ⟨PT.blind, (th_pre (av := [.ref a0, .ref a2, .ref a1]) trivial hK hP hok hnd hWT hE)⟩ rfl rfl hl.1 rfl (lv_room (Nat.le_of_ble_eq_true rfl)) dX2_shrink_12 ⟨Nat.le_of_ble_eq_true rfl, Nat.le_of_ble_eq_true rfl⟩) (fun r5 f5 H locs hr5 hok hP hS => ?_)
  refine lv_pop hx hb dX2_shrink_15 rfl ?_
  refine lv_iconst (v := 0) hx hb dX2_shrink_16 (by decide) ?_
  refine lv_istore (lv' := [(4, .int 0), (0, .ref a0), (1, .ref a1), (2, .ref a2), (3, .ref a3)]) hx hb dX2_shrink_17 hl (by decide) rfl (fun ls hl => ?_)
  refine w_ind (I := fun n f H locs ls => OKT G cs tt mm f ∧ va_P (dC, dI) vwCl (va_pl (gL G) f) H ∧ va_S (AT G s.heap.size) s.heap H locs ∧ ∃ (w4_6 : Int32), n = (2147483647 - w4_6.toInt).toNat ∧ 0 ≤ w4_6 ∧ lv_has ls 5 [(0, .ref a0), (1, .ref a1), (2, .ref a2), (3, .ref a3), (4, .int w4_6)]) (fun n f6 H locs ls hI ih6 => ?_) _ f5 _ _ _ ⟨hok, hP, hS, 0, rfl, (by first | omega | (simp only [i_lt, i_le, i_eq, ti_m9, ti_m1, ti_0, ti_1, ti_2, ti_3, ti_4, ti_5, ti_6, ti_7, ti_9, ti_12, ti_20, ti_99, ti_700, ti_24, ti_156, ti_72, ti_8, ti_60, ti_543, ti_10, ti_33, ti_51, ti_178, ti_119, ti_111, ti_114, ti_100, ti_32, ti_62, ti_59, ti_48, ti_701, ti_97, ti_122, ti_57, ti_73, ti_128]; omega)), lv_sub hl [1, 2, 3, 4, 0] rfl⟩
  obtain ⟨hok, hP, hS, w4_6, hmu6, hlo6, hl⟩ := hI
  subst hmu6
  refine lv_iload hx hb dX2_shrink_19 (lv_at hl 4 rfl) ?_
  refine lv_bipush (v := 72) hx hb dX2_shrink_21 (by decide) ?_
  refine lv_icmp_ge (tgt := 62) hx hb dX2_shrink_23 (by decide) (fun c7 => ?_) (fun c7 => ?_)
  · exact W.vret hx hb hr (fun t ht hW => ⟨⟨f6, rfl, trivial, hok, by rw [ht]; exact hP⟩, hS.F ht⟩) hS.2.2 dX2_shrink_62
  · refine lv_aload_n hx hb dX2_shrink_26 rfl (lv_at hl 0 rfl) ?_
    refine lv_aload_n hx hb dX2_shrink_27 rfl (lv_at hl 2 rfl) ?_
    refine vp_callSi (va_Run.run (va_runS (As := [.ref a0, .ref a2]) (rest := []) ⟨hx, hb, hml, hown, noTs⟩ (t_X2_canShrink l dC dI H.size G cs tt mm a0 ha0 a2 ha2) ⟨cbE 2 (wd_965 hE) (wd_134 hE) (wd_963 hE) rfl rfl (by decide +kernel) ⟨Nat.le_of_ble_eq_true rfl, Nat.le_of_ble_eq_true rfl⟩, (wd_964 hE)⟩ ⟨PT.blind, (th_pre (av := [.ref a0, .ref a2]) trivial hK hP hok hnd hWT hE)⟩ rfl rfl hl.1 rfl (lv_room (Nat.le_of_ble_eq_true rfl)) dX2_shrink_28 ⟨Nat.le_of_ble_eq_true rfl, Nat.le_of_ble_eq_true rfl⟩)) (fun r8 hr8 => ?_)
    refine lv_if_eq (tgt := 62) hx hb dX2_shrink_31 (by decide) (fun c9 => ?_) (fun c9 => ?_)
    · exact W.vret hx hb hr (fun t ht hW => ⟨⟨f6, rfl, trivial, hok, by rw [ht]; exact hP⟩, hS.F ht⟩) hS.2.2 dX2_shrink_62
    · refine lv_aload_n hx hb dX2_shrink_34 rfl (lv_at hl 0 rfl) ?_
      refine lv_aload_n hx hb dX2_shrink_35 rfl (lv_at hl 2 rfl) ?_
      refine lv_aload_n hx hb dX2_shrink_36 rfl (lv_at hl 3 rfl) ?_
      refine tc_v hAL hS hA (va_runS (As := [.ref a0, .ref a2, .ref a3]) (rest := []) ⟨hx, hb, hml, hown, noTs⟩ (t_X2_cutEnds l dC dI H.size G cs tt mm a0 ha0 a2 ha2 a3 ha3) ⟨cbE 3 (wd_971 hE) (wd_134 hE) (wd_969 hE) rfl rfl (by decide +kernel) ⟨Nat.le_of_ble_eq_true rfl, Nat.le_of_ble_eq_true rfl⟩, (wd_970 hE)⟩ ⟨PT.blind, (th_pre (av := [.ref a0, .ref a2, .ref a3]) trivial hK hP hok hnd hWT hE)⟩ rfl rfl hl.1 rfl (lv_room (Nat.le_of_ble_eq_true rfl)) dX2_shrink_37 ⟨Nat.le_of_ble_eq_true rfl, Nat.le_of_ble_eq_true rfl⟩) (fun f10 H locs hr10 hok hP hS => ?_)
      refine lv_aload_n hx hb dX2_shrink_40 rfl (lv_at hl 2 rfl) ?_
      refine lv_aload_n hx hb dX2_shrink_41 rfl (lv_at hl 3 rfl) ?_
      obtain ⟨y2_11, y3_11, hy3_11, he11⟩ := ok_X10 hok ha3
      refine vp_callSi (va_Run.run (va_runV (As := []) (rest := [.ref a2]) ⟨hx, hb, hml, hown, noTs⟩ (t_X10_begin l dC dI H.size G cs tt mm a3 ha3) ⟨cbE 0 (wd_713 hE) (wd_120 hE) (wd_838 hE) rfl rfl (by decide +kernel) ⟨Nat.le_of_ble_eq_true rfl, Nat.le_of_ble_eq_true rfl⟩, (wd_711 hE), (wd_712 hE)⟩ ⟨PT.blind, th_recv hK hP ha3.1 he11 rfl, (th_pre (av := [.ref a3]) trivial hK hP hok hnd hWT hE)⟩ rfl rfl hl.1 rfl (lv_room (Nat.le_of_ble_eq_true rfl)) dX2_shrink_42 ⟨Nat.le_of_ble_eq_true rfl, Nat.le_of_ble_eq_true rfl⟩)) (fun r12 hr12 => ?_)
      refine lv_iconst (v := 0) hx hb dX2_shrink_45 (by decide) ?_
      obtain ⟨y2_13, y3_13, hy3_13, he13⟩ := ok_X10 hok ha2
      refine tc_v hAL hS hA (va_runV (As := [.int r12, .int 0]) (rest := []) ⟨hx, hb, hml, hown, noTs⟩ (t_X10_start l dC dI H.size G cs tt mm a2 ha2 r12 0) ⟨cbE 2 (wd_637 hE) (wd_120 hE) (wd_839 hE) rfl rfl (by decide +kernel) ⟨Nat.le_of_ble_eq_true rfl, Nat.le_of_ble_eq_true rfl⟩, (wd_635 hE), (wd_636 hE)⟩ ⟨PT.blind, th_recv hK hP ha2.1 he13 rfl, (th_pre (av := [.ref a2, .int r12, .int 0]) trivial hK hP hok hnd hWT hE)⟩ rfl rfl hl.1 rfl (lv_room (Nat.le_of_ble_eq_true rfl)) dX2_shrink_46 ⟨Nat.le_of_ble_eq_true rfl, Nat.le_of_ble_eq_true rfl⟩) (fun f14 H locs hr14 hok hP hS => ?_)
      refine lv_aload_n hx hb dX2_shrink_49 rfl (lv_at hl 0 rfl) ?_
      refine lv_aload_n hx hb dX2_shrink_50 rfl (lv_at hl 2 rfl) ?_
      refine lv_aload_n hx hb dX2_shrink_51 rfl (lv_at hl 3 rfl) ?_
      refine tc_i hAL hS hA (va_runS (As := [.ref a0, .ref a2, .ref a3]) (rest := []) ⟨hx, hb, hml, hown, noTs⟩ (t_X2_append l dC dI H.size G cs tt mm a0 ha0 a2 ha2 a3 ha3) ⟨cbE 3 (wd_842 hE) (wd_134 hE) (wd_840 hE) rfl rfl (by decide +kernel) ⟨Nat.le_of_ble_eq_true rfl, Nat.le_of_ble_eq_true rfl⟩, (wd_841 hE)⟩ ⟨PT.blind, (th_pre (av := [.ref a0, .ref a2, .ref a3]) trivial hK hP hok hnd hWT hE)⟩ rfl rfl hl.1 rfl (lv_room (Nat.le_of_ble_eq_true rfl)) dX2_shrink_52 ⟨Nat.le_of_ble_eq_true rfl, Nat.le_of_ble_eq_true rfl⟩) (fun r15 f15 H locs hr15 hok hP hS => ?_)
      refine lv_pop hx hb dX2_shrink_55 rfl ?_
      obtain ⟨z16, ez16⟩ : ∃ z : Int32, z = w4_6 + 1 := ⟨_, rfl⟩
      refine lv_iinc (v := z16) (lv' := [(4, .int z16), (0, .ref a0), (1, .ref a1), (2, .ref a2), (3, .ref a3)]) hx hb dX2_shrink_56 hl (k := 4) rfl (by rw [ez16]; rfl) (by decide) rfl (fun ls hl => ?_)
      have ic16 : z16.toInt = w4_6.toInt + 1 := by rw [ez16]; exact ic_up (by have := i_rng w4_6; have := i_rng r8; simp only [i_lt, i_le, i_eq, ti_m9, ti_m1, ti_0, ti_1, ti_2, ti_3, ti_4, ti_5, ti_6, ti_7, ti_9, ti_12, ti_20, ti_99, ti_700, ti_24, ti_156, ti_72, ti_8, ti_60, ti_543, ti_10, ti_33, ti_51, ti_178, ti_119, ti_111, ti_114, ti_100, ti_32, ti_62, ti_59, ti_48, ti_701, ti_97, ti_122, ti_57, ti_73, ti_128] at hlo6 c7 c9 ⊢; omega)
      refine lv_goto (tgt := 19) hx hb dX2_shrink_59 (by decide) ?_
      exact ih6 _ f15 _ _ _ (by have := i_rng z16; first | omega | (simp only [i_lt, i_le, i_eq, ti_m9, ti_m1, ti_0, ti_1, ti_2, ti_3, ti_4, ti_5, ti_6, ti_7, ti_9, ti_12, ti_20, ti_99, ti_700, ti_24, ti_156, ti_72, ti_8, ti_60, ti_543, ti_10, ti_33, ti_51, ti_178, ti_119, ti_111, ti_114, ti_100, ti_32, ti_62, ti_59, ti_48, ti_701, ti_97, ti_122, ti_57, ti_73, ti_128, ic16] at hlo6 c7 c9 ic16 ⊢; omega)) ⟨hok, hP, hS, z16, rfl, (by first | omega | (simp only [i_lt, i_le, i_eq, ti_m9, ti_m1, ti_0, ti_1, ti_2, ti_3, ti_4, ti_5, ti_6, ti_7, ti_9, ti_12, ti_20, ti_99, ti_700, ti_24, ti_156, ti_72, ti_8, ti_60, ti_543, ti_10, ti_33, ti_51, ti_178, ti_119, ti_111, ti_114, ti_100, ti_32, ti_62, ti_59, ti_48, ti_701, ti_97, ti_122, ti_57, ti_73, ti_128, ic16] at hlo6 c7 c9 ⊢; omega)), lv_sub hl [1, 2, 3, 4, 0] rfl⟩

set_option maxHeartbeats 4000000 in
set_option maxRecDepth 100000 in
theorem t_X2_beginBehind (l : Launch) (dC : Nat → ClassId) (dI : Nat → Nat → Nat) (sz : Nat) (G : GT) (cs : Nat → ClassId) (tt mm : Nat) (a0 : Nat) (ha0 : Ty G a0 7) (a1 : Nat) (ha1 : Ty G a1 10) (v2 : Int32) (a3 : Nat) (ha3 : Ty G a3 10) : Met l yX2_beginBehind [.code yX2_beginBehind cX2_beginBehind 5 none] ({ frames := 2, cells := 0, slots := 0, locals := 80 }) (PT [.ref a0, .ref a1, .int v2, .ref a3] sz dC dI G cs tt mm (fun _ => True)) (va_Qv (fun (u : Nat → va_E) => True) (BT dC dI G cs tt mm) (AT G sz)) 0 0 (AT G sz) := by
  refine Met.ofW (cc := cX2_beginBehind) (maxL := 5) (ret := none) (by decide) rfl ?_
  intro p e s m args below meth c s₁ B hml hv
  obtain ⟨rfl, hsz, ⟨f0, hok, hP, hX⟩, hK, hnd, hWT, hE⟩ := hv
  have hx := B.exec
  have hb := B.bytes
  have hr := B.returns
  have hown : s.vm.findClass RX2 = some m.cls := findClass_of_methodNamed B.named
  have hlocks := B.notSynchronized
  subst hsz
  have hAL : ∀ a, a ∈ gL G → AT G s.heap.size a := fun a h => Or.inl h
  have hA : ∀ q : Nat, s.heap.size ≤ q → AT G s.heap.size q := fun q h => Or.inr h
  have hS : va_S (AT G s.heap.size) s.heap s.heap [] := va_S.rf
  have hl := lv_entry ([.ref a0, .ref a1, .int v2, .ref a3]) (n := 5) (Nat.le_of_ble_eq_true rfl)
  rw [lg_entry_eq]
  generalize (lg_sl ([.ref a0, .ref a1, .int v2, .ref a3]) ++ List.replicate (5 - (lg_sl ([.ref a0, .ref a1, .int v2, .ref a3])).length) Slot.unset).toArray = ls at hl ⊢
  have hl : lv_has ls 5 [(0, .ref a0), (1, .ref a1), (2, .int v2), (3, .ref a3)] := hl
  refine lv_iload_n hx hb dX2_beginBehind_0 rfl (lv_at hl 2 rfl) ?_
  refine lv_iconst (v := 1) hx hb dX2_beginBehind_1 (by decide) ?_
  refine lv_icmp_ge (tgt := 21) hx hb dX2_beginBehind_2 (by decide) (fun c1 => ?_) (fun c1 => ?_)
  · refine lv_aload_n hx hb dX2_beginBehind_21 rfl (lv_at hl 3 rfl) ?_
    refine lv_aload_n hx hb dX2_beginBehind_22 rfl (lv_at hl 0 rfl) ?_
    refine lv_aload_n hx hb dX2_beginBehind_23 rfl (lv_at hl 1 rfl) ?_
    refine lv_iload_n hx hb dX2_beginBehind_24 rfl (lv_at hl 2 rfl) ?_
    refine lv_iconst (v := 1) hx hb dX2_beginBehind_25 (by decide) ?_
    refine lv_isub hx hb dX2_beginBehind_26 ?_
    refine lv_topi (fun x2 ex2 => ?_)
    obtain ⟨y2_3, y3_3, hy3_3, he3⟩ := ok_X10 hok ha1
    refine vp_callSi (va_Run.run (va_runV (As := [.int x2]) (rest := [.ref a0, .ref a3]) ⟨hx, hb, hml, hown, noTs⟩ (t_X10_stepAt l dC dI s.heap.size G cs tt mm a1 ha1 x2) ⟨cbE 1 (wd_721 hE) (wd_120 hE) (wd_847 hE) rfl rfl (by decide +kernel) ⟨Nat.le_of_ble_eq_true rfl, Nat.le_of_ble_eq_true rfl⟩, (wd_719 hE), (wd_720 hE)⟩ ⟨PT.blind, th_recv hK hP ha1.1 he3 rfl, (th_pre (av := [.ref a1, .int x2]) trivial hK hP hok hnd hWT hE)⟩ rfl rfl hl.1 rfl (lv_room (Nat.le_of_ble_eq_true rfl)) dX2_beginBehind_27 ⟨Nat.le_of_ble_eq_true rfl, Nat.le_of_ble_eq_true rfl⟩)) (fun r4 hr4 => ?_)
    have he5 := ok_X7 hok ha0
    refine vp_callSi (va_Run.run (va_runV (As := [.int r4]) (rest := [.ref a3]) ⟨hx, hb, hml, hown, noTs⟩ (t_X7_toVertex l dC dI s.heap.size G cs tt mm a0 ha0 r4) ⟨cbE 1 (wd_692 hE) (wd_116 hE) (wd_856 hE) rfl rfl (by decide +kernel) ⟨Nat.le_of_ble_eq_true rfl, Nat.le_of_ble_eq_true rfl⟩, (wd_690 hE), (wd_691 hE)⟩ ⟨PT.blind, th_recv hK hP ha0.1 he5 rfl, (th_pre (av := [.ref a0, .int r4]) trivial hK hP hok hnd hWT hE)⟩ rfl rfl hl.1 rfl (lv_room (Nat.le_of_ble_eq_true rfl)) dX2_beginBehind_30 ⟨Nat.le_of_ble_eq_true rfl, Nat.le_of_ble_eq_true rfl⟩)) (fun r6 hr6 => ?_)
    refine lv_aload_n hx hb dX2_beginBehind_33 rfl (lv_at hl 1 rfl) ?_
    refine lv_iload_n hx hb dX2_beginBehind_34 rfl (lv_at hl 2 rfl) ?_
    refine vp_callSi (va_Run.run (va_runV (As := [.int v2]) (rest := [.int r6, .ref a3]) ⟨hx, hb, hml, hown, noTs⟩ (t_X10_numberAt l dC dI s.heap.size G cs tt mm a1 ha1 v2) ⟨cbE 1 (wd_717 hE) (wd_120 hE) (wd_843 hE) rfl rfl (by decide +kernel) ⟨Nat.le_of_ble_eq_true rfl, Nat.le_of_ble_eq_true rfl⟩, (wd_715 hE), (wd_716 hE)⟩ ⟨PT.blind, th_recv hK hP ha1.1 he3 rfl, (th_pre (av := [.ref a1, .int v2]) trivial hK hP hok hnd hWT hE)⟩ rfl rfl hl.1 rfl (lv_room (Nat.le_of_ble_eq_true rfl)) dX2_beginBehind_35 ⟨Nat.le_of_ble_eq_true rfl, Nat.le_of_ble_eq_true rfl⟩)) (fun r7 hr7 => ?_)
    obtain ⟨y2_8, y3_8, hy3_8, he8⟩ := ok_X10 hok ha3
    refine tc_v hAL hS hA (va_runV (As := [.int r6, .int r7]) (rest := []) ⟨hx, hb, hml, hown, noTs⟩ (t_X10_start l dC dI s.heap.size G cs tt mm a3 ha3 r6 r7) ⟨cbE 2 (wd_637 hE) (wd_120 hE) (wd_839 hE) rfl rfl (by decide +kernel) ⟨Nat.le_of_ble_eq_true rfl, Nat.le_of_ble_eq_true rfl⟩, (wd_635 hE), (wd_636 hE)⟩ ⟨PT.blind, th_recv hK hP ha3.1 he8 rfl, (th_pre (av := [.ref a3, .int r6, .int r7]) trivial hK hP hok hnd hWT hE)⟩ rfl rfl hl.1 rfl (lv_room (Nat.le_of_ble_eq_true rfl)) dX2_beginBehind_38 ⟨Nat.le_of_ble_eq_true rfl, Nat.le_of_ble_eq_true rfl⟩) (fun f9 H locs hr9 hok hP hS => ?_)
    refine lv_iload_n hx hb dX2_beginBehind_41 rfl (lv_at hl 2 rfl) ?_
    refine lv_istore (lv' := [(4, .int v2), (0, .ref a0), (1, .ref a1), (2, .int v2), (3, .ref a3)]) hx hb dX2_beginBehind_42 hl (by decide) rfl (fun ls hl => ?_)
    refine w_ind (I := fun n f H locs ls => OKT G cs tt mm f ∧ va_P (dC, dI) vwCl (va_pl (gL G) f) H ∧ va_S (AT G s.heap.size) s.heap H locs ∧ ∃ (w4_10 : Int32), n = (2147483647 - w4_10.toInt).toNat ∧ 1 ≤ w4_10 ∧ lv_has ls 5 [(0, .ref a0), (1, .ref a1), (2, .int v2), (3, .ref a3), (4, .int w4_10)]) (fun n f10 H locs ls hI ih10 => ?_) _ f9 _ _ _ ⟨hok, hP, hS, v2, rfl, (by first | omega | (simp only [i_lt, i_le, i_eq, ti_m9, ti_m1, ti_0, ti_1, ti_2, ti_3, ti_4, ti_5, ti_6, ti_7, ti_9, ti_12, ti_20, ti_99, ti_700, ti_24, ti_156, ti_72, ti_8, ti_60, ti_543, ti_10, ti_33, ti_51, ti_178, ti_119, ti_111, ti_114, ti_100, ti_32, ti_62, ti_59, ti_48, ti_701, ti_97, ti_122, ti_57, ti_73, ti_128] at c1 ⊢; omega)), lv_sub hl [1, 2, 3, 4, 0] rfl⟩
    obtain ⟨hok, hP, hS, w4_10, hmu10, hlo10, hl⟩ := hI
    subst hmu10
    refine lv_iload hx hb dX2_beginBehind_44 (lv_at hl 4 rfl) ?_
    refine lv_aload_n hx hb dX2_beginBehind_46 rfl (lv_at hl 1 rfl) ?_
    obtain ⟨y2_11, y3_11, hy3_11, he11⟩ := ok_X10 hok ha1
    refine vp_callSi (va_Run.run (va_runV (As := []) (rest := [.int w4_10]) ⟨hx, hb, hml, hown, noTs⟩ (t_X10_size l dC dI H.size G cs tt mm a1 ha1 y2_11 y3_11) ⟨cbE 0 (wd_666 hE) (wd_120 hE) (wd_846 hE) rfl rfl (by decide +kernel) ⟨Nat.le_of_ble_eq_true rfl, Nat.le_of_ble_eq_true rfl⟩, (wd_664 hE), (wd_665 hE)⟩ ⟨PT.blind, th_recv hK hP ha1.1 he11 rfl, (th_pre (av := [.ref a1]) he11 hK hP hok hnd hWT hE)⟩ rfl rfl hl.1 rfl (lv_room (Nat.le_of_ble_eq_true rfl)) dX2_beginBehind_47 ⟨Nat.le_of_ble_eq_true rfl, Nat.le_of_ble_eq_true rfl⟩)) (fun r12 hr12 => ?_)
    subst hr12
    have nt13 : (nI y3_11).toInt = ((y3_11 : Nat) : Int) := nI_toInt (by omega)
    refine lv_icmp_ge (tgt := 77) hx hb dX2_beginBehind_50 (by decide) (fun c14 => ?_) (fun c14 => ?_)
    · refine lv_iload_n hx hb dX2_beginBehind_77 rfl (lv_at hl 2 rfl) ?_
      refine lv_if_le (tgt := 98) hx hb dX2_beginBehind_78 (by decide) (fun c15 => False.elim (by simp only [i_lt, i_le, i_eq, ti_m9, ti_m1, ti_0, ti_1, ti_2, ti_3, ti_4, ti_5, ti_6, ti_7, ti_9, ti_12, ti_20, ti_99, ti_700, ti_24, ti_156, ti_72, ti_8, ti_60, ti_543, ti_10, ti_33, ti_51, ti_178, ti_119, ti_111, ti_114, ti_100, ti_32, ti_62, ti_59, ti_48, ti_701, ti_97, ti_122, ti_57, ti_73, ti_128, nt13] at c1 hlo10 c14 c15; omega)) (fun c15 => ?_)
      refine lv_aload_n hx hb dX2_beginBehind_81 rfl (lv_at hl 3 rfl) ?_
      refine lv_aload_n hx hb dX2_beginBehind_82 rfl (lv_at hl 1 rfl) ?_
      refine lv_iconst (v := 0) hx hb dX2_beginBehind_83 (by decide) ?_
      refine vp_callSi (va_Run.run (va_runV (As := [.int 0]) (rest := [.ref a3]) ⟨hx, hb, hml, hown, noTs⟩ (t_X10_numberAt l dC dI H.size G cs tt mm a1 ha1 0) ⟨cbE 1 (wd_717 hE) (wd_120 hE) (wd_843 hE) rfl rfl (by decide +kernel) ⟨Nat.le_of_ble_eq_true rfl, Nat.le_of_ble_eq_true rfl⟩, (wd_715 hE), (wd_716 hE)⟩ ⟨PT.blind, th_recv hK hP ha1.1 he11 rfl, (th_pre (av := [.ref a1, .int 0]) trivial hK hP hok hnd hWT hE)⟩ rfl rfl hl.1 rfl (lv_room (Nat.le_of_ble_eq_true rfl)) dX2_beginBehind_84 ⟨Nat.le_of_ble_eq_true rfl, Nat.le_of_ble_eq_true rfl⟩)) (fun r16 hr16 => ?_)
      refine lv_aload_n hx hb dX2_beginBehind_87 rfl (lv_at hl 0 rfl) ?_
      refine lv_aload_n hx hb dX2_beginBehind_88 rfl (lv_at hl 1 rfl) ?_
      refine vp_callSi (va_Run.run (va_runV (As := []) (rest := [.ref a0, .int r16, .ref a3]) ⟨hx, hb, hml, hown, noTs⟩ (t_X10_begin l dC dI H.size G cs tt mm a1 ha1) ⟨cbE 0 (wd_713 hE) (wd_120 hE) (wd_838 hE) rfl rfl (by decide +kernel) ⟨Nat.le_of_ble_eq_true rfl, Nat.le_of_ble_eq_true rfl⟩, (wd_711 hE), (wd_712 hE)⟩ ⟨PT.blind, th_recv hK hP ha1.1 he11 rfl, (th_pre (av := [.ref a1]) trivial hK hP hok hnd hWT hE)⟩ rfl rfl hl.1 rfl (lv_room (Nat.le_of_ble_eq_true rfl)) dX2_beginBehind_89 ⟨Nat.le_of_ble_eq_true rfl, Nat.le_of_ble_eq_true rfl⟩)) (fun r17 hr17 => ?_)
      have he18 := ok_X7 hok ha0
      refine vp_callSi (va_Run.run (va_runV (As := [.int r17]) (rest := [.int r16, .ref a3]) ⟨hx, hb, hml, hown, noTs⟩ (t_X7_orderAt l dC dI H.size G cs tt mm a0 ha0 r17) ⟨cbE 1 (wd_614 hE) (wd_116 hE) (wd_844 hE) rfl rfl (by decide +kernel) ⟨Nat.le_of_ble_eq_true rfl, Nat.le_of_ble_eq_true rfl⟩, (wd_612 hE), (wd_613 hE)⟩ ⟨PT.blind, th_recv hK hP ha0.1 he18 rfl, (th_pre (av := [.ref a0, .int r17]) trivial hK hP hok hnd hWT hE)⟩ rfl rfl hl.1 rfl (lv_room (Nat.le_of_ble_eq_true rfl)) dX2_beginBehind_92 ⟨Nat.le_of_ble_eq_true rfl, Nat.le_of_ble_eq_true rfl⟩)) (fun r19 hr19 => ?_)
      obtain ⟨y2_20, y3_20, hy3_20, he20⟩ := ok_X10 hok ha3
      refine tc_v hAL hS hA (va_runV (As := [.int r16, .int r19]) (rest := []) ⟨hx, hb, hml, hown, noTs⟩ (t_X10_addLast l dC dI H.size G cs tt mm a3 ha3 r16 r19) ⟨cbE 2 (wd_645 hE) (wd_120 hE) (wd_845 hE) rfl rfl (by decide +kernel) ⟨Nat.le_of_ble_eq_true rfl, Nat.le_of_ble_eq_true rfl⟩, (wd_643 hE), (wd_644 hE)⟩ ⟨PT.blind, th_recv hK hP ha3.1 he20 rfl, (th_pre (av := [.ref a3, .int r16, .int r19]) trivial hK hP hok hnd hWT hE)⟩ rfl rfl hl.1 rfl (lv_room (Nat.le_of_ble_eq_true rfl)) dX2_beginBehind_95 ⟨Nat.le_of_ble_eq_true rfl, Nat.le_of_ble_eq_true rfl⟩) (fun f21 H locs hr21 hok hP hS => ?_)
      refine lv_iconst (v := 0) hx hb dX2_beginBehind_98 (by decide) ?_
      refine lv_istore (lv' := [(4, .int 0), (0, .ref a0), (1, .ref a1), (2, .int v2), (3, .ref a3)]) hx hb dX2_beginBehind_99 hl (by decide) rfl (fun ls hl => ?_)
      refine w_ind (I := fun n f H locs ls => OKT G cs tt mm f ∧ va_P (dC, dI) vwCl (va_pl (gL G) f) H ∧ va_S (AT G s.heap.size) s.heap H locs ∧ ∃ (w4_22 : Int32), n = (2147483647 - w4_22.toInt).toNat ∧ 0 ≤ w4_22 ∧ lv_has ls 5 [(0, .ref a0), (1, .ref a1), (2, .int v2), (3, .ref a3), (4, .int w4_22)]) (fun n f22 H locs ls hI ih22 => ?_) _ f21 _ _ _ ⟨hok, hP, hS, 0, rfl, (by first | omega | (simp only [i_lt, i_le, i_eq, ti_m9, ti_m1, ti_0, ti_1, ti_2, ti_3, ti_4, ti_5, ti_6, ti_7, ti_9, ti_12, ti_20, ti_99, ti_700, ti_24, ti_156, ti_72, ti_8, ti_60, ti_543, ti_10, ti_33, ti_51, ti_178, ti_119, ti_111, ti_114, ti_100, ti_32, ti_62, ti_59, ti_48, ti_701, ti_97, ti_122, ti_57, ti_73, ti_128, nt13] at c1 hlo10 c14 c15 ⊢; omega)), lv_sub hl [1, 2, 3, 4, 0] rfl⟩
      obtain ⟨hok, hP, hS, w4_22, hmu22, hlo22, hl⟩ := hI
      subst hmu22
      refine lv_iload hx hb dX2_beginBehind_101 (lv_at hl 4 rfl) ?_
      refine lv_iload_n hx hb dX2_beginBehind_103 rfl (lv_at hl 2 rfl) ?_
      refine lv_icmp_ge (tgt := 143) hx hb dX2_beginBehind_104 (by decide) (fun c23 => ?_) (fun c23 => ?_)
      · exact W.vret hx hb hr (fun t ht hW => ⟨⟨f22, rfl, trivial, hok, by rw [ht]; exact hP⟩, hS.F ht⟩) hS.2.2 dX2_beginBehind_143
      · refine lv_aload_n hx hb dX2_beginBehind_107 rfl (lv_at hl 3 rfl) ?_
        refine lv_aload_n hx hb dX2_beginBehind_108 rfl (lv_at hl 1 rfl) ?_
        refine lv_iload hx hb dX2_beginBehind_109 (lv_at hl 4 rfl) ?_
        obtain ⟨y2_24, y3_24, hy3_24, he24⟩ := ok_X10 hok ha1
        refine vp_callSi (va_Run.run (va_runV (As := [.int w4_22]) (rest := [.ref a3]) ⟨hx, hb, hml, hown, noTs⟩ (t_X10_stepAt l dC dI H.size G cs tt mm a1 ha1 w4_22) ⟨cbE 1 (wd_721 hE) (wd_120 hE) (wd_847 hE) rfl rfl (by decide +kernel) ⟨Nat.le_of_ble_eq_true rfl, Nat.le_of_ble_eq_true rfl⟩, (wd_719 hE), (wd_720 hE)⟩ ⟨PT.blind, th_recv hK hP ha1.1 he24 rfl, (th_pre (av := [.ref a1, .int w4_22]) trivial hK hP hok hnd hWT hE)⟩ rfl rfl hl.1 rfl (lv_room (Nat.le_of_ble_eq_true rfl)) dX2_beginBehind_111 ⟨Nat.le_of_ble_eq_true rfl, Nat.le_of_ble_eq_true rfl⟩)) (fun r25 hr25 => ?_)
        refine lv_iload hx hb dX2_beginBehind_114 (lv_at hl 4 rfl) ?_
        refine lv_iconst (v := 1) hx hb dX2_beginBehind_116 (by decide) ?_
        refine lv_iadd hx hb dX2_beginBehind_117 ?_
        refine lv_topi (fun x26 ex26 => ?_)
        have ic26 : x26.toInt = w4_22.toInt + 1 := by rw [ex26]; exact ic_up (by have := i_rng v2; have := i_rng w4_10; have := i_rng (nI y3_11); have := i_rng w4_22; simp only [i_lt, i_le, i_eq, ti_m9, ti_m1, ti_0, ti_1, ti_2, ti_3, ti_4, ti_5, ti_6, ti_7, ti_9, ti_12, ti_20, ti_99, ti_700, ti_24, ti_156, ti_72, ti_8, ti_60, ti_543, ti_10, ti_33, ti_51, ti_178, ti_119, ti_111, ti_114, ti_100, ti_32, ti_62, ti_59, ti_48, ti_701, ti_97, ti_122, ti_57, ti_73, ti_128, nt13] at c1 hlo10 c14 c15 hlo22 c23 ⊢; omega)
        refine lv_iload_n hx hb dX2_beginBehind_118 rfl (lv_at hl 2 rfl) ?_
        refine lv_icmp_ge (tgt := 133) hx hb dX2_beginBehind_119 (by decide) (fun c27 => ?_) (fun c27 => ?_)
        · refine lv_iconst (v := 0) hx hb dX2_beginBehind_133 (by decide) ?_
          obtain ⟨y2_28, y3_28, hy3_28, he28⟩ := ok_X10 hok ha3
          refine tc_v hAL hS hA (va_runV (As := [.int r25, .int 0]) (rest := []) ⟨hx, hb, hml, hown, noTs⟩ (t_X10_push l dC dI H.size G cs tt mm a3 ha3 r25 0) ⟨cbE 2 (wd_688 hE) (wd_120 hE) (wd_872 hE) rfl rfl (by decide +kernel) ⟨Nat.le_of_ble_eq_true rfl, Nat.le_of_ble_eq_true rfl⟩, (wd_686 hE), (wd_687 hE)⟩ ⟨PT.blind, th_recv hK hP ha3.1 he28 rfl, (th_pre (av := [.ref a3, .int r25, .int 0]) trivial hK hP hok hnd hWT hE)⟩ rfl rfl hl.1 rfl (lv_room (Nat.le_of_ble_eq_true rfl)) dX2_beginBehind_134 ⟨Nat.le_of_ble_eq_true rfl, Nat.le_of_ble_eq_true rfl⟩) (fun f29 H locs hr29 hok hP hS => ?_)
          obtain ⟨z30, ez30⟩ : ∃ z : Int32, z = w4_22 + 1 := ⟨_, rfl⟩
          refine lv_iinc (v := z30) (lv' := [(4, .int z30), (0, .ref a0), (1, .ref a1), (2, .int v2), (3, .ref a3)]) hx hb dX2_beginBehind_137 hl (k := 4) rfl (by rw [ez30]; rfl) (by decide) rfl (fun ls hl => ?_)
          have ic30 : z30.toInt = w4_22.toInt + 1 := by rw [ez30]; exact ic_up (by have := i_rng v2; have := i_rng w4_10; have := i_rng (nI y3_11); have := i_rng w4_22; have := i_rng x26; simp only [i_lt, i_le, i_eq, ti_m9, ti_m1, ti_0, ti_1, ti_2, ti_3, ti_4, ti_5, ti_6, ti_7, ti_9, ti_12, ti_20, ti_99, ti_700, ti_24, ti_156, ti_72, ti_8, ti_60, ti_543, ti_10, ti_33, ti_51, ti_178, ti_119, ti_111, ti_114, ti_100, ti_32, ti_62, ti_59, ti_48, ti_701, ti_97, ti_122, ti_57, ti_73, ti_128, nt13, ic26] at c1 hlo10 c14 c15 hlo22 c23 c27 ⊢; omega)
          refine lv_goto (tgt := 101) hx hb dX2_beginBehind_140 (by decide) ?_
          exact ih22 _ f29 _ _ _ (by have := i_rng z30; first | omega | (simp only [i_lt, i_le, i_eq, ti_m9, ti_m1, ti_0, ti_1, ti_2, ti_3, ti_4, ti_5, ti_6, ti_7, ti_9, ti_12, ti_20, ti_99, ti_700, ti_24, ti_156, ti_72, ti_8, ti_60, ti_543, ti_10, ti_33, ti_51, ti_178, ti_119, ti_111, ti_114, ti_100, ti_32, ti_62, ti_59, ti_48, ti_701, ti_97, ti_122, ti_57, ti_73, ti_128, nt13, ic26, ic30] at c1 hlo10 c14 c15 hlo22 c23 c27 ic30 ⊢; omega)) ⟨hok, hP, hS, z30, rfl, (by first | omega | (simp only [i_lt, i_le, i_eq, ti_m9, ti_m1, ti_0, ti_1, ti_2, ti_3, ti_4, ti_5, ti_6, ti_7, ti_9, ti_12, ti_20, ti_99, ti_700, ti_24, ti_156, ti_72, ti_8, ti_60, ti_543, ti_10, ti_33, ti_51, ti_178, ti_119, ti_111, ti_114, ti_100, ti_32, ti_62, ti_59, ti_48, ti_701, ti_97, ti_122, ti_57, ti_73, ti_128, nt13, ic26, ic30] at c1 hlo10 c14 c15 hlo22 c23 c27 ⊢; omega)), lv_sub hl [1, 2, 3, 4, 0] rfl⟩
        · refine lv_aload_n hx hb dX2_beginBehind_122 rfl (lv_at hl 1 rfl) ?_
          refine lv_iload hx hb dX2_beginBehind_123 (lv_at hl 4 rfl) ?_
          refine lv_iconst (v := 1) hx hb dX2_beginBehind_125 (by decide) ?_
          refine lv_iadd hx hb dX2_beginBehind_126 ?_
          refine lv_topi (fun x31 ex31 => ?_)
          have ic31 : x31.toInt = w4_22.toInt + 1 := by rw [ex31]; exact ic_up (by have := i_rng v2; have := i_rng w4_10; have := i_rng (nI y3_11); have := i_rng w4_22; have := i_rng x26; simp only [i_lt, i_le, i_eq, ti_m9, ti_m1, ti_0, ti_1, ti_2, ti_3, ti_4, ti_5, ti_6, ti_7, ti_9, ti_12, ti_20, ti_99, ti_700, ti_24, ti_156, ti_72, ti_8, ti_60, ti_543, ti_10, ti_33, ti_51, ti_178, ti_119, ti_111, ti_114, ti_100, ti_32, ti_62, ti_59, ti_48, ti_701, ti_97, ti_122, ti_57, ti_73, ti_128, nt13, ic26] at c1 hlo10 c14 c15 hlo22 c23 c27 ⊢; omega)
          refine vp_callSi (va_Run.run (va_runV (As := [.int x31]) (rest := [.int r25, .ref a3]) ⟨hx, hb, hml, hown, noTs⟩ (t_X10_numberAt l dC dI H.size G cs tt mm a1 ha1 x31) ⟨cbE 1 (wd_717 hE) (wd_120 hE) (wd_843 hE) rfl rfl (by decide +kernel) ⟨Nat.le_of_ble_eq_true rfl, Nat.le_of_ble_eq_true rfl⟩, (wd_715 hE), (wd_716 hE)⟩ ⟨PT.blind, th_recv hK hP ha1.1 he24 rfl, (th_pre (av := [.ref a1, .int x31]) trivial hK hP hok hnd hWT hE)⟩ rfl rfl hl.1 rfl (lv_room (Nat.le_of_ble_eq_true rfl)) dX2_beginBehind_127 ⟨Nat.le_of_ble_eq_true rfl, Nat.le_of_ble_eq_true rfl⟩)) (fun r32 hr32 => ?_)
          refine lv_goto (tgt := 134) hx hb dX2_beginBehind_130 (by decide) ?_
          obtain ⟨y2_33, y3_33, hy3_33, he33⟩ := ok_X10 hok ha3
          refine tc_v hAL hS hA (va_runV (As := [.int r25, .int r32]) (rest := []) ⟨hx, hb, hml, hown, noTs⟩ (t_X10_push l dC dI H.size G cs tt mm a3 ha3 r25 r32) ⟨cbE 2 (wd_688 hE) (wd_120 hE) (wd_872 hE) rfl rfl (by decide +kernel) ⟨Nat.le_of_ble_eq_true rfl, Nat.le_of_ble_eq_true rfl⟩, (wd_686 hE), (wd_687 hE)⟩ ⟨PT.blind, th_recv hK hP ha3.1 he33 rfl, (th_pre (av := [.ref a3, .int r25, .int r32]) trivial hK hP hok hnd hWT hE)⟩ rfl rfl hl.1 rfl (lv_room (Nat.le_of_ble_eq_true rfl)) dX2_beginBehind_134 ⟨Nat.le_of_ble_eq_true rfl, Nat.le_of_ble_eq_true rfl⟩) (fun f34 H locs hr34 hok hP hS => ?_)
          obtain ⟨z35, ez35⟩ : ∃ z : Int32, z = w4_22 + 1 := ⟨_, rfl⟩
          refine lv_iinc (v := z35) (lv' := [(4, .int z35), (0, .ref a0), (1, .ref a1), (2, .int v2), (3, .ref a3)]) hx hb dX2_beginBehind_137 hl (k := 4) rfl (by rw [ez35]; rfl) (by decide) rfl (fun ls hl => ?_)
          have ic35 : z35.toInt = w4_22.toInt + 1 := by rw [ez35]; exact ic_up (by have := i_rng v2; have := i_rng w4_10; have := i_rng (nI y3_11); have := i_rng w4_22; have := i_rng x26; simp only [i_lt, i_le, i_eq, ti_m9, ti_m1, ti_0, ti_1, ti_2, ti_3, ti_4, ti_5, ti_6, ti_7, ti_9, ti_12, ti_20, ti_99, ti_700, ti_24, ti_156, ti_72, ti_8, ti_60, ti_543, ti_10, ti_33, ti_51, ti_178, ti_119, ti_111, ti_114, ti_100, ti_32, ti_62, ti_59, ti_48, ti_701, ti_97, ti_122, ti_57, ti_73, ti_128, nt13, ic26, ic31] at c1 hlo10 c14 c15 hlo22 c23 c27 ⊢; omega)
          refine lv_goto (tgt := 101) hx hb dX2_beginBehind_140 (by decide) ?_
          exact ih22 _ f34 _ _ _ (by have := i_rng z35; first | omega | (simp only [i_lt, i_le, i_eq, ti_m9, ti_m1, ti_0, ti_1, ti_2, ti_3, ti_4, ti_5, ti_6, ti_7, ti_9, ti_12, ti_20, ti_99, ti_700, ti_24, ti_156, ti_72, ti_8, ti_60, ti_543, ti_10, ti_33, ti_51, ti_178, ti_119, ti_111, ti_114, ti_100, ti_32, ti_62, ti_59, ti_48, ti_701, ti_97, ti_122, ti_57, ti_73, ti_128, nt13, ic26, ic31, ic35] at c1 hlo10 c14 c15 hlo22 c23 c27 ic35 ⊢; omega)) ⟨hok, hP, hS, z35, rfl, (by first | omega | (simp only [i_lt, i_le, i_eq, ti_m9, ti_m1, ti_0, ti_1, ti_2, ti_3, ti_4, ti_5, ti_6, ti_7, ti_9, ti_12, ti_20, ti_99, ti_700, ti_24, ti_156, ti_72, ti_8, ti_60, ti_543, ti_10, ti_33, ti_51, ti_178, ti_119, ti_111, ti_114, ti_100, ti_32, ti_62, ti_59, ti_48, ti_701, ti_97, ti_122, ti_57, ti_73, ti_128, nt13, ic26, ic31, ic35] at c1 hlo10 c14 c15 hlo22 c23 c27 ⊢; omega)), lv_sub hl [1, 2, 3, 4, 0] rfl⟩
    · refine lv_aload_n hx hb dX2_beginBehind_53 rfl (lv_at hl 3 rfl) ?_
      refine lv_aload_n hx hb dX2_beginBehind_54 rfl (lv_at hl 1 rfl) ?_
      refine lv_iload hx hb dX2_beginBehind_55 (lv_at hl 4 rfl) ?_
      refine vp_callSi (va_Run.run (va_runV (As := [.int w4_10]) (rest := [.ref a3]) ⟨hx, hb, hml, hown, noTs⟩ (t_X10_stepAt l dC dI H.size G cs tt mm a1 ha1 w4_10) ⟨cbE 1 (wd_721 hE) (wd_120 hE) (wd_847 hE) rfl rfl (by decide +kernel) ⟨Nat.le_of_ble_eq_true rfl, Nat.le_of_ble_eq_true rfl⟩, (wd_719 hE), (wd_720 hE)⟩ ⟨PT.blind, th_recv hK hP ha1.1 he11 rfl, (th_pre (av := [.ref a1, .int w4_10]) trivial hK hP hok hnd hWT hE)⟩ rfl rfl hl.1 rfl (lv_room (Nat.le_of_ble_eq_true rfl)) dX2_beginBehind_57 ⟨Nat.le_of_ble_eq_true rfl, Nat.le_of_ble_eq_true rfl⟩)) (fun r36 hr36 => ?_)
      refine lv_aload_n hx hb dX2_beginBehind_60 rfl (lv_at hl 1 rfl) ?_
      refine lv_iload hx hb dX2_beginBehind_61 (lv_at hl 4 rfl) ?_
      refine lv_iconst (v := 1) hx hb dX2_beginBehind_63 (by decide) ?_
      obtain ⟨j37, hj37, rfl⟩ : ∃ j : Nat, j ≤ 71 ∧ w4_10 = nI j := i_nat (by first | omega | (simp only [i_lt, i_le, i_eq, ti_m9, ti_m1, ti_0, ti_1, ti_2, ti_3, ti_4, ti_5, ti_6, ti_7, ti_9, ti_12, ti_20, ti_99, ti_700, ti_24, ti_156, ti_72, ti_8, ti_60, ti_543, ti_10, ti_33, ti_51, ti_178, ti_119, ti_111, ti_114, ti_100, ti_32, ti_62, ti_59, ti_48, ti_701, ti_97, ti_122, ti_57, ti_73, ti_128, nt13] at c1 hlo10 c14 ⊢; omega)) (by first | omega | (simp only [i_lt, i_le, i_eq, ti_m9, ti_m1, ti_0, ti_1, ti_2, ti_3, ti_4, ti_5, ti_6, ti_7, ti_9, ti_12, ti_20, ti_99, ti_700, ti_24, ti_156, ti_72, ti_8, ti_60, ti_543, ti_10, ti_33, ti_51, ti_178, ti_119, ti_111, ti_114, ti_100, ti_32, ti_62, ti_59, ti_48, ti_701, ti_97, ti_122, ti_57, ti_73, ti_128, nt13] at c1 hlo10 c14 ⊢; omega))
      have nt38 : (nI j37).toInt = ((j37 : Nat) : Int) := nI_toInt (by omega)
      refine lv_iadd hx hb dX2_beginBehind_64 ?_
      refine W.eq (g2 := F0 m 65 ls [.int (nI (j37 + 1)), .ref a1, .int r36, .ref a3]) (congrArg (fun z : Int32 => F0 m 65 ls (.int z :: [.ref a1, .int r36, .ref a3])) (nI_add j37 1)) ?_
      refine vp_callSi (va_Run.run (va_runV (As := [.int (nI (j37 + 1))]) (rest := [.int r36, .ref a3]) ⟨hx, hb, hml, hown, noTs⟩ (t_X10_numberAt l dC dI H.size G cs tt mm a1 ha1 (nI (j37 + 1))) ⟨cbE 1 (wd_717 hE) (wd_120 hE) (wd_843 hE) rfl rfl (by decide +kernel) ⟨Nat.le_of_ble_eq_true rfl, Nat.le_of_ble_eq_true rfl⟩, (wd_715 hE), (wd_716 hE)⟩ ⟨PT.blind, th_recv hK hP ha1.1 he11 rfl, (th_pre (av := [.ref a1, .int (nI (j37 + 1))]) trivial hK hP hok hnd hWT hE)⟩ rfl rfl hl.1 rfl (lv_room (Nat.le_of_ble_eq_true rfl)) dX2_beginBehind_65 ⟨Nat.le_of_ble_eq_true rfl, Nat.le_of_ble_eq_true rfl⟩)) (fun r39 hr39 => ?_)
      obtain ⟨y2_40, y3_40, hy3_40, he40⟩ := ok_X10 hok ha3
      refine tc_v hAL hS hA (va_runV (As := [.int r36, .int r39]) (rest := []) ⟨hx, hb, hml, hown, noTs⟩ (t_X10_push l dC dI H.size G cs tt mm a3 ha3 r36 r39) ⟨cbE 2 (wd_688 hE) (wd_120 hE) (wd_872 hE) rfl rfl (by decide +kernel) ⟨Nat.le_of_ble_eq_true rfl, Nat.le_of_ble_eq_true rfl⟩, (wd_686 hE), (wd_687 hE)⟩ ⟨PT.blind, th_recv hK hP ha3.1 he40 rfl, (th_pre (av := [.ref a3, .int r36, .int r39]) trivial hK hP hok hnd hWT hE)⟩ rfl rfl hl.1 rfl (lv_room (Nat.le_of_ble_eq_true rfl)) dX2_beginBehind_68 ⟨Nat.le_of_ble_eq_true rfl, Nat.le_of_ble_eq_true rfl⟩) (fun f41 H locs hr41 hok hP hS => ?_)
      obtain ⟨z42, ez42⟩ : ∃ z : Int32, z = (nI j37) + 1 := ⟨_, rfl⟩
      refine lv_iinc (v := z42) (lv' := [(4, .int z42), (0, .ref a0), (1, .ref a1), (2, .int v2), (3, .ref a3)]) hx hb dX2_beginBehind_71 hl (k := 4) rfl (by rw [ez42]; rfl) (by decide) rfl (fun ls hl => ?_)
      have ic42 : z42.toInt = (nI j37).toInt + 1 := by rw [ez42]; exact ic_up (by have := i_rng v2; have := i_rng (nI j37); have := i_rng (nI y3_11); simp only [i_lt, i_le, i_eq, ti_m9, ti_m1, ti_0, ti_1, ti_2, ti_3, ti_4, ti_5, ti_6, ti_7, ti_9, ti_12, ti_20, ti_99, ti_700, ti_24, ti_156, ti_72, ti_8, ti_60, ti_543, ti_10, ti_33, ti_51, ti_178, ti_119, ti_111, ti_114, ti_100, ti_32, ti_62, ti_59, ti_48, ti_701, ti_97, ti_122, ti_57, ti_73, ti_128, nt13, nt38] at c1 hlo10 c14 ⊢; omega)
      refine lv_goto (tgt := 44) hx hb dX2_beginBehind_74 (by decide) ?_
      exact ih10 _ f41 _ _ _ (by have := i_rng z42; first | omega | (simp only [i_lt, i_le, i_eq, ti_m9, ti_m1, ti_0, ti_1, ti_2, ti_3, ti_4, ti_5, ti_6, ti_7, ti_9, ti_12, ti_20, ti_99, ti_700, ti_24, ti_156, ti_72, ti_8, ti_60, ti_543, ti_10, ti_33, ti_51, ti_178, ti_119, ti_111, ti_114, ti_100, ti_32, ti_62, ti_59, ti_48, ti_701, ti_97, ti_122, ti_57, ti_73, ti_128, nt13, nt38, ic42] at c1 hlo10 c14 ic42 ⊢; omega)) ⟨hok, hP, hS, z42, rfl, (by first | omega | (simp only [i_lt, i_le, i_eq, ti_m9, ti_m1, ti_0, ti_1, ti_2, ti_3, ti_4, ti_5, ti_6, ti_7, ti_9, ti_12, ti_20, ti_99, ti_700, ti_24, ti_156, ti_72, ti_8, ti_60, ti_543, ti_10, ti_33, ti_51, ti_178, ti_119, ti_111, ti_114, ti_100, ti_32, ti_62, ti_59, ti_48, ti_701, ti_97, ti_122, ti_57, ti_73, ti_128, nt13, nt38, ic42] at c1 hlo10 c14 ⊢; omega)), lv_sub hl [1, 2, 3, 4, 0] rfl⟩
  · refine lv_aload_n hx hb dX2_beginBehind_5 rfl (lv_at hl 3 rfl) ?_
    refine lv_aload_n hx hb dX2_beginBehind_6 rfl (lv_at hl 1 rfl) ?_
    obtain ⟨y2_43, y3_43, hy3_43, he43⟩ := ok_X10 hok ha1
    refine vp_callSi (va_Run.run (va_runV (As := []) (rest := [.ref a3]) ⟨hx, hb, hml, hown, noTs⟩ (t_X10_begin l dC dI s.heap.size G cs tt mm a1 ha1) ⟨cbE 0 (wd_713 hE) (wd_120 hE) (wd_838 hE) rfl rfl (by decide +kernel) ⟨Nat.le_of_ble_eq_true rfl, Nat.le_of_ble_eq_true rfl⟩, (wd_711 hE), (wd_712 hE)⟩ ⟨PT.blind, th_recv hK hP ha1.1 he43 rfl, (th_pre (av := [.ref a1]) trivial hK hP hok hnd hWT hE)⟩ rfl rfl hl.1 rfl (lv_room (Nat.le_of_ble_eq_true rfl)) dX2_beginBehind_7 ⟨Nat.le_of_ble_eq_true rfl, Nat.le_of_ble_eq_true rfl⟩)) (fun r44 hr44 => ?_)
    refine lv_aload_n hx hb dX2_beginBehind_10 rfl (lv_at hl 1 rfl) ?_
    refine lv_iconst (v := 0) hx hb dX2_beginBehind_11 (by decide) ?_
    refine vp_callSi (va_Run.run (va_runV (As := [.int 0]) (rest := [.int r44, .ref a3]) ⟨hx, hb, hml, hown, noTs⟩ (t_X10_numberAt l dC dI s.heap.size G cs tt mm a1 ha1 0) ⟨cbE 1 (wd_717 hE) (wd_120 hE) (wd_843 hE) rfl rfl (by decide +kernel) ⟨Nat.le_of_ble_eq_true rfl, Nat.le_of_ble_eq_true rfl⟩, (wd_715 hE), (wd_716 hE)⟩ ⟨PT.blind, th_recv hK hP ha1.1 he43 rfl, (th_pre (av := [.ref a1, .int 0]) trivial hK hP hok hnd hWT hE)⟩ rfl rfl hl.1 rfl (lv_room (Nat.le_of_ble_eq_true rfl)) dX2_beginBehind_12 ⟨Nat.le_of_ble_eq_true rfl, Nat.le_of_ble_eq_true rfl⟩)) (fun r45 hr45 => ?_)
    obtain ⟨y2_46, y3_46, hy3_46, he46⟩ := ok_X10 hok ha3
    refine tc_v hAL hS hA (va_runV (As := [.int r44, .int r45]) (rest := []) ⟨hx, hb, hml, hown, noTs⟩ (t_X10_start l dC dI s.heap.size G cs tt mm a3 ha3 r44 r45) ⟨cbE 2 (wd_637 hE) (wd_120 hE) (wd_839 hE) rfl rfl (by decide +kernel) ⟨Nat.le_of_ble_eq_true rfl, Nat.le_of_ble_eq_true rfl⟩, (wd_635 hE), (wd_636 hE)⟩ ⟨PT.blind, th_recv hK hP ha3.1 he46 rfl, (th_pre (av := [.ref a3, .int r44, .int r45]) trivial hK hP hok hnd hWT hE)⟩ rfl rfl hl.1 rfl (lv_room (Nat.le_of_ble_eq_true rfl)) dX2_beginBehind_15 ⟨Nat.le_of_ble_eq_true rfl, Nat.le_of_ble_eq_true rfl⟩) (fun f47 H locs hr47 hok hP hS => ?_)
    refine lv_goto (tgt := 41) hx hb dX2_beginBehind_18 (by decide) ?_
    refine lv_iload_n hx hb dX2_beginBehind_41 rfl (lv_at hl 2 rfl) ?_
    refine lv_istore (lv' := [(4, .int v2), (0, .ref a0), (1, .ref a1), (2, .int v2), (3, .ref a3)]) hx hb dX2_beginBehind_42 hl (by decide) rfl (fun ls hl => ?_)
    refine w_ind (I := fun n f H locs ls => OKT G cs tt mm f ∧ va_P (dC, dI) vwCl (va_pl (gL G) f) H ∧ va_S (AT G s.heap.size) s.heap H locs ∧ ∃ (w4_48 : Int32), n = (2147483647 - w4_48.toInt).toNat ∧ lv_has ls 5 [(0, .ref a0), (1, .ref a1), (2, .int v2), (3, .ref a3), (4, .int w4_48)]) (fun n f48 H locs ls hI ih48 => ?_) _ f47 _ _ _ ⟨hok, hP, hS, v2, rfl, lv_sub hl [1, 2, 3, 4, 0] rfl⟩
    obtain ⟨hok, hP, hS, w4_48, hmu48, hl⟩ := hI
    subst hmu48
    refine lv_iload hx hb dX2_beginBehind_44 (lv_at hl 4 rfl) ?_
    refine lv_aload_n hx hb dX2_beginBehind_46 rfl (lv_at hl 1 rfl) ?_
    obtain ⟨y2_49, y3_49, hy3_49, he49⟩ := ok_X10 hok ha1
    refine vp_callSi (va_Run.run (va_runV (As := []) (rest := [.int w4_48]) ⟨hx, hb, hml, hown, noTs⟩ (t_X10_size l dC dI H.size G cs tt mm a1 ha1 y2_49 y3_49) ⟨cbE 0 (wd_666 hE) (wd_120 hE) (wd_846 hE) rfl rfl (by decide +kernel) ⟨Nat.le_of_ble_eq_true rfl, Nat.le_of_ble_eq_true rfl⟩, (wd_664 hE), (wd_665 hE)⟩ ⟨PT.blind, th_recv hK hP ha1.1 he49 rfl, (th_pre (av := [.ref a1]) he49 hK hP hok hnd hWT hE)⟩ rfl rfl hl.1 rfl (lv_room (Nat.le_of_ble_eq_true rfl)) dX2_beginBehind_47 ⟨Nat.le_of_ble_eq_true rfl, Nat.le_of_ble_eq_true rfl⟩)) (fun r50 hr50 => ?_)
    subst hr50
    have nt51 : (nI y3_49).toInt = ((y3_49 : Nat) : Int) := nI_toInt (by omega)
    refine lv_icmp_ge (tgt := 77) hx hb dX2_beginBehind_50 (by decide) (fun c52 => ?_) (fun c52 => ?_)
    · refine lv_iload_n hx hb dX2_beginBehind_77 rfl (lv_at hl 2 rfl) ?_
      refine lv_if_le (tgt := 98) hx hb dX2_beginBehind_78 (by decide) (fun c53 => ?_) (fun c53 => False.elim (by simp only [i_lt, i_le, i_eq, ti_m9, ti_m1, ti_0, ti_1, ti_2, ti_3, ti_4, ti_5, ti_6, ti_7, ti_9, ti_12, ti_20, ti_99, ti_700, ti_24, ti_156, ti_72, ti_8, ti_60, ti_543, ti_10, ti_33, ti_51, ti_178, ti_119, ti_111, ti_114, ti_100, ti_32, ti_62, ti_59, ti_48, ti_701, ti_97, ti_122, ti_57, ti_73, ti_128, nt51] at c1 c52 c53; omega))
      refine lv_iconst (v := 0) hx hb dX2_beginBehind_98 (by decide) ?_
      refine lv_istore (lv' := [(4, .int 0), (0, .ref a0), (1, .ref a1), (2, .int v2), (3, .ref a3)]) hx hb dX2_beginBehind_99 hl (by decide) rfl (fun ls hl => ?_)
      refine w_ind (I := fun n f H locs ls => OKT G cs tt mm f ∧ va_P (dC, dI) vwCl (va_pl (gL G) f) H ∧ va_S (AT G s.heap.size) s.heap H locs ∧ ∃ (w4_54 : Int32), n = (2147483647 - w4_54.toInt).toNat ∧ 0 ≤ w4_54 ∧ lv_has ls 5 [(0, .ref a0), (1, .ref a1), (2, .int v2), (3, .ref a3), (4, .int w4_54)]) (fun n f54 H locs ls hI ih54 => ?_) _ f48 _ _ _ ⟨hok, hP, hS, 0, rfl, (by first | omega | (simp only [i_lt, i_le, i_eq, ti_m9, ti_m1, ti_0, ti_1, ti_2, ti_3, ti_4, ti_5, ti_6, ti_7, ti_9, ti_12, ti_20, ti_99, ti_700, ti_24, ti_156, ti_72, ti_8, ti_60, ti_543, ti_10, ti_33, ti_51, ti_178, ti_119, ti_111, ti_114, ti_100, ti_32, ti_62, ti_59, ti_48, ti_701, ti_97, ti_122, ti_57, ti_73, ti_128, nt51] at c1 c52 c53 ⊢; omega)), lv_sub hl [1, 2, 3, 4, 0] rfl⟩
      obtain ⟨hok, hP, hS, w4_54, hmu54, hlo54, hl⟩ := hI
      subst hmu54
      refine lv_iload hx hb dX2_beginBehind_101 (lv_at hl 4 rfl) ?_
      refine lv_iload_n hx hb dX2_beginBehind_103 rfl (lv_at hl 2 rfl) ?_
      refine lv_icmp_ge (tgt := 143) hx hb dX2_beginBehind_104 (by decide) (fun c55 => ?_) (fun c55 => False.elim (by simp only [i_lt, i_le, i_eq, ti_m9, ti_m1, ti_0, ti_1, ti_2, ti_3, ti_4, ti_5, ti_6, ti_7, ti_9, ti_12, ti_20, ti_99, ti_700, ti_24, ti_156, ti_72, ti_8, ti_60, ti_543, ti_10, ti_33, ti_51, ti_178, ti_119, ti_111, ti_114, ti_100, ti_32, ti_62, ti_59, ti_48, ti_701, ti_97, ti_122, ti_57, ti_73, ti_128, nt51] at c1 c52 c53 hlo54 c55; omega))
      exact W.vret hx hb hr (fun t ht hW => ⟨⟨f54, rfl, trivial, hok, by rw [ht]; exact hP⟩, hS.F ht⟩) hS.2.2 dX2_beginBehind_143
    · refine lv_aload_n hx hb dX2_beginBehind_53 rfl (lv_at hl 3 rfl) ?_
      refine lv_aload_n hx hb dX2_beginBehind_54 rfl (lv_at hl 1 rfl) ?_
      refine lv_iload hx hb dX2_beginBehind_55 (lv_at hl 4 rfl) ?_
      refine vp_callSi (va_Run.run (va_runV (As := [.int w4_48]) (rest := [.ref a3]) ⟨hx, hb, hml, hown, noTs⟩ (t_X10_stepAt l dC dI H.size G cs tt mm a1 ha1 w4_48) ⟨cbE 1 (wd_721 hE) (wd_120 hE) (wd_847 hE) rfl rfl (by decide +kernel) ⟨Nat.le_of_ble_eq_true rfl, Nat.le_of_ble_eq_true rfl⟩, (wd_719 hE), (wd_720 hE)⟩ ⟨PT.blind, th_recv hK hP ha1.1 he49 rfl, (th_pre (av := [.ref a1, .int w4_48]) trivial hK hP hok hnd hWT hE)⟩ rfl rfl hl.1 rfl (lv_room (Nat.le_of_ble_eq_true rfl)) dX2_beginBehind_57 ⟨Nat.le_of_ble_eq_true rfl, Nat.le_of_ble_eq_true rfl⟩)) (fun r56 hr56 => ?_)
      refine lv_aload_n hx hb dX2_beginBehind_60 rfl (lv_at hl 1 rfl) ?_
      refine lv_iload hx hb dX2_beginBehind_61 (lv_at hl 4 rfl) ?_
      refine lv_iconst (v := 1) hx hb dX2_beginBehind_63 (by decide) ?_
      refine lv_iadd hx hb dX2_beginBehind_64 ?_
      refine lv_topi (fun x57 ex57 => ?_)
      have ic57 : x57.toInt = w4_48.toInt + 1 := by rw [ex57]; exact ic_up (by have := i_rng v2; have := i_rng w4_48; have := i_rng (nI y3_49); simp only [i_lt, i_le, i_eq, ti_m9, ti_m1, ti_0, ti_1, ti_2, ti_3, ti_4, ti_5, ti_6, ti_7, ti_9, ti_12, ti_20, ti_99, ti_700, ti_24, ti_156, ti_72, ti_8, ti_60, ti_543, ti_10, ti_33, ti_51, ti_178, ti_119, ti_111, ti_114, ti_100, ti_32, ti_62, ti_59, ti_48, ti_701, ti_97, ti_122, ti_57, ti_73, ti_128, nt51] at c1 c52 ⊢; omega)
      refine vp_callSi (va_Run.run (va_runV (As := [.int x57]) (rest := [.int r56, .ref a3]) ⟨hx, hb, hml, hown, noTs⟩ (t_X10_numberAt l dC dI H.size G cs tt mm a1 ha1 x57) ⟨cbE 1 (wd_717 hE) (wd_120 hE) (wd_843 hE) rfl rfl (by decide +kernel) ⟨Nat.le_of_ble_eq_true rfl, Nat.le_of_ble_eq_true rfl⟩, (wd_715 hE), (wd_716 hE)⟩ ⟨PT.blind, th_recv hK hP ha1.1 he49 rfl, (th_pre (av := [.ref a1, .int x57]) trivial hK hP hok hnd hWT hE)⟩ rfl rfl hl.1 rfl (lv_room (Nat.le_of_ble_eq_true rfl)) dX2_beginBehind_65 ⟨Nat.le_of_ble_eq_true rfl, Nat.le_of_ble_eq_true rfl⟩)) (fun r58 hr58 => ?_)
      obtain ⟨y2_59, y3_59, hy3_59, he59⟩ := ok_X10 hok ha3
      refine tc_v hAL hS hA (va_runV (As := [.int r56, .int r58]) (rest := []) ⟨hx, hb, hml, hown, noTs⟩ (t_X10_push l dC dI H.size G cs tt mm a3 ha3 r56 r58) ⟨cbE 2 (wd_688 hE) (wd_120 hE) (wd_872 hE) rfl rfl (by decide +kernel) ⟨Nat.le_of_ble_eq_true rfl, Nat.le_of_ble_eq_true rfl⟩, (wd_686 hE), (wd_687 hE)⟩ ⟨PT.blind, th_recv hK hP ha3.1 he59 rfl, (th_pre (av := [.ref a3, .int r56, .int r58]) trivial hK hP hok hnd hWT hE)⟩ rfl rfl hl.1 rfl (lv_room (Nat.le_of_ble_eq_true rfl)) dX2_beginBehind_68 ⟨Nat.le_of_ble_eq_true rfl, Nat.le_of_ble_eq_true rfl⟩) (fun f60 H locs hr60 hok hP hS => ?_)
      obtain ⟨z61, ez61⟩ : ∃ z : Int32, z = w4_48 + 1 := ⟨_, rfl⟩
      refine lv_iinc (v := z61) (lv' := [(4, .int z61), (0, .ref a0), (1, .ref a1), (2, .int v2), (3, .ref a3)]) hx hb dX2_beginBehind_71 hl (k := 4) rfl (by rw [ez61]; rfl) (by decide) rfl (fun ls hl => ?_)
      have ic61 : z61.toInt = w4_48.toInt + 1 := by rw [ez61]; exact ic_up (by have := i_rng v2; have := i_rng w4_48; have := i_rng (nI y3_49); simp only [i_lt, i_le, i_eq, ti_m9, ti_m1, ti_0, ti_1, ti_2, ti_3, ti_4, ti_5, ti_6, ti_7, ti_9, ti_12, ti_20, ti_99, ti_700, ti_24, ti_156, ti_72, ti_8, ti_60, ti_543, ti_10, ti_33, ti_51, ti_178, ti_119, ti_111, ti_114, ti_100, ti_32, ti_62, ti_59, ti_48, ti_701, ti_97, ti_122, ti_57, ti_73, ti_128, nt51, ic57] at c1 c52 ⊢; omega)
      refine lv_goto (tgt := 44) hx hb dX2_beginBehind_74 (by decide) ?_
      exact ih48 _ f60 _ _ _ (by have := i_rng z61; first | omega | (simp only [i_lt, i_le, i_eq, ti_m9, ti_m1, ti_0, ti_1, ti_2, ti_3, ti_4, ti_5, ti_6, ti_7, ti_9, ti_12, ti_20, ti_99, ti_700, ti_24, ti_156, ti_72, ti_8, ti_60, ti_543, ti_10, ti_33, ti_51, ti_178, ti_119, ti_111, ti_114, ti_100, ti_32, ti_62, ti_59, ti_48, ti_701, ti_97, ti_122, ti_57, ti_73, ti_128, nt51, ic57, ic61] at c1 c52 ic61 ⊢; omega)) ⟨hok, hP, hS, z61, rfl, lv_sub hl [1, 2, 3, 4, 0] rfl⟩

set_option maxHeartbeats 4000000 in
set_option maxRecDepth 100000 in
theorem t_X3_slot (l : Launch) (dC : Nat → ClassId) (dI : Nat → Nat → Nat) (sz : Nat) (G : GT) (cs : Nat → ClassId) (tt mm : Nat) (a0 : Nat) (ha0 : Ty G a0 3) (v1 : Int32) : Met l yX3_slot [.code yX3_slot cX3_slot 3 (some (.object "GluedWords$Store"))] ({ frames := 1, cells := 0, slots := 0, locals := 40 }) (PT [.ref a0, .int v1] sz dC dI G cs tt mm (fun _ => True)) (va_Sq (fun (r : Option Nat) => r = none ∨ ∃ q, r = some q ∧ Ty G q 7)) 0 0 (fun _ => False) := by
  refine Met.ofW (cc := cX3_slot) (maxL := 3) (ret := (some (.object "GluedWords$Store"))) (by decide) rfl ?_
  intro p e s m args below meth c s₁ B hml hv
  obtain ⟨rfl, hsz, ⟨f0, hok, hP, hX⟩, hK, hnd, hWT, hE⟩ := hv
  have hx := B.exec
  have hb := B.bytes
  have hr := B.returns
  have hown : s.vm.findClass RX3 = some m.cls := findClass_of_methodNamed B.named
  have hlocks := B.notSynchronized
  subst hsz
  have hl := lv_entry ([.ref a0, .int v1]) (n := 3) (Nat.le_of_ble_eq_true rfl)
  rw [lg_entry_eq]
  generalize (lg_sl ([.ref a0, .int v1]) ++ List.replicate (3 - (lg_sl ([.ref a0, .int v1])).length) Slot.unset).toArray = ls at hl ⊢
  have hl : lv_has ls 3 [(0, .ref a0), (1, .int v1)] := hl
  refine lv_aload_n hx hb dX3_slot_0 rfl (lv_at hl 0 rfl) ?_
  obtain ⟨y1_1, y2_1, he1⟩ := ok_X3 hok ha0
  refine th_get hx hb (ly_X3 hE) hown hK hP ha0.1 he1 rfl 1 (by decide) (wd_164 hE) (fun _ h9 => h9) rfl dX3_slot_1 ?_
  refine lv_iload_n hx hb dX3_slot_4 rfl (lv_at hl 1 rfl) ?_
  refine lv_iadd hx hb dX3_slot_5 ?_
  refine lv_topi (fun x2 ex2 => ?_)
  refine lv_bipush (v := 8) hx hb dX3_slot_6 (by decide) ?_
  refine vp_callSi (va_Run.run (va_runSN (As := [.int x2, .int 8]) (rest := []) ⟨hx, hb, hml, hown, noTs⟩ (t_X11_rest l dC dI s.heap.size G cs tt mm x2 8) ⟨cnE 2 (wd_617 hE) (wd_115 hE) (wd_726 hE) rfl rfl (by decide +kernel) ⟨Nat.le_of_ble_eq_true rfl, Nat.le_of_ble_eq_true rfl⟩, (wd_616 hE), trivial⟩ ⟨PT.blind, (th_pre (av := [.int x2, .int 8]) trivial hK hP hok hnd hWT hE)⟩ rfl rfl hl.1 rfl (lv_room (Nat.le_of_ble_eq_true rfl)) dX3_slot_8 ⟨Nat.le_of_ble_eq_true rfl, Nat.le_of_ble_eq_true rfl⟩)) (fun r3 hr3 => ?_)
  obtain ⟨hra3, hrb3⟩ := hr3
  refine lv_istore_n (lv' := [(2, .int r3), (0, .ref a0), (1, .int v1)]) hx hb dX3_slot_11 rfl hl (by decide) rfl (fun ls hl => ?_)
  refine lv_iload_n hx hb dX3_slot_12 rfl (lv_at hl 0 rfl) ?_
  refine lv_aload_n hx hb dX3_slot_13 rfl (lv_at hl 1 rfl) ?_
  refine th_get hx hb (ly_X3 hE) hown hK hP ha0.1 he1 rfl 0 (by decide) (wd_163 hE) (fun _ h9 => h9) rfl dX3_slot_14 ?_
  refine th_len1 hx hb hK hP hok (n := 8) (wl_X3_0 hWT ha0) (Or.inr (Or.inr (Or.inr (Or.inl (wt_X3_0 hWT ha0))))) dX3_slot_17 ?_
  refine W.eq (g2 := F0 m 18 ls [.int 8, .int r3]) rfl ?_
  refine lv_icmp_ge (tgt := 30) hx hb dX3_slot_18 (by decide) (fun c4 => False.elim (by simp only [i_lt, i_le, i_eq, ti_m9, ti_m1, ti_0, ti_1, ti_2, ti_3, ti_4, ti_5, ti_6, ti_7, ti_9, ti_12, ti_20, ti_99, ti_700, ti_24, ti_156, ti_72, ti_8, ti_60, ti_543, ti_10, ti_33, ti_51, ti_178, ti_119, ti_111, ti_114, ti_100, ti_32, ti_62, ti_59, ti_48, ti_701, ti_97, ti_122, ti_57, ti_73, ti_128] at hra3 hrb3 c4; omega)) (fun c4 => ?_)
  refine lv_aload_n hx hb dX3_slot_21 rfl (lv_at hl 1 rfl) ?_
  refine th_get hx hb (ly_X3 hE) hown hK hP ha0.1 he1 rfl 0 (by decide) (wd_163 hE) (fun _ h9 => h9) rfl dX3_slot_22 ?_
  refine lv_iload_n hx hb dX3_slot_25 rfl (lv_at hl 0 rfl) ?_
  obtain ⟨j5, hj5, rfl⟩ : ∃ j : Nat, j ≤ 7 ∧ r3 = nI j := i_nat (by first | omega | (simp only [i_lt, i_le, i_eq, ti_m9, ti_m1, ti_0, ti_1, ti_2, ti_3, ti_4, ti_5, ti_6, ti_7, ti_9, ti_12, ti_20, ti_99, ti_700, ti_24, ti_156, ti_72, ti_8, ti_60, ti_543, ti_10, ti_33, ti_51, ti_178, ti_119, ti_111, ti_114, ti_100, ti_32, ti_62, ti_59, ti_48, ti_701, ti_97, ti_122, ti_57, ti_73, ti_128] at hra3 hrb3 c4 ⊢; omega)) (by first | omega | (simp only [i_lt, i_le, i_eq, ti_m9, ti_m1, ti_0, ti_1, ti_2, ti_3, ti_4, ti_5, ti_6, ti_7, ti_9, ti_12, ti_20, ti_99, ti_700, ti_24, ti_156, ti_72, ti_8, ti_60, ti_543, ti_10, ti_33, ti_51, ti_178, ti_119, ti_111, ti_114, ti_100, ti_32, ti_62, ti_59, ti_48, ti_701, ti_97, ti_122, ti_57, ti_73, ti_128] at hra3 hrb3 c4 ⊢; omega))
  have nt6 : (nI j5).toInt = ((j5 : Nat) : Int) := nI_toInt (by omega)
  refine th_ald7 hx hb hK hP hok (wt_X3_0 hWT ha0) (n := 8) (wl_X3_0 hWT ha0) (by first | omega | (simp only [i_lt, i_le, i_eq, ti_m9, ti_m1, ti_0, ti_1, ti_2, ti_3, ti_4, ti_5, ti_6, ti_7, ti_9, ti_12, ti_20, ti_99, ti_700, ti_24, ti_156, ti_72, ti_8, ti_60, ti_543, ti_10, ti_33, ti_51, ti_178, ti_119, ti_111, ti_114, ti_100, ti_32, ti_62, ti_59, ti_48, ti_701, ti_97, ti_122, ti_57, ti_73, ti_128, nt6] at hra3 hrb3 c4 ⊢; omega)) (by decide) dX3_slot_26 ?_
  refine lv_goto (tgt := 31) hx hb dX3_slot_27 (by decide) ?_
  exact W.aret (v := .ref (gR G (gR G a0 0) j5)) hx hb hr (Or.inl ⟨_, rfl⟩) (Or.inr ⟨_, rfl⟩) (fun t ht hW => ⟨some (gR G (gR G a0 0) j5), rfl, Or.inr ⟨_, rfl, (wt_stores hWT (wt_X3_0 hWT ha0) (by rw [(wl_X3_0 hWT ha0)]; first | omega | (simp only [i_lt, i_le, i_eq, ti_m9, ti_m1, ti_0, ti_1, ti_2, ti_3, ti_4, ti_5, ti_6, ti_7, ti_9, ti_12, ti_20, ti_99, ti_700, ti_24, ti_156, ti_72, ti_8, ti_60, ti_543, ti_10, ti_33, ti_51, ti_178, ti_119, ti_111, ti_114, ti_100, ti_32, ti_62, ti_59, ti_48, ti_701, ti_97, ti_122, ti_57, ti_73, ti_128, nt6] at hra3 hrb3 c4 ⊢; omega)))⟩, ht⟩) (fun _ h => absurd h List.not_mem_nil) dX3_slot_31

set_option maxHeartbeats 4000000 in
set_option maxRecDepth 100000 in
theorem t_X3_size (l : Launch) (dC : Nat → ClassId) (dI : Nat → Nat → Nat) (sz : Nat) (G : GT) (cs : Nat → ClassId) (tt mm : Nat) (a0 : Nat) (ha0 : Ty G a0 3) : Met l yX3_size [.code yX3_size cX3_size 1 (some .int)] ({ frames := 0, cells := 0, slots := 0, locals := 0 }) (PT [.ref a0] sz dC dI G cs tt mm (fun _ => True)) (vp_Si (fun (r : Int32) => True)) 0 0 (fun _ => False) := by
  refine Met.ofW (cc := cX3_size) (maxL := 1) (ret := (some .int)) (by decide) rfl ?_
  intro p e s m args below meth c s₁ B hml hv
  obtain ⟨rfl, hsz, ⟨f0, hok, hP, hX⟩, hK, hnd, hWT, hE⟩ := hv
  have hx := B.exec
  have hb := B.bytes
  have hr := B.returns
  have hown : s.vm.findClass RX3 = some m.cls := findClass_of_methodNamed B.named
  have hlocks := B.notSynchronized
  subst hsz
  have hl := lv_entry ([.ref a0]) (n := 1) (Nat.le_of_ble_eq_true rfl)
  rw [lg_entry_eq]
  generalize (lg_sl ([.ref a0]) ++ List.replicate (1 - (lg_sl ([.ref a0])).length) Slot.unset).toArray = ls at hl ⊢
  have hl : lv_has ls 1 [(0, .ref a0)] := hl
  refine lv_aload_n hx hb dX3_size_0 rfl (lv_at hl 0 rfl) ?_
  obtain ⟨y1_1, y2_1, he1⟩ := ok_X3 hok ha0
  refine th_get hx hb (ly_X3 hE) hown hK hP ha0.1 he1 rfl 2 (by decide) (wd_165 hE) (fun _ h9 => h9) rfl dX3_size_1 ?_
  exact W.iret (v := y2_1) hx hb hr (fun t ht hW => ⟨y2_1, rfl, trivial, ht⟩) (fun _ h => absurd h List.not_mem_nil) dX3_size_4

set_option maxHeartbeats 4000000 in
set_option maxRecDepth 100000 in
theorem t_X7_copyFrom (l : Launch) (dC : Nat → ClassId) (dI : Nat → Nat → Nat) (sz : Nat) (G : GT) (cs : Nat → ClassId) (tt mm : Nat) (a0 : Nat) (ha0 : Ty G a0 7) (a1 : Nat) (ha1 : Ty G a1 7) : Met l yX7_copyFrom [.code yX7_copyFrom cX7_copyFrom 2 none] ({ frames := 1, cells := 0, slots := 0, locals := 40 }) (PT [.ref a0, .ref a1] sz dC dI G cs tt mm (fun _ => True)) (va_Qv (fun (u : Nat → va_E) => True) (BT dC dI G cs tt mm) (AT G sz)) 0 0 (AT G sz) := by
  refine Met.ofW (cc := cX7_copyFrom) (maxL := 2) (ret := none) (by decide) rfl ?_
  intro p e s m args below meth c s₁ B hml hv
  obtain ⟨rfl, hsz, ⟨f0, hok, hP, hX⟩, hK, hnd, hWT, hE⟩ := hv
  have hx := B.exec
  have hb := B.bytes
  have hr := B.returns
  have hown : s.vm.findClass RX7 = some m.cls := findClass_of_methodNamed B.named
  have hlocks := B.notSynchronized
  subst hsz
  have hAL : ∀ a, a ∈ gL G → AT G s.heap.size a := fun a h => Or.inl h
  have hA : ∀ q : Nat, s.heap.size ≤ q → AT G s.heap.size q := fun q h => Or.inr h
  have hS : va_S (AT G s.heap.size) s.heap s.heap [] := va_S.rf
  have hl := lv_entry ([.ref a0, .ref a1]) (n := 2) (Nat.le_of_ble_eq_true rfl)
  rw [lg_entry_eq]
  generalize (lg_sl ([.ref a0, .ref a1]) ++ List.replicate (2 - (lg_sl ([.ref a0, .ref a1])).length) Slot.unset).toArray = ls at hl ⊢
  have hl : lv_has ls 2 [(0, .ref a0), (1, .ref a1)] := hl
  refine lv_aload_n hx hb dX7_copyFrom_0 rfl (lv_at hl 1 rfl) ?_
  have he1 := ok_X7 hok ha1
  refine th_get hx hb (ly_X7 hE) hown hK hP ha1.1 he1 rfl 0 (by decide) (wd_149 hE) (fun _ h9 => h9) rfl dX7_copyFrom_1 ?_
  refine lv_iconst (v := 0) hx hb dX7_copyFrom_4 (by decide) ?_
  refine lv_aload_n hx hb dX7_copyFrom_5 rfl (lv_at hl 0 rfl) ?_
  have he2 := ok_X7 hok ha0
  refine th_get hx hb (ly_X7 hE) hown hK hP ha0.1 he2 rfl 0 (by decide) (wd_149 hE) (fun _ h9 => h9) rfl dX7_copyFrom_6 ?_
  refine lv_iconst (v := 0) hx hb dX7_copyFrom_9 (by decide) ?_
  refine lv_aload_n hx hb dX7_copyFrom_10 rfl (lv_at hl 1 rfl) ?_
  refine th_get hx hb (ly_X7 hE) hown hK hP ha1.1 he1 rfl 0 (by decide) (wd_149 hE) (fun _ h9 => h9) rfl dX7_copyFrom_11 ?_
  refine th_len1 hx hb hK hP hok (n := 543) (wl_X7_0 hWT ha1) (Or.inl (wt_X7_0 hWT ha1)) dX7_copyFrom_14 ?_
  refine W.eq (g2 := F0 m 15 ls [.int 543, .int 0, .ref (gR G a0 0), .int 0, .ref (gR G a1 0)]) rfl ?_
  refine lv_aload_n hx hb dX7_copyFrom_15 rfl (lv_at hl 0 rfl) ?_
  refine th_get hx hb (ly_X7 hE) hown hK hP ha0.1 he2 rfl 0 (by decide) (wd_149 hE) (fun _ h9 => h9) rfl dX7_copyFrom_16 ?_
  refine th_len1 hx hb hK hP hok (n := 543) (wl_X7_0 hWT ha0) (Or.inl (wt_X7_0 hWT ha0)) dX7_copyFrom_19 ?_
  refine W.eq (g2 := F0 m 20 ls [.int 543, .int 543, .int 0, .ref (gR G a0 0), .int 0, .ref (gR G a1 0)]) rfl ?_
  refine va_mmin hx hb (by rw [hml]; exact hl.1.symm) hown (wd_735 hE) (wd_453 hE) (wd_128 hE) (wd_454 hE) (Nat.le_of_ble_eq_true rfl) (Nat.le_of_ble_eq_true rfl) (Nat.le_of_ble_eq_true rfl) (Nat.le_of_ble_eq_true rfl) dX7_copyFrom_20 ?_
  refine W.eq (g2 := F0 m 23 ls [.int 543, .int 0, .ref (gR G a0 0), .int 0, .ref (gR G a1 0)]) rfl ?_
  refine th_copy hx hb (by rw [hml]; exact hl.1.symm) hown (wd_736 hE) (wd_738 hE) (wd_737 hE) (wd_133 hE) hK hP hok hnd hAL hS (wt_X7_0 hWT ha1) (wt_X7_0 hWT ha0) (wl_X7_0 hWT ha1) (wl_X7_0 hWT ha0) (by decide) (by first | omega | (simp only [i_lt, i_le, i_eq, ti_m9, ti_m1, ti_0, ti_1, ti_2, ti_3, ti_4, ti_5, ti_6, ti_7, ti_9, ti_12, ti_20, ti_99, ti_700, ti_24, ti_156, ti_72, ti_8, ti_60, ti_543, ti_10, ti_33, ti_51, ti_178, ti_119, ti_111, ti_114, ti_100, ti_32, ti_62, ti_59, ti_48, ti_701, ti_97, ti_122, ti_57, ti_73, ti_128]; omega)) (by first | omega | (simp only [i_lt, i_le, i_eq, ti_m9, ti_m1, ti_0, ti_1, ti_2, ti_3, ti_4, ti_5, ti_6, ti_7, ti_9, ti_12, ti_20, ti_99, ti_700, ti_24, ti_156, ti_72, ti_8, ti_60, ti_543, ti_10, ti_33, ti_51, ti_178, ti_119, ti_111, ti_114, ti_100, ti_32, ti_62, ti_59, ti_48, ti_701, ti_97, ti_122, ti_57, ti_73, ti_128]; omega)) (by first | omega | (simp only [i_lt, i_le, i_eq, ti_m9, ti_m1, ti_0, ti_1, ti_2, ti_3, ti_4, ti_5, ti_6, ti_7, ti_9, ti_12, ti_20, ti_99, ti_700, ti_24, ti_156, ti_72, ti_8, ti_60, ti_543, ti_10, ti_33, ti_51, ti_178, ti_119, ti_111, ti_114, ti_100, ti_32, ti_62, ti_59, ti_48, ti_701, ti_97, ti_122, ti_57, ti_73, ti_128]; omega)) (Nat.le_of_ble_eq_true rfl) (Nat.le_of_ble_eq_true rfl) dX7_copyFrom_23 (fun f4 H locs hfo4 hok hP hS => ?_)
  have he5 := (hfo4 a1 (Ty.ne ha1 (wt_X7_0 hWT ha0) (by decide))).trans he1
  have he6 := (hfo4 a0 (Ty.ne ha0 (wt_X7_0 hWT ha0) (by decide))).trans he2
  exact W.vret hx hb hr (fun t ht hW => ⟨⟨f4, rfl, trivial, hok, by rw [ht]; exact hP⟩, hS.F ht⟩) hS.2.2 dX7_copyFrom_26

set_option maxHeartbeats 4000000 in
set_option maxRecDepth 100000 in
theorem t_X3_push (l : Launch) (dC : Nat → ClassId) (dI : Nat → Nat → Nat) (sz : Nat) (G : GT) (cs : Nat → ClassId) (tt mm : Nat) (a0 : Nat) (ha0 : Ty G a0 3) (a1 : Nat) (ha1 : Ty G a1 7) : Met l yX3_push [.code yX3_push cX3_push 3 none] ({ frames := 2, cells := 0, slots := 0, locals := 80 }) (PT [.ref a0, .ref a1] sz dC dI G cs tt mm (fun _ => True)) (va_Qv (fun (u : Nat → va_E) => True) (BT dC dI G cs tt mm) (AT G sz)) 0 0 (AT G sz) := by
  refine Met.ofW (cc := cX3_push) (maxL := 3) (ret := none) (by decide) rfl ?_
  intro p e s m args below meth c s₁ B hml hv
  obtain ⟨rfl, hsz, ⟨f0, hok, hP, hX⟩, hK, hnd, hWT, hE⟩ := hv
  have hx := B.exec
  have hb := B.bytes
  have hr := B.returns
  have hown : s.vm.findClass RX3 = some m.cls := findClass_of_methodNamed B.named
  have hlocks := B.notSynchronized
  subst hsz
  have hAL : ∀ a, a ∈ gL G → AT G s.heap.size a := fun a h => Or.inl h
  have hA : ∀ q : Nat, s.heap.size ≤ q → AT G s.heap.size q := fun q h => Or.inr h
  have hS : va_S (AT G s.heap.size) s.heap s.heap [] := va_S.rf
  have hl := lv_entry ([.ref a0, .ref a1]) (n := 3) (Nat.le_of_ble_eq_true rfl)
  rw [lg_entry_eq]
  generalize (lg_sl ([.ref a0, .ref a1]) ++ List.replicate (3 - (lg_sl ([.ref a0, .ref a1])).length) Slot.unset).toArray = ls at hl ⊢
  have hl : lv_has ls 3 [(0, .ref a0), (1, .ref a1)] := hl
  refine lv_aload_n hx hb dX3_push_0 rfl (lv_at hl 0 rfl) ?_
  obtain ⟨y1_1, y2_1, he1⟩ := ok_X3 hok ha0
  refine th_get hx hb (ly_X3 hE) hown hK hP ha0.1 he1 rfl 2 (by decide) (wd_165 hE) (fun _ h9 => h9) rfl dX3_push_1 ?_
  refine lv_bipush (v := 8) hx hb dX3_push_4 (by decide) ?_
  refine lv_icmp_lt (tgt := 30) hx hb dX3_push_6 (by decide) (fun c2 => ?_) (fun c2 => ?_)
  · refine lv_aload_n hx hb dX3_push_30 rfl (lv_at hl 0 rfl) ?_
    refine lv_aload_n hx hb dX3_push_31 rfl (lv_at hl 0 rfl) ?_
    refine th_get hx hb (ly_X3 hE) hown hK hP ha0.1 he1 rfl 2 (by decide) (wd_165 hE) (fun _ h9 => h9) rfl dX3_push_32 ?_
    refine va_csq (va_Run.run (va_runV (As := [.int y2_1]) (rest := []) ⟨hx, hb, hml, hown, noTs⟩ (t_X3_slot l dC dI s.heap.size G cs tt mm a0 ha0 y2_1) ⟨cbE 1 (wd_730 hE) (wd_117 hE) (wd_727 hE) rfl rfl (by decide +kernel) ⟨Nat.le_of_ble_eq_true rfl, Nat.le_of_ble_eq_true rfl⟩, (wd_729 hE), (wd_22 hE)⟩ ⟨PT.blind, th_recv hK hP ha0.1 he1 rfl, (th_pre (av := [.ref a0, .int y2_1]) trivial hK hP hok hnd hWT hE)⟩ rfl rfl hl.1 rfl (lv_room (Nat.le_of_ble_eq_true rfl)) dX3_push_35 ⟨Nat.le_of_ble_eq_true rfl, Nat.le_of_ble_eq_true rfl⟩)) (fun r3 hr3 => ?_)
    rcases hr3 with rfl | ⟨q3, rfl, hq3⟩
    · refine W.eq (g2 := F0 m 38 ls [.null]) rfl ?_
      refine lv_astore_nN (lv' := [(2, .null), (0, .ref a0), (1, .ref a1)]) hx hb dX3_push_38 rfl hl (by decide) rfl (fun ls hl => ?_)
      refine lv_aload_nN hx hb dX3_push_39 rfl (lv_at hl 0 rfl) ?_
      refine lv_ifnullN (tgt := 58) hx hb dX3_push_40 (by decide) ?_
      exact W.vret hx hb hr (fun t ht hW => ⟨⟨f0, rfl, trivial, hok, by rw [ht]; exact hP⟩, hS.F ht⟩) hS.2.2 dX3_push_58
    · refine W.eq (g2 := F0 m 38 ls [.ref q3]) rfl ?_
      refine lv_astore_n (lv' := [(2, .ref q3), (0, .ref a0), (1, .ref a1)]) hx hb dX3_push_38 rfl hl (by decide) rfl (fun ls hl => ?_)
      refine lv_aload_n hx hb dX3_push_39 rfl (lv_at hl 0 rfl) ?_
      refine lv_ifnull hx hb dX3_push_40 ?_
      refine lv_aload_n hx hb dX3_push_43 rfl (lv_at hl 0 rfl) ?_
      refine lv_aload_n hx hb dX3_push_44 rfl (lv_at hl 2 rfl) ?_
      have he4 := ok_X7 hok hq3
      refine tc_v hAL hS hA (va_runV (As := [.ref a1]) (rest := []) ⟨hx, hb, hml, hown, noTs⟩ (t_X7_copyFrom l dC dI s.heap.size G cs tt mm q3 hq3 a1 ha1) ⟨cbE 1 (wd_734 hE) (wd_116 hE) (wd_731 hE) rfl rfl (by decide +kernel) ⟨Nat.le_of_ble_eq_true rfl, Nat.le_of_ble_eq_true rfl⟩, (wd_732 hE), (wd_733 hE)⟩ ⟨PT.blind, th_recv hK hP hq3.1 he4 rfl, (th_pre (av := [.ref q3, .ref a1]) trivial hK hP hok hnd hWT hE)⟩ rfl rfl hl.1 rfl (lv_room (Nat.le_of_ble_eq_true rfl)) dX3_push_45 ⟨Nat.le_of_ble_eq_true rfl, Nat.le_of_ble_eq_true rfl⟩) (fun f5 H locs hr5 hok hP hS => ?_)
      refine lv_aload_n hx hb dX3_push_48 rfl (lv_at hl 1 rfl) ?_
      refine lv_dup hx hb dX3_push_49 rfl ?_
      obtain ⟨y1_6, y2_6, he6⟩ := ok_X3 hok ha0
      refine th_get hx hb (ly_X3 hE) hown hK hP ha0.1 he6 rfl 2 (by decide) (wd_165 hE) (fun _ h9 => h9) rfl dX3_push_50 ?_
      refine lv_iconst (v := 1) hx hb dX3_push_53 (by decide) ?_
      refine lv_iadd hx hb dX3_push_54 ?_
      refine lv_topi (fun x7 ex7 => ?_)
      refine th_put (v := .int x7) (ty := .int) hx hb (ly_X3 hE) tyX3 tyX3_ok nmX3 hown hK hP hnd hAL hS ha0.1 he6 rfl 2 (by decide) (wd_165 hE) (fun _ h9 => h9) rfl (by decide +kernel) rfl rfl (Nat.le_of_ble_eq_true rfl) (up_X3 hok ha0 ⟨y1_6, x7, rfl⟩) dX3_push_55 (fun f8 H locs hfa8 hfo8 hok hP hS => ?_)
      exact W.vret hx hb hr (fun t ht hW => ⟨⟨f8, rfl, trivial, hok, by rw [ht]; exact hP⟩, hS.F ht⟩) hS.2.2 dX3_push_58
  · refine lv_aload_n hx hb dX3_push_9 rfl (lv_at hl 0 rfl) ?_
    refine lv_aload_n hx hb dX3_push_10 rfl (lv_at hl 0 rfl) ?_
    refine th_get hx hb (ly_X3 hE) hown hK hP ha0.1 he1 rfl 1 (by decide) (wd_164 hE) (fun _ h9 => h9) rfl dX3_push_11 ?_
    refine lv_iconst (v := 1) hx hb dX3_push_14 (by decide) ?_
    refine lv_iadd hx hb dX3_push_15 ?_
    refine lv_topi (fun x9 ex9 => ?_)
    refine lv_bipush (v := 8) hx hb dX3_push_16 (by decide) ?_
    refine vp_callSi (va_Run.run (va_runSN (As := [.int x9, .int 8]) (rest := [.ref a0]) ⟨hx, hb, hml, hown, noTs⟩ (t_X11_rest l dC dI s.heap.size G cs tt mm x9 8) ⟨cnE 2 (wd_617 hE) (wd_115 hE) (wd_726 hE) rfl rfl (by decide +kernel) ⟨Nat.le_of_ble_eq_true rfl, Nat.le_of_ble_eq_true rfl⟩, (wd_616 hE), trivial⟩ ⟨PT.blind, (th_pre (av := [.int x9, .int 8]) trivial hK hP hok hnd hWT hE)⟩ rfl rfl hl.1 rfl (lv_room (Nat.le_of_ble_eq_true rfl)) dX3_push_18 ⟨Nat.le_of_ble_eq_true rfl, Nat.le_of_ble_eq_true rfl⟩)) (fun r10 hr10 => ?_)
    obtain ⟨hra10, hrb10⟩ := hr10
    refine th_put (v := .int r10) (ty := .int) hx hb (ly_X3 hE) tyX3 tyX3_ok nmX3 hown hK hP hnd hAL hS ha0.1 he1 rfl 1 (by decide) (wd_164 hE) (fun _ h9 => h9) rfl (by decide +kernel) rfl rfl (Nat.le_of_ble_eq_true rfl) (up_X3 hok ha0 ⟨r10, y2_1, rfl⟩) dX3_push_21 (fun f11 H locs hfa11 hfo11 hok hP hS => ?_)
    refine lv_aload_n hx hb dX3_push_24 rfl (lv_at hl 0 rfl) ?_
    refine lv_bipush (v := 7) hx hb dX3_push_25 (by decide) ?_
    refine th_put (v := .int 7) (ty := .int) hx hb (ly_X3 hE) tyX3 tyX3_ok nmX3 hown hK hP hnd hAL hS ha0.1 hfa11 rfl 2 (by decide) (wd_165 hE) (fun _ h9 => h9) rfl (by decide +kernel) rfl rfl (Nat.le_of_ble_eq_true rfl) (up_X3 hok ha0 ⟨r10, 7, rfl⟩) dX3_push_27 (fun f12 H locs hfa12 hfo12 hok hP hS => ?_)
    refine lv_aload_n hx hb dX3_push_30 rfl (lv_at hl 0 rfl) ?_
    refine lv_aload_n hx hb dX3_push_31 rfl (lv_at hl 0 rfl) ?_
    refine th_get hx hb (ly_X3 hE) hown hK hP ha0.1 hfa12 rfl 2 (by decide) (wd_165 hE) (fun _ h9 => h9) rfl dX3_push_32 ?_
    refine va_csq (va_Run.run (va_runV (As := [.int 7]) (rest := []) ⟨hx, hb, hml, hown, noTs⟩ (t_X3_slot l dC dI H.size G cs tt mm a0 ha0 7) ⟨cbE 1 (wd_730 hE) (wd_117 hE) (wd_727 hE) rfl rfl (by decide +kernel) ⟨Nat.le_of_ble_eq_true rfl, Nat.le_of_ble_eq_true rfl⟩, (wd_729 hE), (wd_22 hE)⟩ ⟨PT.blind, th_recv hK hP ha0.1 hfa12 rfl, (th_pre (av := [.ref a0, .int 7]) trivial hK hP hok hnd hWT hE)⟩ rfl rfl hl.1 rfl (lv_room (Nat.le_of_ble_eq_true rfl)) dX3_push_35 ⟨Nat.le_of_ble_eq_true rfl, Nat.le_of_ble_eq_true rfl⟩)) (fun r13 hr13 => ?_)
    rcases hr13 with rfl | ⟨q13, rfl, hq13⟩
    · refine W.eq (g2 := F0 m 38 ls [.null]) rfl ?_
      refine lv_astore_nN (lv' := [(2, .null), (0, .ref a0), (1, .ref a1)]) hx hb dX3_push_38 rfl hl (by decide) rfl (fun ls hl => ?_)
      refine lv_aload_nN hx hb dX3_push_39 rfl (lv_at hl 0 rfl) ?_
      refine lv_ifnullN (tgt := 58) hx hb dX3_push_40 (by decide) ?_
      exact W.vret hx hb hr (fun t ht hW => ⟨⟨f12, rfl, trivial, hok, by rw [ht]; exact hP⟩, hS.F ht⟩) hS.2.2 dX3_push_58
    · refine W.eq (g2 := F0 m 38 ls [.ref q13]) rfl ?_
      refine lv_astore_n (lv' := [(2, .ref q13), (0, .ref a0), (1, .ref a1)]) hx hb dX3_push_38 rfl hl (by decide) rfl (fun ls hl => ?_)
      refine lv_aload_n hx hb dX3_push_39 rfl (lv_at hl 0 rfl) ?_
      refine lv_ifnull hx hb dX3_push_40 ?_
      refine lv_aload_n hx hb dX3_push_43 rfl (lv_at hl 0 rfl) ?_
      refine lv_aload_n hx hb dX3_push_44 rfl (lv_at hl 2 rfl) ?_
      have he14 := ok_X7 hok hq13
      refine tc_v hAL hS hA (va_runV (As := [.ref a1]) (rest := []) ⟨hx, hb, hml, hown, noTs⟩ (t_X7_copyFrom l dC dI H.size G cs tt mm q13 hq13 a1 ha1) ⟨cbE 1 (wd_734 hE) (wd_116 hE) (wd_731 hE) rfl rfl (by decide +kernel) ⟨Nat.le_of_ble_eq_true rfl, Nat.le_of_ble_eq_true rfl⟩, (wd_732 hE), (wd_733 hE)⟩ ⟨PT.blind, th_recv hK hP hq13.1 he14 rfl, (th_pre (av := [.ref q13, .ref a1]) trivial hK hP hok hnd hWT hE)⟩ rfl rfl hl.1 rfl (lv_room (Nat.le_of_ble_eq_true rfl)) dX3_push_45 ⟨Nat.le_of_ble_eq_true rfl, Nat.le_of_ble_eq_true rfl⟩) (fun f15 H locs hr15 hok hP hS => ?_)
      refine lv_aload_n hx hb dX3_push_48 rfl (lv_at hl 1 rfl) ?_
      refine lv_dup hx hb dX3_push_49 rfl ?_
      obtain ⟨y1_16, y2_16, he16⟩ := ok_X3 hok ha0
      refine th_get hx hb (ly_X3 hE) hown hK hP ha0.1 he16 rfl 2 (by decide) (wd_165 hE) (fun _ h9 => h9) rfl dX3_push_50 ?_
      refine lv_iconst (v := 1) hx hb dX3_push_53 (by decide) ?_
      refine lv_iadd hx hb dX3_push_54 ?_
      refine lv_topi (fun x17 ex17 => ?_)
      refine th_put (v := .int x17) (ty := .int) hx hb (ly_X3 hE) tyX3 tyX3_ok nmX3 hown hK hP hnd hAL hS ha0.1 he16 rfl 2 (by decide) (wd_165 hE) (fun _ h9 => h9) rfl (by decide +kernel) rfl rfl (Nat.le_of_ble_eq_true rfl) (up_X3 hok ha0 ⟨y1_16, x17, rfl⟩) dX3_push_55 (fun f18 H locs hfa18 hfo18 hok hP hS => ?_)
      exact W.vret hx hb hr (fun t ht hW => ⟨⟨f18, rfl, trivial, hok, by rw [ht]; exact hP⟩, hS.F ht⟩) hS.2.2 dX3_push_58

set_option maxHeartbeats 4000000 in
set_option maxRecDepth 100000 in
theorem t_X3_pop (l : Launch) (dC : Nat → ClassId) (dI : Nat → Nat → Nat) (sz : Nat) (G : GT) (cs : Nat → ClassId) (tt mm : Nat) (a0 : Nat) (ha0 : Ty G a0 3) (a1 : Nat) (ha1 : Ty G a1 7) : Met l yX3_pop [.code yX3_pop cX3_pop 3 (some .boolean)] ({ frames := 2, cells := 0, slots := 0, locals := 80 }) (PT [.ref a0, .ref a1] sz dC dI G cs tt mm (fun _ => True)) (va_Qi (fun (r : Int32) (u : Nat → va_E) => r = 0 ∨ r = 1) (BT dC dI G cs tt mm) (AT G sz)) 0 0 (AT G sz) := by
  refine Met.ofW (cc := cX3_pop) (maxL := 3) (ret := (some .boolean)) (by decide) rfl ?_
  intro p e s m args below meth c s₁ B hml hv
  obtain ⟨rfl, hsz, ⟨f0, hok, hP, hX⟩, hK, hnd, hWT, hE⟩ := hv
  have hx := B.exec
  have hb := B.bytes
  have hr := B.returns
  have hown : s.vm.findClass RX3 = some m.cls := findClass_of_methodNamed B.named
  have hlocks := B.notSynchronized
  subst hsz
  have hAL : ∀ a, a ∈ gL G → AT G s.heap.size a := fun a h => Or.inl h
  have hA : ∀ q : Nat, s.heap.size ≤ q → AT G s.heap.size q := fun q h => Or.inr h
  have hS : va_S (AT G s.heap.size) s.heap s.heap [] := va_S.rf
  have hl := lv_entry ([.ref a0, .ref a1]) (n := 3) (Nat.le_of_ble_eq_true rfl)
  rw [lg_entry_eq]
  generalize (lg_sl ([.ref a0, .ref a1]) ++ List.replicate (3 - (lg_sl ([.ref a0, .ref a1])).length) Slot.unset).toArray = ls at hl ⊢
  have hl : lv_has ls 3 [(0, .ref a0), (1, .ref a1)] := hl
  refine lv_aload_n hx hb dX3_pop_0 rfl (lv_at hl 0 rfl) ?_
  refine lv_aload_n hx hb dX3_pop_1 rfl (lv_at hl 0 rfl) ?_
  obtain ⟨y1_1, y2_1, he1⟩ := ok_X3 hok ha0
  refine th_get hx hb (ly_X3 hE) hown hK hP ha0.1 he1 rfl 2 (by decide) (wd_165 hE) (fun _ h9 => h9) rfl dX3_pop_2 ?_
  refine lv_iconst (v := 1) hx hb dX3_pop_5 (by decide) ?_
  refine lv_isub hx hb dX3_pop_6 ?_
  refine lv_topi (fun x2 ex2 => ?_)
  refine va_csq (va_Run.run (va_runV (As := [.int x2]) (rest := []) ⟨hx, hb, hml, hown, noTs⟩ (t_X3_slot l dC dI s.heap.size G cs tt mm a0 ha0 x2) ⟨cbE 1 (wd_730 hE) (wd_117 hE) (wd_727 hE) rfl rfl (by decide +kernel) ⟨Nat.le_of_ble_eq_true rfl, Nat.le_of_ble_eq_true rfl⟩, (wd_729 hE), (wd_22 hE)⟩ ⟨PT.blind, th_recv hK hP ha0.1 he1 rfl, (th_pre (av := [.ref a0, .int x2]) trivial hK hP hok hnd hWT hE)⟩ rfl rfl hl.1 rfl (lv_room (Nat.le_of_ble_eq_true rfl)) dX3_pop_7 ⟨Nat.le_of_ble_eq_true rfl, Nat.le_of_ble_eq_true rfl⟩)) (fun r3 hr3 => ?_)
  rcases hr3 with rfl | ⟨q3, rfl, hq3⟩
  · refine W.eq (g2 := F0 m 10 ls [.null]) rfl ?_
    refine lv_astore_nN (lv' := [(2, .null), (0, .ref a0), (1, .ref a1)]) hx hb dX3_pop_10 rfl hl (by decide) rfl (fun ls hl => ?_)
    refine lv_aload_n hx hb dX3_pop_11 rfl (lv_at hl 1 rfl) ?_
    refine th_get hx hb (ly_X3 hE) hown hK hP ha0.1 he1 rfl 2 (by decide) (wd_165 hE) (fun _ h9 => h9) rfl dX3_pop_12 ?_
    refine lv_iconst (v := 1) hx hb dX3_pop_15 (by decide) ?_
    refine lv_icmp_lt (tgt := 23) hx hb dX3_pop_16 (by decide) (fun c4 => ?_) (fun c4 => ?_)
    · refine lv_iconst (v := 0) hx hb dX3_pop_23 (by decide) ?_
      exact W.zret (v := 0) hx hb hr rfl (fun t ht hW => ⟨⟨0, f0, rfl, Or.inl rfl, hok, by rw [ht]; exact hP⟩, hS.F ht⟩) hS.2.2 dX3_pop_24
    · refine lv_aload_nN hx hb dX3_pop_19 rfl (lv_at hl 0 rfl) ?_
      refine lv_ifnonnullN hx hb dX3_pop_20 ?_
      refine lv_iconst (v := 0) hx hb dX3_pop_23 (by decide) ?_
      exact W.zret (v := 0) hx hb hr rfl (fun t ht hW => ⟨⟨0, f0, rfl, Or.inl rfl, hok, by rw [ht]; exact hP⟩, hS.F ht⟩) hS.2.2 dX3_pop_24
  · refine W.eq (g2 := F0 m 10 ls [.ref q3]) rfl ?_
    refine lv_astore_n (lv' := [(2, .ref q3), (0, .ref a0), (1, .ref a1)]) hx hb dX3_pop_10 rfl hl (by decide) rfl (fun ls hl => ?_)
    refine lv_aload_n hx hb dX3_pop_11 rfl (lv_at hl 1 rfl) ?_
    refine th_get hx hb (ly_X3 hE) hown hK hP ha0.1 he1 rfl 2 (by decide) (wd_165 hE) (fun _ h9 => h9) rfl dX3_pop_12 ?_
    refine lv_iconst (v := 1) hx hb dX3_pop_15 (by decide) ?_
    refine lv_icmp_lt (tgt := 23) hx hb dX3_pop_16 (by decide) (fun c5 => ?_) (fun c5 => ?_)
    · refine lv_iconst (v := 0) hx hb dX3_pop_23 (by decide) ?_
      exact W.zret (v := 0) hx hb hr rfl (fun t ht hW => ⟨⟨0, f0, rfl, Or.inl rfl, hok, by rw [ht]; exact hP⟩, hS.F ht⟩) hS.2.2 dX3_pop_24
    · refine lv_aload_n hx hb dX3_pop_19 rfl (lv_at hl 0 rfl) ?_
      refine lv_ifnonnull (tgt := 25) hx hb dX3_pop_20 (by decide) ?_
      refine lv_aload_n hx hb dX3_pop_25 rfl (lv_at hl 2 rfl) ?_
      refine lv_aload_n hx hb dX3_pop_26 rfl (lv_at hl 0 rfl) ?_
      have he6 := ok_X7 hok ha1
      refine tc_v hAL hS hA (va_runV (As := [.ref q3]) (rest := []) ⟨hx, hb, hml, hown, noTs⟩ (t_X7_copyFrom l dC dI s.heap.size G cs tt mm a1 ha1 q3 hq3) ⟨cbE 1 (wd_734 hE) (wd_116 hE) (wd_731 hE) rfl rfl (by decide +kernel) ⟨Nat.le_of_ble_eq_true rfl, Nat.le_of_ble_eq_true rfl⟩, (wd_732 hE), (wd_733 hE)⟩ ⟨PT.blind, th_recv hK hP ha1.1 he6 rfl, (th_pre (av := [.ref a1, .ref q3]) trivial hK hP hok hnd hWT hE)⟩ rfl rfl hl.1 rfl (lv_room (Nat.le_of_ble_eq_true rfl)) dX3_pop_27 ⟨Nat.le_of_ble_eq_true rfl, Nat.le_of_ble_eq_true rfl⟩) (fun f7 H locs hr7 hok hP hS => ?_)
      refine lv_aload_n hx hb dX3_pop_30 rfl (lv_at hl 1 rfl) ?_
      refine lv_dup hx hb dX3_pop_31 rfl ?_
      obtain ⟨y1_8, y2_8, he8⟩ := ok_X3 hok ha0
      refine th_get hx hb (ly_X3 hE) hown hK hP ha0.1 he8 rfl 2 (by decide) (wd_165 hE) (fun _ h9 => h9) rfl dX3_pop_32 ?_
      refine lv_iconst (v := 1) hx hb dX3_pop_35 (by decide) ?_
      refine lv_isub hx hb dX3_pop_36 ?_
      refine lv_topi (fun x9 ex9 => ?_)
      refine th_put (v := .int x9) (ty := .int) hx hb (ly_X3 hE) tyX3 tyX3_ok nmX3 hown hK hP hnd hAL hS ha0.1 he8 rfl 2 (by decide) (wd_165 hE) (fun _ h9 => h9) rfl (by decide +kernel) rfl rfl (Nat.le_of_ble_eq_true rfl) (up_X3 hok ha0 ⟨y1_8, x9, rfl⟩) dX3_pop_37 (fun f10 H locs hfa10 hfo10 hok hP hS => ?_)
      refine lv_iconst (v := 1) hx hb dX3_pop_40 (by decide) ?_
      exact W.zret (v := 1) hx hb hr rfl (fun t ht hW => ⟨⟨1, f10, rfl, Or.inr rfl, hok, by rw [ht]; exact hP⟩, hS.F ht⟩) hS.2.2 dX3_pop_41
