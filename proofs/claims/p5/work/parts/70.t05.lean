set_option maxHeartbeats 4000000 in
set_option maxRecDepth 100000 in
theorem t_X9_isDigit (l : Launch) (dC : Nat → ClassId) (dI : Nat → Nat → Nat) (sz : Nat) (G : GT) (cs : Nat → ClassId) (tt mm : Nat) (v0 : Int32) : Met l yX9_isDigit [.code yX9_isDigit cX9_isDigit 1 (some .boolean)] ({ frames := 0, cells := 0, slots := 0, locals := 0 }) (PT [.int v0] sz dC dI G cs tt mm (fun _ => True)) (vp_Si (fun (r : Int32) => r = 0 ∨ r = 1)) 0 0 (fun _ => False) := by
  refine Met.ofW (cc := cX9_isDigit) (maxL := 1) (ret := (some .boolean)) (by decide) rfl ?_
  intro p e s m args below meth c s₁ B hml hv
  obtain ⟨rfl, hsz, ⟨f0, hok, hP, hX⟩, hK, hnd, hWT, hE⟩ := hv
  have hx := B.exec
  have hb := B.bytes
  have hr := B.returns
  have hown : s.vm.findClass RX9 = some m.cls := findClass_of_methodNamed B.named
  have hlocks := B.notSynchronized
  subst hsz
  have hl := lv_entry ([.int v0]) (n := 1) (Nat.le_of_ble_eq_true rfl)
  rw [lg_entry_eq]
  generalize (lg_sl ([.int v0]) ++ List.replicate (1 - (lg_sl ([.int v0])).length) Slot.unset).toArray = ls at hl ⊢
  have hl : lv_has ls 1 [(0, .int v0)] := hl
  refine lv_iload_n hx hb dX9_isDigit_0 rfl (lv_at hl 0 rfl) ?_
  refine lv_bipush (v := 48) hx hb dX9_isDigit_1 (by decide) ?_
  refine lv_icmp_lt (tgt := 16) hx hb dX9_isDigit_3 (by decide) (fun c1 => ?_) (fun c1 => ?_)
  · refine lv_iconst (v := 0) hx hb dX9_isDigit_16 (by decide) ?_
    exact W.zret (v := 0) hx hb hr rfl (fun t ht hW => ⟨0, rfl, Or.inl rfl, ht⟩) (fun _ h => absurd h List.not_mem_nil) dX9_isDigit_17
  · refine lv_iload_n hx hb dX9_isDigit_6 rfl (lv_at hl 0 rfl) ?_
    refine lv_bipush (v := 57) hx hb dX9_isDigit_7 (by decide) ?_
    refine lv_icmp_gt (tgt := 16) hx hb dX9_isDigit_9 (by decide) (fun c2 => ?_) (fun c2 => ?_)
    · refine lv_iconst (v := 0) hx hb dX9_isDigit_16 (by decide) ?_
      exact W.zret (v := 0) hx hb hr rfl (fun t ht hW => ⟨0, rfl, Or.inl rfl, ht⟩) (fun _ h => absurd h List.not_mem_nil) dX9_isDigit_17
    · refine lv_iconst (v := 1) hx hb dX9_isDigit_12 (by decide) ?_
      refine lv_goto (tgt := 17) hx hb dX9_isDigit_13 (by decide) ?_
      exact W.zret (v := 1) hx hb hr rfl (fun t ht hW => ⟨1, rfl, Or.inr rfl, ht⟩) (fun _ h => absurd h List.not_mem_nil) dX9_isDigit_17

set_option maxHeartbeats 4000000 in
set_option maxRecDepth 100000 in
theorem t_X9_endOfToken (l : Launch) (dC : Nat → ClassId) (dI : Nat → Nat → Nat) (sz : Nat) (G : GT) (cs : Nat → ClassId) (tt mm : Nat) (a0 : Nat) (ha0 : Ty G a0 9) (v1 : Int32) : Met l yX9_endOfToken [.code yX9_endOfToken cX9_endOfToken 3 (some .int)] ({ frames := 1, cells := 0, slots := 0, locals := 40 }) (PT [.ref a0, .int v1] sz dC dI G cs tt mm (fun _ => True)) (vp_Si (fun (r : Int32) => True)) 0 0 (fun _ => False) := by
  refine Met.ofW (cc := cX9_endOfToken) (maxL := 3) (ret := (some .int)) (by decide) rfl ?_
  intro p e s m args below meth c s₁ B hml hv
  obtain ⟨rfl, hsz, ⟨f0, hok, hP, hX⟩, hK, hnd, hWT, hE⟩ := hv
  have hx := B.exec
  have hb := B.bytes
  have hr := B.returns
  have hown : s.vm.findClass RX9 = some m.cls := findClass_of_methodNamed B.named
  have hlocks := B.notSynchronized
  subst hsz
  have hl := lv_entry ([.ref a0, .int v1]) (n := 3) (Nat.le_of_ble_eq_true rfl)
  rw [lg_entry_eq]
  generalize (lg_sl ([.ref a0, .int v1]) ++ List.replicate (3 - (lg_sl ([.ref a0, .int v1])).length) Slot.unset).toArray = ls at hl ⊢
  have hl : lv_has ls 3 [(0, .ref a0), (1, .int v1)] := hl
  refine lv_iload_n hx hb dX9_endOfToken_0 rfl (lv_at hl 1 rfl) ?_
  refine lv_iconst (v := 1) hx hb dX9_endOfToken_1 (by decide) ?_
  refine lv_iadd hx hb dX9_endOfToken_2 ?_
  refine lv_topi (fun x1 ex1 => ?_)
  refine lv_istore_n (lv' := [(2, .int x1), (0, .ref a0), (1, .int v1)]) hx hb dX9_endOfToken_3 rfl hl (by decide) rfl (fun ls hl => ?_)
  refine lv_aload_n hx hb dX9_endOfToken_4 rfl (lv_at hl 1 rfl) ?_
  refine lv_iload_n hx hb dX9_endOfToken_5 rfl (lv_at hl 2 rfl) ?_
  obtain ⟨y3_2, y4_2, y5_2, hy4_2, he2⟩ := ok_X9 hok ha0
  refine vp_callSi (va_Run.run (va_runV (As := [.int v1]) (rest := []) ⟨hx, hb, hml, hown, noTs⟩ (t_X9_byteAt l dC dI s.heap.size G cs tt mm a0 ha0 v1) ⟨cbE 1 (wd_458 hE) (wd_119 hE) (wd_455 hE) rfl rfl (by decide +kernel) ⟨Nat.le_of_ble_eq_true rfl, Nat.le_of_ble_eq_true rfl⟩, (wd_457 hE), (wd_2 hE)⟩ ⟨PT.blind, th_recv hK hP ha0.1 he2 rfl, (th_pre (av := [.ref a0, .int v1]) trivial hK hP hok hnd hWT hE)⟩ rfl rfl hl.1 rfl (lv_room (Nat.le_of_ble_eq_true rfl)) dX9_endOfToken_6 ⟨Nat.le_of_ble_eq_true rfl, Nat.le_of_ble_eq_true rfl⟩)) (fun r3 hr3 => ?_)
  refine vp_callSi (va_Run.run (va_runS (As := [.int r3]) (rest := []) ⟨hx, hb, hml, hown, noTs⟩ (t_X9_isLetter l dC dI s.heap.size G cs tt mm r3) ⟨cbE 1 (wd_465 hE) (wd_119 hE) (wd_463 hE) rfl rfl (by decide +kernel) ⟨Nat.le_of_ble_eq_true rfl, Nat.le_of_ble_eq_true rfl⟩, (wd_464 hE)⟩ ⟨PT.blind, (th_pre (av := [.int r3]) trivial hK hP hok hnd hWT hE)⟩ rfl rfl hl.1 rfl (lv_room (Nat.le_of_ble_eq_true rfl)) dX9_endOfToken_9 ⟨Nat.le_of_ble_eq_true rfl, Nat.le_of_ble_eq_true rfl⟩)) (fun r4 hr4 => ?_)
  refine lv_if_eq (tgt := 40) hx hb dX9_endOfToken_12 (by decide) (fun c5 => ?_) (fun c5 => ?_)
  · refine lv_aload_n hx hb dX9_endOfToken_40 rfl (lv_at hl 1 rfl) ?_
    refine lv_iload_n hx hb dX9_endOfToken_41 rfl (lv_at hl 2 rfl) ?_
    refine vp_callSi (va_Run.run (va_runV (As := [.int v1]) (rest := []) ⟨hx, hb, hml, hown, noTs⟩ (t_X9_byteAt l dC dI s.heap.size G cs tt mm a0 ha0 v1) ⟨cbE 1 (wd_458 hE) (wd_119 hE) (wd_455 hE) rfl rfl (by decide +kernel) ⟨Nat.le_of_ble_eq_true rfl, Nat.le_of_ble_eq_true rfl⟩, (wd_457 hE), (wd_2 hE)⟩ ⟨PT.blind, th_recv hK hP ha0.1 he2 rfl, (th_pre (av := [.ref a0, .int v1]) trivial hK hP hok hnd hWT hE)⟩ rfl rfl hl.1 rfl (lv_room (Nat.le_of_ble_eq_true rfl)) dX9_endOfToken_42 ⟨Nat.le_of_ble_eq_true rfl, Nat.le_of_ble_eq_true rfl⟩)) (fun r6 hr6 => ?_)
    refine vp_callSi (va_Run.run (va_runS (As := [.int r6]) (rest := []) ⟨hx, hb, hml, hown, noTs⟩ (t_X9_isDigit l dC dI s.heap.size G cs tt mm r6) ⟨cbE 1 (wd_468 hE) (wd_119 hE) (wd_466 hE) rfl rfl (by decide +kernel) ⟨Nat.le_of_ble_eq_true rfl, Nat.le_of_ble_eq_true rfl⟩, (wd_467 hE)⟩ ⟨PT.blind, (th_pre (av := [.int r6]) trivial hK hP hok hnd hWT hE)⟩ rfl rfl hl.1 rfl (lv_room (Nat.le_of_ble_eq_true rfl)) dX9_endOfToken_45 ⟨Nat.le_of_ble_eq_true rfl, Nat.le_of_ble_eq_true rfl⟩)) (fun r7 hr7 => ?_)
    refine lv_if_eq (tgt := 76) hx hb dX9_endOfToken_48 (by decide) (fun c8 => ?_) (fun c8 => ?_)
    · refine lv_iload_n hx hb dX9_endOfToken_76 rfl (lv_at hl 0 rfl) ?_
      exact W.iret (v := x1) hx hb hr (fun t ht hW => ⟨x1, rfl, trivial, ht⟩) (fun _ h => absurd h List.not_mem_nil) dX9_endOfToken_77
    · refine w_indP (I := fun n ls => ∃ (w2_9 : Int32), n = (2147483647 - w2_9.toInt).toNat ∧ lv_has ls 3 [(0, .ref a0), (1, .int v1), (2, .int w2_9)]) (fun n ls hI ih9 => ?_) _ _ ⟨x1, rfl, lv_sub hl [1, 2, 0] rfl⟩
      obtain ⟨w2_9, hmu9, hl⟩ := hI
      subst hmu9
      refine lv_iload_n hx hb dX9_endOfToken_51 rfl (lv_at hl 2 rfl) ?_
      refine lv_aload_n hx hb dX9_endOfToken_52 rfl (lv_at hl 0 rfl) ?_
      refine th_get hx hb (ly_X9 hE) hown hK hP ha0.1 he2 rfl 5 (by decide) (wd_191 hE) (fun _ h9 => h9) rfl dX9_endOfToken_53 ?_
      refine lv_icmp_ge (tgt := 76) hx hb dX9_endOfToken_56 (by decide) (fun c10 => ?_) (fun c10 => ?_)
      · refine lv_iload_n hx hb dX9_endOfToken_76 rfl (lv_at hl 2 rfl) ?_
        exact W.iret (v := w2_9) hx hb hr (fun t ht hW => ⟨w2_9, rfl, trivial, ht⟩) (fun _ h => absurd h List.not_mem_nil) dX9_endOfToken_77
      · refine lv_aload_n hx hb dX9_endOfToken_59 rfl (lv_at hl 0 rfl) ?_
        refine lv_iload_n hx hb dX9_endOfToken_60 rfl (lv_at hl 2 rfl) ?_
        refine vp_callSi (va_Run.run (va_runV (As := [.int w2_9]) (rest := []) ⟨hx, hb, hml, hown, noTs⟩ (t_X9_byteAt l dC dI s.heap.size G cs tt mm a0 ha0 w2_9) ⟨cbE 1 (wd_458 hE) (wd_119 hE) (wd_455 hE) rfl rfl (by decide +kernel) ⟨Nat.le_of_ble_eq_true rfl, Nat.le_of_ble_eq_true rfl⟩, (wd_457 hE), (wd_2 hE)⟩ ⟨PT.blind, th_recv hK hP ha0.1 he2 rfl, (th_pre (av := [.ref a0, .int w2_9]) trivial hK hP hok hnd hWT hE)⟩ rfl rfl hl.1 rfl (lv_room (Nat.le_of_ble_eq_true rfl)) dX9_endOfToken_61 ⟨Nat.le_of_ble_eq_true rfl, Nat.le_of_ble_eq_true rfl⟩)) (fun r11 hr11 => ?_)
        refine vp_callSi (va_Run.run (va_runS (As := [.int r11]) (rest := []) ⟨hx, hb, hml, hown, noTs⟩ (t_X9_isDigit l dC dI s.heap.size G cs tt mm r11) ⟨cbE 1 (wd_468 hE) (wd_119 hE) (wd_466 hE) rfl rfl (by decide +kernel) ⟨Nat.le_of_ble_eq_true rfl, Nat.le_of_ble_eq_true rfl⟩, (wd_467 hE)⟩ ⟨PT.blind, (th_pre (av := [.int r11]) trivial hK hP hok hnd hWT hE)⟩ rfl rfl hl.1 rfl (lv_room (Nat.le_of_ble_eq_true rfl)) dX9_endOfToken_64 ⟨Nat.le_of_ble_eq_true rfl, Nat.le_of_ble_eq_true rfl⟩)) (fun r12 hr12 => ?_)
        refine lv_if_eq (tgt := 76) hx hb dX9_endOfToken_67 (by decide) (fun c13 => ?_) (fun c13 => ?_)
        · refine lv_iload_n hx hb dX9_endOfToken_76 rfl (lv_at hl 2 rfl) ?_
          exact W.iret (v := w2_9) hx hb hr (fun t ht hW => ⟨w2_9, rfl, trivial, ht⟩) (fun _ h => absurd h List.not_mem_nil) dX9_endOfToken_77
        · obtain ⟨z14, ez14⟩ : ∃ z : Int32, z = w2_9 + 1 := ⟨_, rfl⟩
          refine lv_iinc (v := z14) (lv' := [(2, .int z14), (0, .ref a0), (1, .int v1)]) hx hb dX9_endOfToken_70 hl (k := 2) rfl (by rw [ez14]; rfl) (by decide) rfl (fun ls hl => ?_)
          have ic14 : z14.toInt = w2_9.toInt + 1 := by rw [ez14]; exact ic_up (by have := i_rng r4; have := i_rng r7; have := i_rng w2_9; have := i_rng y5_2; have := i_rng r12; simp only [i_lt, i_le, i_eq, ti_m9, ti_m1, ti_0, ti_1, ti_2, ti_3, ti_4, ti_5, ti_6, ti_7, ti_9, ti_12, ti_20, ti_99, ti_700, ti_24, ti_156, ti_72, ti_8, ti_60, ti_543, ti_10, ti_33, ti_51, ti_178, ti_119, ti_111, ti_114, ti_100, ti_32, ti_62, ti_59, ti_48, ti_701, ti_97, ti_122, ti_57, ti_73, ti_128] at c5 c8 c10 c13 ⊢; omega)
          refine lv_goto (tgt := 51) hx hb dX9_endOfToken_73 (by decide) ?_
          exact ih9 _ _ (by have := i_rng z14; first | omega | (simp only [i_lt, i_le, i_eq, ti_m9, ti_m1, ti_0, ti_1, ti_2, ti_3, ti_4, ti_5, ti_6, ti_7, ti_9, ti_12, ti_20, ti_99, ti_700, ti_24, ti_156, ti_72, ti_8, ti_60, ti_543, ti_10, ti_33, ti_51, ti_178, ti_119, ti_111, ti_114, ti_100, ti_32, ti_62, ti_59, ti_48, ti_701, ti_97, ti_122, ti_57, ti_73, ti_128, ic14] at c5 c8 c10 c13 ic14 ⊢; omega)) ⟨z14, rfl, lv_sub hl [1, 2, 0] rfl⟩
  · refine w_indP (I := fun n ls => ∃ (w2_15 : Int32), n = (2147483647 - w2_15.toInt).toNat ∧ lv_has ls 3 [(0, .ref a0), (1, .int v1), (2, .int w2_15)]) (fun n ls hI ih15 => ?_) _ _ ⟨x1, rfl, lv_sub hl [1, 2, 0] rfl⟩
    obtain ⟨w2_15, hmu15, hl⟩ := hI
    subst hmu15
    refine lv_iload_n hx hb dX9_endOfToken_15 rfl (lv_at hl 2 rfl) ?_
    refine lv_aload_n hx hb dX9_endOfToken_16 rfl (lv_at hl 0 rfl) ?_
    refine th_get hx hb (ly_X9 hE) hown hK hP ha0.1 he2 rfl 5 (by decide) (wd_191 hE) (fun _ h9 => h9) rfl dX9_endOfToken_17 ?_
    refine lv_icmp_ge (tgt := 76) hx hb dX9_endOfToken_20 (by decide) (fun c16 => ?_) (fun c16 => ?_)
    · refine lv_iload_n hx hb dX9_endOfToken_76 rfl (lv_at hl 2 rfl) ?_
      exact W.iret (v := w2_15) hx hb hr (fun t ht hW => ⟨w2_15, rfl, trivial, ht⟩) (fun _ h => absurd h List.not_mem_nil) dX9_endOfToken_77
    · refine lv_aload_n hx hb dX9_endOfToken_23 rfl (lv_at hl 0 rfl) ?_
      refine lv_iload_n hx hb dX9_endOfToken_24 rfl (lv_at hl 2 rfl) ?_
      refine vp_callSi (va_Run.run (va_runV (As := [.int w2_15]) (rest := []) ⟨hx, hb, hml, hown, noTs⟩ (t_X9_byteAt l dC dI s.heap.size G cs tt mm a0 ha0 w2_15) ⟨cbE 1 (wd_458 hE) (wd_119 hE) (wd_455 hE) rfl rfl (by decide +kernel) ⟨Nat.le_of_ble_eq_true rfl, Nat.le_of_ble_eq_true rfl⟩, (wd_457 hE), (wd_2 hE)⟩ ⟨PT.blind, th_recv hK hP ha0.1 he2 rfl, (th_pre (av := [.ref a0, .int w2_15]) trivial hK hP hok hnd hWT hE)⟩ rfl rfl hl.1 rfl (lv_room (Nat.le_of_ble_eq_true rfl)) dX9_endOfToken_25 ⟨Nat.le_of_ble_eq_true rfl, Nat.le_of_ble_eq_true rfl⟩)) (fun r17 hr17 => ?_)
      refine vp_callSi (va_Run.run (va_runS (As := [.int r17]) (rest := []) ⟨hx, hb, hml, hown, noTs⟩ (t_X9_isLetter l dC dI s.heap.size G cs tt mm r17) ⟨cbE 1 (wd_465 hE) (wd_119 hE) (wd_463 hE) rfl rfl (by decide +kernel) ⟨Nat.le_of_ble_eq_true rfl, Nat.le_of_ble_eq_true rfl⟩, (wd_464 hE)⟩ ⟨PT.blind, (th_pre (av := [.int r17]) trivial hK hP hok hnd hWT hE)⟩ rfl rfl hl.1 rfl (lv_room (Nat.le_of_ble_eq_true rfl)) dX9_endOfToken_28 ⟨Nat.le_of_ble_eq_true rfl, Nat.le_of_ble_eq_true rfl⟩)) (fun r18 hr18 => ?_)
      refine lv_if_eq (tgt := 76) hx hb dX9_endOfToken_31 (by decide) (fun c19 => ?_) (fun c19 => ?_)
      · refine lv_iload_n hx hb dX9_endOfToken_76 rfl (lv_at hl 2 rfl) ?_
        exact W.iret (v := w2_15) hx hb hr (fun t ht hW => ⟨w2_15, rfl, trivial, ht⟩) (fun _ h => absurd h List.not_mem_nil) dX9_endOfToken_77
      · obtain ⟨z20, ez20⟩ : ∃ z : Int32, z = w2_15 + 1 := ⟨_, rfl⟩
        refine lv_iinc (v := z20) (lv' := [(2, .int z20), (0, .ref a0), (1, .int v1)]) hx hb dX9_endOfToken_34 hl (k := 2) rfl (by rw [ez20]; rfl) (by decide) rfl (fun ls hl => ?_)
        have ic20 : z20.toInt = w2_15.toInt + 1 := by rw [ez20]; exact ic_up (by have := i_rng r4; have := i_rng w2_15; have := i_rng y5_2; have := i_rng r18; simp only [i_lt, i_le, i_eq, ti_m9, ti_m1, ti_0, ti_1, ti_2, ti_3, ti_4, ti_5, ti_6, ti_7, ti_9, ti_12, ti_20, ti_99, ti_700, ti_24, ti_156, ti_72, ti_8, ti_60, ti_543, ti_10, ti_33, ti_51, ti_178, ti_119, ti_111, ti_114, ti_100, ti_32, ti_62, ti_59, ti_48, ti_701, ti_97, ti_122, ti_57, ti_73, ti_128] at c5 c16 c19 ⊢; omega)
        refine lv_goto (tgt := 15) hx hb dX9_endOfToken_37 (by decide) ?_
        exact ih15 _ _ (by have := i_rng z20; first | omega | (simp only [i_lt, i_le, i_eq, ti_m9, ti_m1, ti_0, ti_1, ti_2, ti_3, ti_4, ti_5, ti_6, ti_7, ti_9, ti_12, ti_20, ti_99, ti_700, ti_24, ti_156, ti_72, ti_8, ti_60, ti_543, ti_10, ti_33, ti_51, ti_178, ti_119, ti_111, ti_114, ti_100, ti_32, ti_62, ti_59, ti_48, ti_701, ti_97, ti_122, ti_57, ti_73, ti_128, ic20] at c5 c16 c19 ic20 ⊢; omega)) ⟨z20, rfl, lv_sub hl [1, 2, 0] rfl⟩

set_option maxHeartbeats 4000000 in
set_option maxRecDepth 100000 in
theorem t_X9_signOf (l : Launch) (dC : Nat → ClassId) (dI : Nat → Nat → Nat) (sz : Nat) (G : GT) (cs : Nat → ClassId) (tt mm : Nat) (v0 : Int32) : Met l yX9_signOf [.code yX9_signOf cX9_signOf 1 (some .int)] ({ frames := 0, cells := 0, slots := 0, locals := 0 }) (PT [.int v0] sz dC dI G cs tt mm (fun _ => True)) (vp_Si (fun (r : Int32) => True)) 0 0 (fun _ => False) := by
  refine Met.ofW (cc := cX9_signOf) (maxL := 1) (ret := (some .int)) (by decide) rfl ?_
  intro p e s m args below meth c s₁ B hml hv
  obtain ⟨rfl, hsz, ⟨f0, hok, hP, hX⟩, hK, hnd, hWT, hE⟩ := hv
  have hx := B.exec
  have hb := B.bytes
  have hr := B.returns
  have hown : s.vm.findClass RX9 = some m.cls := findClass_of_methodNamed B.named
  have hlocks := B.notSynchronized
  subst hsz
  have hl := lv_entry ([.int v0]) (n := 1) (Nat.le_of_ble_eq_true rfl)
  rw [lg_entry_eq]
  generalize (lg_sl ([.int v0]) ++ List.replicate (1 - (lg_sl ([.int v0])).length) Slot.unset).toArray = ls at hl ⊢
  have hl : lv_has ls 1 [(0, .int v0)] := hl
  refine lv_iload_n hx hb dX9_signOf_0 rfl (lv_at hl 0 rfl) ?_
  by_cases t1 : v0 = 59
  · refine lv_tableIn (tgt := 38) hx hb dX9_signOf_1 (by rw [t1]; decide) (by rw [t1]; decide) (by rw [t1]; rfl) (by decide) ?_
    refine lv_bipush (v := 9) hx hb dX9_signOf_38 (by decide) ?_
    exact W.iret (v := 9) hx hb hr (fun t ht hW => ⟨9, rfl, trivial, ht⟩) (fun _ h => absurd h List.not_mem_nil) dX9_signOf_40
  by_cases t2 : v0 = 60
  · refine lv_tableIn (tgt := 35) hx hb dX9_signOf_1 (by rw [t2]; decide) (by rw [t2]; decide) (by rw [t2]; rfl) (by decide) ?_
    refine lv_bipush (v := 8) hx hb dX9_signOf_35 (by decide) ?_
    exact W.iret (v := 8) hx hb hr (fun t ht hW => ⟨8, rfl, trivial, ht⟩) (fun _ h => absurd h List.not_mem_nil) dX9_signOf_37
  by_cases t3 : v0 = 61
  · refine lv_tableIn (tgt := 41) hx hb dX9_signOf_1 (by rw [t3]; decide) (by rw [t3]; decide) (by rw [t3]; rfl) (by decide) ?_
    refine lv_iconst (v := 1) hx hb dX9_signOf_41 (by decide) ?_
    exact W.iret (v := 1) hx hb hr (fun t ht hW => ⟨1, rfl, trivial, ht⟩) (fun _ h => absurd h List.not_mem_nil) dX9_signOf_42
  by_cases t4 : v0 = 62
  · refine lv_tableIn (tgt := 32) hx hb dX9_signOf_1 (by rw [t4]; decide) (by rw [t4]; decide) (by rw [t4]; rfl) (by decide) ?_
    refine lv_bipush (v := 7) hx hb dX9_signOf_32 (by decide) ?_
    exact W.iret (v := 7) hx hb hr (fun t ht hW => ⟨7, rfl, trivial, ht⟩) (fun _ h => absurd h List.not_mem_nil) dX9_signOf_34
  have hT5 : v0.toInt < 59 ∨ 62 < v0.toInt := by simp only [i_eq, ti_m9, ti_m1, ti_0, ti_1, ti_2, ti_3, ti_4, ti_5, ti_6, ti_7, ti_9, ti_12, ti_20, ti_99, ti_700, ti_24, ti_156, ti_72, ti_8, ti_60, ti_543, ti_10, ti_33, ti_51, ti_178, ti_119, ti_111, ti_114, ti_100, ti_32, ti_62, ti_59, ti_48, ti_701, ti_97, ti_122, ti_57, ti_73, ti_128, ti_61] at t1 t2 t3 t4; omega
  refine lv_tableOut (tgt := 41) hx hb dX9_signOf_1 hT5 (by decide) ?_
  refine lv_iconst (v := 1) hx hb dX9_signOf_41 (by decide) ?_
  exact W.iret (v := 1) hx hb hr (fun t ht hW => ⟨1, rfl, trivial, ht⟩) (fun _ h => absurd h List.not_mem_nil) dX9_signOf_42

set_option maxHeartbeats 4000000 in
set_option maxRecDepth 100000 in
theorem t_X9_numberIn (l : Launch) (dC : Nat → ClassId) (dI : Nat → Nat → Nat) (sz : Nat) (G : GT) (cs : Nat → ClassId) (tt mm : Nat) (a0 : Nat) (ha0 : Ty G a0 9) (v1 : Int32) (v2 : Int32) : Met l yX9_numberIn [.code yX9_numberIn cX9_numberIn 5 (some .int)] ({ frames := 1, cells := 0, slots := 0, locals := 40 }) (PT [.ref a0, .int v1, .int v2] sz dC dI G cs tt mm (fun _ => True)) (vp_Si (fun (r : Int32) => True)) 0 0 (fun _ => False) := by
  refine Met.ofW (cc := cX9_numberIn) (maxL := 5) (ret := (some .int)) (by decide) rfl ?_
  intro p e s m args below meth c s₁ B hml hv
  obtain ⟨rfl, hsz, ⟨f0, hok, hP, hX⟩, hK, hnd, hWT, hE⟩ := hv
  have hx := B.exec
  have hb := B.bytes
  have hr := B.returns
  have hown : s.vm.findClass RX9 = some m.cls := findClass_of_methodNamed B.named
  have hlocks := B.notSynchronized
  subst hsz
  have hl := lv_entry ([.ref a0, .int v1, .int v2]) (n := 5) (Nat.le_of_ble_eq_true rfl)
  rw [lg_entry_eq]
  generalize (lg_sl ([.ref a0, .int v1, .int v2]) ++ List.replicate (5 - (lg_sl ([.ref a0, .int v1, .int v2])).length) Slot.unset).toArray = ls at hl ⊢
  have hl : lv_has ls 5 [(0, .ref a0), (1, .int v1), (2, .int v2)] := hl
  refine lv_iconst (v := 0) hx hb dX9_numberIn_0 (by decide) ?_
  refine lv_istore_n (lv' := [(3, .int 0), (0, .ref a0), (1, .int v1), (2, .int v2)]) hx hb dX9_numberIn_1 rfl hl (by decide) rfl (fun ls hl => ?_)
  refine lv_iload_n hx hb dX9_numberIn_2 rfl (lv_at hl 2 rfl) ?_
  refine lv_istore (lv' := [(4, .int v1), (3, .int 0), (0, .ref a0), (1, .int v1), (2, .int v2)]) hx hb dX9_numberIn_3 hl (by decide) rfl (fun ls hl => ?_)
  refine w_indP (I := fun n ls => ∃ (w3_1 : Int32) (w4_1 : Int32), n = (2147483647 - w4_1.toInt).toNat ∧ lv_has ls 5 [(0, .ref a0), (1, .int v1), (2, .int v2), (3, .int w3_1), (4, .int w4_1)]) (fun n ls hI ih1 => ?_) _ _ ⟨0, v1, rfl, lv_sub hl [2, 3, 4, 1, 0] rfl⟩
  obtain ⟨w3_1, w4_1, hmu1, hl⟩ := hI
  subst hmu1
  refine lv_iload hx hb dX9_numberIn_5 (lv_at hl 4 rfl) ?_
  refine lv_iload_n hx hb dX9_numberIn_7 rfl (lv_at hl 2 rfl) ?_
  refine lv_icmp_ge (tgt := 32) hx hb dX9_numberIn_8 (by decide) (fun c2 => ?_) (fun c2 => ?_)
  · refine lv_iload_n hx hb dX9_numberIn_32 rfl (lv_at hl 3 rfl) ?_
    exact W.iret (v := w3_1) hx hb hr (fun t ht hW => ⟨w3_1, rfl, trivial, ht⟩) (fun _ h => absurd h List.not_mem_nil) dX9_numberIn_33
  · refine lv_bipush (v := 10) hx hb dX9_numberIn_11 (by decide) ?_
    refine lv_iload_n hx hb dX9_numberIn_13 rfl (lv_at hl 3 rfl) ?_
    refine lv_imul hx hb dX9_numberIn_14 ?_
    refine lv_topi (fun x3 ex3 => ?_)
    refine lv_aload_n hx hb dX9_numberIn_15 rfl (lv_at hl 0 rfl) ?_
    refine lv_iload hx hb dX9_numberIn_16 (lv_at hl 4 rfl) ?_
    obtain ⟨y3_4, y4_4, y5_4, hy4_4, he4⟩ := ok_X9 hok ha0
    refine vp_callSi (va_Run.run (va_runV (As := [.int w4_1]) (rest := [.int x3]) ⟨hx, hb, hml, hown, noTs⟩ (t_X9_byteAt l dC dI s.heap.size G cs tt mm a0 ha0 w4_1) ⟨cbE 1 (wd_458 hE) (wd_119 hE) (wd_455 hE) rfl rfl (by decide +kernel) ⟨Nat.le_of_ble_eq_true rfl, Nat.le_of_ble_eq_true rfl⟩, (wd_457 hE), (wd_2 hE)⟩ ⟨PT.blind, th_recv hK hP ha0.1 he4 rfl, (th_pre (av := [.ref a0, .int w4_1]) trivial hK hP hok hnd hWT hE)⟩ rfl rfl hl.1 rfl (lv_room (Nat.le_of_ble_eq_true rfl)) dX9_numberIn_18 ⟨Nat.le_of_ble_eq_true rfl, Nat.le_of_ble_eq_true rfl⟩)) (fun r5 hr5 => ?_)
    refine lv_iadd hx hb dX9_numberIn_21 ?_
    refine lv_topi (fun x6 ex6 => ?_)
    refine lv_bipush (v := 48) hx hb dX9_numberIn_22 (by decide) ?_
    refine lv_isub hx hb dX9_numberIn_24 ?_
    refine lv_topi (fun x7 ex7 => ?_)
    refine lv_istore_n (lv' := [(3, .int x7), (0, .ref a0), (1, .int v1), (2, .int v2), (4, .int w4_1)]) hx hb dX9_numberIn_25 rfl hl (by decide) rfl (fun ls hl => ?_)
    obtain ⟨z8, ez8⟩ : ∃ z : Int32, z = w4_1 + 1 := ⟨_, rfl⟩
    refine lv_iinc (v := z8) (lv' := [(4, .int z8), (3, .int x7), (0, .ref a0), (1, .int v1), (2, .int v2)]) hx hb dX9_numberIn_26 hl (k := 4) rfl (by rw [ez8]; rfl) (by decide) rfl (fun ls hl => ?_)
    have ic8 : z8.toInt = w4_1.toInt + 1 := by rw [ez8]; exact ic_up (by have := i_rng w4_1; have := i_rng v2; simp only [i_lt, i_le, i_eq, ti_m9, ti_m1, ti_0, ti_1, ti_2, ti_3, ti_4, ti_5, ti_6, ti_7, ti_9, ti_12, ti_20, ti_99, ti_700, ti_24, ti_156, ti_72, ti_8, ti_60, ti_543, ti_10, ti_33, ti_51, ti_178, ti_119, ti_111, ti_114, ti_100, ti_32, ti_62, ti_59, ti_48, ti_701, ti_97, ti_122, ti_57, ti_73, ti_128, ti_61] at c2 ⊢; omega)
    refine lv_goto (tgt := 5) hx hb dX9_numberIn_29 (by decide) ?_
    exact ih1 _ _ (by have := i_rng z8; first | omega | (simp only [i_lt, i_le, i_eq, ti_m9, ti_m1, ti_0, ti_1, ti_2, ti_3, ti_4, ti_5, ti_6, ti_7, ti_9, ti_12, ti_20, ti_99, ti_700, ti_24, ti_156, ti_72, ti_8, ti_60, ti_543, ti_10, ti_33, ti_51, ti_178, ti_119, ti_111, ti_114, ti_100, ti_32, ti_62, ti_59, ti_48, ti_701, ti_97, ti_122, ti_57, ti_73, ti_128, ti_61, ic8] at c2 ic8 ⊢; omega)) ⟨x7, z8, rfl, lv_sub hl [2, 3, 4, 1, 0] rfl⟩

set_option maxHeartbeats 4000000 in
set_option maxRecDepth 100000 in
theorem t_X9_kindAt (l : Launch) (dC : Nat → ClassId) (dI : Nat → Nat → Nat) (sz : Nat) (G : GT) (cs : Nat → ClassId) (tt mm : Nat) (a0 : Nat) (ha0 : Ty G a0 9) (v1 : Int32) : Met l yX9_kindAt [.code yX9_kindAt cX9_kindAt 2 (some .int)] ({ frames := 0, cells := 0, slots := 0, locals := 0 }) (PT [.ref a0, .int v1] sz dC dI G cs tt mm (fun _ => True)) (vp_Si (fun (r : Int32) => True)) 0 0 (fun _ => False) := by
  refine Met.ofW (cc := cX9_kindAt) (maxL := 2) (ret := (some .int)) (by decide) rfl ?_
  intro p e s m args below meth c s₁ B hml hv
  obtain ⟨rfl, hsz, ⟨f0, hok, hP, hX⟩, hK, hnd, hWT, hE⟩ := hv
  have hx := B.exec
  have hb := B.bytes
  have hr := B.returns
  have hown : s.vm.findClass RX9 = some m.cls := findClass_of_methodNamed B.named
  have hlocks := B.notSynchronized
  subst hsz
  have hl := lv_entry ([.ref a0, .int v1]) (n := 2) (Nat.le_of_ble_eq_true rfl)
  rw [lg_entry_eq]
  generalize (lg_sl ([.ref a0, .int v1]) ++ List.replicate (2 - (lg_sl ([.ref a0, .int v1])).length) Slot.unset).toArray = ls at hl ⊢
  have hl : lv_has ls 2 [(0, .ref a0), (1, .int v1)] := hl
  refine lv_iload_n hx hb dX9_kindAt_0 rfl (lv_at hl 1 rfl) ?_
  refine lv_if_lt (tgt := 21) hx hb dX9_kindAt_1 (by decide) (fun c1 => ?_) (fun c1 => ?_)
  · refine lv_iconst (v := 0) hx hb dX9_kindAt_21 (by decide) ?_
    refine lv_goto (tgt := 31) hx hb dX9_kindAt_22 (by decide) ?_
    exact W.iret (v := 0) hx hb hr (fun t ht hW => ⟨0, rfl, trivial, ht⟩) (fun _ h => absurd h List.not_mem_nil) dX9_kindAt_31
  · refine lv_iload_n hx hb dX9_kindAt_4 rfl (lv_at hl 1 rfl) ?_
    refine lv_aload_n hx hb dX9_kindAt_5 rfl (lv_at hl 0 rfl) ?_
    obtain ⟨y3_2, y4_2, y5_2, hy4_2, he2⟩ := ok_X9 hok ha0
    refine th_get hx hb (ly_X9 hE) hown hK hP ha0.1 he2 rfl 3 (by decide) (wd_189 hE) (fun _ h9 => h9) rfl dX9_kindAt_6 ?_
    refine lv_icmp_ge (tgt := 21) hx hb dX9_kindAt_9 (by decide) (fun c3 => ?_) (fun c3 => ?_)
    · refine lv_iconst (v := 0) hx hb dX9_kindAt_21 (by decide) ?_
      refine lv_goto (tgt := 31) hx hb dX9_kindAt_22 (by decide) ?_
      exact W.iret (v := 0) hx hb hr (fun t ht hW => ⟨0, rfl, trivial, ht⟩) (fun _ h => absurd h List.not_mem_nil) dX9_kindAt_31
    · refine lv_iload_n hx hb dX9_kindAt_12 rfl (lv_at hl 1 rfl) ?_
      refine lv_aload_n hx hb dX9_kindAt_13 rfl (lv_at hl 0 rfl) ?_
      refine th_get hx hb (ly_X9 hE) hown hK hP ha0.1 he2 rfl 0 (by decide) (wd_186 hE) (fun _ h9 => h9) rfl dX9_kindAt_14 ?_
      refine th_len1 hx hb hK hP hok (n := 701) (wl_X9_0 hWT ha0) (Or.inl (wt_X9_0 hWT ha0)) dX9_kindAt_17 ?_
      refine W.eq (g2 := F0 m 18 ls [.int 701, .int v1]) rfl ?_
      refine lv_icmp_lt (tgt := 25) hx hb dX9_kindAt_18 (by decide) (fun c4 => ?_) (fun c4 => ?_)
      · refine lv_aload_n hx hb dX9_kindAt_25 rfl (lv_at hl 0 rfl) ?_
        refine th_get hx hb (ly_X9 hE) hown hK hP ha0.1 he2 rfl 0 (by decide) (wd_186 hE) (fun _ h9 => h9) rfl dX9_kindAt_26 ?_
        refine lv_iload_n hx hb dX9_kindAt_29 rfl (lv_at hl 1 rfl) ?_
        refine th_iald hx hb hK hP hok (wt_X9_0 hWT ha0) (n := 701) (wl_X9_0 hWT ha0) (vp_in_iff.mpr (by first | omega | (simp only [i_lt, i_le, i_eq, ti_m9, ti_m1, ti_0, ti_1, ti_2, ti_3, ti_4, ti_5, ti_6, ti_7, ti_9, ti_12, ti_20, ti_99, ti_700, ti_24, ti_156, ti_72, ti_8, ti_60, ti_543, ti_10, ti_33, ti_51, ti_178, ti_119, ti_111, ti_114, ti_100, ti_32, ti_62, ti_59, ti_48, ti_701, ti_97, ti_122, ti_57, ti_73, ti_128, ti_61] at c1 c3 c4 ⊢; omega))) dX9_kindAt_30 (fun x5 => ?_)
        exact W.iret (v := x5) hx hb hr (fun t ht hW => ⟨x5, rfl, trivial, ht⟩) (fun _ h => absurd h List.not_mem_nil) dX9_kindAt_31
      · refine lv_iconst (v := 0) hx hb dX9_kindAt_21 (by decide) ?_
        refine lv_goto (tgt := 31) hx hb dX9_kindAt_22 (by decide) ?_
        exact W.iret (v := 0) hx hb hr (fun t ht hW => ⟨0, rfl, trivial, ht⟩) (fun _ h => absurd h List.not_mem_nil) dX9_kindAt_31

set_option maxHeartbeats 4000000 in
set_option maxRecDepth 100000 in
theorem t_X5_kind (l : Launch) (dC : Nat → ClassId) (dI : Nat → Nat → Nat) (sz : Nat) (G : GT) (cs : Nat → ClassId) (tt mm : Nat) (a0 : Nat) (ha0 : Ty G a0 5) : Met l yX5_kind [.code yX5_kind cX5_kind 1 (some .int)] ({ frames := 1, cells := 0, slots := 0, locals := 40 }) (PT [.ref a0] sz dC dI G cs tt mm (fun _ => True)) (vp_Si (fun (r : Int32) => True)) 0 0 (fun _ => False) := by
  refine Met.ofW (cc := cX5_kind) (maxL := 1) (ret := (some .int)) (by decide) rfl ?_
  intro p e s m args below meth c s₁ B hml hv
  obtain ⟨rfl, hsz, ⟨f0, hok, hP, hX⟩, hK, hnd, hWT, hE⟩ := hv
  have hx := B.exec
  have hb := B.bytes
  have hr := B.returns
  have hown : s.vm.findClass RX5 = some m.cls := findClass_of_methodNamed B.named
  have hlocks := B.notSynchronized
  subst hsz
  have hl := lv_entry ([.ref a0]) (n := 1) (Nat.le_of_ble_eq_true rfl)
  rw [lg_entry_eq]
  generalize (lg_sl ([.ref a0]) ++ List.replicate (1 - (lg_sl ([.ref a0])).length) Slot.unset).toArray = ls at hl ⊢
  have hl : lv_has ls 1 [(0, .ref a0)] := hl
  refine lv_aload_n hx hb dX5_kind_0 rfl (lv_at hl 0 rfl) ?_
  obtain ⟨y3_1, y4_1, y5_1, y6_1, y7_1, y8_1, y9_1, he1⟩ := ok_X5 hok ha0
  refine th_get hx hb (ly_X5 hE) hown hK hP ha0.1 he1 rfl 0 (by decide) (wd_227 hE) (fun _ h9 => h9) rfl dX5_kind_1 ?_
  refine lv_aload_n hx hb dX5_kind_4 rfl (lv_at hl 0 rfl) ?_
  refine th_get hx hb (ly_X5 hE) hown hK hP ha0.1 he1 rfl 4 (by decide) (wd_231 hE) (fun _ h9 => h9) rfl dX5_kind_5 ?_
  obtain ⟨y3_2, y4_2, y5_2, hy4_2, he2⟩ := ok_X9 hok (wt_X5_0 hWT ha0)
  refine vp_callSi (va_Run.run (va_runV (As := [.int y4_1]) (rest := []) ⟨hx, hb, hml, hown, noTs⟩ (t_X9_kindAt l dC dI s.heap.size G cs tt mm (gR G a0 0) ((wt_X5_0 hWT ha0)) y4_1) ⟨cbE 1 (wd_549 hE) (wd_119 hE) (wd_546 hE) rfl rfl (by decide +kernel) ⟨Nat.le_of_ble_eq_true rfl, Nat.le_of_ble_eq_true rfl⟩, (wd_547 hE), (wd_548 hE)⟩ ⟨PT.blind, th_recv hK hP (wt_X5_0 hWT ha0).1 he2 rfl, (th_pre (av := [.ref (gR G a0 0), .int y4_1]) trivial hK hP hok hnd hWT hE)⟩ rfl rfl hl.1 rfl (lv_room (Nat.le_of_ble_eq_true rfl)) dX5_kind_8 ⟨Nat.le_of_ble_eq_true rfl, Nat.le_of_ble_eq_true rfl⟩)) (fun r3 hr3 => ?_)
  exact W.iret (v := r3) hx hb hr (fun t ht hW => ⟨r3, rfl, trivial, ht⟩) (fun _ h => absurd h List.not_mem_nil) dX5_kind_11

set_option maxHeartbeats 4000000 in
set_option maxRecDepth 100000 in
theorem t_X7_vertices (l : Launch) (dC : Nat → ClassId) (dI : Nat → Nat → Nat) (sz : Nat) (G : GT) (cs : Nat → ClassId) (tt mm : Nat) (a0 : Nat) (ha0 : Ty G a0 7) : Met l yX7_vertices [.code yX7_vertices cX7_vertices 1 (some .int)] ({ frames := 0, cells := 0, slots := 0, locals := 0 }) (PT [.ref a0] sz dC dI G cs tt mm (fun _ => True)) (vp_Si (fun (r : Int32) => True)) 0 0 (fun _ => False) := by
  refine Met.ofW (cc := cX7_vertices) (maxL := 1) (ret := (some .int)) (by decide) rfl ?_
  intro p e s m args below meth c s₁ B hml hv
  obtain ⟨rfl, hsz, ⟨f0, hok, hP, hX⟩, hK, hnd, hWT, hE⟩ := hv
  have hx := B.exec
  have hb := B.bytes
  have hr := B.returns
  have hown : s.vm.findClass RX7 = some m.cls := findClass_of_methodNamed B.named
  have hlocks := B.notSynchronized
  subst hsz
  have hl := lv_entry ([.ref a0]) (n := 1) (Nat.le_of_ble_eq_true rfl)
  rw [lg_entry_eq]
  generalize (lg_sl ([.ref a0]) ++ List.replicate (1 - (lg_sl ([.ref a0])).length) Slot.unset).toArray = ls at hl ⊢
  have hl : lv_has ls 1 [(0, .ref a0)] := hl
  refine lv_aload_n hx hb dX7_vertices_0 rfl (lv_at hl 0 rfl) ?_
  have he1 := ok_X7 hok ha0
  refine th_get hx hb (ly_X7 hE) hown hK hP ha0.1 he1 rfl 0 (by decide) (wd_149 hE) (fun _ h9 => h9) rfl dX7_vertices_1 ?_
  refine lv_iconst (v := 0) hx hb dX7_vertices_4 (by decide) ?_
  refine th_iald hx hb hK hP hok (wt_X7_0 hWT ha0) (n := 543) (wl_X7_0 hWT ha0) (by unfold vp_in; decide) dX7_vertices_5 (fun x2 => ?_)
  exact W.iret (v := x2) hx hb hr (fun t ht hW => ⟨x2, rfl, trivial, ht⟩) (fun _ h => absurd h List.not_mem_nil) dX7_vertices_6

set_option maxHeartbeats 4000000 in
set_option maxRecDepth 100000 in
theorem t_X9_placeAt (l : Launch) (dC : Nat → ClassId) (dI : Nat → Nat → Nat) (sz : Nat) (G : GT) (cs : Nat → ClassId) (tt mm : Nat) (a0 : Nat) (ha0 : Ty G a0 9) (v1 : Int32) : Met l yX9_placeAt [.code yX9_placeAt cX9_placeAt 2 (some .int)] ({ frames := 0, cells := 0, slots := 0, locals := 0 }) (PT [.ref a0, .int v1] sz dC dI G cs tt mm (fun _ => True)) (vp_Si (fun (r : Int32) => True)) 0 0 (fun _ => False) := by
  refine Met.ofW (cc := cX9_placeAt) (maxL := 2) (ret := (some .int)) (by decide) rfl ?_
  intro p e s m args below meth c s₁ B hml hv
  obtain ⟨rfl, hsz, ⟨f0, hok, hP, hX⟩, hK, hnd, hWT, hE⟩ := hv
  have hx := B.exec
  have hb := B.bytes
  have hr := B.returns
  have hown : s.vm.findClass RX9 = some m.cls := findClass_of_methodNamed B.named
  have hlocks := B.notSynchronized
  subst hsz
  have hl := lv_entry ([.ref a0, .int v1]) (n := 2) (Nat.le_of_ble_eq_true rfl)
  rw [lg_entry_eq]
  generalize (lg_sl ([.ref a0, .int v1]) ++ List.replicate (2 - (lg_sl ([.ref a0, .int v1])).length) Slot.unset).toArray = ls at hl ⊢
  have hl : lv_has ls 2 [(0, .ref a0), (1, .int v1)] := hl
  refine lv_iload_n hx hb dX9_placeAt_0 rfl (lv_at hl 1 rfl) ?_
  refine lv_if_lt (tgt := 21) hx hb dX9_placeAt_1 (by decide) (fun c1 => ?_) (fun c1 => ?_)
  · refine lv_aload_n hx hb dX9_placeAt_21 rfl (lv_at hl 0 rfl) ?_
    obtain ⟨y3_2, y4_2, y5_2, hy4_2, he2⟩ := ok_X9 hok ha0
    refine th_get hx hb (ly_X9 hE) hown hK hP ha0.1 he2 rfl 5 (by decide) (wd_191 hE) (fun _ h9 => h9) rfl dX9_placeAt_22 ?_
    refine lv_goto (tgt := 34) hx hb dX9_placeAt_25 (by decide) ?_
    exact W.iret (v := y5_2) hx hb hr (fun t ht hW => ⟨y5_2, rfl, trivial, ht⟩) (fun _ h => absurd h List.not_mem_nil) dX9_placeAt_34
  · refine lv_iload_n hx hb dX9_placeAt_4 rfl (lv_at hl 1 rfl) ?_
    refine lv_aload_n hx hb dX9_placeAt_5 rfl (lv_at hl 0 rfl) ?_
    obtain ⟨y3_3, y4_3, y5_3, hy4_3, he3⟩ := ok_X9 hok ha0
    refine th_get hx hb (ly_X9 hE) hown hK hP ha0.1 he3 rfl 3 (by decide) (wd_189 hE) (fun _ h9 => h9) rfl dX9_placeAt_6 ?_
    refine lv_icmp_ge (tgt := 21) hx hb dX9_placeAt_9 (by decide) (fun c4 => ?_) (fun c4 => ?_)
    · refine lv_aload_n hx hb dX9_placeAt_21 rfl (lv_at hl 0 rfl) ?_
      refine th_get hx hb (ly_X9 hE) hown hK hP ha0.1 he3 rfl 5 (by decide) (wd_191 hE) (fun _ h9 => h9) rfl dX9_placeAt_22 ?_
      refine lv_goto (tgt := 34) hx hb dX9_placeAt_25 (by decide) ?_
      exact W.iret (v := y5_3) hx hb hr (fun t ht hW => ⟨y5_3, rfl, trivial, ht⟩) (fun _ h => absurd h List.not_mem_nil) dX9_placeAt_34
    · refine lv_iload_n hx hb dX9_placeAt_12 rfl (lv_at hl 1 rfl) ?_
      refine lv_aload_n hx hb dX9_placeAt_13 rfl (lv_at hl 0 rfl) ?_
      refine th_get hx hb (ly_X9 hE) hown hK hP ha0.1 he3 rfl 1 (by decide) (wd_187 hE) (fun _ h9 => h9) rfl dX9_placeAt_14 ?_
      refine th_len1 hx hb hK hP hok (n := 701) (wl_X9_1 hWT ha0) (Or.inl (wt_X9_1 hWT ha0)) dX9_placeAt_17 ?_
      refine W.eq (g2 := F0 m 18 ls [.int 701, .int v1]) rfl ?_
      refine lv_icmp_lt (tgt := 28) hx hb dX9_placeAt_18 (by decide) (fun c5 => ?_) (fun c5 => ?_)
      · refine lv_aload_n hx hb dX9_placeAt_28 rfl (lv_at hl 0 rfl) ?_
        refine th_get hx hb (ly_X9 hE) hown hK hP ha0.1 he3 rfl 1 (by decide) (wd_187 hE) (fun _ h9 => h9) rfl dX9_placeAt_29 ?_
        refine lv_iload_n hx hb dX9_placeAt_32 rfl (lv_at hl 1 rfl) ?_
        refine th_iald hx hb hK hP hok (wt_X9_1 hWT ha0) (n := 701) (wl_X9_1 hWT ha0) (vp_in_iff.mpr (by first | omega | (simp only [i_lt, i_le, i_eq, ti_m9, ti_m1, ti_0, ti_1, ti_2, ti_3, ti_4, ti_5, ti_6, ti_7, ti_9, ti_12, ti_20, ti_99, ti_700, ti_24, ti_156, ti_72, ti_8, ti_60, ti_543, ti_10, ti_33, ti_51, ti_178, ti_119, ti_111, ti_114, ti_100, ti_32, ti_62, ti_59, ti_48, ti_701, ti_97, ti_122, ti_57, ti_73, ti_128, ti_61] at c1 c4 c5 ⊢; omega))) dX9_placeAt_33 (fun x6 => ?_)
        exact W.iret (v := x6) hx hb hr (fun t ht hW => ⟨x6, rfl, trivial, ht⟩) (fun _ h => absurd h List.not_mem_nil) dX9_placeAt_34
      · refine lv_aload_n hx hb dX9_placeAt_21 rfl (lv_at hl 0 rfl) ?_
        refine th_get hx hb (ly_X9 hE) hown hK hP ha0.1 he3 rfl 5 (by decide) (wd_191 hE) (fun _ h9 => h9) rfl dX9_placeAt_22 ?_
        refine lv_goto (tgt := 34) hx hb dX9_placeAt_25 (by decide) ?_
        exact W.iret (v := y5_3) hx hb hr (fun t ht hW => ⟨y5_3, rfl, trivial, ht⟩) (fun _ h => absurd h List.not_mem_nil) dX9_placeAt_34

set_option maxHeartbeats 4000000 in
set_option maxRecDepth 100000 in
theorem t_X5_passes (l : Launch) (dC : Nat → ClassId) (dI : Nat → Nat → Nat) (sz : Nat) (G : GT) (cs : Nat → ClassId) (tt mm : Nat) (a0 : Nat) (ha0 : Ty G a0 5) (v1 : Int32) (v2 : Int32) : Met l yX5_passes [.code yX5_passes cX5_passes 3 (some .boolean)] ({ frames := 1, cells := 0, slots := 0, locals := 40 }) (PT [.ref a0, .int v1, .int v2] sz dC dI G cs tt mm (fun _ => True)) (va_Qi (fun (r : Int32) (u : Nat → va_E) => r = 0 ∨ r = 1) (BT dC dI G cs tt mm) (AT G sz)) 0 0 (AT G sz) := by
  refine Met.ofW (cc := cX5_passes) (maxL := 3) (ret := (some .boolean)) (by decide) rfl ?_
  intro p e s m args below meth c s₁ B hml hv
  obtain ⟨rfl, hsz, ⟨f0, hok, hP, hX⟩, hK, hnd, hWT, hE⟩ := hv
  have hx := B.exec
  have hb := B.bytes
  have hr := B.returns
  have hown : s.vm.findClass RX5 = some m.cls := findClass_of_methodNamed B.named
  have hlocks := B.notSynchronized
  subst hsz
  have hAL : ∀ a, a ∈ gL G → AT G s.heap.size a := fun a h => Or.inl h
  have hA : ∀ q : Nat, s.heap.size ≤ q → AT G s.heap.size q := fun q h => Or.inr h
  have hS : va_S (AT G s.heap.size) s.heap s.heap [] := va_S.rf
  have hl := lv_entry ([.ref a0, .int v1, .int v2]) (n := 3) (Nat.le_of_ble_eq_true rfl)
  rw [lg_entry_eq]
  generalize (lg_sl ([.ref a0, .int v1, .int v2]) ++ List.replicate (3 - (lg_sl ([.ref a0, .int v1, .int v2])).length) Slot.unset).toArray = ls at hl ⊢
  have hl : lv_has ls 3 [(0, .ref a0), (1, .int v1), (2, .int v2)] := hl
  refine lv_iload_n hx hb dX5_passes_0 rfl (lv_at hl 1 rfl) ?_
  refine lv_if_ne (tgt := 39) hx hb dX5_passes_1 (by decide) (fun c1 => ?_) (fun c1 => ?_)
  · refine lv_aload_n hx hb dX5_passes_39 rfl (lv_at hl 0 rfl) ?_
    obtain ⟨y3_2, y4_2, y5_2, y6_2, y7_2, y8_2, y9_2, he2⟩ := ok_X5 hok ha0
    refine th_get hx hb (ly_X5 hE) hown hK hP ha0.1 he2 rfl 7 (by decide) (wd_234 hE) (fun _ h9 => h9) rfl dX5_passes_40 ?_
    refine lv_if_ne (tgt := 50) hx hb dX5_passes_43 (by decide) (fun c3 => ?_) (fun c3 => ?_)
    · refine lv_iconst (v := 0) hx hb dX5_passes_50 (by decide) ?_
      exact W.zret (v := 0) hx hb hr rfl (fun t ht hW => ⟨⟨0, f0, rfl, Or.inl rfl, hok, by rw [ht]; exact hP⟩, hS.F ht⟩) hS.2.2 dX5_passes_51
    · refine lv_iconst (v := 1) hx hb dX5_passes_46 (by decide) ?_
      refine lv_goto (tgt := 51) hx hb dX5_passes_47 (by decide) ?_
      exact W.zret (v := 1) hx hb hr rfl (fun t ht hW => ⟨⟨1, f0, rfl, Or.inr rfl, hok, by rw [ht]; exact hP⟩, hS.F ht⟩) hS.2.2 dX5_passes_51
  · refine lv_aload_n hx hb dX5_passes_4 rfl (lv_at hl 0 rfl) ?_
    obtain ⟨y3_4, y4_4, y5_4, y6_4, y7_4, y8_4, y9_4, he4⟩ := ok_X5 hok ha0
    refine th_get hx hb (ly_X5 hE) hown hK hP ha0.1 he4 rfl 7 (by decide) (wd_234 hE) (fun _ h9 => h9) rfl dX5_passes_5 ?_
    refine lv_if_ne (tgt := 39) hx hb dX5_passes_8 (by decide) (fun c5 => ?_) (fun c5 => ?_)
    · refine lv_aload_n hx hb dX5_passes_39 rfl (lv_at hl 0 rfl) ?_
      refine th_get hx hb (ly_X5 hE) hown hK hP ha0.1 he4 rfl 7 (by decide) (wd_234 hE) (fun _ h9 => h9) rfl dX5_passes_40 ?_
      refine lv_if_ne (tgt := 50) hx hb dX5_passes_43 (by decide) (fun c6 => ?_) (fun c6 => ?_)
      · refine lv_iconst (v := 0) hx hb dX5_passes_50 (by decide) ?_
        exact W.zret (v := 0) hx hb hr rfl (fun t ht hW => ⟨⟨0, f0, rfl, Or.inl rfl, hok, by rw [ht]; exact hP⟩, hS.F ht⟩) hS.2.2 dX5_passes_51
      · refine lv_iconst (v := 1) hx hb dX5_passes_46 (by decide) ?_
        refine lv_goto (tgt := 51) hx hb dX5_passes_47 (by decide) ?_
        exact W.zret (v := 1) hx hb hr rfl (fun t ht hW => ⟨⟨1, f0, rfl, Or.inr rfl, hok, by rw [ht]; exact hP⟩, hS.F ht⟩) hS.2.2 dX5_passes_51
    · refine lv_aload_n hx hb dX5_passes_11 rfl (lv_at hl 0 rfl) ?_
      refine lv_iload_n hx hb dX5_passes_12 rfl (lv_at hl 2 rfl) ?_
      refine th_put (v := .int v2) (ty := .int) hx hb (ly_X5 hE) tyX5 tyX5_ok nmX5 hown hK hP hnd hAL hS ha0.1 he4 rfl 7 (by decide) (wd_234 hE) (fun _ h9 => h9) rfl (by decide +kernel) rfl rfl (Nat.le_of_ble_eq_true rfl) (up_X5 hok ha0 ⟨y3_4, y4_4, y5_4, y6_4, v2, y8_4, y9_4, rfl⟩) dX5_passes_13 (fun f7 H locs hfa7 hfo7 hok hP hS => ?_)
      refine lv_aload_n hx hb dX5_passes_16 rfl (lv_at hl 0 rfl) ?_
      refine lv_aload_n hx hb dX5_passes_17 rfl (lv_at hl 0 rfl) ?_
      refine th_get hx hb (ly_X5 hE) hown hK hP ha0.1 hfa7 rfl 0 (by decide) (wd_227 hE) (fun _ h9 => h9) rfl dX5_passes_18 ?_
      refine lv_aload_n hx hb dX5_passes_21 rfl (lv_at hl 0 rfl) ?_
      refine th_get hx hb (ly_X5 hE) hown hK hP ha0.1 hfa7 rfl 4 (by decide) (wd_231 hE) (fun _ h9 => h9) rfl dX5_passes_22 ?_
      obtain ⟨y3_8, y4_8, y5_8, hy4_8, he8⟩ := ok_X9 hok (wt_X5_0 hWT ha0)
      refine vp_callSi (va_Run.run (va_runV (As := [.int y4_4]) (rest := [.ref a0]) ⟨hx, hb, hml, hown, noTs⟩ (t_X9_placeAt l dC dI H.size G cs tt mm (gR G a0 0) ((wt_X5_0 hWT ha0)) y4_4) ⟨cbE 1 (wd_565 hE) (wd_119 hE) (wd_562 hE) rfl rfl (by decide +kernel) ⟨Nat.le_of_ble_eq_true rfl, Nat.le_of_ble_eq_true rfl⟩, (wd_563 hE), (wd_564 hE)⟩ ⟨PT.blind, th_recv hK hP (wt_X5_0 hWT ha0).1 he8 rfl, (th_pre (av := [.ref (gR G a0 0), .int y4_4]) trivial hK hP hok hnd hWT hE)⟩ rfl rfl hl.1 rfl (lv_room (Nat.le_of_ble_eq_true rfl)) dX5_passes_25 ⟨Nat.le_of_ble_eq_true rfl, Nat.le_of_ble_eq_true rfl⟩)) (fun r9 hr9 => ?_)
      refine th_put (v := .int r9) (ty := .int) hx hb (ly_X5 hE) tyX5 tyX5_ok nmX5 hown hK hP hnd hAL hS ha0.1 hfa7 rfl 8 (by decide) (wd_235 hE) (fun _ h9 => h9) rfl (by decide +kernel) rfl rfl (Nat.le_of_ble_eq_true rfl) (up_X5 hok ha0 ⟨y3_4, y4_4, y5_4, y6_4, v2, r9, y9_4, rfl⟩) dX5_passes_28 (fun f10 H locs hfa10 hfo10 hok hP hS => ?_)
      have he11 := (hfo10 (gR G a0 0) (Ty.ne (wt_X5_0 hWT ha0) ha0 (by decide))).trans he8
      refine lv_aload_n hx hb dX5_passes_31 rfl (lv_at hl 0 rfl) ?_
      refine lv_aload_n hx hb dX5_passes_32 rfl (lv_at hl 0 rfl) ?_
      refine th_get hx hb (ly_X5 hE) hown hK hP ha0.1 hfa10 rfl 6 (by decide) (wd_233 hE) (fun _ h9 => h9) rfl dX5_passes_33 ?_
      refine th_put (v := .int y6_4) (ty := .int) hx hb (ly_X5 hE) tyX5 tyX5_ok nmX5 hown hK hP hnd hAL hS ha0.1 hfa10 rfl 9 (by decide) (wd_236 hE) (fun _ h9 => h9) rfl (by decide +kernel) rfl rfl (Nat.le_of_ble_eq_true rfl) (up_X5 hok ha0 ⟨y3_4, y4_4, y5_4, y6_4, v2, r9, y6_4, rfl⟩) dX5_passes_36 (fun f12 H locs hfa12 hfo12 hok hP hS => ?_)
      have he13 := (hfo12 (gR G a0 0) (Ty.ne (wt_X5_0 hWT ha0) ha0 (by decide))).trans he11
      refine lv_aload_n hx hb dX5_passes_39 rfl (lv_at hl 0 rfl) ?_
      refine th_get hx hb (ly_X5 hE) hown hK hP ha0.1 hfa12 rfl 7 (by decide) (wd_234 hE) (fun _ h9 => h9) rfl dX5_passes_40 ?_
      refine lv_if_ne (tgt := 50) hx hb dX5_passes_43 (by decide) (fun c14 => ?_) (fun c14 => ?_)
      · refine lv_iconst (v := 0) hx hb dX5_passes_50 (by decide) ?_
        exact W.zret (v := 0) hx hb hr rfl (fun t ht hW => ⟨⟨0, f12, rfl, Or.inl rfl, hok, by rw [ht]; exact hP⟩, hS.F ht⟩) hS.2.2 dX5_passes_51
      · refine lv_iconst (v := 1) hx hb dX5_passes_46 (by decide) ?_
        refine lv_goto (tgt := 51) hx hb dX5_passes_47 (by decide) ?_
        exact W.zret (v := 1) hx hb hr rfl (fun t ht hW => ⟨⟨1, f12, rfl, Or.inr rfl, hok, by rw [ht]; exact hP⟩, hS.F ht⟩) hS.2.2 dX5_passes_51

set_option maxHeartbeats 4000000 in
set_option maxRecDepth 100000 in
theorem t_X9_valueAt (l : Launch) (dC : Nat → ClassId) (dI : Nat → Nat → Nat) (sz : Nat) (G : GT) (cs : Nat → ClassId) (tt mm : Nat) (a0 : Nat) (ha0 : Ty G a0 9) (v1 : Int32) : Met l yX9_valueAt [.code yX9_valueAt cX9_valueAt 2 (some .int)] ({ frames := 0, cells := 0, slots := 0, locals := 0 }) (PT [.ref a0, .int v1] sz dC dI G cs tt mm (fun _ => True)) (vp_Si (fun (r : Int32) => True)) 0 0 (fun _ => False) := by
  refine Met.ofW (cc := cX9_valueAt) (maxL := 2) (ret := (some .int)) (by decide) rfl ?_
  intro p e s m args below meth c s₁ B hml hv
  obtain ⟨rfl, hsz, ⟨f0, hok, hP, hX⟩, hK, hnd, hWT, hE⟩ := hv
  have hx := B.exec
  have hb := B.bytes
  have hr := B.returns
  have hown : s.vm.findClass RX9 = some m.cls := findClass_of_methodNamed B.named
  have hlocks := B.notSynchronized
  subst hsz
  have hl := lv_entry ([.ref a0, .int v1]) (n := 2) (Nat.le_of_ble_eq_true rfl)
  rw [lg_entry_eq]
  generalize (lg_sl ([.ref a0, .int v1]) ++ List.replicate (2 - (lg_sl ([.ref a0, .int v1])).length) Slot.unset).toArray = ls at hl ⊢
  have hl : lv_has ls 2 [(0, .ref a0), (1, .int v1)] := hl
  refine lv_iload_n hx hb dX9_valueAt_0 rfl (lv_at hl 1 rfl) ?_
  refine lv_if_lt (tgt := 21) hx hb dX9_valueAt_1 (by decide) (fun c1 => ?_) (fun c1 => ?_)
  · refine lv_iconst (v := 0) hx hb dX9_valueAt_21 (by decide) ?_
    refine lv_goto (tgt := 31) hx hb dX9_valueAt_22 (by decide) ?_
    exact W.iret (v := 0) hx hb hr (fun t ht hW => ⟨0, rfl, trivial, ht⟩) (fun _ h => absurd h List.not_mem_nil) dX9_valueAt_31
  · refine lv_iload_n hx hb dX9_valueAt_4 rfl (lv_at hl 1 rfl) ?_
    refine lv_aload_n hx hb dX9_valueAt_5 rfl (lv_at hl 0 rfl) ?_
    obtain ⟨y3_2, y4_2, y5_2, hy4_2, he2⟩ := ok_X9 hok ha0
    refine th_get hx hb (ly_X9 hE) hown hK hP ha0.1 he2 rfl 3 (by decide) (wd_189 hE) (fun _ h9 => h9) rfl dX9_valueAt_6 ?_
    refine lv_icmp_ge (tgt := 21) hx hb dX9_valueAt_9 (by decide) (fun c3 => ?_) (fun c3 => ?_)
    · refine lv_iconst (v := 0) hx hb dX9_valueAt_21 (by decide) ?_
      refine lv_goto (tgt := 31) hx hb dX9_valueAt_22 (by decide) ?_
      exact W.iret (v := 0) hx hb hr (fun t ht hW => ⟨0, rfl, trivial, ht⟩) (fun _ h => absurd h List.not_mem_nil) dX9_valueAt_31
    · refine lv_iload_n hx hb dX9_valueAt_12 rfl (lv_at hl 1 rfl) ?_
      refine lv_aload_n hx hb dX9_valueAt_13 rfl (lv_at hl 0 rfl) ?_
      refine th_get hx hb (ly_X9 hE) hown hK hP ha0.1 he2 rfl 2 (by decide) (wd_188 hE) (fun _ h9 => h9) rfl dX9_valueAt_14 ?_
      refine th_len1 hx hb hK hP hok (n := 701) (wl_X9_2 hWT ha0) (Or.inl (wt_X9_2 hWT ha0)) dX9_valueAt_17 ?_
      refine W.eq (g2 := F0 m 18 ls [.int 701, .int v1]) rfl ?_
      refine lv_icmp_lt (tgt := 25) hx hb dX9_valueAt_18 (by decide) (fun c4 => ?_) (fun c4 => ?_)
      · refine lv_aload_n hx hb dX9_valueAt_25 rfl (lv_at hl 0 rfl) ?_
        refine th_get hx hb (ly_X9 hE) hown hK hP ha0.1 he2 rfl 2 (by decide) (wd_188 hE) (fun _ h9 => h9) rfl dX9_valueAt_26 ?_
        refine lv_iload_n hx hb dX9_valueAt_29 rfl (lv_at hl 1 rfl) ?_
        refine th_iald hx hb hK hP hok (wt_X9_2 hWT ha0) (n := 701) (wl_X9_2 hWT ha0) (vp_in_iff.mpr (by first | omega | (simp only [i_lt, i_le, i_eq, ti_m9, ti_m1, ti_0, ti_1, ti_2, ti_3, ti_4, ti_5, ti_6, ti_7, ti_9, ti_12, ti_20, ti_99, ti_700, ti_24, ti_156, ti_72, ti_8, ti_60, ti_543, ti_10, ti_33, ti_51, ti_178, ti_119, ti_111, ti_114, ti_100, ti_32, ti_62, ti_59, ti_48, ti_701, ti_97, ti_122, ti_57, ti_73, ti_128, ti_61] at c1 c3 c4 ⊢; omega))) dX9_valueAt_30 (fun x5 => ?_)
        exact W.iret (v := x5) hx hb hr (fun t ht hW => ⟨x5, rfl, trivial, ht⟩) (fun _ h => absurd h List.not_mem_nil) dX9_valueAt_31
      · refine lv_iconst (v := 0) hx hb dX9_valueAt_21 (by decide) ?_
        refine lv_goto (tgt := 31) hx hb dX9_valueAt_22 (by decide) ?_
        exact W.iret (v := 0) hx hb hr (fun t ht hW => ⟨0, rfl, trivial, ht⟩) (fun _ h => absurd h List.not_mem_nil) dX9_valueAt_31

set_option maxHeartbeats 4000000 in
set_option maxRecDepth 100000 in
theorem t_X5_value (l : Launch) (dC : Nat → ClassId) (dI : Nat → Nat → Nat) (sz : Nat) (G : GT) (cs : Nat → ClassId) (tt mm : Nat) (a0 : Nat) (ha0 : Ty G a0 5) : Met l yX5_value [.code yX5_value cX5_value 1 (some .int)] ({ frames := 1, cells := 0, slots := 0, locals := 40 }) (PT [.ref a0] sz dC dI G cs tt mm (fun _ => True)) (vp_Si (fun (r : Int32) => True)) 0 0 (fun _ => False) := by
  refine Met.ofW (cc := cX5_value) (maxL := 1) (ret := (some .int)) (by decide) rfl ?_
  intro p e s m args below meth c s₁ B hml hv
  obtain ⟨rfl, hsz, ⟨f0, hok, hP, hX⟩, hK, hnd, hWT, hE⟩ := hv
  have hx := B.exec
  have hb := B.bytes
  have hr := B.returns
  have hown : s.vm.findClass RX5 = some m.cls := findClass_of_methodNamed B.named
  have hlocks := B.notSynchronized
  subst hsz
  have hl := lv_entry ([.ref a0]) (n := 1) (Nat.le_of_ble_eq_true rfl)
  rw [lg_entry_eq]
  generalize (lg_sl ([.ref a0]) ++ List.replicate (1 - (lg_sl ([.ref a0])).length) Slot.unset).toArray = ls at hl ⊢
  have hl : lv_has ls 1 [(0, .ref a0)] := hl
  refine lv_aload_n hx hb dX5_value_0 rfl (lv_at hl 0 rfl) ?_
  obtain ⟨y3_1, y4_1, y5_1, y6_1, y7_1, y8_1, y9_1, he1⟩ := ok_X5 hok ha0
  refine th_get hx hb (ly_X5 hE) hown hK hP ha0.1 he1 rfl 0 (by decide) (wd_227 hE) (fun _ h9 => h9) rfl dX5_value_1 ?_
  refine lv_aload_n hx hb dX5_value_4 rfl (lv_at hl 0 rfl) ?_
  refine th_get hx hb (ly_X5 hE) hown hK hP ha0.1 he1 rfl 4 (by decide) (wd_231 hE) (fun _ h9 => h9) rfl dX5_value_5 ?_
  obtain ⟨y3_2, y4_2, y5_2, hy4_2, he2⟩ := ok_X9 hok (wt_X5_0 hWT ha0)
  refine vp_callSi (va_Run.run (va_runV (As := [.int y4_1]) (rest := []) ⟨hx, hb, hml, hown, noTs⟩ (t_X9_valueAt l dC dI s.heap.size G cs tt mm (gR G a0 0) ((wt_X5_0 hWT ha0)) y4_1) ⟨cbE 1 (wd_573 hE) (wd_119 hE) (wd_570 hE) rfl rfl (by decide +kernel) ⟨Nat.le_of_ble_eq_true rfl, Nat.le_of_ble_eq_true rfl⟩, (wd_571 hE), (wd_572 hE)⟩ ⟨PT.blind, th_recv hK hP (wt_X5_0 hWT ha0).1 he2 rfl, (th_pre (av := [.ref (gR G a0 0), .int y4_1]) trivial hK hP hok hnd hWT hE)⟩ rfl rfl hl.1 rfl (lv_room (Nat.le_of_ble_eq_true rfl)) dX5_value_8 ⟨Nat.le_of_ble_eq_true rfl, Nat.le_of_ble_eq_true rfl⟩)) (fun r3 hr3 => ?_)
  exact W.iret (v := r3) hx hb hr (fun t ht hW => ⟨r3, rfl, trivial, ht⟩) (fun _ h => absurd h List.not_mem_nil) dX5_value_11

set_option maxHeartbeats 4000000 in
set_option maxRecDepth 100000 in
theorem t_X5_stands (l : Launch) (dC : Nat → ClassId) (dI : Nat → Nat → Nat) (sz : Nat) (G : GT) (cs : Nat → ClassId) (tt mm : Nat) (a0 : Nat) (ha0 : Ty G a0 5) (v1 : Int32) : Met l yX5_stands [.code yX5_stands cX5_stands 3 (some .boolean)] ({ frames := 2, cells := 0, slots := 0, locals := 80 }) (PT [.ref a0, .int v1] sz dC dI G cs tt mm (fun _ => True)) (va_Qi (fun (r : Int32) (u : Nat → va_E) => r = 0 ∨ r = 1) (BT dC dI G cs tt mm) (AT G sz)) 0 0 (AT G sz) := by
  refine Met.ofW (cc := cX5_stands) (maxL := 3) (ret := (some .boolean)) (by decide) rfl ?_
  intro p e s m args below meth c s₁ B hml hv
  obtain ⟨rfl, hsz, ⟨f0, hok, hP, hX⟩, hK, hnd, hWT, hE⟩ := hv
  have hx := B.exec
  have hb := B.bytes
  have hr := B.returns
  have hown : s.vm.findClass RX5 = some m.cls := findClass_of_methodNamed B.named
  have hlocks := B.notSynchronized
  subst hsz
  have hAL : ∀ a, a ∈ gL G → AT G s.heap.size a := fun a h => Or.inl h
  have hA : ∀ q : Nat, s.heap.size ≤ q → AT G s.heap.size q := fun q h => Or.inr h
  have hS : va_S (AT G s.heap.size) s.heap s.heap [] := va_S.rf
  have hl := lv_entry ([.ref a0, .int v1]) (n := 3) (Nat.le_of_ble_eq_true rfl)
  rw [lg_entry_eq]
  generalize (lg_sl ([.ref a0, .int v1]) ++ List.replicate (3 - (lg_sl ([.ref a0, .int v1])).length) Slot.unset).toArray = ls at hl ⊢
  have hl : lv_has ls 3 [(0, .ref a0), (1, .int v1)] := hl
  refine lv_aload_n hx hb dX5_stands_0 rfl (lv_at hl 0 rfl) ?_
  obtain ⟨y3_1, y4_1, y5_1, y6_1, y7_1, y8_1, y9_1, he1⟩ := ok_X5 hok ha0
  refine th_get hx hb (ly_X5 hE) hown hK hP ha0.1 he1 rfl 0 (by decide) (wd_227 hE) (fun _ h9 => h9) rfl dX5_stands_1 ?_
  refine lv_aload_n hx hb dX5_stands_4 rfl (lv_at hl 0 rfl) ?_
  refine th_get hx hb (ly_X5 hE) hown hK hP ha0.1 he1 rfl 4 (by decide) (wd_231 hE) (fun _ h9 => h9) rfl dX5_stands_5 ?_
  obtain ⟨y3_2, y4_2, y5_2, hy4_2, he2⟩ := ok_X9 hok (wt_X5_0 hWT ha0)
  refine vp_callSi (va_Run.run (va_runV (As := [.int y4_1]) (rest := []) ⟨hx, hb, hml, hown, noTs⟩ (t_X9_kindAt l dC dI s.heap.size G cs tt mm (gR G a0 0) ((wt_X5_0 hWT ha0)) y4_1) ⟨cbE 1 (wd_549 hE) (wd_119 hE) (wd_546 hE) rfl rfl (by decide +kernel) ⟨Nat.le_of_ble_eq_true rfl, Nat.le_of_ble_eq_true rfl⟩, (wd_547 hE), (wd_548 hE)⟩ ⟨PT.blind, th_recv hK hP (wt_X5_0 hWT ha0).1 he2 rfl, (th_pre (av := [.ref (gR G a0 0), .int y4_1]) trivial hK hP hok hnd hWT hE)⟩ rfl rfl hl.1 rfl (lv_room (Nat.le_of_ble_eq_true rfl)) dX5_stands_8 ⟨Nat.le_of_ble_eq_true rfl, Nat.le_of_ble_eq_true rfl⟩)) (fun r3 hr3 => ?_)
  refine lv_istore_n (lv' := [(2, .int r3), (0, .ref a0), (1, .int v1)]) hx hb dX5_stands_11 rfl hl (by decide) rfl (fun ls hl => ?_)
  refine lv_aload_n hx hb dX5_stands_12 rfl (lv_at hl 1 rfl) ?_
  refine lv_iload_n hx hb dX5_stands_13 rfl (lv_at hl 0 rfl) ?_
  refine lv_iload_n hx hb dX5_stands_14 rfl (lv_at hl 2 rfl) ?_
  refine lv_icmp_ne (tgt := 22) hx hb dX5_stands_15 (by decide) (fun c4 => ?_) (fun c4 => ?_)
  · refine lv_iconst (v := 0) hx hb dX5_stands_22 (by decide) ?_
    refine lv_iload_n hx hb dX5_stands_23 rfl (lv_at hl 0 rfl) ?_
    refine lv_iconst (v := 1) hx hb dX5_stands_24 (by decide) ?_
    refine lv_icmp_ne (tgt := 32) hx hb dX5_stands_25 (by decide) (fun c5 => ?_) (fun c5 => ?_)
    · refine lv_iconst (v := 2) hx hb dX5_stands_32 (by decide) ?_
      refine tc_i hAL hS hA (va_runV (As := [.int 0, .int 2]) (rest := []) ⟨hx, hb, hml, hown, noTs⟩ (t_X5_passes l dC dI s.heap.size G cs tt mm a0 ha0 0 2) ⟨cbE 2 (wd_561 hE) (wd_118 hE) (wd_558 hE) rfl rfl (by decide +kernel) ⟨Nat.le_of_ble_eq_true rfl, Nat.le_of_ble_eq_true rfl⟩, (wd_560 hE), (wd_10 hE)⟩ ⟨PT.blind, th_recv hK hP ha0.1 he1 rfl, (th_pre (av := [.ref a0, .int 0, .int 2]) trivial hK hP hok hnd hWT hE)⟩ rfl rfl hl.1 rfl (lv_room (Nat.le_of_ble_eq_true rfl)) dX5_stands_33 ⟨Nat.le_of_ble_eq_true rfl, Nat.le_of_ble_eq_true rfl⟩) (fun r6 f6 H locs hr6 hok hP hS => ?_)
      exact W.zret (v := r6) hx hb hr (z_fit hr6) (fun t ht hW => ⟨⟨r6, f6, rfl, hr6, hok, by rw [ht]; exact hP⟩, hS.F ht⟩) hS.2.2 dX5_stands_36
    · refine lv_iconst (v := 1) hx hb dX5_stands_28 (by decide) ?_
      refine lv_goto (tgt := 33) hx hb dX5_stands_29 (by decide) ?_
      refine tc_i hAL hS hA (va_runV (As := [.int 0, .int 1]) (rest := []) ⟨hx, hb, hml, hown, noTs⟩ (t_X5_passes l dC dI s.heap.size G cs tt mm a0 ha0 0 1) ⟨cbE 2 (wd_561 hE) (wd_118 hE) (wd_558 hE) rfl rfl (by decide +kernel) ⟨Nat.le_of_ble_eq_true rfl, Nat.le_of_ble_eq_true rfl⟩, (wd_560 hE), (wd_10 hE)⟩ ⟨PT.blind, th_recv hK hP ha0.1 he1 rfl, (th_pre (av := [.ref a0, .int 0, .int 1]) trivial hK hP hok hnd hWT hE)⟩ rfl rfl hl.1 rfl (lv_room (Nat.le_of_ble_eq_true rfl)) dX5_stands_33 ⟨Nat.le_of_ble_eq_true rfl, Nat.le_of_ble_eq_true rfl⟩) (fun r7 f7 H locs hr7 hok hP hS => ?_)
      exact W.zret (v := r7) hx hb hr (z_fit hr7) (fun t ht hW => ⟨⟨r7, f7, rfl, hr7, hok, by rw [ht]; exact hP⟩, hS.F ht⟩) hS.2.2 dX5_stands_36
  · refine lv_iconst (v := 1) hx hb dX5_stands_18 (by decide) ?_
    refine lv_goto (tgt := 23) hx hb dX5_stands_19 (by decide) ?_
    refine lv_iload_n hx hb dX5_stands_23 rfl (lv_at hl 0 rfl) ?_
    refine lv_iconst (v := 1) hx hb dX5_stands_24 (by decide) ?_
    refine lv_icmp_ne (tgt := 32) hx hb dX5_stands_25 (by decide) (fun c8 => ?_) (fun c8 => ?_)
    · refine lv_iconst (v := 2) hx hb dX5_stands_32 (by decide) ?_
      refine tc_i hAL hS hA (va_runV (As := [.int 1, .int 2]) (rest := []) ⟨hx, hb, hml, hown, noTs⟩ (t_X5_passes l dC dI s.heap.size G cs tt mm a0 ha0 1 2) ⟨cbE 2 (wd_561 hE) (wd_118 hE) (wd_558 hE) rfl rfl (by decide +kernel) ⟨Nat.le_of_ble_eq_true rfl, Nat.le_of_ble_eq_true rfl⟩, (wd_560 hE), (wd_10 hE)⟩ ⟨PT.blind, th_recv hK hP ha0.1 he1 rfl, (th_pre (av := [.ref a0, .int 1, .int 2]) trivial hK hP hok hnd hWT hE)⟩ rfl rfl hl.1 rfl (lv_room (Nat.le_of_ble_eq_true rfl)) dX5_stands_33 ⟨Nat.le_of_ble_eq_true rfl, Nat.le_of_ble_eq_true rfl⟩) (fun r9 f9 H locs hr9 hok hP hS => ?_)
      exact W.zret (v := r9) hx hb hr (z_fit hr9) (fun t ht hW => ⟨⟨r9, f9, rfl, hr9, hok, by rw [ht]; exact hP⟩, hS.F ht⟩) hS.2.2 dX5_stands_36
    · refine lv_iconst (v := 1) hx hb dX5_stands_28 (by decide) ?_
      refine lv_goto (tgt := 33) hx hb dX5_stands_29 (by decide) ?_
      refine tc_i hAL hS hA (va_runV (As := [.int 1, .int 1]) (rest := []) ⟨hx, hb, hml, hown, noTs⟩ (t_X5_passes l dC dI s.heap.size G cs tt mm a0 ha0 1 1) ⟨cbE 2 (wd_561 hE) (wd_118 hE) (wd_558 hE) rfl rfl (by decide +kernel) ⟨Nat.le_of_ble_eq_true rfl, Nat.le_of_ble_eq_true rfl⟩, (wd_560 hE), (wd_10 hE)⟩ ⟨PT.blind, th_recv hK hP ha0.1 he1 rfl, (th_pre (av := [.ref a0, .int 1, .int 1]) trivial hK hP hok hnd hWT hE)⟩ rfl rfl hl.1 rfl (lv_room (Nat.le_of_ble_eq_true rfl)) dX5_stands_33 ⟨Nat.le_of_ble_eq_true rfl, Nat.le_of_ble_eq_true rfl⟩) (fun r10 f10 H locs hr10 hok hP hS => ?_)
      exact W.zret (v := r10) hx hb hr (z_fit hr10) (fun t ht hW => ⟨⟨r10, f10, rfl, hr10, hok, by rw [ht]; exact hP⟩, hS.F ht⟩) hS.2.2 dX5_stands_36

set_option maxHeartbeats 4000000 in
set_option maxRecDepth 100000 in
theorem t_X5_endsLine (l : Launch) (dC : Nat → ClassId) (dI : Nat → Nat → Nat) (sz : Nat) (G : GT) (cs : Nat → ClassId) (tt mm : Nat) (a0 : Nat) (ha0 : Ty G a0 5) : Met l yX5_endsLine [.code yX5_endsLine cX5_endsLine 1 (some .boolean)] ({ frames := 3, cells := 0, slots := 0, locals := 120 }) (PT [.ref a0] sz dC dI G cs tt mm (fun _ => True)) (va_Qi (fun (r : Int32) (u : Nat → va_E) => r = 0 ∨ r = 1) (BT dC dI G cs tt mm) (AT G sz)) 0 0 (AT G sz) := by
  refine Met.ofW (cc := cX5_endsLine) (maxL := 1) (ret := (some .boolean)) (by decide) rfl ?_
  intro p e s m args below meth c s₁ B hml hv
  obtain ⟨rfl, hsz, ⟨f0, hok, hP, hX⟩, hK, hnd, hWT, hE⟩ := hv
  have hx := B.exec
  have hb := B.bytes
  have hr := B.returns
  have hown : s.vm.findClass RX5 = some m.cls := findClass_of_methodNamed B.named
  have hlocks := B.notSynchronized
  subst hsz
  have hAL : ∀ a, a ∈ gL G → AT G s.heap.size a := fun a h => Or.inl h
  have hA : ∀ q : Nat, s.heap.size ≤ q → AT G s.heap.size q := fun q h => Or.inr h
  have hS : va_S (AT G s.heap.size) s.heap s.heap [] := va_S.rf
  have hl := lv_entry ([.ref a0]) (n := 1) (Nat.le_of_ble_eq_true rfl)
  rw [lg_entry_eq]
  generalize (lg_sl ([.ref a0]) ++ List.replicate (1 - (lg_sl ([.ref a0])).length) Slot.unset).toArray = ls at hl ⊢
  have hl : lv_has ls 1 [(0, .ref a0)] := hl
  refine lv_aload_n hx hb dX5_endsLine_0 rfl (lv_at hl 0 rfl) ?_
  refine lv_bipush (v := 9) hx hb dX5_endsLine_1 (by decide) ?_
  obtain ⟨y3_1, y4_1, y5_1, y6_1, y7_1, y8_1, y9_1, he1⟩ := ok_X5 hok ha0
  refine tc_i hAL hS hA (va_runV (As := [.int 9]) (rest := []) ⟨hx, hb, hml, hown, noTs⟩ (t_X5_stands l dC dI s.heap.size G cs tt mm a0 ha0 9) ⟨cbE 1 (wd_577 hE) (wd_118 hE) (wd_574 hE) rfl rfl (by decide +kernel) ⟨Nat.le_of_ble_eq_true rfl, Nat.le_of_ble_eq_true rfl⟩, (wd_576 hE), (wd_12 hE)⟩ ⟨PT.blind, th_recv hK hP ha0.1 he1 rfl, (th_pre (av := [.ref a0, .int 9]) trivial hK hP hok hnd hWT hE)⟩ rfl rfl hl.1 rfl (lv_room (Nat.le_of_ble_eq_true rfl)) dX5_endsLine_3 ⟨Nat.le_of_ble_eq_true rfl, Nat.le_of_ble_eq_true rfl⟩) (fun r2 f2 H locs hr2 hok hP hS => ?_)
  refine lv_if_ne (tgt := 11) hx hb dX5_endsLine_6 (by decide) (fun c3 => ?_) (fun c3 => ?_)
  · refine lv_aload_n hx hb dX5_endsLine_11 rfl (lv_at hl 0 rfl) ?_
    refine lv_dup hx hb dX5_endsLine_12 rfl ?_
    obtain ⟨y3_4, y4_4, y5_4, y6_4, y7_4, y8_4, y9_4, he4⟩ := ok_X5 hok ha0
    refine th_get hx hb (ly_X5 hE) hown hK hP ha0.1 he4 rfl 6 (by decide) (wd_233 hE) (fun _ h9 => h9) rfl dX5_endsLine_13 ?_
    refine lv_iconst (v := 1) hx hb dX5_endsLine_16 (by decide) ?_
    refine lv_iadd hx hb dX5_endsLine_17 ?_
    refine lv_topi (fun x5 ex5 => ?_)
    refine th_put (v := .int x5) (ty := .int) hx hb (ly_X5 hE) tyX5 tyX5_ok nmX5 hown hK hP hnd hAL hS ha0.1 he4 rfl 6 (by decide) (wd_233 hE) (fun _ h9 => h9) rfl (by decide +kernel) rfl rfl (Nat.le_of_ble_eq_true rfl) (up_X5 hok ha0 ⟨y3_4, y4_4, y5_4, x5, y7_4, y8_4, y9_4, rfl⟩) dX5_endsLine_18 (fun f6 H locs hfa6 hfo6 hok hP hS => ?_)
    refine lv_aload_n hx hb dX5_endsLine_21 rfl (lv_at hl 0 rfl) ?_
    refine lv_dup hx hb dX5_endsLine_22 rfl ?_
    refine th_get hx hb (ly_X5 hE) hown hK hP ha0.1 hfa6 rfl 4 (by decide) (wd_231 hE) (fun _ h9 => h9) rfl dX5_endsLine_23 ?_
    refine lv_iconst (v := 1) hx hb dX5_endsLine_26 (by decide) ?_
    refine lv_iadd hx hb dX5_endsLine_27 ?_
    refine lv_topi (fun x7 ex7 => ?_)
    refine th_put (v := .int x7) (ty := .int) hx hb (ly_X5 hE) tyX5 tyX5_ok nmX5 hown hK hP hnd hAL hS ha0.1 hfa6 rfl 4 (by decide) (wd_231 hE) (fun _ h9 => h9) rfl (by decide +kernel) rfl rfl (Nat.le_of_ble_eq_true rfl) (up_X5 hok ha0 ⟨y3_4, x7, y5_4, x5, y7_4, y8_4, y9_4, rfl⟩) dX5_endsLine_28 (fun f8 H locs hfa8 hfo8 hok hP hS => ?_)
    refine lv_iconst (v := 1) hx hb dX5_endsLine_31 (by decide) ?_
    exact W.zret (v := 1) hx hb hr rfl (fun t ht hW => ⟨⟨1, f8, rfl, Or.inr rfl, hok, by rw [ht]; exact hP⟩, hS.F ht⟩) hS.2.2 dX5_endsLine_32
  · refine lv_iconst (v := 0) hx hb dX5_endsLine_9 (by decide) ?_
    exact W.zret (v := 0) hx hb hr rfl (fun t ht hW => ⟨⟨0, f2, rfl, Or.inl rfl, hok, by rw [ht]; exact hP⟩, hS.F ht⟩) hS.2.2 dX5_endsLine_10

set_option maxHeartbeats 4000000 in
set_option maxRecDepth 100000 in
theorem t_X7_put (l : Launch) (dC : Nat → ClassId) (dI : Nat → Nat → Nat) (sz : Nat) (G : GT) (cs : Nat → ClassId) (tt mm : Nat) (a0 : Nat) (ha0 : Ty G a0 7) (v1 : Int32) (v2 : Int32) : Met l yX7_put [.code yX7_put cX7_put 3 none] ({ frames := 0, cells := 0, slots := 0, locals := 0 }) (PT [.ref a0, .int v1, .int v2] sz dC dI G cs tt mm (fun _ => True)) (va_Qv (fun (u : Nat → va_E) => True) (BT dC dI G cs tt mm) (AT G sz)) 0 0 (AT G sz) := by
  refine Met.ofW (cc := cX7_put) (maxL := 3) (ret := none) (by decide) rfl ?_
  intro p e s m args below meth c s₁ B hml hv
  obtain ⟨rfl, hsz, ⟨f0, hok, hP, hX⟩, hK, hnd, hWT, hE⟩ := hv
  have hx := B.exec
  have hb := B.bytes
  have hr := B.returns
  have hown : s.vm.findClass RX7 = some m.cls := findClass_of_methodNamed B.named
  have hlocks := B.notSynchronized
  subst hsz
  have hAL : ∀ a, a ∈ gL G → AT G s.heap.size a := fun a h => Or.inl h
  have hA : ∀ q : Nat, s.heap.size ≤ q → AT G s.heap.size q := fun q h => Or.inr h
  have hS : va_S (AT G s.heap.size) s.heap s.heap [] := va_S.rf
  have hl := lv_entry ([.ref a0, .int v1, .int v2]) (n := 3) (Nat.le_of_ble_eq_true rfl)
  rw [lg_entry_eq]
  generalize (lg_sl ([.ref a0, .int v1, .int v2]) ++ List.replicate (3 - (lg_sl ([.ref a0, .int v1, .int v2])).length) Slot.unset).toArray = ls at hl ⊢
  have hl : lv_has ls 3 [(0, .ref a0), (1, .int v1), (2, .int v2)] := hl
  refine lv_iload_n hx hb dX7_put_0 rfl (lv_at hl 1 rfl) ?_
  refine lv_if_lt (tgt := 20) hx hb dX7_put_1 (by decide) (fun c1 => ?_) (fun c1 => ?_)
  · exact W.vret hx hb hr (fun t ht hW => ⟨⟨f0, rfl, trivial, hok, by rw [ht]; exact hP⟩, hS.F ht⟩) hS.2.2 dX7_put_20
  · refine lv_iload_n hx hb dX7_put_4 rfl (lv_at hl 1 rfl) ?_
    refine lv_aload_n hx hb dX7_put_5 rfl (lv_at hl 0 rfl) ?_
    have he2 := ok_X7 hok ha0
    refine th_get hx hb (ly_X7 hE) hown hK hP ha0.1 he2 rfl 0 (by decide) (wd_149 hE) (fun _ h9 => h9) rfl dX7_put_6 ?_
    refine th_len1 hx hb hK hP hok (n := 543) (wl_X7_0 hWT ha0) (Or.inl (wt_X7_0 hWT ha0)) dX7_put_9 ?_
    refine W.eq (g2 := F0 m 10 ls [.int 543, .int v1]) rfl ?_
    refine lv_icmp_ge (tgt := 20) hx hb dX7_put_10 (by decide) (fun c3 => ?_) (fun c3 => ?_)
    · exact W.vret hx hb hr (fun t ht hW => ⟨⟨f0, rfl, trivial, hok, by rw [ht]; exact hP⟩, hS.F ht⟩) hS.2.2 dX7_put_20
    · refine lv_aload_n hx hb dX7_put_13 rfl (lv_at hl 0 rfl) ?_
      refine th_get hx hb (ly_X7 hE) hown hK hP ha0.1 he2 rfl 0 (by decide) (wd_149 hE) (fun _ h9 => h9) rfl dX7_put_14 ?_
      refine lv_iload_n hx hb dX7_put_17 rfl (lv_at hl 1 rfl) ?_
      refine lv_iload_n hx hb dX7_put_18 rfl (lv_at hl 2 rfl) ?_
      refine th_iast hx hb hK hP hok hnd hAL hS (wt_X7_0 hWT ha0) (n := 543) (wl_X7_0 hWT ha0) (vp_in_iff.mpr (by first | omega | (simp only [i_lt, i_le, i_eq, ti_m9, ti_m1, ti_0, ti_1, ti_2, ti_3, ti_4, ti_5, ti_6, ti_7, ti_9, ti_12, ti_20, ti_99, ti_700, ti_24, ti_156, ti_72, ti_8, ti_60, ti_543, ti_10, ti_33, ti_51, ti_178, ti_119, ti_111, ti_114, ti_100, ti_32, ti_62, ti_59, ti_48, ti_701, ti_97, ti_122, ti_57, ti_73, ti_128, ti_61] at c1 c3 ⊢; omega))) dX7_put_19 (fun f4 H locs hfo4 hok hP hS => ?_)
      have he5 := (hfo4 a0 (Ty.ne ha0 (wt_X7_0 hWT ha0) (by decide))).trans he2
      exact W.vret hx hb hr (fun t ht hW => ⟨⟨f4, rfl, trivial, hok, by rw [ht]; exact hP⟩, hS.F ht⟩) hS.2.2 dX7_put_20

set_option maxHeartbeats 4000000 in
set_option maxRecDepth 100000 in
theorem t_X7_addVertex (l : Launch) (dC : Nat → ClassId) (dI : Nat → Nat → Nat) (sz : Nat) (G : GT) (cs : Nat → ClassId) (tt mm : Nat) (a0 : Nat) (ha0 : Ty G a0 7) (v1 : Int32) : Met l yX7_addVertex [.code yX7_addVertex cX7_addVertex 2 none] ({ frames := 1, cells := 0, slots := 0, locals := 40 }) (PT [.ref a0, .int v1] sz dC dI G cs tt mm (fun _ => True)) (va_Qv (fun (u : Nat → va_E) => True) (BT dC dI G cs tt mm) (AT G sz)) 0 0 (AT G sz) := by
  refine Met.ofW (cc := cX7_addVertex) (maxL := 2) (ret := none) (by decide) rfl ?_
  intro p e s m args below meth c s₁ B hml hv
  obtain ⟨rfl, hsz, ⟨f0, hok, hP, hX⟩, hK, hnd, hWT, hE⟩ := hv
  have hx := B.exec
  have hb := B.bytes
  have hr := B.returns
  have hown : s.vm.findClass RX7 = some m.cls := findClass_of_methodNamed B.named
  have hlocks := B.notSynchronized
  subst hsz
  have hAL : ∀ a, a ∈ gL G → AT G s.heap.size a := fun a h => Or.inl h
  have hA : ∀ q : Nat, s.heap.size ≤ q → AT G s.heap.size q := fun q h => Or.inr h
  have hS : va_S (AT G s.heap.size) s.heap s.heap [] := va_S.rf
  have hl := lv_entry ([.ref a0, .int v1]) (n := 2) (Nat.le_of_ble_eq_true rfl)
  rw [lg_entry_eq]
  generalize (lg_sl ([.ref a0, .int v1]) ++ List.replicate (2 - (lg_sl ([.ref a0, .int v1])).length) Slot.unset).toArray = ls at hl ⊢
  have hl : lv_has ls 2 [(0, .ref a0), (1, .int v1)] := hl
  refine lv_aload_n hx hb dX7_addVertex_0 rfl (lv_at hl 0 rfl) ?_
  have he1 := ok_X7 hok ha0
  refine vp_callSi (va_Run.run (va_runV (As := []) (rest := []) ⟨hx, hb, hml, hown, noTs⟩ (t_X7_vertices l dC dI s.heap.size G cs tt mm a0 ha0) ⟨cbE 0 (wd_557 hE) (wd_116 hE) (wd_586 hE) rfl rfl (by decide +kernel) ⟨Nat.le_of_ble_eq_true rfl, Nat.le_of_ble_eq_true rfl⟩, (wd_555 hE), (wd_556 hE)⟩ ⟨PT.blind, th_recv hK hP ha0.1 he1 rfl, (th_pre (av := [.ref a0]) trivial hK hP hok hnd hWT hE)⟩ rfl rfl hl.1 rfl (lv_room (Nat.le_of_ble_eq_true rfl)) dX7_addVertex_1 ⟨Nat.le_of_ble_eq_true rfl, Nat.le_of_ble_eq_true rfl⟩)) (fun r2 hr2 => ?_)
  refine lv_bipush (v := 6) hx hb dX7_addVertex_4 (by decide) ?_
  refine lv_icmp_ge (tgt := 31) hx hb dX7_addVertex_6 (by decide) (fun c3 => ?_) (fun c3 => ?_)
  · exact W.vret hx hb hr (fun t ht hW => ⟨⟨f0, rfl, trivial, hok, by rw [ht]; exact hP⟩, hS.F ht⟩) hS.2.2 dX7_addVertex_31
  · refine lv_aload_n hx hb dX7_addVertex_9 rfl (lv_at hl 0 rfl) ?_
    refine lv_iconst (v := 3) hx hb dX7_addVertex_10 (by decide) ?_
    refine lv_aload_n hx hb dX7_addVertex_11 rfl (lv_at hl 0 rfl) ?_
    refine vp_callSi (va_Run.run (va_runV (As := []) (rest := [.int 3, .ref a0]) ⟨hx, hb, hml, hown, noTs⟩ (t_X7_vertices l dC dI s.heap.size G cs tt mm a0 ha0) ⟨cbE 0 (wd_557 hE) (wd_116 hE) (wd_586 hE) rfl rfl (by decide +kernel) ⟨Nat.le_of_ble_eq_true rfl, Nat.le_of_ble_eq_true rfl⟩, (wd_555 hE), (wd_556 hE)⟩ ⟨PT.blind, th_recv hK hP ha0.1 he1 rfl, (th_pre (av := [.ref a0]) trivial hK hP hok hnd hWT hE)⟩ rfl rfl hl.1 rfl (lv_room (Nat.le_of_ble_eq_true rfl)) dX7_addVertex_12 ⟨Nat.le_of_ble_eq_true rfl, Nat.le_of_ble_eq_true rfl⟩)) (fun r4 hr4 => ?_)
    refine lv_iadd hx hb dX7_addVertex_15 ?_
    refine lv_topi (fun x5 ex5 => ?_)
    refine lv_iload_n hx hb dX7_addVertex_16 rfl (lv_at hl 1 rfl) ?_
    refine tc_v hAL hS hA (va_runV (As := [.int x5, .int v1]) (rest := []) ⟨hx, hb, hml, hown, noTs⟩ (t_X7_put l dC dI s.heap.size G cs tt mm a0 ha0 x5 v1) ⟨cbE 2 (wd_590 hE) (wd_116 hE) (wd_587 hE) rfl rfl (by decide +kernel) ⟨Nat.le_of_ble_eq_true rfl, Nat.le_of_ble_eq_true rfl⟩, (wd_589 hE), (wd_14 hE)⟩ ⟨PT.blind, th_recv hK hP ha0.1 he1 rfl, (th_pre (av := [.ref a0, .int x5, .int v1]) trivial hK hP hok hnd hWT hE)⟩ rfl rfl hl.1 rfl (lv_room (Nat.le_of_ble_eq_true rfl)) dX7_addVertex_17 ⟨Nat.le_of_ble_eq_true rfl, Nat.le_of_ble_eq_true rfl⟩) (fun f6 H locs hr6 hok hP hS => ?_)
    refine lv_aload_n hx hb dX7_addVertex_20 rfl (lv_at hl 0 rfl) ?_
    refine lv_iconst (v := 0) hx hb dX7_addVertex_21 (by decide) ?_
    refine lv_aload_n hx hb dX7_addVertex_22 rfl (lv_at hl 0 rfl) ?_
    have he7 := ok_X7 hok ha0
    refine vp_callSi (va_Run.run (va_runV (As := []) (rest := [.int 0, .ref a0]) ⟨hx, hb, hml, hown, noTs⟩ (t_X7_vertices l dC dI H.size G cs tt mm a0 ha0) ⟨cbE 0 (wd_557 hE) (wd_116 hE) (wd_586 hE) rfl rfl (by decide +kernel) ⟨Nat.le_of_ble_eq_true rfl, Nat.le_of_ble_eq_true rfl⟩, (wd_555 hE), (wd_556 hE)⟩ ⟨PT.blind, th_recv hK hP ha0.1 he7 rfl, (th_pre (av := [.ref a0]) trivial hK hP hok hnd hWT hE)⟩ rfl rfl hl.1 rfl (lv_room (Nat.le_of_ble_eq_true rfl)) dX7_addVertex_23 ⟨Nat.le_of_ble_eq_true rfl, Nat.le_of_ble_eq_true rfl⟩)) (fun r8 hr8 => ?_)
    refine lv_iconst (v := 1) hx hb dX7_addVertex_26 (by decide) ?_
    refine lv_iadd hx hb dX7_addVertex_27 ?_
    refine lv_topi (fun x9 ex9 => ?_)
    refine tc_v hAL hS hA (va_runV (As := [.int 0, .int x9]) (rest := []) ⟨hx, hb, hml, hown, noTs⟩ (t_X7_put l dC dI H.size G cs tt mm a0 ha0 0 x9) ⟨cbE 2 (wd_590 hE) (wd_116 hE) (wd_587 hE) rfl rfl (by decide +kernel) ⟨Nat.le_of_ble_eq_true rfl, Nat.le_of_ble_eq_true rfl⟩, (wd_589 hE), (wd_14 hE)⟩ ⟨PT.blind, th_recv hK hP ha0.1 he7 rfl, (th_pre (av := [.ref a0, .int 0, .int x9]) trivial hK hP hok hnd hWT hE)⟩ rfl rfl hl.1 rfl (lv_room (Nat.le_of_ble_eq_true rfl)) dX7_addVertex_28 ⟨Nat.le_of_ble_eq_true rfl, Nat.le_of_ble_eq_true rfl⟩) (fun f10 H locs hr10 hok hP hS => ?_)
    exact W.vret hx hb hr (fun t ht hW => ⟨⟨f10, rfl, trivial, hok, by rw [ht]; exact hP⟩, hS.F ht⟩) hS.2.2 dX7_addVertex_31

set_option maxHeartbeats 4000000 in
set_option maxRecDepth 100000 in
theorem t_X5_readVertex (l : Launch) (dC : Nat → ClassId) (dI : Nat → Nat → Nat) (sz : Nat) (G : GT) (cs : Nat → ClassId) (tt mm : Nat) (a0 : Nat) (ha0 : Ty G a0 5) : Met l yX5_readVertex [.code yX5_readVertex cX5_readVertex 2 none] ({ frames := 4, cells := 0, slots := 0, locals := 160 }) (PT [.ref a0] sz dC dI G cs tt mm (fun _ => True)) (va_Qv (fun (u : Nat → va_E) => True) (BT dC dI G cs tt mm) (AT G sz)) 0 0 (AT G sz) := by
  refine Met.ofW (cc := cX5_readVertex) (maxL := 2) (ret := none) (by decide) rfl ?_
  intro p e s m args below meth c s₁ B hml hv
  obtain ⟨rfl, hsz, ⟨f0, hok, hP, hX⟩, hK, hnd, hWT, hE⟩ := hv
  have hx := B.exec
  have hb := B.bytes
  have hr := B.returns
  have hown : s.vm.findClass RX5 = some m.cls := findClass_of_methodNamed B.named
  have hlocks := B.notSynchronized
  subst hsz
  have hAL : ∀ a, a ∈ gL G → AT G s.heap.size a := fun a h => Or.inl h
  have hA : ∀ q : Nat, s.heap.size ≤ q → AT G s.heap.size q := fun q h => Or.inr h
  have hS : va_S (AT G s.heap.size) s.heap s.heap [] := va_S.rf
  have hl := lv_entry ([.ref a0]) (n := 2) (Nat.le_of_ble_eq_true rfl)
  rw [lg_entry_eq]
  generalize (lg_sl ([.ref a0]) ++ List.replicate (2 - (lg_sl ([.ref a0])).length) Slot.unset).toArray = ls at hl ⊢
  have hl : lv_has ls 2 [(0, .ref a0)] := hl
  refine lv_aload_n hx hb dX5_readVertex_0 rfl (lv_at hl 0 rfl) ?_
  refine lv_aload_n hx hb dX5_readVertex_1 rfl (lv_at hl 0 rfl) ?_
  obtain ⟨y3_1, y4_1, y5_1, y6_1, y7_1, y8_1, y9_1, he1⟩ := ok_X5 hok ha0
  refine th_get hx hb (ly_X5 hE) hown hK hP ha0.1 he1 rfl 1 (by decide) (wd_228 hE) (fun _ h9 => h9) rfl dX5_readVertex_2 ?_
  have he2 := ok_X7 hok (wt_X5_1 hWT ha0)
  refine vp_callSi (va_Run.run (va_runV (As := []) (rest := [.ref a0]) ⟨hx, hb, hml, hown, noTs⟩ (t_X7_vertices l dC dI s.heap.size G cs tt mm (gR G a0 1) ((wt_X5_1 hWT ha0))) ⟨cbE 0 (wd_557 hE) (wd_116 hE) (wd_554 hE) rfl rfl (by decide +kernel) ⟨Nat.le_of_ble_eq_true rfl, Nat.le_of_ble_eq_true rfl⟩, (wd_555 hE), (wd_556 hE)⟩ ⟨PT.blind, th_recv hK hP (wt_X5_1 hWT ha0).1 he2 rfl, (th_pre (av := [.ref (gR G a0 1)]) trivial hK hP hok hnd hWT hE)⟩ rfl rfl hl.1 rfl (lv_room (Nat.le_of_ble_eq_true rfl)) dX5_readVertex_5 ⟨Nat.le_of_ble_eq_true rfl, Nat.le_of_ble_eq_true rfl⟩)) (fun r3 hr3 => ?_)
  refine lv_bipush (v := 6) hx hb dX5_readVertex_8 (by decide) ?_
  refine lv_icmp_ge (tgt := 17) hx hb dX5_readVertex_10 (by decide) (fun c4 => ?_) (fun c4 => ?_)
  · refine lv_iconst (v := 0) hx hb dX5_readVertex_17 (by decide) ?_
    refine lv_bipush (v := 6) hx hb dX5_readVertex_18 (by decide) ?_
    refine tc_i hAL hS hA (va_runV (As := [.int 0, .int 6]) (rest := []) ⟨hx, hb, hml, hown, noTs⟩ (t_X5_passes l dC dI s.heap.size G cs tt mm a0 ha0 0 6) ⟨cbE 2 (wd_561 hE) (wd_118 hE) (wd_558 hE) rfl rfl (by decide +kernel) ⟨Nat.le_of_ble_eq_true rfl, Nat.le_of_ble_eq_true rfl⟩, (wd_560 hE), (wd_10 hE)⟩ ⟨PT.blind, th_recv hK hP ha0.1 he1 rfl, (th_pre (av := [.ref a0, .int 0, .int 6]) trivial hK hP hok hnd hWT hE)⟩ rfl rfl hl.1 rfl (lv_room (Nat.le_of_ble_eq_true rfl)) dX5_readVertex_20 ⟨Nat.le_of_ble_eq_true rfl, Nat.le_of_ble_eq_true rfl⟩) (fun r5 f5 H locs hr5 hok hP hS => ?_)
    refine lv_if_ne (tgt := 27) hx hb dX5_readVertex_23 (by decide) (fun c6 => ?_) (fun c6 => ?_)
    · refine lv_aload_n hx hb dX5_readVertex_27 rfl (lv_at hl 0 rfl) ?_
      refine lv_dup hx hb dX5_readVertex_28 rfl ?_
      obtain ⟨y3_7, y4_7, y5_7, y6_7, y7_7, y8_7, y9_7, he7⟩ := ok_X5 hok ha0
      refine th_get hx hb (ly_X5 hE) hown hK hP ha0.1 he7 rfl 4 (by decide) (wd_231 hE) (fun _ h9 => h9) rfl dX5_readVertex_29 ?_
      refine lv_iconst (v := 1) hx hb dX5_readVertex_32 (by decide) ?_
      refine lv_iadd hx hb dX5_readVertex_33 ?_
      refine lv_topi (fun x8 ex8 => ?_)
      refine th_put (v := .int x8) (ty := .int) hx hb (ly_X5 hE) tyX5 tyX5_ok nmX5 hown hK hP hnd hAL hS ha0.1 he7 rfl 4 (by decide) (wd_231 hE) (fun _ h9 => h9) rfl (by decide +kernel) rfl rfl (Nat.le_of_ble_eq_true rfl) (up_X5 hok ha0 ⟨y3_7, x8, y5_7, y6_7, y7_7, y8_7, y9_7, rfl⟩) dX5_readVertex_34 (fun f9 H locs hfa9 hfo9 hok hP hS => ?_)
      refine lv_aload_n hx hb dX5_readVertex_37 rfl (lv_at hl 0 rfl) ?_
      refine vp_callSi (va_Run.run (va_runV (As := []) (rest := []) ⟨hx, hb, hml, hown, noTs⟩ (t_X5_value l dC dI H.size G cs tt mm a0 ha0) ⟨cbE 0 (wd_569 hE) (wd_118 hE) (wd_566 hE) rfl rfl (by decide +kernel) ⟨Nat.le_of_ble_eq_true rfl, Nat.le_of_ble_eq_true rfl⟩, (wd_568 hE), (wd_11 hE)⟩ ⟨PT.blind, th_recv hK hP ha0.1 hfa9 rfl, (th_pre (av := [.ref a0]) trivial hK hP hok hnd hWT hE)⟩ rfl rfl hl.1 rfl (lv_room (Nat.le_of_ble_eq_true rfl)) dX5_readVertex_38 ⟨Nat.le_of_ble_eq_true rfl, Nat.le_of_ble_eq_true rfl⟩)) (fun r10 hr10 => ?_)
      refine lv_istore_n (lv' := [(1, .int r10), (0, .ref a0)]) hx hb dX5_readVertex_41 rfl hl (by decide) rfl (fun ls hl => ?_)
      refine lv_aload_n hx hb dX5_readVertex_42 rfl (lv_at hl 1 rfl) ?_
      refine lv_bipush (v := 6) hx hb dX5_readVertex_43 (by decide) ?_
      refine tc_i hAL hS hA (va_runV (As := [.int 6]) (rest := []) ⟨hx, hb, hml, hown, noTs⟩ (t_X5_stands l dC dI H.size G cs tt mm a0 ha0 6) ⟨cbE 1 (wd_577 hE) (wd_118 hE) (wd_574 hE) rfl rfl (by decide +kernel) ⟨Nat.le_of_ble_eq_true rfl, Nat.le_of_ble_eq_true rfl⟩, (wd_576 hE), (wd_12 hE)⟩ ⟨PT.blind, th_recv hK hP ha0.1 hfa9 rfl, (th_pre (av := [.ref a0, .int 6]) trivial hK hP hok hnd hWT hE)⟩ rfl rfl hl.1 rfl (lv_room (Nat.le_of_ble_eq_true rfl)) dX5_readVertex_45 ⟨Nat.le_of_ble_eq_true rfl, Nat.le_of_ble_eq_true rfl⟩) (fun r11 f11 H locs hr11 hok hP hS => ?_)
      refine lv_if_eq (tgt := 75) hx hb dX5_readVertex_48 (by decide) (fun c12 => ?_) (fun c12 => ?_)
      · exact W.vret hx hb hr (fun t ht hW => ⟨⟨f11, rfl, trivial, hok, by rw [ht]; exact hP⟩, hS.F ht⟩) hS.2.2 dX5_readVertex_75
      · refine lv_aload_n hx hb dX5_readVertex_51 rfl (lv_at hl 1 rfl) ?_
        refine lv_iload_n hx hb dX5_readVertex_52 rfl (lv_at hl 0 rfl) ?_
        refine lv_iconst (v := 1) hx hb dX5_readVertex_53 (by decide) ?_
        refine lv_icmp_lt (tgt := 67) hx hb dX5_readVertex_54 (by decide) (fun c13 => ?_) (fun c13 => ?_)
        · refine lv_iconst (v := 0) hx hb dX5_readVertex_67 (by decide) ?_
          refine lv_iconst (v := 4) hx hb dX5_readVertex_68 (by decide) ?_
          obtain ⟨y3_14, y4_14, y5_14, y6_14, y7_14, y8_14, y9_14, he14⟩ := ok_X5 hok ha0
          refine tc_i hAL hS hA (va_runV (As := [.int 0, .int 4]) (rest := []) ⟨hx, hb, hml, hown, noTs⟩ (t_X5_passes l dC dI H.size G cs tt mm a0 ha0 0 4) ⟨cbE 2 (wd_561 hE) (wd_118 hE) (wd_558 hE) rfl rfl (by decide +kernel) ⟨Nat.le_of_ble_eq_true rfl, Nat.le_of_ble_eq_true rfl⟩, (wd_560 hE), (wd_10 hE)⟩ ⟨PT.blind, th_recv hK hP ha0.1 he14 rfl, (th_pre (av := [.ref a0, .int 0, .int 4]) trivial hK hP hok hnd hWT hE)⟩ rfl rfl hl.1 rfl (lv_room (Nat.le_of_ble_eq_true rfl)) dX5_readVertex_69 ⟨Nat.le_of_ble_eq_true rfl, Nat.le_of_ble_eq_true rfl⟩) (fun r15 f15 H locs hr15 hok hP hS => ?_)
          refine lv_if_ne (tgt := 76) hx hb dX5_readVertex_72 (by decide) (fun c16 => ?_) (fun c16 => ?_)
          · refine lv_aload_n hx hb dX5_readVertex_76 rfl (lv_at hl 1 rfl) ?_
            refine lv_dup hx hb dX5_readVertex_77 rfl ?_
            obtain ⟨y3_17, y4_17, y5_17, y6_17, y7_17, y8_17, y9_17, he17⟩ := ok_X5 hok ha0
            refine th_get hx hb (ly_X5 hE) hown hK hP ha0.1 he17 rfl 4 (by decide) (wd_231 hE) (fun _ h9 => h9) rfl dX5_readVertex_78 ?_
            refine lv_iconst (v := 1) hx hb dX5_readVertex_81 (by decide) ?_
            refine lv_iadd hx hb dX5_readVertex_82 ?_
            refine lv_topi (fun x18 ex18 => ?_)
            refine th_put (v := .int x18) (ty := .int) hx hb (ly_X5 hE) tyX5 tyX5_ok nmX5 hown hK hP hnd hAL hS ha0.1 he17 rfl 4 (by decide) (wd_231 hE) (fun _ h9 => h9) rfl (by decide +kernel) rfl rfl (Nat.le_of_ble_eq_true rfl) (up_X5 hok ha0 ⟨y3_17, x18, y5_17, y6_17, y7_17, y8_17, y9_17, rfl⟩) dX5_readVertex_83 (fun f19 H locs hfa19 hfo19 hok hP hS => ?_)
            refine lv_aload_n hx hb dX5_readVertex_86 rfl (lv_at hl 1 rfl) ?_
            refine tc_i hAL hS hA (va_runV (As := []) (rest := []) ⟨hx, hb, hml, hown, noTs⟩ (t_X5_endsLine l dC dI H.size G cs tt mm a0 ha0) ⟨cbE 0 (wd_581 hE) (wd_118 hE) (wd_578 hE) rfl rfl (by decide +kernel) ⟨Nat.le_of_ble_eq_true rfl, Nat.le_of_ble_eq_true rfl⟩, (wd_580 hE), (wd_13 hE)⟩ ⟨PT.blind, th_recv hK hP ha0.1 hfa19 rfl, (th_pre (av := [.ref a0]) trivial hK hP hok hnd hWT hE)⟩ rfl rfl hl.1 rfl (lv_room (Nat.le_of_ble_eq_true rfl)) dX5_readVertex_87 ⟨Nat.le_of_ble_eq_true rfl, Nat.le_of_ble_eq_true rfl⟩) (fun r20 f20 H locs hr20 hok hP hS => ?_)
            refine lv_if_eq (tgt := 101) hx hb dX5_readVertex_90 (by decide) (fun c21 => ?_) (fun c21 => ?_)
            · exact W.vret hx hb hr (fun t ht hW => ⟨⟨f20, rfl, trivial, hok, by rw [ht]; exact hP⟩, hS.F ht⟩) hS.2.2 dX5_readVertex_101
            · refine lv_aload_n hx hb dX5_readVertex_93 rfl (lv_at hl 1 rfl) ?_
              obtain ⟨y3_22, y4_22, y5_22, y6_22, y7_22, y8_22, y9_22, he22⟩ := ok_X5 hok ha0
              refine th_get hx hb (ly_X5 hE) hown hK hP ha0.1 he22 rfl 1 (by decide) (wd_228 hE) (fun _ h9 => h9) rfl dX5_readVertex_94 ?_
              refine lv_iload_n hx hb dX5_readVertex_97 rfl (lv_at hl 0 rfl) ?_
              have he23 := ok_X7 hok (wt_X5_1 hWT ha0)
              refine tc_v hAL hS hA (va_runV (As := [.int r10]) (rest := []) ⟨hx, hb, hml, hown, noTs⟩ (t_X7_addVertex l dC dI H.size G cs tt mm (gR G a0 1) ((wt_X5_1 hWT ha0)) r10) ⟨cbE 1 (wd_585 hE) (wd_116 hE) (wd_582 hE) rfl rfl (by decide +kernel) ⟨Nat.le_of_ble_eq_true rfl, Nat.le_of_ble_eq_true rfl⟩, (wd_583 hE), (wd_584 hE)⟩ ⟨PT.blind, th_recv hK hP (wt_X5_1 hWT ha0).1 he23 rfl, (th_pre (av := [.ref (gR G a0 1), .int r10]) trivial hK hP hok hnd hWT hE)⟩ rfl rfl hl.1 rfl (lv_room (Nat.le_of_ble_eq_true rfl)) dX5_readVertex_98 ⟨Nat.le_of_ble_eq_true rfl, Nat.le_of_ble_eq_true rfl⟩) (fun f24 H locs hr24 hok hP hS => ?_)
              exact W.vret hx hb hr (fun t ht hW => ⟨⟨f24, rfl, trivial, hok, by rw [ht]; exact hP⟩, hS.F ht⟩) hS.2.2 dX5_readVertex_101
          · exact W.vret hx hb hr (fun t ht hW => ⟨⟨f15, rfl, trivial, hok, by rw [ht]; exact hP⟩, hS.F ht⟩) hS.2.2 dX5_readVertex_75
        · refine lv_iload_n hx hb dX5_readVertex_57 rfl (lv_at hl 0 rfl) ?_
          refine lv_bipush (v := 60) hx hb dX5_readVertex_58 (by decide) ?_
          refine lv_icmp_gt (tgt := 67) hx hb dX5_readVertex_60 (by decide) (fun c25 => ?_) (fun c25 => ?_)
          · refine lv_iconst (v := 0) hx hb dX5_readVertex_67 (by decide) ?_
            refine lv_iconst (v := 4) hx hb dX5_readVertex_68 (by decide) ?_
            obtain ⟨y3_26, y4_26, y5_26, y6_26, y7_26, y8_26, y9_26, he26⟩ := ok_X5 hok ha0
            refine tc_i hAL hS hA (va_runV (As := [.int 0, .int 4]) (rest := []) ⟨hx, hb, hml, hown, noTs⟩ (t_X5_passes l dC dI H.size G cs tt mm a0 ha0 0 4) ⟨cbE 2 (wd_561 hE) (wd_118 hE) (wd_558 hE) rfl rfl (by decide +kernel) ⟨Nat.le_of_ble_eq_true rfl, Nat.le_of_ble_eq_true rfl⟩, (wd_560 hE), (wd_10 hE)⟩ ⟨PT.blind, th_recv hK hP ha0.1 he26 rfl, (th_pre (av := [.ref a0, .int 0, .int 4]) trivial hK hP hok hnd hWT hE)⟩ rfl rfl hl.1 rfl (lv_room (Nat.le_of_ble_eq_true rfl)) dX5_readVertex_69 ⟨Nat.le_of_ble_eq_true rfl, Nat.le_of_ble_eq_true rfl⟩) (fun r27 f27 H locs hr27 hok hP hS => ?_)
            refine lv_if_ne (tgt := 76) hx hb dX5_readVertex_72 (by decide) (fun c28 => ?_) (fun c28 => ?_)
            · refine lv_aload_n hx hb dX5_readVertex_76 rfl (lv_at hl 1 rfl) ?_
              refine lv_dup hx hb dX5_readVertex_77 rfl ?_
              obtain ⟨y3_29, y4_29, y5_29, y6_29, y7_29, y8_29, y9_29, he29⟩ := ok_X5 hok ha0
              refine th_get hx hb (ly_X5 hE) hown hK hP ha0.1 he29 rfl 4 (by decide) (wd_231 hE) (fun _ h9 => h9) rfl dX5_readVertex_78 ?_
              refine lv_iconst (v := 1) hx hb dX5_readVertex_81 (by decide) ?_
              refine lv_iadd hx hb dX5_readVertex_82 ?_
              refine lv_topi (fun x30 ex30 => ?_)
              refine th_put (v := .int x30) (ty := .int) hx hb (ly_X5 hE) tyX5 tyX5_ok nmX5 hown hK hP hnd hAL hS ha0.1 he29 rfl 4 (by decide) (wd_231 hE) (fun _ h9 => h9) rfl (by decide +kernel) rfl rfl (Nat.le_of_ble_eq_true rfl) (up_X5 hok ha0 ⟨y3_29, x30, y5_29, y6_29, y7_29, y8_29, y9_29, rfl⟩) dX5_readVertex_83 (fun f31 H locs hfa31 hfo31 hok hP hS => ?_)
              refine lv_aload_n hx hb dX5_readVertex_86 rfl (lv_at hl 1 rfl) ?_
              refine tc_i hAL hS hA (va_runV (As := []) (rest := []) ⟨hx, hb, hml, hown, noTs⟩ (t_X5_endsLine l dC dI H.size G cs tt mm a0 ha0) ⟨cbE 0 (wd_581 hE) (wd_118 hE) (wd_578 hE) rfl rfl (by decide +kernel) ⟨Nat.le_of_ble_eq_true rfl, Nat.le_of_ble_eq_true rfl⟩, (wd_580 hE), (wd_13 hE)⟩ ⟨PT.blind, th_recv hK hP ha0.1 hfa31 rfl, (th_pre (av := [.ref a0]) trivial hK hP hok hnd hWT hE)⟩ rfl rfl hl.1 rfl (lv_room (Nat.le_of_ble_eq_true rfl)) dX5_readVertex_87 ⟨Nat.le_of_ble_eq_true rfl, Nat.le_of_ble_eq_true rfl⟩) (fun r32 f32 H locs hr32 hok hP hS => ?_)
              refine lv_if_eq (tgt := 101) hx hb dX5_readVertex_90 (by decide) (fun c33 => ?_) (fun c33 => ?_)
              · exact W.vret hx hb hr (fun t ht hW => ⟨⟨f32, rfl, trivial, hok, by rw [ht]; exact hP⟩, hS.F ht⟩) hS.2.2 dX5_readVertex_101
              · refine lv_aload_n hx hb dX5_readVertex_93 rfl (lv_at hl 1 rfl) ?_
                obtain ⟨y3_34, y4_34, y5_34, y6_34, y7_34, y8_34, y9_34, he34⟩ := ok_X5 hok ha0
                refine th_get hx hb (ly_X5 hE) hown hK hP ha0.1 he34 rfl 1 (by decide) (wd_228 hE) (fun _ h9 => h9) rfl dX5_readVertex_94 ?_
                refine lv_iload_n hx hb dX5_readVertex_97 rfl (lv_at hl 0 rfl) ?_
                have he35 := ok_X7 hok (wt_X5_1 hWT ha0)
                refine tc_v hAL hS hA (va_runV (As := [.int r10]) (rest := []) ⟨hx, hb, hml, hown, noTs⟩ (t_X7_addVertex l dC dI H.size G cs tt mm (gR G a0 1) ((wt_X5_1 hWT ha0)) r10) ⟨cbE 1 (wd_585 hE) (wd_116 hE) (wd_582 hE) rfl rfl (by decide +kernel) ⟨Nat.le_of_ble_eq_true rfl, Nat.le_of_ble_eq_true rfl⟩, (wd_583 hE), (wd_584 hE)⟩ ⟨PT.blind, th_recv hK hP (wt_X5_1 hWT ha0).1 he35 rfl, (th_pre (av := [.ref (gR G a0 1), .int r10]) trivial hK hP hok hnd hWT hE)⟩ rfl rfl hl.1 rfl (lv_room (Nat.le_of_ble_eq_true rfl)) dX5_readVertex_98 ⟨Nat.le_of_ble_eq_true rfl, Nat.le_of_ble_eq_true rfl⟩) (fun f36 H locs hr36 hok hP hS => ?_)
                exact W.vret hx hb hr (fun t ht hW => ⟨⟨f36, rfl, trivial, hok, by rw [ht]; exact hP⟩, hS.F ht⟩) hS.2.2 dX5_readVertex_101
            · exact W.vret hx hb hr (fun t ht hW => ⟨⟨f27, rfl, trivial, hok, by rw [ht]; exact hP⟩, hS.F ht⟩) hS.2.2 dX5_readVertex_75
          · refine lv_iconst (v := 1) hx hb dX5_readVertex_63 (by decide) ?_
            refine lv_goto (tgt := 68) hx hb dX5_readVertex_64 (by decide) ?_
            refine lv_iconst (v := 4) hx hb dX5_readVertex_68 (by decide) ?_
            obtain ⟨y3_37, y4_37, y5_37, y6_37, y7_37, y8_37, y9_37, he37⟩ := ok_X5 hok ha0
            refine tc_i hAL hS hA (va_runV (As := [.int 1, .int 4]) (rest := []) ⟨hx, hb, hml, hown, noTs⟩ (t_X5_passes l dC dI H.size G cs tt mm a0 ha0 1 4) ⟨cbE 2 (wd_561 hE) (wd_118 hE) (wd_558 hE) rfl rfl (by decide +kernel) ⟨Nat.le_of_ble_eq_true rfl, Nat.le_of_ble_eq_true rfl⟩, (wd_560 hE), (wd_10 hE)⟩ ⟨PT.blind, th_recv hK hP ha0.1 he37 rfl, (th_pre (av := [.ref a0, .int 1, .int 4]) trivial hK hP hok hnd hWT hE)⟩ rfl rfl hl.1 rfl (lv_room (Nat.le_of_ble_eq_true rfl)) dX5_readVertex_69 ⟨Nat.le_of_ble_eq_true rfl, Nat.le_of_ble_eq_true rfl⟩) (fun r38 f38 H locs hr38 hok hP hS => ?_)
            refine lv_if_ne (tgt := 76) hx hb dX5_readVertex_72 (by decide) (fun c39 => ?_) (fun c39 => ?_)
            · refine lv_aload_n hx hb dX5_readVertex_76 rfl (lv_at hl 1 rfl) ?_
              refine lv_dup hx hb dX5_readVertex_77 rfl ?_
              obtain ⟨y3_40, y4_40, y5_40, y6_40, y7_40, y8_40, y9_40, he40⟩ := ok_X5 hok ha0
              refine th_get hx hb (ly_X5 hE) hown hK hP ha0.1 he40 rfl 4 (by decide) (wd_231 hE) (fun _ h9 => h9) rfl dX5_readVertex_78 ?_
              refine lv_iconst (v := 1) hx hb dX5_readVertex_81 (by decide) ?_
              refine lv_iadd hx hb dX5_readVertex_82 ?_
              refine lv_topi (fun x41 ex41 => ?_)
              refine th_put (v := .int x41) (ty := .int) hx hb (ly_X5 hE) tyX5 tyX5_ok nmX5 hown hK hP hnd hAL hS ha0.1 he40 rfl 4 (by decide) (wd_231 hE) (fun _ h9 => h9) rfl (by decide +kernel) rfl rfl (Nat.le_of_ble_eq_true rfl) (up_X5 hok ha0 ⟨y3_40, x41, y5_40, y6_40, y7_40, y8_40, y9_40, rfl⟩) dX5_readVertex_83 (fun f42 H locs hfa42 hfo42 hok hP hS => ?_)
              refine lv_aload_n hx hb dX5_readVertex_86 rfl (lv_at hl 1 rfl) ?_
              refine tc_i hAL hS hA (va_runV (As := []) (rest := []) ⟨hx, hb, hml, hown, noTs⟩ (t_X5_endsLine l dC dI H.size G cs tt mm a0 ha0) ⟨cbE 0 (wd_581 hE) (wd_118 hE) (wd_578 hE) rfl rfl (by decide +kernel) ⟨Nat.le_of_ble_eq_true rfl, Nat.le_of_ble_eq_true rfl⟩, (wd_580 hE), (wd_13 hE)⟩ ⟨PT.blind, th_recv hK hP ha0.1 hfa42 rfl, (th_pre (av := [.ref a0]) trivial hK hP hok hnd hWT hE)⟩ rfl rfl hl.1 rfl (lv_room (Nat.le_of_ble_eq_true rfl)) dX5_readVertex_87 ⟨Nat.le_of_ble_eq_true rfl, Nat.le_of_ble_eq_true rfl⟩) (fun r43 f43 H locs hr43 hok hP hS => ?_)
              refine lv_if_eq (tgt := 101) hx hb dX5_readVertex_90 (by decide) (fun c44 => ?_) (fun c44 => ?_)
              · exact W.vret hx hb hr (fun t ht hW => ⟨⟨f43, rfl, trivial, hok, by rw [ht]; exact hP⟩, hS.F ht⟩) hS.2.2 dX5_readVertex_101
              · refine lv_aload_n hx hb dX5_readVertex_93 rfl (lv_at hl 1 rfl) ?_
                obtain ⟨y3_45, y4_45, y5_45, y6_45, y7_45, y8_45, y9_45, he45⟩ := ok_X5 hok ha0
                refine th_get hx hb (ly_X5 hE) hown hK hP ha0.1 he45 rfl 1 (by decide) (wd_228 hE) (fun _ h9 => h9) rfl dX5_readVertex_94 ?_
                refine lv_iload_n hx hb dX5_readVertex_97 rfl (lv_at hl 0 rfl) ?_
                have he46 := ok_X7 hok (wt_X5_1 hWT ha0)
                refine tc_v hAL hS hA (va_runV (As := [.int r10]) (rest := []) ⟨hx, hb, hml, hown, noTs⟩ (t_X7_addVertex l dC dI H.size G cs tt mm (gR G a0 1) ((wt_X5_1 hWT ha0)) r10) ⟨cbE 1 (wd_585 hE) (wd_116 hE) (wd_582 hE) rfl rfl (by decide +kernel) ⟨Nat.le_of_ble_eq_true rfl, Nat.le_of_ble_eq_true rfl⟩, (wd_583 hE), (wd_584 hE)⟩ ⟨PT.blind, th_recv hK hP (wt_X5_1 hWT ha0).1 he46 rfl, (th_pre (av := [.ref (gR G a0 1), .int r10]) trivial hK hP hok hnd hWT hE)⟩ rfl rfl hl.1 rfl (lv_room (Nat.le_of_ble_eq_true rfl)) dX5_readVertex_98 ⟨Nat.le_of_ble_eq_true rfl, Nat.le_of_ble_eq_true rfl⟩) (fun f47 H locs hr47 hok hP hS => ?_)
                exact W.vret hx hb hr (fun t ht hW => ⟨⟨f47, rfl, trivial, hok, by rw [ht]; exact hP⟩, hS.F ht⟩) hS.2.2 dX5_readVertex_101
            · exact W.vret hx hb hr (fun t ht hW => ⟨⟨f38, rfl, trivial, hok, by rw [ht]; exact hP⟩, hS.F ht⟩) hS.2.2 dX5_readVertex_75
    · exact W.vret hx hb hr (fun t ht hW => ⟨⟨f5, rfl, trivial, hok, by rw [ht]; exact hP⟩, hS.F ht⟩) hS.2.2 dX5_readVertex_26
  · refine lv_iconst (v := 1) hx hb dX5_readVertex_13 (by decide) ?_
    refine lv_goto (tgt := 18) hx hb dX5_readVertex_14 (by decide) ?_
    refine lv_bipush (v := 6) hx hb dX5_readVertex_18 (by decide) ?_
    refine tc_i hAL hS hA (va_runV (As := [.int 1, .int 6]) (rest := []) ⟨hx, hb, hml, hown, noTs⟩ (t_X5_passes l dC dI s.heap.size G cs tt mm a0 ha0 1 6) ⟨cbE 2 (wd_561 hE) (wd_118 hE) (wd_558 hE) rfl rfl (by decide +kernel) ⟨Nat.le_of_ble_eq_true rfl, Nat.le_of_ble_eq_true rfl⟩, (wd_560 hE), (wd_10 hE)⟩ ⟨PT.blind, th_recv hK hP ha0.1 he1 rfl, (th_pre (av := [.ref a0, .int 1, .int 6]) trivial hK hP hok hnd hWT hE)⟩ rfl rfl hl.1 rfl (lv_room (Nat.le_of_ble_eq_true rfl)) dX5_readVertex_20 ⟨Nat.le_of_ble_eq_true rfl, Nat.le_of_ble_eq_true rfl⟩) (fun r48 f48 H locs hr48 hok hP hS => ?_)
    refine lv_if_ne (tgt := 27) hx hb dX5_readVertex_23 (by decide) (fun c49 => ?_) (fun c49 => ?_)
    · refine lv_aload_n hx hb dX5_readVertex_27 rfl (lv_at hl 0 rfl) ?_
      refine lv_dup hx hb dX5_readVertex_28 rfl ?_
      obtain ⟨y3_50, y4_50, y5_50, y6_50, y7_50, y8_50, y9_50, he50⟩ := ok_X5 hok ha0
      refine th_get hx hb (ly_X5 hE) hown hK hP ha0.1 he50 rfl 4 (by decide) (wd_231 hE) (fun _ h9 => h9) rfl dX5_readVertex_29 ?_
      refine lv_iconst (v := 1) hx hb dX5_readVertex_32 (by decide) ?_
      refine lv_iadd hx hb dX5_readVertex_33 ?_
      refine lv_topi (fun x51 ex51 => ?_)
      refine th_put (v := .int x51) (ty := .int) hx hb (ly_X5 hE) tyX5 tyX5_ok nmX5 hown hK hP hnd hAL hS ha0.1 he50 rfl 4 (by decide) (wd_231 hE) (fun _ h9 => h9) rfl (by decide +kernel) rfl rfl (Nat.le_of_ble_eq_true rfl) (up_X5 hok ha0 ⟨y3_50, x51, y5_50, y6_50, y7_50, y8_50, y9_50, rfl⟩) dX5_readVertex_34 (fun f52 H locs hfa52 hfo52 hok hP hS => ?_)
      refine lv_aload_n hx hb dX5_readVertex_37 rfl (lv_at hl 0 rfl) ?_
      refine vp_callSi (va_Run.run (va_runV (As := []) (rest := []) ⟨hx, hb, hml, hown, noTs⟩ (t_X5_value l dC dI H.size G cs tt mm a0 ha0) ⟨cbE 0 (wd_569 hE) (wd_118 hE) (wd_566 hE) rfl rfl (by decide +kernel) ⟨Nat.le_of_ble_eq_true rfl, Nat.le_of_ble_eq_true rfl⟩, (wd_568 hE), (wd_11 hE)⟩ ⟨PT.blind, th_recv hK hP ha0.1 hfa52 rfl, (th_pre (av := [.ref a0]) trivial hK hP hok hnd hWT hE)⟩ rfl rfl hl.1 rfl (lv_room (Nat.le_of_ble_eq_true rfl)) dX5_readVertex_38 ⟨Nat.le_of_ble_eq_true rfl, Nat.le_of_ble_eq_true rfl⟩)) (fun r53 hr53 => ?_)
      refine lv_istore_n (lv' := [(1, .int r53), (0, .ref a0)]) hx hb dX5_readVertex_41 rfl hl (by decide) rfl (fun ls hl => ?_)
      refine lv_aload_n hx hb dX5_readVertex_42 rfl (lv_at hl 1 rfl) ?_
      refine lv_bipush (v := 6) hx hb dX5_readVertex_43 (by decide) ?_
      refine tc_i hAL hS hA (va_runV (As := [.int 6]) (rest := []) ⟨hx, hb, hml, hown, noTs⟩ (t_X5_stands l dC dI H.size G cs tt mm a0 ha0 6) ⟨cbE 1 (wd_577 hE) (wd_118 hE) (wd_574 hE) rfl rfl (by decide +kernel) ⟨Nat.le_of_ble_eq_true rfl, Nat.le_of_ble_eq_true rfl⟩, (wd_576 hE), (wd_12 hE)⟩ ⟨PT.blind, th_recv hK hP ha0.1 hfa52 rfl, (th_pre (av := [.ref a0, .int 6]) trivial hK hP hok hnd hWT hE)⟩ rfl rfl hl.1 rfl (lv_room (Nat.le_of_ble_eq_true rfl)) dX5_readVertex_45 ⟨Nat.le_of_ble_eq_true rfl, Nat.le_of_ble_eq_true rfl⟩) (fun r54 f54 H locs hr54 hok hP hS => ?_)
      refine lv_if_eq (tgt := 75) hx hb dX5_readVertex_48 (by decide) (fun c55 => ?_) (fun c55 => ?_)
      · exact W.vret hx hb hr (fun t ht hW => ⟨⟨f54, rfl, trivial, hok, by rw [ht]; exact hP⟩, hS.F ht⟩) hS.2.2 dX5_readVertex_75
      · refine lv_aload_n hx hb dX5_readVertex_51 rfl (lv_at hl 1 rfl) ?_
        refine lv_iload_n hx hb dX5_readVertex_52 rfl (lv_at hl 0 rfl) ?_
        refine lv_iconst (v := 1) hx hb dX5_readVertex_53 (by decide) ?_
        refine lv_icmp_lt (tgt := 67) hx hb dX5_readVertex_54 (by decide) (fun c56 => ?_) (fun c56 => ?_)
        · refine lv_iconst (v := 0) hx hb dX5_readVertex_67 (by decide) ?_
          refine lv_iconst (v := 4) hx hb dX5_readVertex_68 (by decide) ?_
          obtain ⟨y3_57, y4_57, y5_57, y6_57, y7_57, y8_57, y9_57, he57⟩ := ok_X5 hok ha0
          refine tc_i hAL hS hA (va_runV (As := [.int 0, .int 4]) (rest := []) ⟨hx, hb, hml, hown, noTs⟩ (t_X5_passes l dC dI H.size G cs tt mm a0 ha0 0 4) ⟨cbE 2 (wd_561 hE) (wd_118 hE) (wd_558 hE) rfl rfl (by decide +kernel) ⟨Nat.le_of_ble_eq_true rfl, Nat.le_of_ble_eq_true rfl⟩, (wd_560 hE), (wd_10 hE)⟩ ⟨PT.blind, th_recv hK hP ha0.1 he57 rfl, (th_pre (av := [.ref a0, .int 0, .int 4]) trivial hK hP hok hnd hWT hE)⟩ rfl rfl hl.1 rfl (lv_room (Nat.le_of_ble_eq_true rfl)) dX5_readVertex_69 ⟨Nat.le_of_ble_eq_true rfl, Nat.le_of_ble_eq_true rfl⟩) (fun r58 f58 H locs hr58 hok hP hS => ?_)
          refine lv_if_ne (tgt := 76) hx hb dX5_readVertex_72 (by decide) (fun c59 => ?_) (fun c59 => ?_)
          · refine lv_aload_n hx hb dX5_readVertex_76 rfl (lv_at hl 1 rfl) ?_
            refine lv_dup hx hb dX5_readVertex_77 rfl ?_
            obtain ⟨y3_60, y4_60, y5_60, y6_60, y7_60, y8_60, y9_60, he60⟩ := ok_X5 hok ha0
            refine th_get hx hb (ly_X5 hE) hown hK hP ha0.1 he60 rfl 4 (by decide) (wd_231 hE) (fun _ h9 => h9) rfl dX5_readVertex_78 ?_
            refine lv_iconst (v := 1) hx hb dX5_readVertex_81 (by decide) ?_
            refine lv_iadd hx hb dX5_readVertex_82 ?_
            refine lv_topi (fun x61 ex61 => ?_)
            refine th_put (v := .int x61) (ty := .int) hx hb (ly_X5 hE) tyX5 tyX5_ok nmX5 hown hK hP hnd hAL hS ha0.1 he60 rfl 4 (by decide) (wd_231 hE) (fun _ h9 => h9) rfl (by decide +kernel) rfl rfl (Nat.le_of_ble_eq_true rfl) (up_X5 hok ha0 ⟨y3_60, x61, y5_60, y6_60, y7_60, y8_60, y9_60, rfl⟩) dX5_readVertex_83 (fun f62 H locs hfa62 hfo62 hok hP hS => ?_)
            refine lv_aload_n hx hb dX5_readVertex_86 rfl (lv_at hl 1 rfl) ?_
            refine tc_i hAL hS hA (va_runV (As := []) (rest := []) ⟨hx, hb, hml, hown, noTs⟩ (t_X5_endsLine l dC dI H.size G cs tt mm a0 ha0) ⟨cbE 0 (wd_581 hE) (wd_118 hE) (wd_578 hE) rfl rfl (by decide +kernel) ⟨Nat.le_of_ble_eq_true rfl, Nat.le_of_ble_eq_true rfl⟩, (wd_580 hE), (wd_13 hE)⟩ ⟨PT.blind, th_recv hK hP ha0.1 hfa62 rfl, (th_pre (av := [.ref a0]) trivial hK hP hok hnd hWT hE)⟩ rfl rfl hl.1 rfl (lv_room (Nat.le_of_ble_eq_true rfl)) dX5_readVertex_87 ⟨Nat.le_of_ble_eq_true rfl, Nat.le_of_ble_eq_true rfl⟩) (fun r63 f63 H locs hr63 hok hP hS => ?_)
            refine lv_if_eq (tgt := 101) hx hb dX5_readVertex_90 (by decide) (fun c64 => ?_) (fun c64 => ?_)
            · exact W.vret hx hb hr (fun t ht hW => ⟨⟨f63, rfl, trivial, hok, by rw [ht]; exact hP⟩, hS.F ht⟩) hS.2.2 dX5_readVertex_101
            · refine lv_aload_n hx hb dX5_readVertex_93 rfl (lv_at hl 1 rfl) ?_
              obtain ⟨y3_65, y4_65, y5_65, y6_65, y7_65, y8_65, y9_65, he65⟩ := ok_X5 hok ha0
              refine th_get hx hb (ly_X5 hE) hown hK hP ha0.1 he65 rfl 1 (by decide) (wd_228 hE) (fun _ h9 => h9) rfl dX5_readVertex_94 ?_
              refine lv_iload_n hx hb dX5_readVertex_97 rfl (lv_at hl 0 rfl) ?_
              have he66 := ok_X7 hok (wt_X5_1 hWT ha0)
              refine tc_v hAL hS hA (va_runV (As := [.int r53]) (rest := []) ⟨hx, hb, hml, hown, noTs⟩ (t_X7_addVertex l dC dI H.size G cs tt mm (gR G a0 1) ((wt_X5_1 hWT ha0)) r53) ⟨cbE 1 (wd_585 hE) (wd_116 hE) (wd_582 hE) rfl rfl (by decide +kernel) ⟨Nat.le_of_ble_eq_true rfl, Nat.le_of_ble_eq_true rfl⟩, (wd_583 hE), (wd_584 hE)⟩ ⟨PT.blind, th_recv hK hP (wt_X5_1 hWT ha0).1 he66 rfl, (th_pre (av := [.ref (gR G a0 1), .int r53]) trivial hK hP hok hnd hWT hE)⟩ rfl rfl hl.1 rfl (lv_room (Nat.le_of_ble_eq_true rfl)) dX5_readVertex_98 ⟨Nat.le_of_ble_eq_true rfl, Nat.le_of_ble_eq_true rfl⟩) (fun f67 H locs hr67 hok hP hS => ?_)
              exact W.vret hx hb hr (fun t ht hW => ⟨⟨f67, rfl, trivial, hok, by rw [ht]; exact hP⟩, hS.F ht⟩) hS.2.2 dX5_readVertex_101
          · exact W.vret hx hb hr (fun t ht hW => ⟨⟨f58, rfl, trivial, hok, by rw [ht]; exact hP⟩, hS.F ht⟩) hS.2.2 dX5_readVertex_75
        · refine lv_iload_n hx hb dX5_readVertex_57 rfl (lv_at hl 0 rfl) ?_
          refine lv_bipush (v := 60) hx hb dX5_readVertex_58 (by decide) ?_
          refine lv_icmp_gt (tgt := 67) hx hb dX5_readVertex_60 (by decide) (fun c68 => ?_) (fun c68 => ?_)
          · refine lv_iconst (v := 0) hx hb dX5_readVertex_67 (by decide) ?_
            refine lv_iconst (v := 4) hx hb dX5_readVertex_68 (by decide) ?_
            obtain ⟨y3_69, y4_69, y5_69, y6_69, y7_69, y8_69, y9_69, he69⟩ := ok_X5 hok ha0
            refine tc_i hAL hS hA (va_runV (As := [.int 0, .int 4]) (rest := []) ⟨hx, hb, hml, hown, noTs⟩ (t_X5_passes l dC dI H.size G cs tt mm a0 ha0 0 4) ⟨cbE 2 (wd_561 hE) (wd_118 hE) (wd_558 hE) rfl rfl (by decide +kernel) ⟨Nat.le_of_ble_eq_true rfl, Nat.le_of_ble_eq_true rfl⟩, (wd_560 hE), (wd_10 hE)⟩ ⟨PT.blind, th_recv hK hP ha0.1 he69 rfl, (th_pre (av := [.ref a0, .int 0, .int 4]) trivial hK hP hok hnd hWT hE)⟩ rfl rfl hl.1 rfl (lv_room (Nat.le_of_ble_eq_true rfl)) dX5_readVertex_69 ⟨Nat.le_of_ble_eq_true rfl, Nat.le_of_ble_eq_true rfl⟩) (fun r70 f70 H locs hr70 hok hP hS => ?_)
            refine lv_if_ne (tgt := 76) hx hb dX5_readVertex_72 (by decide) (fun c71 => ?_) (fun c71 => ?_)
            · refine lv_aload_n hx hb dX5_readVertex_76 rfl (lv_at hl 1 rfl) ?_
              refine lv_dup hx hb dX5_readVertex_77 rfl ?_
              obtain ⟨y3_72, y4_72, y5_72, y6_72, y7_72, y8_72, y9_72, he72⟩ := ok_X5 hok ha0
              refine th_get hx hb (ly_X5 hE) hown hK hP ha0.1 he72 rfl 4 (by decide) (wd_231 hE) (fun _ h9 => h9) rfl dX5_readVertex_78 ?_
              refine lv_iconst (v := 1) hx hb dX5_readVertex_81 (by decide) ?_
              refine lv_iadd hx hb dX5_readVertex_82 ?_
              refine lv_topi (fun x73 ex73 => ?_)
              refine th_put (v := .int x73) (ty := .int) hx hb (ly_X5 hE) tyX5 tyX5_ok nmX5 hown hK hP hnd hAL hS ha0.1 he72 rfl 4 (by decide) (wd_231 hE) (fun _ h9 => h9) rfl (by decide +kernel) rfl rfl (Nat.le_of_ble_eq_true rfl) (up_X5 hok ha0 ⟨y3_72, x73, y5_72, y6_72, y7_72, y8_72, y9_72, rfl⟩) dX5_readVertex_83 (fun f74 H locs hfa74 hfo74 hok hP hS => ?_)
              refine lv_aload_n hx hb dX5_readVertex_86 rfl (lv_at hl 1 rfl) ?_
              refine tc_i hAL hS hA (va_runV (As := []) (rest := []) ⟨hx, hb, hml, hown, noTs⟩ (t_X5_endsLine l dC dI H.size G cs tt mm a0 ha0) ⟨cbE 0 (wd_581 hE) (wd_118 hE) (wd_578 hE) rfl rfl (by decide +kernel) ⟨Nat.le_of_ble_eq_true rfl, Nat.le_of_ble_eq_true rfl⟩, (wd_580 hE), (wd_13 hE)⟩ ⟨PT.blind, th_recv hK hP ha0.1 hfa74 rfl, (th_pre (av := [.ref a0]) trivial hK hP hok hnd hWT hE)⟩ rfl rfl hl.1 rfl (lv_room (Nat.le_of_ble_eq_true rfl)) dX5_readVertex_87 ⟨Nat.le_of_ble_eq_true rfl, Nat.le_of_ble_eq_true rfl⟩) (fun r75 f75 H locs hr75 hok hP hS => ?_)
              refine lv_if_eq (tgt := 101) hx hb dX5_readVertex_90 (by decide) (fun c76 => ?_) (fun c76 => ?_)
              · exact W.vret hx hb hr (fun t ht hW => ⟨⟨f75, rfl, trivial, hok, by rw [ht]; exact hP⟩, hS.F ht⟩) hS.2.2 dX5_readVertex_101
              · refine lv_aload_n hx hb dX5_readVertex_93 rfl (lv_at hl 1 rfl) ?_
                obtain ⟨y3_77, y4_77, y5_77, y6_77, y7_77, y8_77, y9_77, he77⟩ := ok_X5 hok ha0
                refine th_get hx hb (ly_X5 hE) hown hK hP ha0.1 he77 rfl 1 (by decide) (wd_228 hE) (fun _ h9 => h9) rfl dX5_readVertex_94 ?_
                refine lv_iload_n hx hb dX5_readVertex_97 rfl (lv_at hl 0 rfl) ?_
                have he78 := ok_X7 hok (wt_X5_1 hWT ha0)
                refine tc_v hAL hS hA (va_runV (As := [.int r53]) (rest := []) ⟨hx, hb, hml, hown, noTs⟩ (t_X7_addVertex l dC dI H.size G cs tt mm (gR G a0 1) ((wt_X5_1 hWT ha0)) r53) ⟨cbE 1 (wd_585 hE) (wd_116 hE) (wd_582 hE) rfl rfl (by decide +kernel) ⟨Nat.le_of_ble_eq_true rfl, Nat.le_of_ble_eq_true rfl⟩, (wd_583 hE), (wd_584 hE)⟩ ⟨PT.blind, th_recv hK hP (wt_X5_1 hWT ha0).1 he78 rfl, (th_pre (av := [.ref (gR G a0 1), .int r53]) trivial hK hP hok hnd hWT hE)⟩ rfl rfl hl.1 rfl (lv_room (Nat.le_of_ble_eq_true rfl)) dX5_readVertex_98 ⟨Nat.le_of_ble_eq_true rfl, Nat.le_of_ble_eq_true rfl⟩) (fun f79 H locs hr79 hok hP hS => ?_)
                exact W.vret hx hb hr (fun t ht hW => ⟨⟨f79, rfl, trivial, hok, by rw [ht]; exact hP⟩, hS.F ht⟩) hS.2.2 dX5_readVertex_101
            · exact W.vret hx hb hr (fun t ht hW => ⟨⟨f70, rfl, trivial, hok, by rw [ht]; exact hP⟩, hS.F ht⟩) hS.2.2 dX5_readVertex_75
          · refine lv_iconst (v := 1) hx hb dX5_readVertex_63 (by decide) ?_
            refine lv_goto (tgt := 68) hx hb dX5_readVertex_64 (by decide) ?_
            refine lv_iconst (v := 4) hx hb dX5_readVertex_68 (by decide) ?_
            obtain ⟨y3_80, y4_80, y5_80, y6_80, y7_80, y8_80, y9_80, he80⟩ := ok_X5 hok ha0
            refine tc_i hAL hS hA (va_runV (As := [.int 1, .int 4]) (rest := []) ⟨hx, hb, hml, hown, noTs⟩ (t_X5_passes l dC dI H.size G cs tt mm a0 ha0 1 4) ⟨cbE 2 (wd_561 hE) (wd_118 hE) (wd_558 hE) rfl rfl (by decide +kernel) ⟨Nat.le_of_ble_eq_true rfl, Nat.le_of_ble_eq_true rfl⟩, (wd_560 hE), (wd_10 hE)⟩ ⟨PT.blind, th_recv hK hP ha0.1 he80 rfl, (th_pre (av := [.ref a0, .int 1, .int 4]) trivial hK hP hok hnd hWT hE)⟩ rfl rfl hl.1 rfl (lv_room (Nat.le_of_ble_eq_true rfl)) dX5_readVertex_69 ⟨Nat.le_of_ble_eq_true rfl, Nat.le_of_ble_eq_true rfl⟩) (fun r81 f81 H locs hr81 hok hP hS => ?_)
            refine lv_if_ne (tgt := 76) hx hb dX5_readVertex_72 (by decide) (fun c82 => ?_) (fun c82 => ?_)
            · refine lv_aload_n hx hb dX5_readVertex_76 rfl (lv_at hl 1 rfl) ?_
              refine lv_dup hx hb dX5_readVertex_77 rfl ?_
              obtain ⟨y3_83, y4_83, y5_83, y6_83, y7_83, y8_83, y9_83, he83⟩ := ok_X5 hok ha0
              refine th_get hx hb (ly_X5 hE) hown hK hP ha0.1 he83 rfl 4 (by decide) (wd_231 hE) (fun _ h9 => h9) rfl dX5_readVertex_78 ?_
              refine lv_iconst (v := 1) hx hb dX5_readVertex_81 (by decide) ?_
              refine lv_iadd hx hb dX5_readVertex_82 ?_
              refine lv_topi (fun x84 ex84 => ?_)
              refine th_put (v := .int x84) (ty := .int) hx hb (ly_X5 hE) tyX5 tyX5_ok nmX5 hown hK hP hnd hAL hS ha0.1 he83 rfl 4 (by decide) (wd_231 hE) (fun _ h9 => h9) rfl (by decide +kernel) rfl rfl (Nat.le_of_ble_eq_true rfl) (up_X5 hok ha0 ⟨y3_83, x84, y5_83, y6_83, y7_83, y8_83, y9_83, rfl⟩) dX5_readVertex_83 (fun f85 H locs hfa85 hfo85 hok hP hS => ?_)
              refine lv_aload_n hx hb dX5_readVertex_86 rfl (lv_at hl 1 rfl) ?_
              refine tc_i hAL hS hA (va_runV (As := []) (rest := []) ⟨hx, hb, hml, hown, noTs⟩ (t_X5_endsLine l dC dI H.size G cs tt mm a0 ha0) ⟨cbE 0 (wd_581 hE) (wd_118 hE) (wd_578 hE) rfl rfl (by decide +kernel) ⟨Nat.le_of_ble_eq_true rfl, Nat.le_of_ble_eq_true rfl⟩, (wd_580 hE), (wd_13 hE)⟩ ⟨PT.blind, th_recv hK hP ha0.1 hfa85 rfl, (th_pre (av := [.ref a0]) trivial hK hP hok hnd hWT hE)⟩ rfl rfl hl.1 rfl (lv_room (Nat.le_of_ble_eq_true rfl)) dX5_readVertex_87 ⟨Nat.le_of_ble_eq_true rfl, Nat.le_of_ble_eq_true rfl⟩) (fun r86 f86 H locs hr86 hok hP hS => ?_)
              refine lv_if_eq (tgt := 101) hx hb dX5_readVertex_90 (by decide) (fun c87 => ?_) (fun c87 => ?_)
              · exact W.vret hx hb hr (fun t ht hW => ⟨⟨f86, rfl, trivial, hok, by rw [ht]; exact hP⟩, hS.F ht⟩) hS.2.2 dX5_readVertex_101
              · refine lv_aload_n hx hb dX5_readVertex_93 rfl (lv_at hl 1 rfl) ?_
                obtain ⟨y3_88, y4_88, y5_88, y6_88, y7_88, y8_88, y9_88, he88⟩ := ok_X5 hok ha0
                refine th_get hx hb (ly_X5 hE) hown hK hP ha0.1 he88 rfl 1 (by decide) (wd_228 hE) (fun _ h9 => h9) rfl dX5_readVertex_94 ?_
                refine lv_iload_n hx hb dX5_readVertex_97 rfl (lv_at hl 0 rfl) ?_
                have he89 := ok_X7 hok (wt_X5_1 hWT ha0)
                refine tc_v hAL hS hA (va_runV (As := [.int r53]) (rest := []) ⟨hx, hb, hml, hown, noTs⟩ (t_X7_addVertex l dC dI H.size G cs tt mm (gR G a0 1) ((wt_X5_1 hWT ha0)) r53) ⟨cbE 1 (wd_585 hE) (wd_116 hE) (wd_582 hE) rfl rfl (by decide +kernel) ⟨Nat.le_of_ble_eq_true rfl, Nat.le_of_ble_eq_true rfl⟩, (wd_583 hE), (wd_584 hE)⟩ ⟨PT.blind, th_recv hK hP (wt_X5_1 hWT ha0).1 he89 rfl, (th_pre (av := [.ref (gR G a0 1), .int r53]) trivial hK hP hok hnd hWT hE)⟩ rfl rfl hl.1 rfl (lv_room (Nat.le_of_ble_eq_true rfl)) dX5_readVertex_98 ⟨Nat.le_of_ble_eq_true rfl, Nat.le_of_ble_eq_true rfl⟩) (fun f90 H locs hr90 hok hP hS => ?_)
                exact W.vret hx hb hr (fun t ht hW => ⟨⟨f90, rfl, trivial, hok, by rw [ht]; exact hP⟩, hS.F ht⟩) hS.2.2 dX5_readVertex_101
            · exact W.vret hx hb hr (fun t ht hW => ⟨⟨f81, rfl, trivial, hok, by rw [ht]; exact hP⟩, hS.F ht⟩) hS.2.2 dX5_readVertex_75
    · exact W.vret hx hb hr (fun t ht hW => ⟨⟨f48, rfl, trivial, hok, by rw [ht]; exact hP⟩, hS.F ht⟩) hS.2.2 dX5_readVertex_26

set_option maxHeartbeats 4000000 in
set_option maxRecDepth 100000 in
theorem t_X7_edges (l : Launch) (dC : Nat → ClassId) (dI : Nat → Nat → Nat) (sz : Nat) (G : GT) (cs : Nat → ClassId) (tt mm : Nat) (a0 : Nat) (ha0 : Ty G a0 7) : Met l yX7_edges [.code yX7_edges cX7_edges 1 (some .int)] ({ frames := 0, cells := 0, slots := 0, locals := 0 }) (PT [.ref a0] sz dC dI G cs tt mm (fun _ => True)) (vp_Si (fun (r : Int32) => True)) 0 0 (fun _ => False) := by
  refine Met.ofW (cc := cX7_edges) (maxL := 1) (ret := (some .int)) (by decide) rfl ?_
  intro p e s m args below meth c s₁ B hml hv
  obtain ⟨rfl, hsz, ⟨f0, hok, hP, hX⟩, hK, hnd, hWT, hE⟩ := hv
  have hx := B.exec
  have hb := B.bytes
  have hr := B.returns
  have hown : s.vm.findClass RX7 = some m.cls := findClass_of_methodNamed B.named
  have hlocks := B.notSynchronized
  subst hsz
  have hl := lv_entry ([.ref a0]) (n := 1) (Nat.le_of_ble_eq_true rfl)
  rw [lg_entry_eq]
  generalize (lg_sl ([.ref a0]) ++ List.replicate (1 - (lg_sl ([.ref a0])).length) Slot.unset).toArray = ls at hl ⊢
  have hl : lv_has ls 1 [(0, .ref a0)] := hl
  refine lv_aload_n hx hb dX7_edges_0 rfl (lv_at hl 0 rfl) ?_
  have he1 := ok_X7 hok ha0
  refine th_get hx hb (ly_X7 hE) hown hK hP ha0.1 he1 rfl 0 (by decide) (wd_149 hE) (fun _ h9 => h9) rfl dX7_edges_1 ?_
  refine lv_iconst (v := 1) hx hb dX7_edges_4 (by decide) ?_
  refine th_iald hx hb hK hP hok (wt_X7_0 hWT ha0) (n := 543) (wl_X7_0 hWT ha0) (by unfold vp_in; decide) dX7_edges_5 (fun x2 => ?_)
  exact W.iret (v := x2) hx hb hr (fun t ht hW => ⟨x2, rfl, trivial, ht⟩) (fun _ h => absurd h List.not_mem_nil) dX7_edges_6

set_option maxHeartbeats 4000000 in
set_option maxRecDepth 100000 in
theorem t_X7_hasVertex (l : Launch) (dC : Nat → ClassId) (dI : Nat → Nat → Nat) (sz : Nat) (G : GT) (cs : Nat → ClassId) (tt mm : Nat) (a0 : Nat) (ha0 : Ty G a0 7) (v1 : Int32) : Met l yX7_hasVertex [.code yX7_hasVertex cX7_hasVertex 2 (some .boolean)] ({ frames := 0, cells := 0, slots := 0, locals := 0 }) (PT [.ref a0, .int v1] sz dC dI G cs tt mm (fun _ => True)) (vp_Si (fun (r : Int32) => r = 0 ∨ r = 1)) 0 0 (fun _ => False) := by
  refine Met.ofW (cc := cX7_hasVertex) (maxL := 2) (ret := (some .boolean)) (by decide) rfl ?_
  intro p e s m args below meth c s₁ B hml hv
  obtain ⟨rfl, hsz, ⟨f0, hok, hP, hX⟩, hK, hnd, hWT, hE⟩ := hv
  have hx := B.exec
  have hb := B.bytes
  have hr := B.returns
  have hown : s.vm.findClass RX7 = some m.cls := findClass_of_methodNamed B.named
  have hlocks := B.notSynchronized
  subst hsz
  have hl := lv_entry ([.ref a0, .int v1]) (n := 2) (Nat.le_of_ble_eq_true rfl)
  rw [lg_entry_eq]
  generalize (lg_sl ([.ref a0, .int v1]) ++ List.replicate (2 - (lg_sl ([.ref a0, .int v1])).length) Slot.unset).toArray = ls at hl ⊢
  have hl : lv_has ls 2 [(0, .ref a0), (1, .int v1)] := hl
  refine lv_iload_n hx hb dX7_hasVertex_0 rfl (lv_at hl 1 rfl) ?_
  refine lv_if_lt (tgt := 18) hx hb dX7_hasVertex_1 (by decide) (fun c1 => ?_) (fun c1 => ?_)
  · refine lv_iconst (v := 0) hx hb dX7_hasVertex_18 (by decide) ?_
    exact W.zret (v := 0) hx hb hr rfl (fun t ht hW => ⟨0, rfl, Or.inl rfl, ht⟩) (fun _ h => absurd h List.not_mem_nil) dX7_hasVertex_19
  · refine lv_iload_n hx hb dX7_hasVertex_4 rfl (lv_at hl 1 rfl) ?_
    refine lv_aload_n hx hb dX7_hasVertex_5 rfl (lv_at hl 0 rfl) ?_
    have he2 := ok_X7 hok ha0
    refine th_get hx hb (ly_X7 hE) hown hK hP ha0.1 he2 rfl 0 (by decide) (wd_149 hE) (fun _ h9 => h9) rfl dX7_hasVertex_6 ?_
    refine lv_iconst (v := 0) hx hb dX7_hasVertex_9 (by decide) ?_
    refine th_iald hx hb hK hP hok (wt_X7_0 hWT ha0) (n := 543) (wl_X7_0 hWT ha0) (by unfold vp_in; decide) dX7_hasVertex_10 (fun x3 => ?_)
    refine lv_icmp_ge (tgt := 18) hx hb dX7_hasVertex_11 (by decide) (fun c4 => ?_) (fun c4 => ?_)
    · refine lv_iconst (v := 0) hx hb dX7_hasVertex_18 (by decide) ?_
      exact W.zret (v := 0) hx hb hr rfl (fun t ht hW => ⟨0, rfl, Or.inl rfl, ht⟩) (fun _ h => absurd h List.not_mem_nil) dX7_hasVertex_19
    · refine lv_iconst (v := 1) hx hb dX7_hasVertex_14 (by decide) ?_
      refine lv_goto (tgt := 19) hx hb dX7_hasVertex_15 (by decide) ?_
      exact W.zret (v := 1) hx hb hr rfl (fun t ht hW => ⟨1, rfl, Or.inr rfl, ht⟩) (fun _ h => absurd h List.not_mem_nil) dX7_hasVertex_19

set_option maxHeartbeats 4000000 in
set_option maxRecDepth 100000 in
theorem t_X5_readPlace (l : Launch) (dC : Nat → ClassId) (dI : Nat → Nat → Nat) (sz : Nat) (G : GT) (cs : Nat → ClassId) (tt mm : Nat) (a0 : Nat) (ha0 : Ty G a0 5) : Met l yX5_readPlace [.code yX5_readPlace cX5_readPlace 2 (some .int)] ({ frames := 3, cells := 0, slots := 0, locals := 120 }) (PT [.ref a0] sz dC dI G cs tt mm (fun _ => True)) (va_Qi (fun (r : Int32) (u : Nat → va_E) => True) (BT dC dI G cs tt mm) (AT G sz)) 0 0 (AT G sz) := by
  refine Met.ofW (cc := cX5_readPlace) (maxL := 2) (ret := (some .int)) (by decide) rfl ?_
  intro p e s m args below meth c s₁ B hml hv
  obtain ⟨rfl, hsz, ⟨f0, hok, hP, hX⟩, hK, hnd, hWT, hE⟩ := hv
  have hx := B.exec
  have hb := B.bytes
  have hr := B.returns
  have hown : s.vm.findClass RX5 = some m.cls := findClass_of_methodNamed B.named
  have hlocks := B.notSynchronized
  subst hsz
  have hAL : ∀ a, a ∈ gL G → AT G s.heap.size a := fun a h => Or.inl h
  have hA : ∀ q : Nat, s.heap.size ≤ q → AT G s.heap.size q := fun q h => Or.inr h
  have hS : va_S (AT G s.heap.size) s.heap s.heap [] := va_S.rf
  have hl := lv_entry ([.ref a0]) (n := 2) (Nat.le_of_ble_eq_true rfl)
  rw [lg_entry_eq]
  generalize (lg_sl ([.ref a0]) ++ List.replicate (2 - (lg_sl ([.ref a0])).length) Slot.unset).toArray = ls at hl ⊢
  have hl : lv_has ls 2 [(0, .ref a0)] := hl
  refine lv_aload_n hx hb dX5_readPlace_0 rfl (lv_at hl 0 rfl) ?_
  obtain ⟨y3_1, y4_1, y5_1, y6_1, y7_1, y8_1, y9_1, he1⟩ := ok_X5 hok ha0
  refine vp_callSi (va_Run.run (va_runV (As := []) (rest := []) ⟨hx, hb, hml, hown, noTs⟩ (t_X5_value l dC dI s.heap.size G cs tt mm a0 ha0) ⟨cbE 0 (wd_569 hE) (wd_118 hE) (wd_566 hE) rfl rfl (by decide +kernel) ⟨Nat.le_of_ble_eq_true rfl, Nat.le_of_ble_eq_true rfl⟩, (wd_568 hE), (wd_11 hE)⟩ ⟨PT.blind, th_recv hK hP ha0.1 he1 rfl, (th_pre (av := [.ref a0]) trivial hK hP hok hnd hWT hE)⟩ rfl rfl hl.1 rfl (lv_room (Nat.le_of_ble_eq_true rfl)) dX5_readPlace_1 ⟨Nat.le_of_ble_eq_true rfl, Nat.le_of_ble_eq_true rfl⟩)) (fun r2 hr2 => ?_)
  refine lv_istore_n (lv' := [(1, .int r2), (0, .ref a0)]) hx hb dX5_readPlace_4 rfl hl (by decide) rfl (fun ls hl => ?_)
  refine lv_aload_n hx hb dX5_readPlace_5 rfl (lv_at hl 1 rfl) ?_
  refine th_get hx hb (ly_X5 hE) hown hK hP ha0.1 he1 rfl 7 (by decide) (wd_234 hE) (fun _ h9 => h9) rfl dX5_readPlace_6 ?_
  refine lv_if_ne (tgt := 37) hx hb dX5_readPlace_9 (by decide) (fun c3 => ?_) (fun c3 => ?_)
  · refine lv_iconst (v := -1) hx hb dX5_readPlace_37 (by decide) ?_
    exact W.iret (v := -1) hx hb hr (fun t ht hW => ⟨⟨-1, f0, rfl, trivial, hok, by rw [ht]; exact hP⟩, hS.F ht⟩) hS.2.2 dX5_readPlace_38
  · refine lv_aload_n hx hb dX5_readPlace_12 rfl (lv_at hl 1 rfl) ?_
    refine lv_bipush (v := 6) hx hb dX5_readPlace_13 (by decide) ?_
    refine tc_i hAL hS hA (va_runV (As := [.int 6]) (rest := []) ⟨hx, hb, hml, hown, noTs⟩ (t_X5_stands l dC dI s.heap.size G cs tt mm a0 ha0 6) ⟨cbE 1 (wd_577 hE) (wd_118 hE) (wd_574 hE) rfl rfl (by decide +kernel) ⟨Nat.le_of_ble_eq_true rfl, Nat.le_of_ble_eq_true rfl⟩, (wd_576 hE), (wd_12 hE)⟩ ⟨PT.blind, th_recv hK hP ha0.1 he1 rfl, (th_pre (av := [.ref a0, .int 6]) trivial hK hP hok hnd hWT hE)⟩ rfl rfl hl.1 rfl (lv_room (Nat.le_of_ble_eq_true rfl)) dX5_readPlace_15 ⟨Nat.le_of_ble_eq_true rfl, Nat.le_of_ble_eq_true rfl⟩) (fun r4 f4 H locs hr4 hok hP hS => ?_)
    refine lv_if_eq (tgt := 37) hx hb dX5_readPlace_18 (by decide) (fun c5 => ?_) (fun c5 => ?_)
    · refine lv_iconst (v := -1) hx hb dX5_readPlace_37 (by decide) ?_
      exact W.iret (v := -1) hx hb hr (fun t ht hW => ⟨⟨-1, f4, rfl, trivial, hok, by rw [ht]; exact hP⟩, hS.F ht⟩) hS.2.2 dX5_readPlace_38
    · refine lv_aload_n hx hb dX5_readPlace_21 rfl (lv_at hl 1 rfl) ?_
      refine lv_aload_n hx hb dX5_readPlace_22 rfl (lv_at hl 1 rfl) ?_
      obtain ⟨y3_6, y4_6, y5_6, y6_6, y7_6, y8_6, y9_6, he6⟩ := ok_X5 hok ha0
      refine th_get hx hb (ly_X5 hE) hown hK hP ha0.1 he6 rfl 1 (by decide) (wd_228 hE) (fun _ h9 => h9) rfl dX5_readPlace_23 ?_
      refine lv_iload_n hx hb dX5_readPlace_26 rfl (lv_at hl 0 rfl) ?_
      have he7 := ok_X7 hok (wt_X5_1 hWT ha0)
      refine vp_callSi (va_Run.run (va_runV (As := [.int r2]) (rest := [.ref a0]) ⟨hx, hb, hml, hown, noTs⟩ (t_X7_hasVertex l dC dI H.size G cs tt mm (gR G a0 1) ((wt_X5_1 hWT ha0)) r2) ⟨cbE 1 (wd_606 hE) (wd_116 hE) (wd_603 hE) rfl rfl (by decide +kernel) ⟨Nat.le_of_ble_eq_true rfl, Nat.le_of_ble_eq_true rfl⟩, (wd_604 hE), (wd_605 hE)⟩ ⟨PT.blind, th_recv hK hP (wt_X5_1 hWT ha0).1 he7 rfl, (th_pre (av := [.ref (gR G a0 1), .int r2]) trivial hK hP hok hnd hWT hE)⟩ rfl rfl hl.1 rfl (lv_room (Nat.le_of_ble_eq_true rfl)) dX5_readPlace_27 ⟨Nat.le_of_ble_eq_true rfl, Nat.le_of_ble_eq_true rfl⟩)) (fun r8 hr8 => ?_)
      refine lv_iconst (v := 3) hx hb dX5_readPlace_30 (by decide) ?_
      refine tc_i hAL hS hA (va_runV (As := [.int r8, .int 3]) (rest := []) ⟨hx, hb, hml, hown, noTs⟩ (t_X5_passes l dC dI H.size G cs tt mm a0 ha0 r8 3) ⟨cbE 2 (wd_561 hE) (wd_118 hE) (wd_558 hE) rfl rfl (by decide +kernel) ⟨Nat.le_of_ble_eq_true rfl, Nat.le_of_ble_eq_true rfl⟩, (wd_560 hE), (wd_10 hE)⟩ ⟨PT.blind, th_recv hK hP ha0.1 he6 rfl, (th_pre (av := [.ref a0, .int r8, .int 3]) trivial hK hP hok hnd hWT hE)⟩ rfl rfl hl.1 rfl (lv_room (Nat.le_of_ble_eq_true rfl)) dX5_readPlace_31 ⟨Nat.le_of_ble_eq_true rfl, Nat.le_of_ble_eq_true rfl⟩) (fun r9 f9 H locs hr9 hok hP hS => ?_)
      refine lv_if_ne (tgt := 39) hx hb dX5_readPlace_34 (by decide) (fun c10 => ?_) (fun c10 => ?_)
      · refine lv_aload_n hx hb dX5_readPlace_39 rfl (lv_at hl 1 rfl) ?_
        refine lv_dup hx hb dX5_readPlace_40 rfl ?_
        obtain ⟨y3_11, y4_11, y5_11, y6_11, y7_11, y8_11, y9_11, he11⟩ := ok_X5 hok ha0
        refine th_get hx hb (ly_X5 hE) hown hK hP ha0.1 he11 rfl 4 (by decide) (wd_231 hE) (fun _ h9 => h9) rfl dX5_readPlace_41 ?_
        refine lv_iconst (v := 1) hx hb dX5_readPlace_44 (by decide) ?_
        refine lv_iadd hx hb dX5_readPlace_45 ?_
        refine lv_topi (fun x12 ex12 => ?_)
        refine th_put (v := .int x12) (ty := .int) hx hb (ly_X5 hE) tyX5 tyX5_ok nmX5 hown hK hP hnd hAL hS ha0.1 he11 rfl 4 (by decide) (wd_231 hE) (fun _ h9 => h9) rfl (by decide +kernel) rfl rfl (Nat.le_of_ble_eq_true rfl) (up_X5 hok ha0 ⟨y3_11, x12, y5_11, y6_11, y7_11, y8_11, y9_11, rfl⟩) dX5_readPlace_46 (fun f13 H locs hfa13 hfo13 hok hP hS => ?_)
        refine lv_iload_n hx hb dX5_readPlace_49 rfl (lv_at hl 0 rfl) ?_
        exact W.iret (v := r2) hx hb hr (fun t ht hW => ⟨⟨r2, f13, rfl, trivial, hok, by rw [ht]; exact hP⟩, hS.F ht⟩) hS.2.2 dX5_readPlace_50
      · refine lv_iconst (v := -1) hx hb dX5_readPlace_37 (by decide) ?_
        exact W.iret (v := -1) hx hb hr (fun t ht hW => ⟨⟨-1, f9, rfl, trivial, hok, by rw [ht]; exact hP⟩, hS.F ht⟩) hS.2.2 dX5_readPlace_38

set_option maxHeartbeats 4000000 in
set_option maxRecDepth 100000 in
theorem t_X5_readIndex (l : Launch) (dC : Nat → ClassId) (dI : Nat → Nat → Nat) (sz : Nat) (G : GT) (cs : Nat → ClassId) (tt mm : Nat) (a0 : Nat) (ha0 : Ty G a0 5) (v1 : Int32) (v2 : Int32) : Met l yX5_readIndex [.code yX5_readIndex cX5_readIndex 6 (some .int)] ({ frames := 3, cells := 0, slots := 0, locals := 120 }) (PT [.ref a0, .int v1, .int v2] sz dC dI G cs tt mm (fun _ => True)) (va_Qi (fun (r : Int32) (u : Nat → va_E) => True) (BT dC dI G cs tt mm) (AT G sz)) 0 0 (AT G sz) := by
  refine Met.ofW (cc := cX5_readIndex) (maxL := 6) (ret := (some .int)) (by decide) rfl ?_
  intro p e s m args below meth c s₁ B hml hv
  obtain ⟨rfl, hsz, ⟨f0, hok, hP, hX⟩, hK, hnd, hWT, hE⟩ := hv
  have hx := B.exec
  have hb := B.bytes
  have hr := B.returns
  have hown : s.vm.findClass RX5 = some m.cls := findClass_of_methodNamed B.named
  have hlocks := B.notSynchronized
  subst hsz
  have hAL : ∀ a, a ∈ gL G → AT G s.heap.size a := fun a h => Or.inl h
  have hA : ∀ q : Nat, s.heap.size ≤ q → AT G s.heap.size q := fun q h => Or.inr h
  have hS : va_S (AT G s.heap.size) s.heap s.heap [] := va_S.rf
  have hl := lv_entry ([.ref a0, .int v1, .int v2]) (n := 6) (Nat.le_of_ble_eq_true rfl)
  rw [lg_entry_eq]
  generalize (lg_sl ([.ref a0, .int v1, .int v2]) ++ List.replicate (6 - (lg_sl ([.ref a0, .int v1, .int v2])).length) Slot.unset).toArray = ls at hl ⊢
  have hl : lv_has ls 6 [(0, .ref a0), (1, .int v1), (2, .int v2)] := hl
  refine lv_aload_n hx hb dX5_readIndex_0 rfl (lv_at hl 0 rfl) ?_
  obtain ⟨y3_1, y4_1, y5_1, y6_1, y7_1, y8_1, y9_1, he1⟩ := ok_X5 hok ha0
  refine vp_callSi (va_Run.run (va_runV (As := []) (rest := []) ⟨hx, hb, hml, hown, noTs⟩ (t_X5_value l dC dI s.heap.size G cs tt mm a0 ha0) ⟨cbE 0 (wd_569 hE) (wd_118 hE) (wd_566 hE) rfl rfl (by decide +kernel) ⟨Nat.le_of_ble_eq_true rfl, Nat.le_of_ble_eq_true rfl⟩, (wd_568 hE), (wd_11 hE)⟩ ⟨PT.blind, th_recv hK hP ha0.1 he1 rfl, (th_pre (av := [.ref a0]) trivial hK hP hok hnd hWT hE)⟩ rfl rfl hl.1 rfl (lv_room (Nat.le_of_ble_eq_true rfl)) dX5_readIndex_1 ⟨Nat.le_of_ble_eq_true rfl, Nat.le_of_ble_eq_true rfl⟩)) (fun r2 hr2 => ?_)
  refine lv_istore_n (lv' := [(3, .int r2), (0, .ref a0), (1, .int v1), (2, .int v2)]) hx hb dX5_readIndex_4 rfl hl (by decide) rfl (fun ls hl => ?_)
  refine lv_aload_n hx hb dX5_readIndex_5 rfl (lv_at hl 1 rfl) ?_
  refine th_get hx hb (ly_X5 hE) hown hK hP ha0.1 he1 rfl 7 (by decide) (wd_234 hE) (fun _ h9 => h9) rfl dX5_readIndex_6 ?_
  refine lv_if_ne (tgt := 21) hx hb dX5_readIndex_9 (by decide) (fun c3 => ?_) (fun c3 => ?_)
  · refine lv_iconst (v := -1) hx hb dX5_readIndex_21 (by decide) ?_
    exact W.iret (v := -1) hx hb hr (fun t ht hW => ⟨⟨-1, f0, rfl, trivial, hok, by rw [ht]; exact hP⟩, hS.F ht⟩) hS.2.2 dX5_readIndex_22
  · refine lv_aload_n hx hb dX5_readIndex_12 rfl (lv_at hl 1 rfl) ?_
    refine lv_bipush (v := 6) hx hb dX5_readIndex_13 (by decide) ?_
    refine tc_i hAL hS hA (va_runV (As := [.int 6]) (rest := []) ⟨hx, hb, hml, hown, noTs⟩ (t_X5_stands l dC dI s.heap.size G cs tt mm a0 ha0 6) ⟨cbE 1 (wd_577 hE) (wd_118 hE) (wd_574 hE) rfl rfl (by decide +kernel) ⟨Nat.le_of_ble_eq_true rfl, Nat.le_of_ble_eq_true rfl⟩, (wd_576 hE), (wd_12 hE)⟩ ⟨PT.blind, th_recv hK hP ha0.1 he1 rfl, (th_pre (av := [.ref a0, .int 6]) trivial hK hP hok hnd hWT hE)⟩ rfl rfl hl.1 rfl (lv_room (Nat.le_of_ble_eq_true rfl)) dX5_readIndex_15 ⟨Nat.le_of_ble_eq_true rfl, Nat.le_of_ble_eq_true rfl⟩) (fun r4 f4 H locs hr4 hok hP hS => ?_)
    refine lv_if_ne (tgt := 23) hx hb dX5_readIndex_18 (by decide) (fun c5 => ?_) (fun c5 => ?_)
    · refine lv_aload_n hx hb dX5_readIndex_23 rfl (lv_at hl 1 rfl) ?_
      obtain ⟨y3_6, y4_6, y5_6, y6_6, y7_6, y8_6, y9_6, he6⟩ := ok_X5 hok ha0
      refine th_get hx hb (ly_X5 hE) hown hK hP ha0.1 he6 rfl 1 (by decide) (wd_228 hE) (fun _ h9 => h9) rfl dX5_readIndex_24 ?_
      refine lv_iload_n hx hb dX5_readIndex_27 rfl (lv_at hl 2 rfl) ?_
      have he7 := ok_X7 hok (wt_X5_1 hWT ha0)
      refine vp_callSi (va_Run.run (va_runV (As := [.int v1]) (rest := []) ⟨hx, hb, hml, hown, noTs⟩ (t_X7_orderAt l dC dI H.size G cs tt mm (gR G a0 1) ((wt_X5_1 hWT ha0)) v1) ⟨cbE 1 (wd_614 hE) (wd_116 hE) (wd_611 hE) rfl rfl (by decide +kernel) ⟨Nat.le_of_ble_eq_true rfl, Nat.le_of_ble_eq_true rfl⟩, (wd_612 hE), (wd_613 hE)⟩ ⟨PT.blind, th_recv hK hP (wt_X5_1 hWT ha0).1 he7 rfl, (th_pre (av := [.ref (gR G a0 1), .int v1]) trivial hK hP hok hnd hWT hE)⟩ rfl rfl hl.1 rfl (lv_room (Nat.le_of_ble_eq_true rfl)) dX5_readIndex_28 ⟨Nat.le_of_ble_eq_true rfl, Nat.le_of_ble_eq_true rfl⟩)) (fun r8 hr8 => ?_)
      refine lv_istore (lv' := [(4, .int r8), (3, .int r2), (0, .ref a0), (1, .int v1), (2, .int v2)]) hx hb dX5_readIndex_31 hl (by decide) rfl (fun ls hl => ?_)
      refine lv_iload_n hx hb dX5_readIndex_33 rfl (lv_at hl 1 rfl) ?_
      refine lv_iconst (v := 1) hx hb dX5_readIndex_34 (by decide) ?_
      refine lv_icmp_lt (tgt := 51) hx hb dX5_readIndex_35 (by decide) (fun c9 => ?_) (fun c9 => ?_)
      · refine lv_iconst (v := 0) hx hb dX5_readIndex_51 (by decide) ?_
        refine lv_istore (lv' := [(5, .int 0), (4, .int r8), (3, .int r2), (0, .ref a0), (1, .int v1), (2, .int v2)]) hx hb dX5_readIndex_52 hl (by decide) rfl (fun ls hl => ?_)
        refine lv_aload_n hx hb dX5_readIndex_54 rfl (lv_at hl 3 rfl) ?_
        refine lv_iload hx hb dX5_readIndex_55 (lv_at hl 0 rfl) ?_
        refine lv_if_eq (tgt := 78) hx hb dX5_readIndex_57 (by decide) (fun c10 => ?_) (fun c10 => absurd c10 (by decide))
        refine lv_iconst (v := 0) hx hb dX5_readIndex_78 (by decide) ?_
        refine lv_iconst (v := 4) hx hb dX5_readIndex_79 (by decide) ?_
        refine tc_i hAL hS hA (va_runV (As := [.int 0, .int 4]) (rest := []) ⟨hx, hb, hml, hown, noTs⟩ (t_X5_passes l dC dI H.size G cs tt mm a0 ha0 0 4) ⟨cbE 2 (wd_561 hE) (wd_118 hE) (wd_558 hE) rfl rfl (by decide +kernel) ⟨Nat.le_of_ble_eq_true rfl, Nat.le_of_ble_eq_true rfl⟩, (wd_560 hE), (wd_10 hE)⟩ ⟨PT.blind, th_recv hK hP ha0.1 he6 rfl, (th_pre (av := [.ref a0, .int 0, .int 4]) trivial hK hP hok hnd hWT hE)⟩ rfl rfl hl.1 rfl (lv_room (Nat.le_of_ble_eq_true rfl)) dX5_readIndex_80 ⟨Nat.le_of_ble_eq_true rfl, Nat.le_of_ble_eq_true rfl⟩) (fun r11 f11 H locs hr11 hok hP hS => ?_)
        refine lv_if_ne (tgt := 88) hx hb dX5_readIndex_83 (by decide) (fun c12 => ?_) (fun c12 => ?_)
        · refine lv_aload_n hx hb dX5_readIndex_88 rfl (lv_at hl 3 rfl) ?_
          refine lv_dup hx hb dX5_readIndex_89 rfl ?_
          obtain ⟨y3_13, y4_13, y5_13, y6_13, y7_13, y8_13, y9_13, he13⟩ := ok_X5 hok ha0
          refine th_get hx hb (ly_X5 hE) hown hK hP ha0.1 he13 rfl 4 (by decide) (wd_231 hE) (fun _ h9 => h9) rfl dX5_readIndex_90 ?_
          refine lv_iconst (v := 1) hx hb dX5_readIndex_93 (by decide) ?_
          refine lv_iadd hx hb dX5_readIndex_94 ?_
          refine lv_topi (fun x14 ex14 => ?_)
          refine th_put (v := .int x14) (ty := .int) hx hb (ly_X5 hE) tyX5 tyX5_ok nmX5 hown hK hP hnd hAL hS ha0.1 he13 rfl 4 (by decide) (wd_231 hE) (fun _ h9 => h9) rfl (by decide +kernel) rfl rfl (Nat.le_of_ble_eq_true rfl) (up_X5 hok ha0 ⟨y3_13, x14, y5_13, y6_13, y7_13, y8_13, y9_13, rfl⟩) dX5_readIndex_95 (fun f15 H locs hfa15 hfo15 hok hP hS => ?_)
          refine lv_iload_n hx hb dX5_readIndex_98 rfl (lv_at hl 2 rfl) ?_
          exact W.iret (v := r2) hx hb hr (fun t ht hW => ⟨⟨r2, f15, rfl, trivial, hok, by rw [ht]; exact hP⟩, hS.F ht⟩) hS.2.2 dX5_readIndex_99
        · refine lv_iconst (v := -1) hx hb dX5_readIndex_86 (by decide) ?_
          exact W.iret (v := -1) hx hb hr (fun t ht hW => ⟨⟨-1, f11, rfl, trivial, hok, by rw [ht]; exact hP⟩, hS.F ht⟩) hS.2.2 dX5_readIndex_87
      · refine lv_iload hx hb dX5_readIndex_38 (lv_at hl 0 rfl) ?_
        refine lv_iload_n hx hb dX5_readIndex_40 rfl (lv_at hl 1 rfl) ?_
        refine vp_callSi (va_Run.run (va_runSN (As := [.int r8, .int r2]) (rest := []) ⟨hx, hb, hml, hown, noTs⟩ (t_X11_rest l dC dI H.size G cs tt mm r8 r2) ⟨cnE 2 (wd_617 hE) (wd_115 hE) (wd_615 hE) rfl rfl (by decide +kernel) ⟨Nat.le_of_ble_eq_true rfl, Nat.le_of_ble_eq_true rfl⟩, (wd_616 hE), trivial⟩ ⟨PT.blind, (th_pre (av := [.int r8, .int r2]) trivial hK hP hok hnd hWT hE)⟩ rfl rfl hl.1 rfl (lv_room (Nat.le_of_ble_eq_true rfl)) dX5_readIndex_41 ⟨Nat.le_of_ble_eq_true rfl, Nat.le_of_ble_eq_true rfl⟩)) (fun r16 hr16 => ?_)
        obtain ⟨hra16, hrb16⟩ := hr16
        refine lv_if_ne (tgt := 51) hx hb dX5_readIndex_44 (by decide) (fun c17 => ?_) (fun c17 => ?_)
        · refine lv_iconst (v := 0) hx hb dX5_readIndex_51 (by decide) ?_
          refine lv_istore (lv' := [(5, .int 0), (4, .int r8), (3, .int r2), (0, .ref a0), (1, .int v1), (2, .int v2)]) hx hb dX5_readIndex_52 hl (by decide) rfl (fun ls hl => ?_)
          refine lv_aload_n hx hb dX5_readIndex_54 rfl (lv_at hl 3 rfl) ?_
          refine lv_iload hx hb dX5_readIndex_55 (lv_at hl 0 rfl) ?_
          refine lv_if_eq (tgt := 78) hx hb dX5_readIndex_57 (by decide) (fun c18 => ?_) (fun c18 => absurd c18 (by decide))
          refine lv_iconst (v := 0) hx hb dX5_readIndex_78 (by decide) ?_
          refine lv_iconst (v := 4) hx hb dX5_readIndex_79 (by decide) ?_
          refine tc_i hAL hS hA (va_runV (As := [.int 0, .int 4]) (rest := []) ⟨hx, hb, hml, hown, noTs⟩ (t_X5_passes l dC dI H.size G cs tt mm a0 ha0 0 4) ⟨cbE 2 (wd_561 hE) (wd_118 hE) (wd_558 hE) rfl rfl (by decide +kernel) ⟨Nat.le_of_ble_eq_true rfl, Nat.le_of_ble_eq_true rfl⟩, (wd_560 hE), (wd_10 hE)⟩ ⟨PT.blind, th_recv hK hP ha0.1 he6 rfl, (th_pre (av := [.ref a0, .int 0, .int 4]) trivial hK hP hok hnd hWT hE)⟩ rfl rfl hl.1 rfl (lv_room (Nat.le_of_ble_eq_true rfl)) dX5_readIndex_80 ⟨Nat.le_of_ble_eq_true rfl, Nat.le_of_ble_eq_true rfl⟩) (fun r19 f19 H locs hr19 hok hP hS => ?_)
          refine lv_if_ne (tgt := 88) hx hb dX5_readIndex_83 (by decide) (fun c20 => ?_) (fun c20 => ?_)
          · refine lv_aload_n hx hb dX5_readIndex_88 rfl (lv_at hl 3 rfl) ?_
            refine lv_dup hx hb dX5_readIndex_89 rfl ?_
            obtain ⟨y3_21, y4_21, y5_21, y6_21, y7_21, y8_21, y9_21, he21⟩ := ok_X5 hok ha0
            refine th_get hx hb (ly_X5 hE) hown hK hP ha0.1 he21 rfl 4 (by decide) (wd_231 hE) (fun _ h9 => h9) rfl dX5_readIndex_90 ?_
            refine lv_iconst (v := 1) hx hb dX5_readIndex_93 (by decide) ?_
            refine lv_iadd hx hb dX5_readIndex_94 ?_
            refine lv_topi (fun x22 ex22 => ?_)
            refine th_put (v := .int x22) (ty := .int) hx hb (ly_X5 hE) tyX5 tyX5_ok nmX5 hown hK hP hnd hAL hS ha0.1 he21 rfl 4 (by decide) (wd_231 hE) (fun _ h9 => h9) rfl (by decide +kernel) rfl rfl (Nat.le_of_ble_eq_true rfl) (up_X5 hok ha0 ⟨y3_21, x22, y5_21, y6_21, y7_21, y8_21, y9_21, rfl⟩) dX5_readIndex_95 (fun f23 H locs hfa23 hfo23 hok hP hS => ?_)
            refine lv_iload_n hx hb dX5_readIndex_98 rfl (lv_at hl 2 rfl) ?_
            exact W.iret (v := r2) hx hb hr (fun t ht hW => ⟨⟨r2, f23, rfl, trivial, hok, by rw [ht]; exact hP⟩, hS.F ht⟩) hS.2.2 dX5_readIndex_99
          · refine lv_iconst (v := -1) hx hb dX5_readIndex_86 (by decide) ?_
            exact W.iret (v := -1) hx hb hr (fun t ht hW => ⟨⟨-1, f19, rfl, trivial, hok, by rw [ht]; exact hP⟩, hS.F ht⟩) hS.2.2 dX5_readIndex_87
        · refine lv_iconst (v := 1) hx hb dX5_readIndex_47 (by decide) ?_
          refine lv_goto (tgt := 52) hx hb dX5_readIndex_48 (by decide) ?_
          refine lv_istore (lv' := [(5, .int 1), (4, .int r8), (3, .int r2), (0, .ref a0), (1, .int v1), (2, .int v2)]) hx hb dX5_readIndex_52 hl (by decide) rfl (fun ls hl => ?_)
          refine lv_aload_n hx hb dX5_readIndex_54 rfl (lv_at hl 3 rfl) ?_
          refine lv_iload hx hb dX5_readIndex_55 (lv_at hl 0 rfl) ?_
          refine lv_if_eq (tgt := 78) hx hb dX5_readIndex_57 (by decide) (fun c24 => absurd c24 (by decide)) (fun c24 => ?_)
          refine lv_iload_n hx hb dX5_readIndex_60 rfl (lv_at hl 5 rfl) ?_
          refine lv_if_eq (tgt := 74) hx hb dX5_readIndex_61 (by decide) (fun c25 => ?_) (fun c25 => ?_)
          · refine lv_iconst (v := 1) hx hb dX5_readIndex_74 (by decide) ?_
            refine lv_goto (tgt := 79) hx hb dX5_readIndex_75 (by decide) ?_
            refine lv_iconst (v := 4) hx hb dX5_readIndex_79 (by decide) ?_
            refine tc_i hAL hS hA (va_runV (As := [.int 1, .int 4]) (rest := []) ⟨hx, hb, hml, hown, noTs⟩ (t_X5_passes l dC dI H.size G cs tt mm a0 ha0 1 4) ⟨cbE 2 (wd_561 hE) (wd_118 hE) (wd_558 hE) rfl rfl (by decide +kernel) ⟨Nat.le_of_ble_eq_true rfl, Nat.le_of_ble_eq_true rfl⟩, (wd_560 hE), (wd_10 hE)⟩ ⟨PT.blind, th_recv hK hP ha0.1 he6 rfl, (th_pre (av := [.ref a0, .int 1, .int 4]) trivial hK hP hok hnd hWT hE)⟩ rfl rfl hl.1 rfl (lv_room (Nat.le_of_ble_eq_true rfl)) dX5_readIndex_80 ⟨Nat.le_of_ble_eq_true rfl, Nat.le_of_ble_eq_true rfl⟩) (fun r26 f26 H locs hr26 hok hP hS => ?_)
            refine lv_if_ne (tgt := 88) hx hb dX5_readIndex_83 (by decide) (fun c27 => ?_) (fun c27 => ?_)
            · refine lv_aload_n hx hb dX5_readIndex_88 rfl (lv_at hl 3 rfl) ?_
              refine lv_dup hx hb dX5_readIndex_89 rfl ?_
              obtain ⟨y3_28, y4_28, y5_28, y6_28, y7_28, y8_28, y9_28, he28⟩ := ok_X5 hok ha0
              refine th_get hx hb (ly_X5 hE) hown hK hP ha0.1 he28 rfl 4 (by decide) (wd_231 hE) (fun _ h9 => h9) rfl dX5_readIndex_90 ?_
              refine lv_iconst (v := 1) hx hb dX5_readIndex_93 (by decide) ?_
              refine lv_iadd hx hb dX5_readIndex_94 ?_
              refine lv_topi (fun x29 ex29 => ?_)
              refine th_put (v := .int x29) (ty := .int) hx hb (ly_X5 hE) tyX5 tyX5_ok nmX5 hown hK hP hnd hAL hS ha0.1 he28 rfl 4 (by decide) (wd_231 hE) (fun _ h9 => h9) rfl (by decide +kernel) rfl rfl (Nat.le_of_ble_eq_true rfl) (up_X5 hok ha0 ⟨y3_28, x29, y5_28, y6_28, y7_28, y8_28, y9_28, rfl⟩) dX5_readIndex_95 (fun f30 H locs hfa30 hfo30 hok hP hS => ?_)
              refine lv_iload_n hx hb dX5_readIndex_98 rfl (lv_at hl 2 rfl) ?_
              exact W.iret (v := r2) hx hb hr (fun t ht hW => ⟨⟨r2, f30, rfl, trivial, hok, by rw [ht]; exact hP⟩, hS.F ht⟩) hS.2.2 dX5_readIndex_99
            · refine lv_iconst (v := -1) hx hb dX5_readIndex_86 (by decide) ?_
              exact W.iret (v := -1) hx hb hr (fun t ht hW => ⟨⟨-1, f26, rfl, trivial, hok, by rw [ht]; exact hP⟩, hS.F ht⟩) hS.2.2 dX5_readIndex_87
          · refine lv_iload hx hb dX5_readIndex_64 (lv_at hl 1 rfl) ?_
            refine lv_iload_n hx hb dX5_readIndex_66 rfl (lv_at hl 2 rfl) ?_
            refine vp_callSi (va_Run.run (va_runSN (As := [.int r8, .int r2]) (rest := [.ref a0]) ⟨hx, hb, hml, hown, noTs⟩ (t_X11_share l dC dI H.size G cs tt mm r8 r2) ⟨cnE 2 (wd_620 hE) (wd_115 hE) (wd_618 hE) rfl rfl (by decide +kernel) ⟨Nat.le_of_ble_eq_true rfl, Nat.le_of_ble_eq_true rfl⟩, (wd_619 hE), trivial⟩ ⟨PT.blind, (th_pre (av := [.int r8, .int r2]) trivial hK hP hok hnd hWT hE)⟩ rfl rfl hl.1 rfl (lv_room (Nat.le_of_ble_eq_true rfl)) dX5_readIndex_67 ⟨Nat.le_of_ble_eq_true rfl, Nat.le_of_ble_eq_true rfl⟩)) (fun r31 hr31 => ?_)
            refine lv_iload_n hx hb dX5_readIndex_70 rfl (lv_at hl 5 rfl) ?_
            refine lv_icmp_ne (tgt := 78) hx hb dX5_readIndex_71 (by decide) (fun c32 => ?_) (fun c32 => ?_)
            · refine lv_iconst (v := 0) hx hb dX5_readIndex_78 (by decide) ?_
              refine lv_iconst (v := 4) hx hb dX5_readIndex_79 (by decide) ?_
              refine tc_i hAL hS hA (va_runV (As := [.int 0, .int 4]) (rest := []) ⟨hx, hb, hml, hown, noTs⟩ (t_X5_passes l dC dI H.size G cs tt mm a0 ha0 0 4) ⟨cbE 2 (wd_561 hE) (wd_118 hE) (wd_558 hE) rfl rfl (by decide +kernel) ⟨Nat.le_of_ble_eq_true rfl, Nat.le_of_ble_eq_true rfl⟩, (wd_560 hE), (wd_10 hE)⟩ ⟨PT.blind, th_recv hK hP ha0.1 he6 rfl, (th_pre (av := [.ref a0, .int 0, .int 4]) trivial hK hP hok hnd hWT hE)⟩ rfl rfl hl.1 rfl (lv_room (Nat.le_of_ble_eq_true rfl)) dX5_readIndex_80 ⟨Nat.le_of_ble_eq_true rfl, Nat.le_of_ble_eq_true rfl⟩) (fun r33 f33 H locs hr33 hok hP hS => ?_)
              refine lv_if_ne (tgt := 88) hx hb dX5_readIndex_83 (by decide) (fun c34 => ?_) (fun c34 => ?_)
              · refine lv_aload_n hx hb dX5_readIndex_88 rfl (lv_at hl 3 rfl) ?_
                refine lv_dup hx hb dX5_readIndex_89 rfl ?_
                obtain ⟨y3_35, y4_35, y5_35, y6_35, y7_35, y8_35, y9_35, he35⟩ := ok_X5 hok ha0
                refine th_get hx hb (ly_X5 hE) hown hK hP ha0.1 he35 rfl 4 (by decide) (wd_231 hE) (fun _ h9 => h9) rfl dX5_readIndex_90 ?_
                refine lv_iconst (v := 1) hx hb dX5_readIndex_93 (by decide) ?_
                refine lv_iadd hx hb dX5_readIndex_94 ?_
                refine lv_topi (fun x36 ex36 => ?_)
                refine th_put (v := .int x36) (ty := .int) hx hb (ly_X5 hE) tyX5 tyX5_ok nmX5 hown hK hP hnd hAL hS ha0.1 he35 rfl 4 (by decide) (wd_231 hE) (fun _ h9 => h9) rfl (by decide +kernel) rfl rfl (Nat.le_of_ble_eq_true rfl) (up_X5 hok ha0 ⟨y3_35, x36, y5_35, y6_35, y7_35, y8_35, y9_35, rfl⟩) dX5_readIndex_95 (fun f37 H locs hfa37 hfo37 hok hP hS => ?_)
                refine lv_iload_n hx hb dX5_readIndex_98 rfl (lv_at hl 2 rfl) ?_
                exact W.iret (v := r2) hx hb hr (fun t ht hW => ⟨⟨r2, f37, rfl, trivial, hok, by rw [ht]; exact hP⟩, hS.F ht⟩) hS.2.2 dX5_readIndex_99
              · refine lv_iconst (v := -1) hx hb dX5_readIndex_86 (by decide) ?_
                exact W.iret (v := -1) hx hb hr (fun t ht hW => ⟨⟨-1, f33, rfl, trivial, hok, by rw [ht]; exact hP⟩, hS.F ht⟩) hS.2.2 dX5_readIndex_87
            · refine lv_iconst (v := 1) hx hb dX5_readIndex_74 (by decide) ?_
              refine lv_goto (tgt := 79) hx hb dX5_readIndex_75 (by decide) ?_
              refine lv_iconst (v := 4) hx hb dX5_readIndex_79 (by decide) ?_
              refine tc_i hAL hS hA (va_runV (As := [.int 1, .int 4]) (rest := []) ⟨hx, hb, hml, hown, noTs⟩ (t_X5_passes l dC dI H.size G cs tt mm a0 ha0 1 4) ⟨cbE 2 (wd_561 hE) (wd_118 hE) (wd_558 hE) rfl rfl (by decide +kernel) ⟨Nat.le_of_ble_eq_true rfl, Nat.le_of_ble_eq_true rfl⟩, (wd_560 hE), (wd_10 hE)⟩ ⟨PT.blind, th_recv hK hP ha0.1 he6 rfl, (th_pre (av := [.ref a0, .int 1, .int 4]) trivial hK hP hok hnd hWT hE)⟩ rfl rfl hl.1 rfl (lv_room (Nat.le_of_ble_eq_true rfl)) dX5_readIndex_80 ⟨Nat.le_of_ble_eq_true rfl, Nat.le_of_ble_eq_true rfl⟩) (fun r38 f38 H locs hr38 hok hP hS => ?_)
              refine lv_if_ne (tgt := 88) hx hb dX5_readIndex_83 (by decide) (fun c39 => ?_) (fun c39 => ?_)
              · refine lv_aload_n hx hb dX5_readIndex_88 rfl (lv_at hl 3 rfl) ?_
                refine lv_dup hx hb dX5_readIndex_89 rfl ?_
                obtain ⟨y3_40, y4_40, y5_40, y6_40, y7_40, y8_40, y9_40, he40⟩ := ok_X5 hok ha0
                refine th_get hx hb (ly_X5 hE) hown hK hP ha0.1 he40 rfl 4 (by decide) (wd_231 hE) (fun _ h9 => h9) rfl dX5_readIndex_90 ?_
                refine lv_iconst (v := 1) hx hb dX5_readIndex_93 (by decide) ?_
                refine lv_iadd hx hb dX5_readIndex_94 ?_
                refine lv_topi (fun x41 ex41 => ?_)
                refine th_put (v := .int x41) (ty := .int) hx hb (ly_X5 hE) tyX5 tyX5_ok nmX5 hown hK hP hnd hAL hS ha0.1 he40 rfl 4 (by decide) (wd_231 hE) (fun _ h9 => h9) rfl (by decide +kernel) rfl rfl (Nat.le_of_ble_eq_true rfl) (up_X5 hok ha0 ⟨y3_40, x41, y5_40, y6_40, y7_40, y8_40, y9_40, rfl⟩) dX5_readIndex_95 (fun f42 H locs hfa42 hfo42 hok hP hS => ?_)
                refine lv_iload_n hx hb dX5_readIndex_98 rfl (lv_at hl 2 rfl) ?_
                exact W.iret (v := r2) hx hb hr (fun t ht hW => ⟨⟨r2, f42, rfl, trivial, hok, by rw [ht]; exact hP⟩, hS.F ht⟩) hS.2.2 dX5_readIndex_99
              · refine lv_iconst (v := -1) hx hb dX5_readIndex_86 (by decide) ?_
                exact W.iret (v := -1) hx hb hr (fun t ht hW => ⟨⟨-1, f38, rfl, trivial, hok, by rw [ht]; exact hP⟩, hS.F ht⟩) hS.2.2 dX5_readIndex_87
    · refine lv_iconst (v := -1) hx hb dX5_readIndex_21 (by decide) ?_
      exact W.iret (v := -1) hx hb hr (fun t ht hW => ⟨⟨-1, f4, rfl, trivial, hok, by rw [ht]; exact hP⟩, hS.F ht⟩) hS.2.2 dX5_readIndex_22
