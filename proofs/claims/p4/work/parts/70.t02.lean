set_option maxHeartbeats 4000000 in
set_option maxRecDepth 100000 in
theorem t_X1_placeOf (l : Launch) (dC : Nat → ClassId) (dI : Nat → Nat → Nat) (sz : Nat) (G : GT) (cs : Nat → ClassId) (tt mm : Nat) (a0 : Nat) (ha0 : Ty G a0 2) (a1 : Nat) (ha1 : Ty G a1 7) (a2 : Nat) (ha2 : Ty G a2 10) : Met l yX1_placeOf [.code yX1_placeOf cX1_placeOf 11 (some .long)] ({ frames := 5, cells := 0, slots := 0, locals := 200 }) (PT [.ref a0, .ref a1, .ref a2] sz dC dI G cs tt mm (fun f => ∃ yy nn, nn ≤ 12 ∧ f a2 = .inr (9, [.ref (gR G a2 0), .ref (gR G a2 1), .int yy, .int (nI nn)]))) (va_Ql (fun (r : Int64) (u : Nat → va_E) => True) (BT dC dI G cs tt mm) (AT G sz)) 0 0 (AT G sz) := by
  refine Met.ofW (cc := cX1_placeOf) (maxL := 11) (ret := (some .long)) (by decide) rfl ?_
  intro p e s m args below meth c s₁ B hml hv
  obtain ⟨rfl, hsz, ⟨f0, hok, hP, hX⟩, hK, hnd, hWT, hE⟩ := hv
  have hx := B.exec
  have hb := B.bytes
  have hr := B.returns
  have hown : s.vm.findClass RX1 = some m.cls := findClass_of_methodNamed B.named
  have hlocks := B.notSynchronized
  subst hsz
  have hAL : ∀ a, a ∈ gL G → AT G s.heap.size a := fun a h => Or.inl h
  have hA : ∀ q : Nat, s.heap.size ≤ q → AT G s.heap.size q := fun q h => Or.inr h
  have hS : va_S (AT G s.heap.size) s.heap s.heap [] := va_S.rf
  have hl := lv_entry ([.ref a0, .ref a1, .ref a2]) (n := 11) (Nat.le_of_ble_eq_true rfl)
  rw [lg_entry_eq]
  generalize (lg_sl ([.ref a0, .ref a1, .ref a2]) ++ List.replicate (11 - (lg_sl ([.ref a0, .ref a1, .ref a2])).length) Slot.unset).toArray = ls at hl ⊢
  have hl : lv_has ls 11 [(0, .ref a0), (1, .ref a1), (2, .ref a2)] := hl
  obtain ⟨yy, nn, hnn, hX⟩ := hX
  refine lv_aload_n hx hb dX1_placeOf_0 rfl (lv_at hl 2 rfl) ?_
  refine vp_callSi (va_Run.run (va_runV (As := []) (rest := []) ⟨hx, hb, hml, hown, noTs⟩ (t_X10_size l dC dI s.heap.size G cs tt mm a2 ha2 yy nn) ⟨cbE 0 (wd_666 hE) (wd_120 hE) (wd_1025 hE) rfl rfl (by decide +kernel) ⟨Nat.le_of_ble_eq_true rfl, Nat.le_of_ble_eq_true rfl⟩, (wd_664 hE), (wd_665 hE)⟩ ⟨PT.blind, th_recv hK hP ha2.1 hX rfl, (th_pre (av := [.ref a2]) hX hK hP hok hnd hWT hE)⟩ rfl rfl hl.1 rfl (lv_room (Nat.le_of_ble_eq_true rfl)) dX1_placeOf_1 ⟨Nat.le_of_ble_eq_true rfl, Nat.le_of_ble_eq_true rfl⟩)) (fun r1 hr1 => ?_)
  subst hr1
  refine lv_istore_n (lv' := [(3, .int (nI nn)), (0, .ref a0), (1, .ref a1), (2, .ref a2)]) hx hb dX1_placeOf_4 rfl hl (by decide) rfl (fun ls hl => ?_)
  refine lv_aload_n hx hb dX1_placeOf_5 rfl (lv_at hl 1 rfl) ?_
  refine lv_aload_n hx hb dX1_placeOf_6 rfl (lv_at hl 2 rfl) ?_
  refine lv_aload_n hx hb dX1_placeOf_7 rfl (lv_at hl 3 rfl) ?_
  refine vp_callSi (va_Run.run (va_runV (As := []) (rest := [.ref a1, .ref a0]) ⟨hx, hb, hml, hown, noTs⟩ (t_X10_begin l dC dI s.heap.size G cs tt mm a2 ha2) ⟨cbE 0 (wd_713 hE) (wd_120 hE) (wd_1299 hE) rfl rfl (by decide +kernel) ⟨Nat.le_of_ble_eq_true rfl, Nat.le_of_ble_eq_true rfl⟩, (wd_711 hE), (wd_712 hE)⟩ ⟨PT.blind, th_recv hK hP ha2.1 hX rfl, (th_pre (av := [.ref a2]) trivial hK hP hok hnd hWT hE)⟩ rfl rfl hl.1 rfl (lv_room (Nat.le_of_ble_eq_true rfl)) dX1_placeOf_8 ⟨Nat.le_of_ble_eq_true rfl, Nat.le_of_ble_eq_true rfl⟩)) (fun r2 hr2 => ?_)
  refine lv_iload_n hx hb dX1_placeOf_11 rfl (lv_at hl 0 rfl) ?_
  have nt3 : (nI nn).toInt = ((nn : Nat) : Int) := nI_toInt (by omega)
  have he4 := ok_X1 hok ha0
  refine tc_v hAL hS hA (va_runV (As := [.ref a1, .int r2, .int (nI nn)]) (rest := []) ⟨hx, hb, hml, hown, noTs⟩ (t_X1_fillLoops l dC dI s.heap.size G cs tt mm a0 ha0 a1 ha1 r2 (nI nn) (by first | omega | (simp only [i_lt, i_le, i_eq, ti_m9, ti_m1, ti_0, ti_1, ti_2, ti_3, ti_4, ti_5, ti_6, ti_7, ti_9, ti_12, ti_20, ti_99, ti_700, ti_24, ti_156, ti_72, ti_8, ti_60, ti_543, ti_10, ti_33, ti_51, ti_178, ti_119, ti_111, ti_114, ti_100, ti_32, ti_62, ti_59, ti_48, ti_701, ti_97, ti_122, ti_57, ti_73, ti_128, nt3]; omega)) (by first | omega | (simp only [i_lt, i_le, i_eq, ti_m9, ti_m1, ti_0, ti_1, ti_2, ti_3, ti_4, ti_5, ti_6, ti_7, ti_9, ti_12, ti_20, ti_99, ti_700, ti_24, ti_156, ti_72, ti_8, ti_60, ti_543, ti_10, ti_33, ti_51, ti_178, ti_119, ti_111, ti_114, ti_100, ti_32, ti_62, ti_59, ti_48, ti_701, ti_97, ti_122, ti_57, ti_73, ti_128, nt3]; omega))) ⟨cbE 3 (wd_983 hE) (wd_125 hE) (wd_980 hE) rfl rfl (by decide +kernel) ⟨Nat.le_of_ble_eq_true rfl, Nat.le_of_ble_eq_true rfl⟩, (wd_982 hE), (wd_32 hE)⟩ ⟨PT.blind, th_recv hK hP ha0.1 he4 rfl, (th_pre (av := [.ref a0, .ref a1, .int r2, .int (nI nn)]) trivial hK hP hok hnd hWT hE)⟩ rfl rfl hl.1 rfl (lv_room (Nat.le_of_ble_eq_true rfl)) dX1_placeOf_12 ⟨Nat.le_of_ble_eq_true rfl, Nat.le_of_ble_eq_true rfl⟩) (fun f5 H locs hr5 hok hP hS => ?_)
  refine lv_lconst (v := 0) hx hb dX1_placeOf_15 (by decide) ?_
  refine lv_lstore (lv' := [(4, .long 0), (3, .int (nI nn)), (0, .ref a0), (1, .ref a1), (2, .ref a2)]) hx hb dX1_placeOf_16 hl (by decide) rfl (fun ls hl => ?_)
  refine lv_bipush (v := 12) hx hb dX1_placeOf_18 (by decide) ?_
  refine lv_istore (lv' := [(6, .int 12), (4, .long 0), (3, .int (nI nn)), (0, .ref a0), (1, .ref a1), (2, .ref a2)]) hx hb dX1_placeOf_20 hl (by decide) rfl (fun ls hl => ?_)
  refine lv_iconst (v := 0) hx hb dX1_placeOf_22 (by decide) ?_
  refine lv_istore (lv' := [(7, .int 0), (6, .int 12), (4, .long 0), (3, .int (nI nn)), (0, .ref a0), (1, .ref a1), (2, .ref a2)]) hx hb dX1_placeOf_23 hl (by decide) rfl (fun ls hl => ?_)
  refine w_ind (I := fun n f H locs ls => OKT G cs tt mm f ∧ va_P (dC, dI) vwCl (va_pl (gL G) f) H ∧ va_S (AT G s.heap.size) s.heap H locs ∧ ∃ (w4_6 : Int64) (w6_6 : Int32) (w7_6 : Int32), n = (2147483647 - w7_6.toInt).toNat ∧ 0 ≤ w7_6 ∧ lv_has ls 11 [(0, .ref a0), (1, .ref a1), (2, .ref a2), (3, .int (nI nn)), (4, .long w4_6), (6, .int w6_6), (7, .int w7_6)]) (fun n f6 H locs ls hI ih6 => ?_) _ f5 _ _ _ ⟨hok, hP, hS, 0, 12, 0, rfl, (by first | omega | (simp only [i_lt, i_le, i_eq, ti_m9, ti_m1, ti_0, ti_1, ti_2, ti_3, ti_4, ti_5, ti_6, ti_7, ti_9, ti_12, ti_20, ti_99, ti_700, ti_24, ti_156, ti_72, ti_8, ti_60, ti_543, ti_10, ti_33, ti_51, ti_178, ti_119, ti_111, ti_114, ti_100, ti_32, ti_62, ti_59, ti_48, ti_701, ti_97, ti_122, ti_57, ti_73, ti_128, nt3]; omega)), lv_sub hl [4, 5, 6, 3, 2, 1, 0] rfl⟩
  obtain ⟨hok, hP, hS, w4_6, w6_6, w7_6, hmu6, hlo6, hl⟩ := hI
  subst hmu6
  refine lv_iload hx hb dX1_placeOf_25 (lv_at hl 6 rfl) ?_
  refine lv_iload_n hx hb dX1_placeOf_27 rfl (lv_at hl 3 rfl) ?_
  refine lv_icmp_ge (tgt := 161) hx hb dX1_placeOf_28 (by decide) (fun c7 => ?_) (fun c7 => ?_)
  · refine lv_lload hx hb dX1_placeOf_161 (lv_at hl 4 rfl) ?_
    refine lv_aload_n hx hb dX1_placeOf_163 rfl (lv_at hl 2 rfl) ?_
    obtain ⟨y2_8, y3_8, hy3_8, he8⟩ := ok_X10 hok ha2
    refine vp_callSi (va_Run.run (va_runV (As := []) (rest := [.long w4_6]) ⟨hx, hb, hml, hown, noTs⟩ (t_X10_lastNumber l dC dI H.size G cs tt mm a2 ha2) ⟨cbE 0 (wd_649 hE) (wd_120 hE) (wd_1302 hE) rfl rfl (by decide +kernel) ⟨Nat.le_of_ble_eq_true rfl, Nat.le_of_ble_eq_true rfl⟩, (wd_647 hE), (wd_648 hE)⟩ ⟨PT.blind, th_recv hK hP ha2.1 he8 rfl, (th_pre (av := [.ref a2]) trivial hK hP hok hnd hWT hE)⟩ rfl rfl hl.1 rfl (lv_room (Nat.le_of_ble_eq_true rfl)) dX1_placeOf_164 ⟨Nat.le_of_ble_eq_true rfl, Nat.le_of_ble_eq_true rfl⟩)) (fun r9 hr9 => ?_)
    refine lv_i2l hx hb dX1_placeOf_167 rfl ?_
    refine lv_topl (fun x10 _ => ?_)
    refine lv_ladd hx hb dX1_placeOf_168 ?_
    refine lv_topl (fun x11 _ => ?_)
    refine vp_callSl (va_Run.run (va_runSN (As := [.long x11]) (rest := []) ⟨hx, hb, hml, hown, noTs⟩ (t_X11_atMostTold l dC dI H.size G cs tt mm x11) ⟨cnE 1 (wd_1009 hE) (wd_115 hE) (wd_1007 hE) rfl rfl (by decide +kernel) ⟨Nat.le_of_ble_eq_true rfl, Nat.le_of_ble_eq_true rfl⟩, (wd_1008 hE), trivial⟩ ⟨PT.blind, (th_pre (av := [.long x11]) trivial hK hP hok hnd hWT hE)⟩ rfl rfl hl.1 rfl (lv_room (Nat.le_of_ble_eq_true rfl)) dX1_placeOf_169 ⟨Nat.le_of_ble_eq_true rfl, Nat.le_of_ble_eq_true rfl⟩)) (fun r12 hr12 => ?_)
    exact W.lret (v := r12) hx hb hr (fun t ht hW => ⟨⟨r12, f6, rfl, trivial, hok, by rw [ht]; exact hP⟩, hS.F ht⟩) hS.2.2 dX1_placeOf_172
  · refine lv_aload_n hx hb dX1_placeOf_31 rfl (lv_at hl 2 rfl) ?_
    refine lv_iload hx hb dX1_placeOf_32 (lv_at hl 6 rfl) ?_
    obtain ⟨y2_13, y3_13, hy3_13, he13⟩ := ok_X10 hok ha2
    refine vp_callSi (va_Run.run (va_runV (As := [.int w7_6]) (rest := []) ⟨hx, hb, hml, hown, noTs⟩ (t_X10_stepAt l dC dI H.size G cs tt mm a2 ha2 w7_6) ⟨cbE 1 (wd_721 hE) (wd_120 hE) (wd_1300 hE) rfl rfl (by decide +kernel) ⟨Nat.le_of_ble_eq_true rfl, Nat.le_of_ble_eq_true rfl⟩, (wd_719 hE), (wd_720 hE)⟩ ⟨PT.blind, th_recv hK hP ha2.1 he13 rfl, (th_pre (av := [.ref a2, .int w7_6]) trivial hK hP hok hnd hWT hE)⟩ rfl rfl hl.1 rfl (lv_room (Nat.le_of_ble_eq_true rfl)) dX1_placeOf_34 ⟨Nat.le_of_ble_eq_true rfl, Nat.le_of_ble_eq_true rfl⟩)) (fun r14 hr14 => ?_)
    refine lv_istore (lv' := [(8, .int r14), (0, .ref a0), (1, .ref a1), (2, .ref a2), (3, .int (nI nn)), (4, .long w4_6), (6, .int w6_6), (7, .int w7_6)]) hx hb dX1_placeOf_37 hl (by decide) rfl (fun ls hl => ?_)
    refine lv_iload_n hx hb dX1_placeOf_39 rfl (lv_at hl 4 rfl) ?_
    refine lv_iload hx hb dX1_placeOf_40 (lv_at hl 7 rfl) ?_
    obtain ⟨j15, hj15, rfl⟩ : ∃ j : Nat, j ≤ 11 ∧ w7_6 = nI j := i_nat (by first | omega | (simp only [i_lt, i_le, i_eq, ti_m9, ti_m1, ti_0, ti_1, ti_2, ti_3, ti_4, ti_5, ti_6, ti_7, ti_9, ti_12, ti_20, ti_99, ti_700, ti_24, ti_156, ti_72, ti_8, ti_60, ti_543, ti_10, ti_33, ti_51, ti_178, ti_119, ti_111, ti_114, ti_100, ti_32, ti_62, ti_59, ti_48, ti_701, ti_97, ti_122, ti_57, ti_73, ti_128, nt3] at hlo6 c7 ⊢; omega)) (by first | omega | (simp only [i_lt, i_le, i_eq, ti_m9, ti_m1, ti_0, ti_1, ti_2, ti_3, ti_4, ti_5, ti_6, ti_7, ti_9, ti_12, ti_20, ti_99, ti_700, ti_24, ti_156, ti_72, ti_8, ti_60, ti_543, ti_10, ti_33, ti_51, ti_178, ti_119, ti_111, ti_114, ti_100, ti_32, ti_62, ti_59, ti_48, ti_701, ti_97, ti_122, ti_57, ti_73, ti_128, nt3] at hlo6 c7 ⊢; omega))
    have nt16 : (nI j15).toInt = ((j15 : Nat) : Int) := nI_toInt (by omega)
    refine lv_isub hx hb dX1_placeOf_42 ?_
    have hs17 : j15 ≤ nn := by first | omega | (simp only [i_lt, i_le, i_eq, ti_m9, ti_m1, ti_0, ti_1, ti_2, ti_3, ti_4, ti_5, ti_6, ti_7, ti_9, ti_12, ti_20, ti_99, ti_700, ti_24, ti_156, ti_72, ti_8, ti_60, ti_543, ti_10, ti_33, ti_51, ti_178, ti_119, ti_111, ti_114, ti_100, ti_32, ti_62, ti_59, ti_48, ti_701, ti_97, ti_122, ti_57, ti_73, ti_128, nt3, nt16] at hlo6 c7 ⊢; omega)
    refine W.eq (g2 := F0 m 43 ls [.int (nI (nn - j15))]) (congrArg (fun z : Int32 => F0 m 43 ls (.int z :: [])) (pk_sub hs17)) ?_
    have hs17b : 1 ≤ nn - j15 := by first | omega | (simp only [i_lt, i_le, i_eq, ti_m9, ti_m1, ti_0, ti_1, ti_2, ti_3, ti_4, ti_5, ti_6, ti_7, ti_9, ti_12, ti_20, ti_99, ti_700, ti_24, ti_156, ti_72, ti_8, ti_60, ti_543, ti_10, ti_33, ti_51, ti_178, ti_119, ti_111, ti_114, ti_100, ti_32, ti_62, ti_59, ti_48, ti_701, ti_97, ti_122, ti_57, ti_73, ti_128, nt3, nt16] at hlo6 c7 ⊢; omega)
    refine lv_iconst (v := 1) hx hb dX1_placeOf_43 (by decide) ?_
    refine lv_isub hx hb dX1_placeOf_44 ?_
    refine W.eq (g2 := F0 m 45 ls [.int (nI ((nn - j15) - 1))]) (congrArg (fun z : Int32 => F0 m 45 ls (.int z :: [])) (pk_sub (a := nn - j15) (b := 1) (by first | omega | (simp only [i_lt, i_le, i_eq, ti_m9, ti_m1, ti_0, ti_1, ti_2, ti_3, ti_4, ti_5, ti_6, ti_7, ti_9, ti_12, ti_20, ti_99, ti_700, ti_24, ti_156, ti_72, ti_8, ti_60, ti_543, ti_10, ti_33, ti_51, ti_178, ti_119, ti_111, ti_114, ti_100, ti_32, ti_62, ti_59, ti_48, ti_701, ti_97, ti_122, ti_57, ti_73, ti_128, nt3, nt16] at hlo6 c7 ⊢; omega)))) ?_
    refine lv_istore (lv' := [(9, .int (nI ((nn - j15) - 1))), (8, .int r14), (0, .ref a0), (1, .ref a1), (2, .ref a2), (3, .int (nI nn)), (4, .long w4_6), (6, .int w6_6), (7, .int (nI j15))]) hx hb dX1_placeOf_45 hl (by decide) rfl (fun ls hl => ?_)
    refine lv_iconst (v := 0) hx hb dX1_placeOf_47 (by decide) ?_
    refine lv_istore (lv' := [(10, .int 0), (9, .int (nI ((nn - j15) - 1))), (8, .int r14), (0, .ref a0), (1, .ref a1), (2, .ref a2), (3, .int (nI nn)), (4, .long w4_6), (6, .int w6_6), (7, .int (nI j15))]) hx hb dX1_placeOf_48 hl (by decide) rfl (fun ls hl => ?_)
    refine w_ind (I := fun n f H locs ls => OKT G cs tt mm f ∧ va_P (dC, dI) vwCl (va_pl (gL G) f) H ∧ va_S (AT G s.heap.size) s.heap H locs ∧ ∃ (w4_18 : Int64) (w10_18 : Int32), n = (2147483647 - w10_18.toInt).toNat ∧ 0 ≤ w10_18 ∧ lv_has ls 11 [(0, .ref a0), (1, .ref a1), (2, .ref a2), (3, .int (nI nn)), (4, .long w4_18), (6, .int w6_6), (7, .int (nI j15)), (8, .int r14), (9, .int (nI ((nn - j15) - 1))), (10, .int w10_18)]) (fun n f18 H locs ls hI ih18 => ?_) _ f6 _ _ _ ⟨hok, hP, hS, w4_6, 0, rfl, (by first | omega | (simp only [i_lt, i_le, i_eq, ti_m9, ti_m1, ti_0, ti_1, ti_2, ti_3, ti_4, ti_5, ti_6, ti_7, ti_9, ti_12, ti_20, ti_99, ti_700, ti_24, ti_156, ti_72, ti_8, ti_60, ti_543, ti_10, ti_33, ti_51, ti_178, ti_119, ti_111, ti_114, ti_100, ti_32, ti_62, ti_59, ti_48, ti_701, ti_97, ti_122, ti_57, ti_73, ti_128, nt3, nt16] at hlo6 c7 ⊢; omega)), lv_sub hl [3, 4, 5, 6, 7, 8, 9, 2, 1, 0] rfl⟩
    obtain ⟨hok, hP, hS, w4_18, w10_18, hmu18, hlo18, hl⟩ := hI
    subst hmu18
    refine lv_iload hx hb dX1_placeOf_50 (lv_at hl 9 rfl) ?_
    refine lv_iload hx hb dX1_placeOf_52 (lv_at hl 7 rfl) ?_
    refine lv_icmp_ge (tgt := 104) hx hb dX1_placeOf_54 (by decide) (fun c19 => ?_) (fun c19 => ?_)
    · refine lv_aload_n hx hb dX1_placeOf_104 rfl (lv_at hl 2 rfl) ?_
      refine lv_iload hx hb dX1_placeOf_105 (lv_at hl 6 rfl) ?_
      obtain ⟨y2_20, y3_20, hy3_20, he20⟩ := ok_X10 hok ha2
      refine vp_callSi (va_Run.run (va_runV (As := [.int (nI j15)]) (rest := []) ⟨hx, hb, hml, hown, noTs⟩ (t_X10_numberAt l dC dI H.size G cs tt mm a2 ha2 (nI j15)) ⟨cbE 1 (wd_717 hE) (wd_120 hE) (wd_1301 hE) rfl rfl (by decide +kernel) ⟨Nat.le_of_ble_eq_true rfl, Nat.le_of_ble_eq_true rfl⟩, (wd_715 hE), (wd_716 hE)⟩ ⟨PT.blind, th_recv hK hP ha2.1 he20 rfl, (th_pre (av := [.ref a2, .int (nI j15)]) trivial hK hP hok hnd hWT hE)⟩ rfl rfl hl.1 rfl (lv_room (Nat.le_of_ble_eq_true rfl)) dX1_placeOf_107 ⟨Nat.le_of_ble_eq_true rfl, Nat.le_of_ble_eq_true rfl⟩)) (fun r21 hr21 => ?_)
      refine lv_iload hx hb dX1_placeOf_110 (lv_at hl 7 rfl) ?_
      refine lv_iload hx hb dX1_placeOf_112 (lv_at hl 5 rfl) ?_
      refine vp_callSi (va_Run.run (va_runSN (As := [.int w6_6]) (rest := [.int r14, .int r21]) ⟨hx, hb, hml, hown, noTs⟩ (t_X11_opposite l dC dI H.size G cs tt mm w6_6) ⟨cnE 1 (wd_865 hE) (wd_115 hE) (wd_1026 hE) rfl rfl (by decide +kernel) ⟨Nat.le_of_ble_eq_true rfl, Nat.le_of_ble_eq_true rfl⟩, (wd_864 hE), trivial⟩ ⟨PT.blind, (th_pre (av := [.int w6_6]) trivial hK hP hok hnd hWT hE)⟩ rfl rfl hl.1 rfl (lv_room (Nat.le_of_ble_eq_true rfl)) dX1_placeOf_114 ⟨Nat.le_of_ble_eq_true rfl, Nat.le_of_ble_eq_true rfl⟩)) (fun r22 hr22 => ?_)
      refine lv_icmp_ne (tgt := 124) hx hb dX1_placeOf_117 (by decide) (fun c23 => ?_) (fun c23 => ?_)
      · refine lv_iconst (v := 0) hx hb dX1_placeOf_124 (by decide) ?_
        refine vp_callSi (va_Run.run (va_runSN (As := [.int 0]) (rest := [.int r21]) ⟨hx, hb, hml, hown, noTs⟩ (t_X11_bit l dC dI H.size G cs tt mm 0) ⟨cnE 1 (wd_669 hE) (wd_115 hE) (wd_1027 hE) rfl rfl (by decide +kernel) ⟨Nat.le_of_ble_eq_true rfl, Nat.le_of_ble_eq_true rfl⟩, (wd_668 hE), trivial⟩ ⟨PT.blind, (th_pre (av := [.int 0]) trivial hK hP hok hnd hWT hE)⟩ rfl rfl hl.1 rfl (lv_room (Nat.le_of_ble_eq_true rfl)) dX1_placeOf_125 ⟨Nat.le_of_ble_eq_true rfl, Nat.le_of_ble_eq_true rfl⟩)) (fun r24 hr24 => ?_)
        refine lv_isub hx hb dX1_placeOf_128 ?_
        refine lv_topi (fun x25 ex25 => ?_)
        refine lv_istore (lv' := [(10, .int x25), (0, .ref a0), (1, .ref a1), (2, .ref a2), (3, .int (nI nn)), (4, .long w4_18), (6, .int w6_6), (7, .int (nI j15)), (8, .int r14), (9, .int (nI ((nn - j15) - 1)))]) hx hb dX1_placeOf_129 hl (by decide) rfl (fun ls hl => ?_)
        refine lv_lload hx hb dX1_placeOf_131 (lv_at hl 5 rfl) ?_
        refine lv_iload hx hb dX1_placeOf_133 (lv_at hl 0 rfl) ?_
        refine lv_i2l hx hb dX1_placeOf_135 rfl ?_
        refine lv_topl (fun x26 _ => ?_)
        refine lv_aload_n hx hb dX1_placeOf_136 rfl (lv_at hl 1 rfl) ?_
        refine lv_iload hx hb dX1_placeOf_137 (lv_at hl 9 rfl) ?_
        refine lv_iload hx hb dX1_placeOf_139 (lv_at hl 8 rfl) ?_
        have nt27 : (nI ((nn - j15) - 1)).toInt = (((nn - j15) - 1 : Nat) : Int) := nI_toInt (by omega)
        have he28 := ok_X1 hok ha0
        refine vp_callSl (va_Run.run (va_runV (As := [.int (nI ((nn - j15) - 1)), .int r14]) (rest := [.long x26, .long w4_18]) ⟨hx, hb, hml, hown, noTs⟩ (t_X1_waysBehind l dC dI H.size G cs tt mm a0 ha0 (nI ((nn - j15) - 1)) r14 (by first | omega | (simp only [i_lt, i_le, i_eq, ti_m9, ti_m1, ti_0, ti_1, ti_2, ti_3, ti_4, ti_5, ti_6, ti_7, ti_9, ti_12, ti_20, ti_99, ti_700, ti_24, ti_156, ti_72, ti_8, ti_60, ti_543, ti_10, ti_33, ti_51, ti_178, ti_119, ti_111, ti_114, ti_100, ti_32, ti_62, ti_59, ti_48, ti_701, ti_97, ti_122, ti_57, ti_73, ti_128, nt3, nt16, nt27] at hlo6 c7 hlo18 c19 c23 ⊢; omega))) ⟨cbE 2 (wd_1006 hE) (wd_125 hE) (wd_1003 hE) rfl rfl (by decide +kernel) ⟨Nat.le_of_ble_eq_true rfl, Nat.le_of_ble_eq_true rfl⟩, (wd_1005 hE), (wd_35 hE)⟩ ⟨PT.blind, th_recv hK hP ha0.1 he28 rfl, (th_pre (av := [.ref a0, .int (nI ((nn - j15) - 1)), .int r14]) trivial hK hP hok hnd hWT hE)⟩ rfl rfl hl.1 rfl (lv_room (Nat.le_of_ble_eq_true rfl)) dX1_placeOf_141 ⟨Nat.le_of_ble_eq_true rfl, Nat.le_of_ble_eq_true rfl⟩)) (fun r29 hr29 => ?_)
        refine lv_lmul hx hb dX1_placeOf_144 ?_
        refine lv_topl (fun x30 _ => ?_)
        refine lv_ladd hx hb dX1_placeOf_145 ?_
        refine lv_topl (fun x31 _ => ?_)
        refine vp_callSl (va_Run.run (va_runSN (As := [.long x31]) (rest := []) ⟨hx, hb, hml, hown, noTs⟩ (t_X11_atMostTold l dC dI H.size G cs tt mm x31) ⟨cnE 1 (wd_1009 hE) (wd_115 hE) (wd_1007 hE) rfl rfl (by decide +kernel) ⟨Nat.le_of_ble_eq_true rfl, Nat.le_of_ble_eq_true rfl⟩, (wd_1008 hE), trivial⟩ ⟨PT.blind, (th_pre (av := [.long x31]) trivial hK hP hok hnd hWT hE)⟩ rfl rfl hl.1 rfl (lv_room (Nat.le_of_ble_eq_true rfl)) dX1_placeOf_146 ⟨Nat.le_of_ble_eq_true rfl, Nat.le_of_ble_eq_true rfl⟩)) (fun r32 hr32 => ?_)
        refine lv_lstore (lv' := [(4, .long r32), (10, .int x25), (0, .ref a0), (1, .ref a1), (2, .ref a2), (3, .int (nI nn)), (6, .int w6_6), (7, .int (nI j15)), (8, .int r14), (9, .int (nI ((nn - j15) - 1)))]) hx hb dX1_placeOf_149 hl (by decide) rfl (fun ls hl => ?_)
        refine lv_iload hx hb dX1_placeOf_151 (lv_at hl 8 rfl) ?_
        refine lv_istore (lv' := [(6, .int r14), (4, .long r32), (10, .int x25), (0, .ref a0), (1, .ref a1), (2, .ref a2), (3, .int (nI nn)), (7, .int (nI j15)), (8, .int r14), (9, .int (nI ((nn - j15) - 1)))]) hx hb dX1_placeOf_153 hl (by decide) rfl (fun ls hl => ?_)
        obtain ⟨z33, ez33⟩ : ∃ z : Int32, z = (nI j15) + 1 := ⟨_, rfl⟩
        refine lv_iinc (v := z33) (lv' := [(7, .int z33), (6, .int r14), (4, .long r32), (10, .int x25), (0, .ref a0), (1, .ref a1), (2, .ref a2), (3, .int (nI nn)), (8, .int r14), (9, .int (nI ((nn - j15) - 1)))]) hx hb dX1_placeOf_155 hl (k := 7) rfl (by rw [ez33]; rfl) (by decide) rfl (fun ls hl => ?_)
        have ic33 : z33.toInt = (nI j15).toInt + 1 := by rw [ez33]; exact ic_up (by have := i_rng (nI j15); have := i_rng (nI nn); have := i_rng w10_18; have := i_rng r14; have := i_rng r22; simp only [i_lt, i_le, i_eq, ti_m9, ti_m1, ti_0, ti_1, ti_2, ti_3, ti_4, ti_5, ti_6, ti_7, ti_9, ti_12, ti_20, ti_99, ti_700, ti_24, ti_156, ti_72, ti_8, ti_60, ti_543, ti_10, ti_33, ti_51, ti_178, ti_119, ti_111, ti_114, ti_100, ti_32, ti_62, ti_59, ti_48, ti_701, ti_97, ti_122, ti_57, ti_73, ti_128, nt3, nt16, nt27] at hlo6 c7 hlo18 c19 c23 ⊢; omega)
        refine lv_goto (tgt := 25) hx hb dX1_placeOf_158 (by decide) ?_
        exact ih6 _ f18 _ _ _ (by have := i_rng z33; first | omega | (simp only [i_lt, i_le, i_eq, ti_m9, ti_m1, ti_0, ti_1, ti_2, ti_3, ti_4, ti_5, ti_6, ti_7, ti_9, ti_12, ti_20, ti_99, ti_700, ti_24, ti_156, ti_72, ti_8, ti_60, ti_543, ti_10, ti_33, ti_51, ti_178, ti_119, ti_111, ti_114, ti_100, ti_32, ti_62, ti_59, ti_48, ti_701, ti_97, ti_122, ti_57, ti_73, ti_128, nt3, nt16, nt27, ic33] at hlo6 c7 hlo18 c19 c23 ic33 ⊢; omega)) ⟨hok, hP, hS, r32, r14, z33, rfl, (by first | omega | (simp only [i_lt, i_le, i_eq, ti_m9, ti_m1, ti_0, ti_1, ti_2, ti_3, ti_4, ti_5, ti_6, ti_7, ti_9, ti_12, ti_20, ti_99, ti_700, ti_24, ti_156, ti_72, ti_8, ti_60, ti_543, ti_10, ti_33, ti_51, ti_178, ti_119, ti_111, ti_114, ti_100, ti_32, ti_62, ti_59, ti_48, ti_701, ti_97, ti_122, ti_57, ti_73, ti_128, nt3, nt16, nt27, ic33] at hlo6 c7 hlo18 c19 c23 ⊢; omega)), lv_sub hl [4, 5, 6, 7, 2, 1, 0] rfl⟩
      · refine lv_iconst (v := 1) hx hb dX1_placeOf_120 (by decide) ?_
        refine lv_goto (tgt := 125) hx hb dX1_placeOf_121 (by decide) ?_
        refine vp_callSi (va_Run.run (va_runSN (As := [.int 1]) (rest := [.int r21]) ⟨hx, hb, hml, hown, noTs⟩ (t_X11_bit l dC dI H.size G cs tt mm 1) ⟨cnE 1 (wd_669 hE) (wd_115 hE) (wd_1027 hE) rfl rfl (by decide +kernel) ⟨Nat.le_of_ble_eq_true rfl, Nat.le_of_ble_eq_true rfl⟩, (wd_668 hE), trivial⟩ ⟨PT.blind, (th_pre (av := [.int 1]) trivial hK hP hok hnd hWT hE)⟩ rfl rfl hl.1 rfl (lv_room (Nat.le_of_ble_eq_true rfl)) dX1_placeOf_125 ⟨Nat.le_of_ble_eq_true rfl, Nat.le_of_ble_eq_true rfl⟩)) (fun r34 hr34 => ?_)
        refine lv_isub hx hb dX1_placeOf_128 ?_
        refine lv_topi (fun x35 ex35 => ?_)
        refine lv_istore (lv' := [(10, .int x35), (0, .ref a0), (1, .ref a1), (2, .ref a2), (3, .int (nI nn)), (4, .long w4_18), (6, .int w6_6), (7, .int (nI j15)), (8, .int r14), (9, .int (nI ((nn - j15) - 1)))]) hx hb dX1_placeOf_129 hl (by decide) rfl (fun ls hl => ?_)
        refine lv_lload hx hb dX1_placeOf_131 (lv_at hl 5 rfl) ?_
        refine lv_iload hx hb dX1_placeOf_133 (lv_at hl 0 rfl) ?_
        refine lv_i2l hx hb dX1_placeOf_135 rfl ?_
        refine lv_topl (fun x36 _ => ?_)
        refine lv_aload_n hx hb dX1_placeOf_136 rfl (lv_at hl 1 rfl) ?_
        refine lv_iload hx hb dX1_placeOf_137 (lv_at hl 9 rfl) ?_
        refine lv_iload hx hb dX1_placeOf_139 (lv_at hl 8 rfl) ?_
        have nt37 : (nI ((nn - j15) - 1)).toInt = (((nn - j15) - 1 : Nat) : Int) := nI_toInt (by omega)
        have he38 := ok_X1 hok ha0
        refine vp_callSl (va_Run.run (va_runV (As := [.int (nI ((nn - j15) - 1)), .int r14]) (rest := [.long x36, .long w4_18]) ⟨hx, hb, hml, hown, noTs⟩ (t_X1_waysBehind l dC dI H.size G cs tt mm a0 ha0 (nI ((nn - j15) - 1)) r14 (by first | omega | (simp only [i_lt, i_le, i_eq, ti_m9, ti_m1, ti_0, ti_1, ti_2, ti_3, ti_4, ti_5, ti_6, ti_7, ti_9, ti_12, ti_20, ti_99, ti_700, ti_24, ti_156, ti_72, ti_8, ti_60, ti_543, ti_10, ti_33, ti_51, ti_178, ti_119, ti_111, ti_114, ti_100, ti_32, ti_62, ti_59, ti_48, ti_701, ti_97, ti_122, ti_57, ti_73, ti_128, nt3, nt16, nt37] at hlo6 c7 hlo18 c19 c23 ⊢; omega))) ⟨cbE 2 (wd_1006 hE) (wd_125 hE) (wd_1003 hE) rfl rfl (by decide +kernel) ⟨Nat.le_of_ble_eq_true rfl, Nat.le_of_ble_eq_true rfl⟩, (wd_1005 hE), (wd_35 hE)⟩ ⟨PT.blind, th_recv hK hP ha0.1 he38 rfl, (th_pre (av := [.ref a0, .int (nI ((nn - j15) - 1)), .int r14]) trivial hK hP hok hnd hWT hE)⟩ rfl rfl hl.1 rfl (lv_room (Nat.le_of_ble_eq_true rfl)) dX1_placeOf_141 ⟨Nat.le_of_ble_eq_true rfl, Nat.le_of_ble_eq_true rfl⟩)) (fun r39 hr39 => ?_)
        refine lv_lmul hx hb dX1_placeOf_144 ?_
        refine lv_topl (fun x40 _ => ?_)
        refine lv_ladd hx hb dX1_placeOf_145 ?_
        refine lv_topl (fun x41 _ => ?_)
        refine vp_callSl (va_Run.run (va_runSN (As := [.long x41]) (rest := []) ⟨hx, hb, hml, hown, noTs⟩ (t_X11_atMostTold l dC dI H.size G cs tt mm x41) ⟨cnE 1 (wd_1009 hE) (wd_115 hE) (wd_1007 hE) rfl rfl (by decide +kernel) ⟨Nat.le_of_ble_eq_true rfl, Nat.le_of_ble_eq_true rfl⟩, (wd_1008 hE), trivial⟩ ⟨PT.blind, (th_pre (av := [.long x41]) trivial hK hP hok hnd hWT hE)⟩ rfl rfl hl.1 rfl (lv_room (Nat.le_of_ble_eq_true rfl)) dX1_placeOf_146 ⟨Nat.le_of_ble_eq_true rfl, Nat.le_of_ble_eq_true rfl⟩)) (fun r42 hr42 => ?_)
        refine lv_lstore (lv' := [(4, .long r42), (10, .int x35), (0, .ref a0), (1, .ref a1), (2, .ref a2), (3, .int (nI nn)), (6, .int w6_6), (7, .int (nI j15)), (8, .int r14), (9, .int (nI ((nn - j15) - 1)))]) hx hb dX1_placeOf_149 hl (by decide) rfl (fun ls hl => ?_)
        refine lv_iload hx hb dX1_placeOf_151 (lv_at hl 8 rfl) ?_
        refine lv_istore (lv' := [(6, .int r14), (4, .long r42), (10, .int x35), (0, .ref a0), (1, .ref a1), (2, .ref a2), (3, .int (nI nn)), (7, .int (nI j15)), (8, .int r14), (9, .int (nI ((nn - j15) - 1)))]) hx hb dX1_placeOf_153 hl (by decide) rfl (fun ls hl => ?_)
        obtain ⟨z43, ez43⟩ : ∃ z : Int32, z = (nI j15) + 1 := ⟨_, rfl⟩
        refine lv_iinc (v := z43) (lv' := [(7, .int z43), (6, .int r14), (4, .long r42), (10, .int x35), (0, .ref a0), (1, .ref a1), (2, .ref a2), (3, .int (nI nn)), (8, .int r14), (9, .int (nI ((nn - j15) - 1)))]) hx hb dX1_placeOf_155 hl (k := 7) rfl (by rw [ez43]; rfl) (by decide) rfl (fun ls hl => ?_)
        have ic43 : z43.toInt = (nI j15).toInt + 1 := by rw [ez43]; exact ic_up (by have := i_rng (nI j15); have := i_rng (nI nn); have := i_rng w10_18; have := i_rng r14; have := i_rng r22; simp only [i_lt, i_le, i_eq, ti_m9, ti_m1, ti_0, ti_1, ti_2, ti_3, ti_4, ti_5, ti_6, ti_7, ti_9, ti_12, ti_20, ti_99, ti_700, ti_24, ti_156, ti_72, ti_8, ti_60, ti_543, ti_10, ti_33, ti_51, ti_178, ti_119, ti_111, ti_114, ti_100, ti_32, ti_62, ti_59, ti_48, ti_701, ti_97, ti_122, ti_57, ti_73, ti_128, nt3, nt16, nt37] at hlo6 c7 hlo18 c19 c23 ⊢; omega)
        refine lv_goto (tgt := 25) hx hb dX1_placeOf_158 (by decide) ?_
        exact ih6 _ f18 _ _ _ (by have := i_rng z43; first | omega | (simp only [i_lt, i_le, i_eq, ti_m9, ti_m1, ti_0, ti_1, ti_2, ti_3, ti_4, ti_5, ti_6, ti_7, ti_9, ti_12, ti_20, ti_99, ti_700, ti_24, ti_156, ti_72, ti_8, ti_60, ti_543, ti_10, ti_33, ti_51, ti_178, ti_119, ti_111, ti_114, ti_100, ti_32, ti_62, ti_59, ti_48, ti_701, ti_97, ti_122, ti_57, ti_73, ti_128, nt3, nt16, nt37, ic43] at hlo6 c7 hlo18 c19 c23 ic43 ⊢; omega)) ⟨hok, hP, hS, r42, r14, z43, rfl, (by first | omega | (simp only [i_lt, i_le, i_eq, ti_m9, ti_m1, ti_0, ti_1, ti_2, ti_3, ti_4, ti_5, ti_6, ti_7, ti_9, ti_12, ti_20, ti_99, ti_700, ti_24, ti_156, ti_72, ti_8, ti_60, ti_543, ti_10, ti_33, ti_51, ti_178, ti_119, ti_111, ti_114, ti_100, ti_32, ti_62, ti_59, ti_48, ti_701, ti_97, ti_122, ti_57, ti_73, ti_128, nt3, nt16, nt37, ic43] at hlo6 c7 hlo18 c19 c23 ⊢; omega)), lv_sub hl [4, 5, 6, 7, 2, 1, 0] rfl⟩
    · refine lv_aload_n hx hb dX1_placeOf_57 rfl (lv_at hl 1 rfl) ?_
      refine lv_iload hx hb dX1_placeOf_58 (lv_at hl 9 rfl) ?_
      have he44 := ok_X7 hok ha1
      refine vp_callSi (va_Run.run (va_runV (As := [.int w10_18]) (rest := []) ⟨hx, hb, hml, hown, noTs⟩ (t_X7_fromVertex l dC dI H.size G cs tt mm a1 ha1 w10_18) ⟨cbE 1 (wd_677 hE) (wd_116 hE) (wd_995 hE) rfl rfl (by decide +kernel) ⟨Nat.le_of_ble_eq_true rfl, Nat.le_of_ble_eq_true rfl⟩, (wd_675 hE), (wd_676 hE)⟩ ⟨PT.blind, th_recv hK hP ha1.1 he44 rfl, (th_pre (av := [.ref a1, .int w10_18]) trivial hK hP hok hnd hWT hE)⟩ rfl rfl hl.1 rfl (lv_room (Nat.le_of_ble_eq_true rfl)) dX1_placeOf_60 ⟨Nat.le_of_ble_eq_true rfl, Nat.le_of_ble_eq_true rfl⟩)) (fun r45 hr45 => ?_)
      refine lv_aload_n hx hb dX1_placeOf_63 rfl (lv_at hl 1 rfl) ?_
      refine lv_iload hx hb dX1_placeOf_64 (lv_at hl 7 rfl) ?_
      refine vp_callSi (va_Run.run (va_runV (As := [.int r14]) (rest := [.int r45]) ⟨hx, hb, hml, hown, noTs⟩ (t_X7_fromVertex l dC dI H.size G cs tt mm a1 ha1 r14) ⟨cbE 1 (wd_677 hE) (wd_116 hE) (wd_995 hE) rfl rfl (by decide +kernel) ⟨Nat.le_of_ble_eq_true rfl, Nat.le_of_ble_eq_true rfl⟩, (wd_675 hE), (wd_676 hE)⟩ ⟨PT.blind, th_recv hK hP ha1.1 he44 rfl, (th_pre (av := [.ref a1, .int r14]) trivial hK hP hok hnd hWT hE)⟩ rfl rfl hl.1 rfl (lv_room (Nat.le_of_ble_eq_true rfl)) dX1_placeOf_66 ⟨Nat.le_of_ble_eq_true rfl, Nat.le_of_ble_eq_true rfl⟩)) (fun r46 hr46 => ?_)
      refine lv_icmp_ne (tgt := 98) hx hb dX1_placeOf_69 (by decide) (fun c47 => ?_) (fun c47 => ?_)
      · obtain ⟨z48, ez48⟩ : ∃ z : Int32, z = w10_18 + 1 := ⟨_, rfl⟩
        refine lv_iinc (v := z48) (lv' := [(10, .int z48), (0, .ref a0), (1, .ref a1), (2, .ref a2), (3, .int (nI nn)), (4, .long w4_18), (6, .int w6_6), (7, .int (nI j15)), (8, .int r14), (9, .int (nI ((nn - j15) - 1)))]) hx hb dX1_placeOf_98 hl (k := 9) rfl (by rw [ez48]; rfl) (by decide) rfl (fun ls hl => ?_)
        have ic48 : z48.toInt = w10_18.toInt + 1 := by rw [ez48]; exact ic_up (by have := i_rng (nI j15); have := i_rng (nI nn); have := i_rng w10_18; have := i_rng r14; have := i_rng r45; have := i_rng r46; simp only [i_lt, i_le, i_eq, ti_m9, ti_m1, ti_0, ti_1, ti_2, ti_3, ti_4, ti_5, ti_6, ti_7, ti_9, ti_12, ti_20, ti_99, ti_700, ti_24, ti_156, ti_72, ti_8, ti_60, ti_543, ti_10, ti_33, ti_51, ti_178, ti_119, ti_111, ti_114, ti_100, ti_32, ti_62, ti_59, ti_48, ti_701, ti_97, ti_122, ti_57, ti_73, ti_128, nt3, nt16] at hlo6 c7 hlo18 c19 c47 ⊢; omega)
        refine lv_goto (tgt := 50) hx hb dX1_placeOf_101 (by decide) ?_
        exact ih18 _ f18 _ _ _ (by have := i_rng z48; first | omega | (simp only [i_lt, i_le, i_eq, ti_m9, ti_m1, ti_0, ti_1, ti_2, ti_3, ti_4, ti_5, ti_6, ti_7, ti_9, ti_12, ti_20, ti_99, ti_700, ti_24, ti_156, ti_72, ti_8, ti_60, ti_543, ti_10, ti_33, ti_51, ti_178, ti_119, ti_111, ti_114, ti_100, ti_32, ti_62, ti_59, ti_48, ti_701, ti_97, ti_122, ti_57, ti_73, ti_128, nt3, nt16, ic48] at hlo6 c7 hlo18 c19 c47 ic48 ⊢; omega)) ⟨hok, hP, hS, w4_18, z48, rfl, (by first | omega | (simp only [i_lt, i_le, i_eq, ti_m9, ti_m1, ti_0, ti_1, ti_2, ti_3, ti_4, ti_5, ti_6, ti_7, ti_9, ti_12, ti_20, ti_99, ti_700, ti_24, ti_156, ti_72, ti_8, ti_60, ti_543, ti_10, ti_33, ti_51, ti_178, ti_119, ti_111, ti_114, ti_100, ti_32, ti_62, ti_59, ti_48, ti_701, ti_97, ti_122, ti_57, ti_73, ti_128, nt3, nt16, ic48] at hlo6 c7 hlo18 c19 c47 ⊢; omega)), lv_sub hl [1, 2, 3, 4, 5, 6, 7, 8, 9, 0] rfl⟩
      · refine lv_lload hx hb dX1_placeOf_72 (lv_at hl 4 rfl) ?_
        refine lv_aload_n hx hb dX1_placeOf_74 rfl (lv_at hl 1 rfl) ?_
        refine lv_iload hx hb dX1_placeOf_75 (lv_at hl 5 rfl) ?_
        refine lv_iload hx hb dX1_placeOf_77 (lv_at hl 9 rfl) ?_
        refine vp_callSi (va_Run.run (va_runV (As := [.int w6_6, .int w10_18]) (rest := [.long w4_18]) ⟨hx, hb, hml, hown, noTs⟩ (t_X7_widthBehind l dC dI H.size G cs tt mm a1 ha1 w6_6 w10_18) ⟨cbE 2 (wd_999 hE) (wd_116 hE) (wd_996 hE) rfl rfl (by decide +kernel) ⟨Nat.le_of_ble_eq_true rfl, Nat.le_of_ble_eq_true rfl⟩, (wd_997 hE), (wd_998 hE)⟩ ⟨PT.blind, th_recv hK hP ha1.1 he44 rfl, (th_pre (av := [.ref a1, .int w6_6, .int w10_18]) trivial hK hP hok hnd hWT hE)⟩ rfl rfl hl.1 rfl (lv_room (Nat.le_of_ble_eq_true rfl)) dX1_placeOf_79 ⟨Nat.le_of_ble_eq_true rfl, Nat.le_of_ble_eq_true rfl⟩)) (fun r49 hr49 => ?_)
        refine lv_i2l hx hb dX1_placeOf_82 rfl ?_
        refine lv_topl (fun x50 _ => ?_)
        refine lv_aload_n hx hb dX1_placeOf_83 rfl (lv_at hl 0 rfl) ?_
        refine lv_iload hx hb dX1_placeOf_84 (lv_at hl 8 rfl) ?_
        refine lv_iload hx hb dX1_placeOf_86 (lv_at hl 9 rfl) ?_
        have nt51 : (nI ((nn - j15) - 1)).toInt = (((nn - j15) - 1 : Nat) : Int) := nI_toInt (by omega)
        have he52 := ok_X1 hok ha0
        refine vp_callSl (va_Run.run (va_runV (As := [.int (nI ((nn - j15) - 1)), .int w10_18]) (rest := [.long x50, .long w4_18]) ⟨hx, hb, hml, hown, noTs⟩ (t_X1_waysBehind l dC dI H.size G cs tt mm a0 ha0 (nI ((nn - j15) - 1)) w10_18 (by first | omega | (simp only [i_lt, i_le, i_eq, ti_m9, ti_m1, ti_0, ti_1, ti_2, ti_3, ti_4, ti_5, ti_6, ti_7, ti_9, ti_12, ti_20, ti_99, ti_700, ti_24, ti_156, ti_72, ti_8, ti_60, ti_543, ti_10, ti_33, ti_51, ti_178, ti_119, ti_111, ti_114, ti_100, ti_32, ti_62, ti_59, ti_48, ti_701, ti_97, ti_122, ti_57, ti_73, ti_128, nt3, nt16, nt51] at hlo6 c7 hlo18 c19 c47 ⊢; omega))) ⟨cbE 2 (wd_1006 hE) (wd_125 hE) (wd_1003 hE) rfl rfl (by decide +kernel) ⟨Nat.le_of_ble_eq_true rfl, Nat.le_of_ble_eq_true rfl⟩, (wd_1005 hE), (wd_35 hE)⟩ ⟨PT.blind, th_recv hK hP ha0.1 he52 rfl, (th_pre (av := [.ref a0, .int (nI ((nn - j15) - 1)), .int w10_18]) trivial hK hP hok hnd hWT hE)⟩ rfl rfl hl.1 rfl (lv_room (Nat.le_of_ble_eq_true rfl)) dX1_placeOf_88 ⟨Nat.le_of_ble_eq_true rfl, Nat.le_of_ble_eq_true rfl⟩)) (fun r53 hr53 => ?_)
        refine lv_lmul hx hb dX1_placeOf_91 ?_
        refine lv_topl (fun x54 _ => ?_)
        refine lv_ladd hx hb dX1_placeOf_92 ?_
        refine lv_topl (fun x55 _ => ?_)
        refine vp_callSl (va_Run.run (va_runSN (As := [.long x55]) (rest := []) ⟨hx, hb, hml, hown, noTs⟩ (t_X11_atMostTold l dC dI H.size G cs tt mm x55) ⟨cnE 1 (wd_1009 hE) (wd_115 hE) (wd_1007 hE) rfl rfl (by decide +kernel) ⟨Nat.le_of_ble_eq_true rfl, Nat.le_of_ble_eq_true rfl⟩, (wd_1008 hE), trivial⟩ ⟨PT.blind, (th_pre (av := [.long x55]) trivial hK hP hok hnd hWT hE)⟩ rfl rfl hl.1 rfl (lv_room (Nat.le_of_ble_eq_true rfl)) dX1_placeOf_93 ⟨Nat.le_of_ble_eq_true rfl, Nat.le_of_ble_eq_true rfl⟩)) (fun r56 hr56 => ?_)
        refine lv_lstore (lv' := [(4, .long r56), (0, .ref a0), (1, .ref a1), (2, .ref a2), (3, .int (nI nn)), (6, .int w6_6), (7, .int (nI j15)), (8, .int r14), (9, .int (nI ((nn - j15) - 1))), (10, .int w10_18)]) hx hb dX1_placeOf_96 hl (by decide) rfl (fun ls hl => ?_)
        obtain ⟨z57, ez57⟩ : ∃ z : Int32, z = w10_18 + 1 := ⟨_, rfl⟩
        refine lv_iinc (v := z57) (lv' := [(10, .int z57), (4, .long r56), (0, .ref a0), (1, .ref a1), (2, .ref a2), (3, .int (nI nn)), (6, .int w6_6), (7, .int (nI j15)), (8, .int r14), (9, .int (nI ((nn - j15) - 1)))]) hx hb dX1_placeOf_98 hl (k := 9) rfl (by rw [ez57]; rfl) (by decide) rfl (fun ls hl => ?_)
        have ic57 : z57.toInt = w10_18.toInt + 1 := by rw [ez57]; exact ic_up (by have := i_rng (nI j15); have := i_rng (nI nn); have := i_rng w10_18; have := i_rng r14; have := i_rng r45; have := i_rng r46; simp only [i_lt, i_le, i_eq, ti_m9, ti_m1, ti_0, ti_1, ti_2, ti_3, ti_4, ti_5, ti_6, ti_7, ti_9, ti_12, ti_20, ti_99, ti_700, ti_24, ti_156, ti_72, ti_8, ti_60, ti_543, ti_10, ti_33, ti_51, ti_178, ti_119, ti_111, ti_114, ti_100, ti_32, ti_62, ti_59, ti_48, ti_701, ti_97, ti_122, ti_57, ti_73, ti_128, nt3, nt16, nt51] at hlo6 c7 hlo18 c19 c47 ⊢; omega)
        refine lv_goto (tgt := 50) hx hb dX1_placeOf_101 (by decide) ?_
        exact ih18 _ f18 _ _ _ (by have := i_rng z57; first | omega | (simp only [i_lt, i_le, i_eq, ti_m9, ti_m1, ti_0, ti_1, ti_2, ti_3, ti_4, ti_5, ti_6, ti_7, ti_9, ti_12, ti_20, ti_99, ti_700, ti_24, ti_156, ti_72, ti_8, ti_60, ti_543, ti_10, ti_33, ti_51, ti_178, ti_119, ti_111, ti_114, ti_100, ti_32, ti_62, ti_59, ti_48, ti_701, ti_97, ti_122, ti_57, ti_73, ti_128, nt3, nt16, nt51, ic57] at hlo6 c7 hlo18 c19 c47 ic57 ⊢; omega)) ⟨hok, hP, hS, r56, z57, rfl, (by first | omega | (simp only [i_lt, i_le, i_eq, ti_m9, ti_m1, ti_0, ti_1, ti_2, ti_3, ti_4, ti_5, ti_6, ti_7, ti_9, ti_12, ti_20, ti_99, ti_700, ti_24, ti_156, ti_72, ti_8, ti_60, ti_543, ti_10, ti_33, ti_51, ti_178, ti_119, ti_111, ti_114, ti_100, ti_32, ti_62, ti_59, ti_48, ti_701, ti_97, ti_122, ti_57, ti_73, ti_128, nt3, nt16, nt51, ic57] at hlo6 c7 hlo18 c19 c47 ⊢; omega)), lv_sub hl [2, 3, 4, 5, 1, 6, 7, 8, 9, 0] rfl⟩

set_option maxHeartbeats 4000000 in
set_option maxRecDepth 100000 in
theorem t_X10_lastStep (l : Launch) (dC : Nat → ClassId) (dI : Nat → Nat → Nat) (sz : Nat) (G : GT) (cs : Nat → ClassId) (tt mm : Nat) (a0 : Nat) (ha0 : Ty G a0 10) : Met l yX10_lastStep [.code yX10_lastStep cX10_lastStep 1 (some .int)] ({ frames := 0, cells := 0, slots := 0, locals := 0 }) (PT [.ref a0] sz dC dI G cs tt mm (fun _ => True)) (vp_Si (fun (r : Int32) => True)) 0 0 (fun _ => False) := by
  refine Met.ofW (cc := cX10_lastStep) (maxL := 1) (ret := (some .int)) (by decide) rfl ?_
  intro p e s m args below meth c s₁ B hml hv
  obtain ⟨rfl, hsz, ⟨f0, hok, hP, hX⟩, hK, hnd, hWT, hE⟩ := hv
  have hx := B.exec
  have hb := B.bytes
  have hr := B.returns
  have hown : s.vm.findClass RX10 = some m.cls := findClass_of_methodNamed B.named
  have hlocks := B.notSynchronized
  subst hsz
  have hl := lv_entry ([.ref a0]) (n := 1) (Nat.le_of_ble_eq_true rfl)
  rw [lg_entry_eq]
  generalize (lg_sl ([.ref a0]) ++ List.replicate (1 - (lg_sl ([.ref a0])).length) Slot.unset).toArray = ls at hl ⊢
  have hl : lv_has ls 1 [(0, .ref a0)] := hl
  refine lv_aload_n hx hb dX10_lastStep_0 rfl (lv_at hl 0 rfl) ?_
  obtain ⟨y2_1, y3_1, hy3_1, he1⟩ := ok_X10 hok ha0
  refine th_get hx hb (ly_X10 hE) hown hK hP ha0.1 he1 rfl 3 (by decide) (wd_217 hE) (fun _ h9 => h9) rfl dX10_lastStep_1 ?_
  refine lv_iconst (v := 1) hx hb dX10_lastStep_4 (by decide) ?_
  have nt2 : (nI y3_1).toInt = ((y3_1 : Nat) : Int) := nI_toInt (by omega)
  refine lv_icmp_lt (tgt := 20) hx hb dX10_lastStep_5 (by decide) (fun c3 => ?_) (fun c3 => ?_)
  · refine lv_bipush (v := 12) hx hb dX10_lastStep_20 (by decide) ?_
    refine lv_goto (tgt := 36) hx hb dX10_lastStep_22 (by decide) ?_
    exact W.iret (v := 12) hx hb hr (fun t ht hW => ⟨12, rfl, trivial, ht⟩) (fun _ h => absurd h List.not_mem_nil) dX10_lastStep_36
  · refine lv_aload_n hx hb dX10_lastStep_8 rfl (lv_at hl 0 rfl) ?_
    refine th_get hx hb (ly_X10 hE) hown hK hP ha0.1 he1 rfl 3 (by decide) (wd_217 hE) (fun _ h9 => h9) rfl dX10_lastStep_9 ?_
    refine lv_aload_n hx hb dX10_lastStep_12 rfl (lv_at hl 0 rfl) ?_
    refine th_get hx hb (ly_X10 hE) hown hK hP ha0.1 he1 rfl 1 (by decide) (wd_215 hE) (fun _ h9 => h9) rfl dX10_lastStep_13 ?_
    refine th_len1 hx hb hK hP hok (n := 72) (wl_X10_1 hWT ha0) (Or.inl (wt_X10_1 hWT ha0)) dX10_lastStep_16 ?_
    refine W.eq (g2 := F0 m 17 ls [.int 72, .int (nI y3_1)]) rfl ?_
    refine lv_icmp_le (tgt := 25) hx hb dX10_lastStep_17 (by decide) (fun c4 => ?_) (fun c4 => False.elim (by simp only [i_lt, i_le, i_eq, ti_m9, ti_m1, ti_0, ti_1, ti_2, ti_3, ti_4, ti_5, ti_6, ti_7, ti_9, ti_12, ti_20, ti_99, ti_700, ti_24, ti_156, ti_72, ti_8, ti_60, ti_543, ti_10, ti_33, ti_51, ti_178, ti_119, ti_111, ti_114, ti_100, ti_32, ti_62, ti_59, ti_48, ti_701, ti_97, ti_122, ti_57, ti_73, ti_128, nt2] at c3 c4; omega))
    refine lv_aload_n hx hb dX10_lastStep_25 rfl (lv_at hl 0 rfl) ?_
    refine th_get hx hb (ly_X10 hE) hown hK hP ha0.1 he1 rfl 1 (by decide) (wd_215 hE) (fun _ h9 => h9) rfl dX10_lastStep_26 ?_
    refine lv_aload_n hx hb dX10_lastStep_29 rfl (lv_at hl 0 rfl) ?_
    refine th_get hx hb (ly_X10 hE) hown hK hP ha0.1 he1 rfl 3 (by decide) (wd_217 hE) (fun _ h9 => h9) rfl dX10_lastStep_30 ?_
    refine lv_iconst (v := 1) hx hb dX10_lastStep_33 (by decide) ?_
    refine lv_isub hx hb dX10_lastStep_34 ?_
    refine W.eq (g2 := F0 m 35 ls [.int (nI (y3_1 - 1)), .ref (gR G a0 1)]) (congrArg (fun z : Int32 => F0 m 35 ls (.int z :: [.ref (gR G a0 1)])) (pk_sub (a := y3_1) (b := 1) (by first | omega | (simp only [i_lt, i_le, i_eq, ti_m9, ti_m1, ti_0, ti_1, ti_2, ti_3, ti_4, ti_5, ti_6, ti_7, ti_9, ti_12, ti_20, ti_99, ti_700, ti_24, ti_156, ti_72, ti_8, ti_60, ti_543, ti_10, ti_33, ti_51, ti_178, ti_119, ti_111, ti_114, ti_100, ti_32, ti_62, ti_59, ti_48, ti_701, ti_97, ti_122, ti_57, ti_73, ti_128, nt2] at c3 c4 ⊢; omega)))) ?_
    have nt6 : (nI (y3_1 - 1)).toInt = ((y3_1 - 1 : Nat) : Int) := nI_toInt (by omega)
    refine th_iald hx hb hK hP hok (wt_X10_1 hWT ha0) (n := 72) (wl_X10_1 hWT ha0) (vp_in_iff.mpr (by first | omega | (simp only [i_lt, i_le, i_eq, ti_m9, ti_m1, ti_0, ti_1, ti_2, ti_3, ti_4, ti_5, ti_6, ti_7, ti_9, ti_12, ti_20, ti_99, ti_700, ti_24, ti_156, ti_72, ti_8, ti_60, ti_543, ti_10, ti_33, ti_51, ti_178, ti_119, ti_111, ti_114, ti_100, ti_32, ti_62, ti_59, ti_48, ti_701, ti_97, ti_122, ti_57, ti_73, ti_128, nt2, nt6] at c3 c4 ⊢; omega))) dX10_lastStep_35 (fun x5 => ?_)
    exact W.iret (v := x5) hx hb hr (fun t ht hW => ⟨x5, rfl, trivial, ht⟩) (fun _ h => absurd h List.not_mem_nil) dX10_lastStep_36

set_option maxHeartbeats 4000000 in
set_option maxRecDepth 100000 in
theorem t_X7_endOf (l : Launch) (dC : Nat → ClassId) (dI : Nat → Nat → Nat) (sz : Nat) (G : GT) (cs : Nat → ClassId) (tt mm : Nat) (a0 : Nat) (ha0 : Ty G a0 7) (a1 : Nat) (ha1 : Ty G a1 10) : Met l yX7_endOf [.code yX7_endOf cX7_endOf 2 (some .int)] ({ frames := 2, cells := 0, slots := 0, locals := 80 }) (PT [.ref a0, .ref a1] sz dC dI G cs tt mm (fun _ => True)) (vp_Si (fun (r : Int32) => True)) 0 0 (fun _ => False) := by
  refine Met.ofW (cc := cX7_endOf) (maxL := 2) (ret := (some .int)) (by decide) rfl ?_
  intro p e s m args below meth c s₁ B hml hv
  obtain ⟨rfl, hsz, ⟨f0, hok, hP, hX⟩, hK, hnd, hWT, hE⟩ := hv
  have hx := B.exec
  have hb := B.bytes
  have hr := B.returns
  have hown : s.vm.findClass RX7 = some m.cls := findClass_of_methodNamed B.named
  have hlocks := B.notSynchronized
  subst hsz
  have hl := lv_entry ([.ref a0, .ref a1]) (n := 2) (Nat.le_of_ble_eq_true rfl)
  rw [lg_entry_eq]
  generalize (lg_sl ([.ref a0, .ref a1]) ++ List.replicate (2 - (lg_sl ([.ref a0, .ref a1])).length) Slot.unset).toArray = ls at hl ⊢
  have hl : lv_has ls 2 [(0, .ref a0), (1, .ref a1)] := hl
  refine lv_aload_n hx hb dX7_endOf_0 rfl (lv_at hl 1 rfl) ?_
  obtain ⟨y2_1, y3_1, hy3_1, he1⟩ := ok_X10 hok ha1
  refine vp_callSi (va_Run.run (va_runV (As := []) (rest := []) ⟨hx, hb, hml, hown, noTs⟩ (t_X10_size l dC dI s.heap.size G cs tt mm a1 ha1 y2_1 y3_1) ⟨cbE 0 (wd_666 hE) (wd_120 hE) (wd_709 hE) rfl rfl (by decide +kernel) ⟨Nat.le_of_ble_eq_true rfl, Nat.le_of_ble_eq_true rfl⟩, (wd_664 hE), (wd_665 hE)⟩ ⟨PT.blind, th_recv hK hP ha1.1 he1 rfl, (th_pre (av := [.ref a1]) he1 hK hP hok hnd hWT hE)⟩ rfl rfl hl.1 rfl (lv_room (Nat.le_of_ble_eq_true rfl)) dX7_endOf_1 ⟨Nat.le_of_ble_eq_true rfl, Nat.le_of_ble_eq_true rfl⟩)) (fun r2 hr2 => ?_)
  subst hr2
  have nt3 : (nI y3_1).toInt = ((y3_1 : Nat) : Int) := nI_toInt (by omega)
  refine lv_if_ne (tgt := 14) hx hb dX7_endOf_4 (by decide) (fun c4 => ?_) (fun c4 => ?_)
  · refine lv_aload_n hx hb dX7_endOf_14 rfl (lv_at hl 0 rfl) ?_
    refine lv_aload_n hx hb dX7_endOf_15 rfl (lv_at hl 1 rfl) ?_
    refine vp_callSi (va_Run.run (va_runV (As := []) (rest := [.ref a0]) ⟨hx, hb, hml, hown, noTs⟩ (t_X10_lastStep l dC dI s.heap.size G cs tt mm a1 ha1) ⟨cbE 0 (wd_832 hE) (wd_120 hE) (wd_829 hE) rfl rfl (by decide +kernel) ⟨Nat.le_of_ble_eq_true rfl, Nat.le_of_ble_eq_true rfl⟩, (wd_830 hE), (wd_831 hE)⟩ ⟨PT.blind, th_recv hK hP ha1.1 he1 rfl, (th_pre (av := [.ref a1]) trivial hK hP hok hnd hWT hE)⟩ rfl rfl hl.1 rfl (lv_room (Nat.le_of_ble_eq_true rfl)) dX7_endOf_16 ⟨Nat.le_of_ble_eq_true rfl, Nat.le_of_ble_eq_true rfl⟩)) (fun r5 hr5 => ?_)
    have he6 := ok_X7 hok ha0
    refine vp_callSi (va_Run.run (va_runV (As := [.int r5]) (rest := []) ⟨hx, hb, hml, hown, noTs⟩ (t_X7_toVertex l dC dI s.heap.size G cs tt mm a0 ha0 r5) ⟨cbE 1 (wd_692 hE) (wd_116 hE) (wd_833 hE) rfl rfl (by decide +kernel) ⟨Nat.le_of_ble_eq_true rfl, Nat.le_of_ble_eq_true rfl⟩, (wd_690 hE), (wd_691 hE)⟩ ⟨PT.blind, th_recv hK hP ha0.1 he6 rfl, (th_pre (av := [.ref a0, .int r5]) trivial hK hP hok hnd hWT hE)⟩ rfl rfl hl.1 rfl (lv_room (Nat.le_of_ble_eq_true rfl)) dX7_endOf_19 ⟨Nat.le_of_ble_eq_true rfl, Nat.le_of_ble_eq_true rfl⟩)) (fun r7 hr7 => ?_)
    exact W.iret (v := r7) hx hb hr (fun t ht hW => ⟨r7, rfl, trivial, ht⟩) (fun _ h => absurd h List.not_mem_nil) dX7_endOf_22
  · refine lv_aload_n hx hb dX7_endOf_7 rfl (lv_at hl 1 rfl) ?_
    refine vp_callSi (va_Run.run (va_runV (As := []) (rest := []) ⟨hx, hb, hml, hown, noTs⟩ (t_X10_begin l dC dI s.heap.size G cs tt mm a1 ha1) ⟨cbE 0 (wd_713 hE) (wd_120 hE) (wd_710 hE) rfl rfl (by decide +kernel) ⟨Nat.le_of_ble_eq_true rfl, Nat.le_of_ble_eq_true rfl⟩, (wd_711 hE), (wd_712 hE)⟩ ⟨PT.blind, th_recv hK hP ha1.1 he1 rfl, (th_pre (av := [.ref a1]) trivial hK hP hok hnd hWT hE)⟩ rfl rfl hl.1 rfl (lv_room (Nat.le_of_ble_eq_true rfl)) dX7_endOf_8 ⟨Nat.le_of_ble_eq_true rfl, Nat.le_of_ble_eq_true rfl⟩)) (fun r8 hr8 => ?_)
    refine lv_goto (tgt := 22) hx hb dX7_endOf_11 (by decide) ?_
    exact W.iret (v := r8) hx hb hr (fun t ht hW => ⟨r8, rfl, trivial, ht⟩) (fun _ h => absurd h List.not_mem_nil) dX7_endOf_22

set_option maxHeartbeats 4000000 in
set_option maxRecDepth 100000 in
theorem t_X1_findStep (l : Launch) (dC : Nat → ClassId) (dI : Nat → Nat → Nat) (sz : Nat) (G : GT) (cs : Nat → ClassId) (tt mm : Nat) (a0 : Nat) (ha0 : Ty G a0 2) (a1 : Nat) (ha1 : Ty G a1 7) (v2 : Int32) (v3 : Int64) (a4 : Nat) (ha4 : Ty G a4 10) (hp0 : 0 ≤ v2.toInt) (hp1 : v2.toInt ≤ 11) : Met l yX1_findStep [.code yX1_findStep cX1_findStep 15 (some .long)] ({ frames := 3, cells := 0, slots := 0, locals := 120 }) (PT [.ref a0, .ref a1, .int v2, .long v3, .ref a4] sz dC dI G cs tt mm (fun _ => True)) (va_Ql (fun (r : Int64) (u : Nat → va_E) => True) (BT dC dI G cs tt mm) (AT G sz)) 0 0 (AT G sz) := by
  refine Met.ofW (cc := cX1_findStep) (maxL := 15) (ret := (some .long)) (by decide) rfl ?_
  intro p e s m args below meth c s₁ B hml hv
  obtain ⟨rfl, hsz, ⟨f0, hok, hP, hX⟩, hK, hnd, hWT, hE⟩ := hv
  have hx := B.exec
  have hb := B.bytes
  have hr := B.returns
  have hown : s.vm.findClass RX1 = some m.cls := findClass_of_methodNamed B.named
  have hlocks := B.notSynchronized
  subst hsz
  have hAL : ∀ a, a ∈ gL G → AT G s.heap.size a := fun a h => Or.inl h
  have hA : ∀ q : Nat, s.heap.size ≤ q → AT G s.heap.size q := fun q h => Or.inr h
  have hS : va_S (AT G s.heap.size) s.heap s.heap [] := va_S.rf
  have hl := lv_entry ([.ref a0, .ref a1, .int v2, .long v3, .ref a4]) (n := 15) (Nat.le_of_ble_eq_true rfl)
  rw [lg_entry_eq]
  generalize (lg_sl ([.ref a0, .ref a1, .int v2, .long v3, .ref a4]) ++ List.replicate (15 - (lg_sl ([.ref a0, .ref a1, .int v2, .long v3, .ref a4])).length) Slot.unset).toArray = ls at hl ⊢
  have hl : lv_has ls 15 [(0, .ref a0), (1, .ref a1), (2, .int v2), (3, .long v3), (5, .ref a4)] := hl
  refine lv_lload_n hx hb dX1_findStep_0 rfl (lv_at hl 3 rfl) ?_
  refine lv_lstore (lv' := [(6, .long v3), (0, .ref a0), (1, .ref a1), (2, .int v2), (3, .long v3), (5, .ref a4)]) hx hb dX1_findStep_1 hl (by decide) rfl (fun ls hl => ?_)
  refine lv_aload_n hx hb dX1_findStep_3 rfl (lv_at hl 2 rfl) ?_
  refine lv_aload hx hb dX1_findStep_4 (lv_at hl 5 rfl) ?_
  have he1 := ok_X7 hok ha1
  refine vp_callSi (va_Run.run (va_runV (As := [.ref a4]) (rest := []) ⟨hx, hb, hml, hown, noTs⟩ (t_X7_endOf l dC dI s.heap.size G cs tt mm a1 ha1 a4 ha4) ⟨cbE 1 (wd_828 hE) (wd_116 hE) (wd_1023 hE) rfl rfl (by decide +kernel) ⟨Nat.le_of_ble_eq_true rfl, Nat.le_of_ble_eq_true rfl⟩, (wd_826 hE), (wd_827 hE)⟩ ⟨PT.blind, th_recv hK hP ha1.1 he1 rfl, (th_pre (av := [.ref a1, .ref a4]) trivial hK hP hok hnd hWT hE)⟩ rfl rfl hl.1 rfl (lv_room (Nat.le_of_ble_eq_true rfl)) dX1_findStep_6 ⟨Nat.le_of_ble_eq_true rfl, Nat.le_of_ble_eq_true rfl⟩)) (fun r2 hr2 => ?_)
  refine lv_istore (lv' := [(8, .int r2), (6, .long v3), (0, .ref a0), (1, .ref a1), (2, .int v2), (3, .long v3), (5, .ref a4)]) hx hb dX1_findStep_9 hl (by decide) rfl (fun ls hl => ?_)
  refine lv_aload hx hb dX1_findStep_11 (lv_at hl 6 rfl) ?_
  obtain ⟨y2_3, y3_3, hy3_3, he3⟩ := ok_X10 hok ha4
  refine vp_callSi (va_Run.run (va_runV (As := []) (rest := []) ⟨hx, hb, hml, hown, noTs⟩ (t_X10_lastStep l dC dI s.heap.size G cs tt mm a4 ha4) ⟨cbE 0 (wd_832 hE) (wd_120 hE) (wd_1024 hE) rfl rfl (by decide +kernel) ⟨Nat.le_of_ble_eq_true rfl, Nat.le_of_ble_eq_true rfl⟩, (wd_830 hE), (wd_831 hE)⟩ ⟨PT.blind, th_recv hK hP ha4.1 he3 rfl, (th_pre (av := [.ref a4]) trivial hK hP hok hnd hWT hE)⟩ rfl rfl hl.1 rfl (lv_room (Nat.le_of_ble_eq_true rfl)) dX1_findStep_13 ⟨Nat.le_of_ble_eq_true rfl, Nat.le_of_ble_eq_true rfl⟩)) (fun r4 hr4 => ?_)
  refine lv_istore (lv' := [(9, .int r4), (8, .int r2), (6, .long v3), (0, .ref a0), (1, .ref a1), (2, .int v2), (3, .long v3), (5, .ref a4)]) hx hb dX1_findStep_16 hl (by decide) rfl (fun ls hl => ?_)
  refine lv_iconst (v := 0) hx hb dX1_findStep_18 (by decide) ?_
  refine lv_istore (lv' := [(10, .int 0), (9, .int r4), (8, .int r2), (6, .long v3), (0, .ref a0), (1, .ref a1), (2, .int v2), (3, .long v3), (5, .ref a4)]) hx hb dX1_findStep_19 hl (by decide) rfl (fun ls hl => ?_)
  refine w_ind (I := fun n f H locs ls => OKT G cs tt mm f ∧ va_P (dC, dI) vwCl (va_pl (gL G) f) H ∧ va_S (AT G s.heap.size) s.heap H locs ∧ ∃ (w6_5 : Int64) (w10_5 : Int32), n = (2147483647 - w10_5.toInt).toNat ∧ 0 ≤ w10_5 ∧ lv_has ls 15 [(0, .ref a0), (1, .ref a1), (2, .int v2), (3, .long v3), (5, .ref a4), (6, .long w6_5), (8, .int r2), (9, .int r4), (10, .int w10_5)]) (fun n f5 H locs ls hI ih5 => ?_) _ f0 _ _ _ ⟨hok, hP, hS, v3, 0, rfl, (by first | omega | (simp only [i_lt, i_le, i_eq, ti_m9, ti_m1, ti_0, ti_1, ti_2, ti_3, ti_4, ti_5, ti_6, ti_7, ti_9, ti_12, ti_20, ti_99, ti_700, ti_24, ti_156, ti_72, ti_8, ti_60, ti_543, ti_10, ti_33, ti_51, ti_178, ti_119, ti_111, ti_114, ti_100, ti_32, ti_62, ti_59, ti_48, ti_701, ti_97, ti_122, ti_57, ti_73, ti_128] at hp0 hp1 ⊢; omega)), lv_sub hl [4, 5, 6, 7, 8, 3, 2, 1, 0] rfl⟩
  obtain ⟨hok, hP, hS, w6_5, w10_5, hmu5, hlo5, hl⟩ := hI
  subst hmu5
  refine lv_iload hx hb dX1_findStep_21 (lv_at hl 8 rfl) ?_
  refine lv_aload_n hx hb dX1_findStep_23 rfl (lv_at hl 1 rfl) ?_
  have he6 := ok_X7 hok ha1
  refine vp_callSi (va_Run.run (va_runV (As := []) (rest := [.int w10_5]) ⟨hx, hb, hml, hown, noTs⟩ (t_X7_stepKinds l dC dI H.size G cs tt mm a1 ha1) ⟨cbE 0 (wd_783 hE) (wd_116 hE) (wd_985 hE) rfl rfl (by decide +kernel) ⟨Nat.le_of_ble_eq_true rfl, Nat.le_of_ble_eq_true rfl⟩, (wd_781 hE), (wd_782 hE)⟩ ⟨PT.blind, th_recv hK hP ha1.1 he6 rfl, (th_pre (av := [.ref a1]) trivial hK hP hok hnd hWT hE)⟩ rfl rfl hl.1 rfl (lv_room (Nat.le_of_ble_eq_true rfl)) dX1_findStep_24 ⟨Nat.le_of_ble_eq_true rfl, Nat.le_of_ble_eq_true rfl⟩)) (fun r7 hr7 => ?_)
  refine lv_icmp_ge (tgt := 145) hx hb dX1_findStep_27 (by decide) (fun c8 => ?_) (fun c8 => ?_)
  · refine lv_lload hx hb dX1_findStep_145 (lv_at hl 5 rfl) ?_
    exact W.lret (v := w6_5) hx hb hr (fun t ht hW => ⟨⟨w6_5, f5, rfl, trivial, hok, by rw [ht]; exact hP⟩, hS.F ht⟩) hS.2.2 dX1_findStep_147
  · refine lv_aload_n hx hb dX1_findStep_30 rfl (lv_at hl 1 rfl) ?_
    refine lv_iload hx hb dX1_findStep_31 (lv_at hl 8 rfl) ?_
    refine vp_callSi (va_Run.run (va_runV (As := [.int w10_5]) (rest := []) ⟨hx, hb, hml, hown, noTs⟩ (t_X7_fromVertex l dC dI H.size G cs tt mm a1 ha1 w10_5) ⟨cbE 1 (wd_677 hE) (wd_116 hE) (wd_995 hE) rfl rfl (by decide +kernel) ⟨Nat.le_of_ble_eq_true rfl, Nat.le_of_ble_eq_true rfl⟩, (wd_675 hE), (wd_676 hE)⟩ ⟨PT.blind, th_recv hK hP ha1.1 he6 rfl, (th_pre (av := [.ref a1, .int w10_5]) trivial hK hP hok hnd hWT hE)⟩ rfl rfl hl.1 rfl (lv_room (Nat.le_of_ble_eq_true rfl)) dX1_findStep_33 ⟨Nat.le_of_ble_eq_true rfl, Nat.le_of_ble_eq_true rfl⟩)) (fun r9 hr9 => ?_)
    refine lv_iload hx hb dX1_findStep_36 (lv_at hl 6 rfl) ?_
    refine lv_icmp_ne (tgt := 51) hx hb dX1_findStep_38 (by decide) (fun c10 => ?_) (fun c10 => ?_)
    · refine lv_lconst (v := 0) hx hb dX1_findStep_51 (by decide) ?_
      refine lv_lstore (lv' := [(11, .long 0), (0, .ref a0), (1, .ref a1), (2, .int v2), (3, .long v3), (5, .ref a4), (6, .long w6_5), (8, .int r2), (9, .int r4), (10, .int w10_5)]) hx hb dX1_findStep_52 hl (by decide) rfl (fun ls hl => ?_)
      refine lv_aload_n hx hb dX1_findStep_54 rfl (lv_at hl 2 rfl) ?_
      refine lv_iload hx hb dX1_findStep_55 (lv_at hl 8 rfl) ?_
      refine lv_iload hx hb dX1_findStep_57 (lv_at hl 9 rfl) ?_
      refine vp_callSi (va_Run.run (va_runV (As := [.int r4, .int w10_5]) (rest := []) ⟨hx, hb, hml, hown, noTs⟩ (t_X7_widthBehind l dC dI H.size G cs tt mm a1 ha1 r4 w10_5) ⟨cbE 2 (wd_999 hE) (wd_116 hE) (wd_996 hE) rfl rfl (by decide +kernel) ⟨Nat.le_of_ble_eq_true rfl, Nat.le_of_ble_eq_true rfl⟩, (wd_997 hE), (wd_998 hE)⟩ ⟨PT.blind, th_recv hK hP ha1.1 he6 rfl, (th_pre (av := [.ref a1, .int r4, .int w10_5]) trivial hK hP hok hnd hWT hE)⟩ rfl rfl hl.1 rfl (lv_room (Nat.le_of_ble_eq_true rfl)) dX1_findStep_59 ⟨Nat.le_of_ble_eq_true rfl, Nat.le_of_ble_eq_true rfl⟩)) (fun r11 hr11 => ?_)
      refine lv_i2l hx hb dX1_findStep_62 rfl ?_
      refine lv_topl (fun x12 _ => ?_)
      refine lv_lload hx hb dX1_findStep_63 (lv_at hl 0 rfl) ?_
      refine lv_lmul hx hb dX1_findStep_65 ?_
      refine lv_topl (fun x13 _ => ?_)
      refine lv_lstore (lv' := [(13, .long x13), (11, .long 0), (0, .ref a0), (1, .ref a1), (2, .int v2), (3, .long v3), (5, .ref a4), (6, .long w6_5), (8, .int r2), (9, .int r4), (10, .int w10_5)]) hx hb dX1_findStep_66 hl (by decide) rfl (fun ls hl => ?_)
      refine lv_lload hx hb dX1_findStep_68 (lv_at hl 1 rfl) ?_
      refine lv_lconst (v := 0) hx hb dX1_findStep_70 (by decide) ?_
      refine W.lcmp hx hb dX1_findStep_71 ?_
      refine W.eq (g2 := F0 m 72 ls [.int 0]) rfl ?_
      refine lv_if_le (tgt := 132) hx hb dX1_findStep_72 (by decide) (fun c14 => ?_) (fun c14 => absurd c14 (by decide))
      refine lv_lload hx hb dX1_findStep_132 (lv_at hl 7 rfl) ?_
      refine lv_lload hx hb dX1_findStep_134 (lv_at hl 0 rfl) ?_
      refine lv_lsub hx hb dX1_findStep_136 ?_
      refine lv_topl (fun x15 _ => ?_)
      refine lv_lstore (lv' := [(6, .long x15), (13, .long x13), (11, .long 0), (0, .ref a0), (1, .ref a1), (2, .int v2), (3, .long v3), (5, .ref a4), (8, .int r2), (9, .int r4), (10, .int w10_5)]) hx hb dX1_findStep_137 hl (by decide) rfl (fun ls hl => ?_)
      obtain ⟨z16, ez16⟩ : ∃ z : Int32, z = w10_5 + 1 := ⟨_, rfl⟩
      refine lv_iinc (v := z16) (lv' := [(10, .int z16), (6, .long x15), (13, .long x13), (11, .long 0), (0, .ref a0), (1, .ref a1), (2, .int v2), (3, .long v3), (5, .ref a4), (8, .int r2), (9, .int r4)]) hx hb dX1_findStep_139 hl (k := 10) rfl (by rw [ez16]; rfl) (by decide) rfl (fun ls hl => ?_)
      have ic16 : z16.toInt = w10_5.toInt + 1 := by rw [ez16]; exact ic_up (by have := i_rng w10_5; have := i_rng r7; have := i_rng r9; have := i_rng r2; simp only [i_lt, i_le, i_eq, ti_m9, ti_m1, ti_0, ti_1, ti_2, ti_3, ti_4, ti_5, ti_6, ti_7, ti_9, ti_12, ti_20, ti_99, ti_700, ti_24, ti_156, ti_72, ti_8, ti_60, ti_543, ti_10, ti_33, ti_51, ti_178, ti_119, ti_111, ti_114, ti_100, ti_32, ti_62, ti_59, ti_48, ti_701, ti_97, ti_122, ti_57, ti_73, ti_128] at hp0 hp1 hlo5 c8 c10 ⊢; omega)
      refine lv_goto (tgt := 21) hx hb dX1_findStep_142 (by decide) ?_
      exact ih5 _ f5 _ _ _ (by have := i_rng z16; first | omega | (simp only [i_lt, i_le, i_eq, ti_m9, ti_m1, ti_0, ti_1, ti_2, ti_3, ti_4, ti_5, ti_6, ti_7, ti_9, ti_12, ti_20, ti_99, ti_700, ti_24, ti_156, ti_72, ti_8, ti_60, ti_543, ti_10, ti_33, ti_51, ti_178, ti_119, ti_111, ti_114, ti_100, ti_32, ti_62, ti_59, ti_48, ti_701, ti_97, ti_122, ti_57, ti_73, ti_128, ic16] at hp0 hp1 hlo5 c8 c10 ic16 ⊢; omega)) ⟨hok, hP, hS, x15, z16, rfl, (by first | omega | (simp only [i_lt, i_le, i_eq, ti_m9, ti_m1, ti_0, ti_1, ti_2, ti_3, ti_4, ti_5, ti_6, ti_7, ti_9, ti_12, ti_20, ti_99, ti_700, ti_24, ti_156, ti_72, ti_8, ti_60, ti_543, ti_10, ti_33, ti_51, ti_178, ti_119, ti_111, ti_114, ti_100, ti_32, ti_62, ti_59, ti_48, ti_701, ti_97, ti_122, ti_57, ti_73, ti_128, ic16] at hp0 hp1 hlo5 c8 c10 ⊢; omega)), lv_sub hl [4, 5, 6, 7, 8, 1, 9, 10, 0] rfl⟩
    · refine lv_aload_n hx hb dX1_findStep_41 rfl (lv_at hl 0 rfl) ?_
      refine lv_iload_n hx hb dX1_findStep_42 rfl (lv_at hl 2 rfl) ?_
      refine lv_iload hx hb dX1_findStep_43 (lv_at hl 8 rfl) ?_
      have he17 := ok_X1 hok ha0
      refine vp_callSl (va_Run.run (va_runV (As := [.int v2, .int w10_5]) (rest := []) ⟨hx, hb, hml, hown, noTs⟩ (t_X1_waysBehind l dC dI H.size G cs tt mm a0 ha0 v2 w10_5 (by first | omega | (simp only [i_lt, i_le, i_eq, ti_m9, ti_m1, ti_0, ti_1, ti_2, ti_3, ti_4, ti_5, ti_6, ti_7, ti_9, ti_12, ti_20, ti_99, ti_700, ti_24, ti_156, ti_72, ti_8, ti_60, ti_543, ti_10, ti_33, ti_51, ti_178, ti_119, ti_111, ti_114, ti_100, ti_32, ti_62, ti_59, ti_48, ti_701, ti_97, ti_122, ti_57, ti_73, ti_128] at hp0 hp1 hlo5 c8 c10 ⊢; omega))) ⟨cbE 2 (wd_1006 hE) (wd_125 hE) (wd_1003 hE) rfl rfl (by decide +kernel) ⟨Nat.le_of_ble_eq_true rfl, Nat.le_of_ble_eq_true rfl⟩, (wd_1005 hE), (wd_35 hE)⟩ ⟨PT.blind, th_recv hK hP ha0.1 he17 rfl, (th_pre (av := [.ref a0, .int v2, .int w10_5]) trivial hK hP hok hnd hWT hE)⟩ rfl rfl hl.1 rfl (lv_room (Nat.le_of_ble_eq_true rfl)) dX1_findStep_45 ⟨Nat.le_of_ble_eq_true rfl, Nat.le_of_ble_eq_true rfl⟩)) (fun r18 hr18 => ?_)
      refine lv_goto (tgt := 52) hx hb dX1_findStep_48 (by decide) ?_
      refine lv_lstore (lv' := [(11, .long r18), (0, .ref a0), (1, .ref a1), (2, .int v2), (3, .long v3), (5, .ref a4), (6, .long w6_5), (8, .int r2), (9, .int r4), (10, .int w10_5)]) hx hb dX1_findStep_52 hl (by decide) rfl (fun ls hl => ?_)
      refine lv_aload_n hx hb dX1_findStep_54 rfl (lv_at hl 2 rfl) ?_
      refine lv_iload hx hb dX1_findStep_55 (lv_at hl 8 rfl) ?_
      refine lv_iload hx hb dX1_findStep_57 (lv_at hl 9 rfl) ?_
      refine vp_callSi (va_Run.run (va_runV (As := [.int r4, .int w10_5]) (rest := []) ⟨hx, hb, hml, hown, noTs⟩ (t_X7_widthBehind l dC dI H.size G cs tt mm a1 ha1 r4 w10_5) ⟨cbE 2 (wd_999 hE) (wd_116 hE) (wd_996 hE) rfl rfl (by decide +kernel) ⟨Nat.le_of_ble_eq_true rfl, Nat.le_of_ble_eq_true rfl⟩, (wd_997 hE), (wd_998 hE)⟩ ⟨PT.blind, th_recv hK hP ha1.1 he6 rfl, (th_pre (av := [.ref a1, .int r4, .int w10_5]) trivial hK hP hok hnd hWT hE)⟩ rfl rfl hl.1 rfl (lv_room (Nat.le_of_ble_eq_true rfl)) dX1_findStep_59 ⟨Nat.le_of_ble_eq_true rfl, Nat.le_of_ble_eq_true rfl⟩)) (fun r19 hr19 => ?_)
      refine lv_i2l hx hb dX1_findStep_62 rfl ?_
      refine lv_topl (fun x20 _ => ?_)
      refine lv_lload hx hb dX1_findStep_63 (lv_at hl 0 rfl) ?_
      refine lv_lmul hx hb dX1_findStep_65 ?_
      refine lv_topl (fun x21 _ => ?_)
      refine lv_lstore (lv' := [(13, .long x21), (11, .long r18), (0, .ref a0), (1, .ref a1), (2, .int v2), (3, .long v3), (5, .ref a4), (6, .long w6_5), (8, .int r2), (9, .int r4), (10, .int w10_5)]) hx hb dX1_findStep_66 hl (by decide) rfl (fun ls hl => ?_)
      refine lv_lload hx hb dX1_findStep_68 (lv_at hl 1 rfl) ?_
      refine lv_lconst (v := 0) hx hb dX1_findStep_70 (by decide) ?_
      refine W.lcmp hx hb dX1_findStep_71 ?_
      refine lv_topi (fun x22 ex22 => ?_)
      refine lv_if_le (tgt := 132) hx hb dX1_findStep_72 (by decide) (fun c23 => ?_) (fun c23 => ?_)
      · refine lv_lload hx hb dX1_findStep_132 (lv_at hl 7 rfl) ?_
        refine lv_lload hx hb dX1_findStep_134 (lv_at hl 0 rfl) ?_
        refine lv_lsub hx hb dX1_findStep_136 ?_
        refine lv_topl (fun x24 _ => ?_)
        refine lv_lstore (lv' := [(6, .long x24), (13, .long x21), (11, .long r18), (0, .ref a0), (1, .ref a1), (2, .int v2), (3, .long v3), (5, .ref a4), (8, .int r2), (9, .int r4), (10, .int w10_5)]) hx hb dX1_findStep_137 hl (by decide) rfl (fun ls hl => ?_)
        obtain ⟨z25, ez25⟩ : ∃ z : Int32, z = w10_5 + 1 := ⟨_, rfl⟩
        refine lv_iinc (v := z25) (lv' := [(10, .int z25), (6, .long x24), (13, .long x21), (11, .long r18), (0, .ref a0), (1, .ref a1), (2, .int v2), (3, .long v3), (5, .ref a4), (8, .int r2), (9, .int r4)]) hx hb dX1_findStep_139 hl (k := 10) rfl (by rw [ez25]; rfl) (by decide) rfl (fun ls hl => ?_)
        have ic25 : z25.toInt = w10_5.toInt + 1 := by rw [ez25]; exact ic_up (by have := i_rng w10_5; have := i_rng r7; have := i_rng r9; have := i_rng r2; have := i_rng x22; simp only [i_lt, i_le, i_eq, ti_m9, ti_m1, ti_0, ti_1, ti_2, ti_3, ti_4, ti_5, ti_6, ti_7, ti_9, ti_12, ti_20, ti_99, ti_700, ti_24, ti_156, ti_72, ti_8, ti_60, ti_543, ti_10, ti_33, ti_51, ti_178, ti_119, ti_111, ti_114, ti_100, ti_32, ti_62, ti_59, ti_48, ti_701, ti_97, ti_122, ti_57, ti_73, ti_128] at hp0 hp1 hlo5 c8 c10 c23 ⊢; omega)
        refine lv_goto (tgt := 21) hx hb dX1_findStep_142 (by decide) ?_
        exact ih5 _ f5 _ _ _ (by have := i_rng z25; first | omega | (simp only [i_lt, i_le, i_eq, ti_m9, ti_m1, ti_0, ti_1, ti_2, ti_3, ti_4, ti_5, ti_6, ti_7, ti_9, ti_12, ti_20, ti_99, ti_700, ti_24, ti_156, ti_72, ti_8, ti_60, ti_543, ti_10, ti_33, ti_51, ti_178, ti_119, ti_111, ti_114, ti_100, ti_32, ti_62, ti_59, ti_48, ti_701, ti_97, ti_122, ti_57, ti_73, ti_128, ic25] at hp0 hp1 hlo5 c8 c10 c23 ic25 ⊢; omega)) ⟨hok, hP, hS, x24, z25, rfl, (by first | omega | (simp only [i_lt, i_le, i_eq, ti_m9, ti_m1, ti_0, ti_1, ti_2, ti_3, ti_4, ti_5, ti_6, ti_7, ti_9, ti_12, ti_20, ti_99, ti_700, ti_24, ti_156, ti_72, ti_8, ti_60, ti_543, ti_10, ti_33, ti_51, ti_178, ti_119, ti_111, ti_114, ti_100, ti_32, ti_62, ti_59, ti_48, ti_701, ti_97, ti_122, ti_57, ti_73, ti_128, ic25] at hp0 hp1 hlo5 c8 c10 c23 ⊢; omega)), lv_sub hl [4, 5, 6, 7, 8, 1, 9, 10, 0] rfl⟩
      · have nz26 : ¬ r18 = 0 := lc_gt0 ex22 (by simp only [i_lt, i_le, i_eq, ti_m9, ti_m1, ti_0, ti_1, ti_2, ti_3, ti_4, ti_5, ti_6, ti_7, ti_9, ti_12, ti_20, ti_99, ti_700, ti_24, ti_156, ti_72, ti_8, ti_60, ti_543, ti_10, ti_33, ti_51, ti_178, ti_119, ti_111, ti_114, ti_100, ti_32, ti_62, ti_59, ti_48, ti_701, ti_97, ti_122, ti_57, ti_73, ti_128] at c23 ⊢; omega)
        refine lv_lload hx hb dX1_findStep_75 (lv_at hl 7 rfl) ?_
        refine lv_lload hx hb dX1_findStep_77 (lv_at hl 0 rfl) ?_
        refine W.lcmp hx hb dX1_findStep_79 ?_
        refine lv_topi (fun x27 ex27 => ?_)
        refine lv_if_ge (tgt := 132) hx hb dX1_findStep_80 (by decide) (fun c28 => ?_) (fun c28 => ?_)
        · refine lv_lload hx hb dX1_findStep_132 (lv_at hl 7 rfl) ?_
          refine lv_lload hx hb dX1_findStep_134 (lv_at hl 0 rfl) ?_
          refine lv_lsub hx hb dX1_findStep_136 ?_
          refine lv_topl (fun x29 _ => ?_)
          refine lv_lstore (lv' := [(6, .long x29), (13, .long x21), (11, .long r18), (0, .ref a0), (1, .ref a1), (2, .int v2), (3, .long v3), (5, .ref a4), (8, .int r2), (9, .int r4), (10, .int w10_5)]) hx hb dX1_findStep_137 hl (by decide) rfl (fun ls hl => ?_)
          obtain ⟨z30, ez30⟩ : ∃ z : Int32, z = w10_5 + 1 := ⟨_, rfl⟩
          refine lv_iinc (v := z30) (lv' := [(10, .int z30), (6, .long x29), (13, .long x21), (11, .long r18), (0, .ref a0), (1, .ref a1), (2, .int v2), (3, .long v3), (5, .ref a4), (8, .int r2), (9, .int r4)]) hx hb dX1_findStep_139 hl (k := 10) rfl (by rw [ez30]; rfl) (by decide) rfl (fun ls hl => ?_)
          have ic30 : z30.toInt = w10_5.toInt + 1 := by rw [ez30]; exact ic_up (by have := i_rng w10_5; have := i_rng r7; have := i_rng r9; have := i_rng r2; have := i_rng x22; have := i_rng x27; simp only [i_lt, i_le, i_eq, ti_m9, ti_m1, ti_0, ti_1, ti_2, ti_3, ti_4, ti_5, ti_6, ti_7, ti_9, ti_12, ti_20, ti_99, ti_700, ti_24, ti_156, ti_72, ti_8, ti_60, ti_543, ti_10, ti_33, ti_51, ti_178, ti_119, ti_111, ti_114, ti_100, ti_32, ti_62, ti_59, ti_48, ti_701, ti_97, ti_122, ti_57, ti_73, ti_128] at hp0 hp1 hlo5 c8 c10 c23 c28 ⊢; omega)
          refine lv_goto (tgt := 21) hx hb dX1_findStep_142 (by decide) ?_
          exact ih5 _ f5 _ _ _ (by have := i_rng z30; first | omega | (simp only [i_lt, i_le, i_eq, ti_m9, ti_m1, ti_0, ti_1, ti_2, ti_3, ti_4, ti_5, ti_6, ti_7, ti_9, ti_12, ti_20, ti_99, ti_700, ti_24, ti_156, ti_72, ti_8, ti_60, ti_543, ti_10, ti_33, ti_51, ti_178, ti_119, ti_111, ti_114, ti_100, ti_32, ti_62, ti_59, ti_48, ti_701, ti_97, ti_122, ti_57, ti_73, ti_128, ic30] at hp0 hp1 hlo5 c8 c10 c23 c28 ic30 ⊢; omega)) ⟨hok, hP, hS, x29, z30, rfl, (by first | omega | (simp only [i_lt, i_le, i_eq, ti_m9, ti_m1, ti_0, ti_1, ti_2, ti_3, ti_4, ti_5, ti_6, ti_7, ti_9, ti_12, ti_20, ti_99, ti_700, ti_24, ti_156, ti_72, ti_8, ti_60, ti_543, ti_10, ti_33, ti_51, ti_178, ti_119, ti_111, ti_114, ti_100, ti_32, ti_62, ti_59, ti_48, ti_701, ti_97, ti_122, ti_57, ti_73, ti_128, ic30] at hp0 hp1 hlo5 c8 c10 c23 c28 ⊢; omega)), lv_sub hl [4, 5, 6, 7, 8, 1, 9, 10, 0] rfl⟩
        · refine lv_aload hx hb dX1_findStep_83 (lv_at hl 6 rfl) ?_
          refine lv_aload hx hb dX1_findStep_85 (lv_at hl 6 rfl) ?_
          obtain ⟨y2_31, y3_31, hy3_31, he31⟩ := ok_X10 hok ha4
          refine vp_callSi (va_Run.run (va_runV (As := []) (rest := [.ref a4]) ⟨hx, hb, hml, hown, noTs⟩ (t_X10_size l dC dI H.size G cs tt mm a4 ha4 y2_31 y3_31) ⟨cbE 0 (wd_666 hE) (wd_120 hE) (wd_1025 hE) rfl rfl (by decide +kernel) ⟨Nat.le_of_ble_eq_true rfl, Nat.le_of_ble_eq_true rfl⟩, (wd_664 hE), (wd_665 hE)⟩ ⟨PT.blind, th_recv hK hP ha4.1 he31 rfl, (th_pre (av := [.ref a4]) he31 hK hP hok hnd hWT hE)⟩ rfl rfl hl.1 rfl (lv_room (Nat.le_of_ble_eq_true rfl)) dX1_findStep_87 ⟨Nat.le_of_ble_eq_true rfl, Nat.le_of_ble_eq_true rfl⟩)) (fun r32 hr32 => ?_)
          subst hr32
          refine lv_lload hx hb dX1_findStep_90 (lv_at hl 7 rfl) ?_
          refine lv_lload hx hb dX1_findStep_92 (lv_at hl 1 rfl) ?_
          refine lv_ldiv hx hb dX1_findStep_94 nz26 ?_
          refine lv_topl (fun x33 _ => ?_)
          refine lv_l2i hx hb dX1_findStep_95 rfl ?_
          refine lv_topi (fun x34 _ => ?_)
          refine lv_iload hx hb dX1_findStep_96 (lv_at hl 10 rfl) ?_
          refine lv_iload hx hb dX1_findStep_98 (lv_at hl 9 rfl) ?_
          refine vp_callSi (va_Run.run (va_runSN (As := [.int r4]) (rest := [.int w10_5, .int x34, .int (nI y3_31), .ref a4]) ⟨hx, hb, hml, hown, noTs⟩ (t_X11_opposite l dC dI H.size G cs tt mm r4) ⟨cnE 1 (wd_865 hE) (wd_115 hE) (wd_1026 hE) rfl rfl (by decide +kernel) ⟨Nat.le_of_ble_eq_true rfl, Nat.le_of_ble_eq_true rfl⟩, (wd_864 hE), trivial⟩ ⟨PT.blind, (th_pre (av := [.int r4]) trivial hK hP hok hnd hWT hE)⟩ rfl rfl hl.1 rfl (lv_room (Nat.le_of_ble_eq_true rfl)) dX1_findStep_100 ⟨Nat.le_of_ble_eq_true rfl, Nat.le_of_ble_eq_true rfl⟩)) (fun r35 hr35 => ?_)
          refine lv_icmp_ne (tgt := 110) hx hb dX1_findStep_103 (by decide) (fun c36 => ?_) (fun c36 => ?_)
          · refine lv_iconst (v := 0) hx hb dX1_findStep_110 (by decide) ?_
            refine vp_callSi (va_Run.run (va_runSN (As := [.int 0]) (rest := [.int x34, .int (nI y3_31), .ref a4]) ⟨hx, hb, hml, hown, noTs⟩ (t_X11_bit l dC dI H.size G cs tt mm 0) ⟨cnE 1 (wd_669 hE) (wd_115 hE) (wd_1027 hE) rfl rfl (by decide +kernel) ⟨Nat.le_of_ble_eq_true rfl, Nat.le_of_ble_eq_true rfl⟩, (wd_668 hE), trivial⟩ ⟨PT.blind, (th_pre (av := [.int 0]) trivial hK hP hok hnd hWT hE)⟩ rfl rfl hl.1 rfl (lv_room (Nat.le_of_ble_eq_true rfl)) dX1_findStep_111 ⟨Nat.le_of_ble_eq_true rfl, Nat.le_of_ble_eq_true rfl⟩)) (fun r37 hr37 => ?_)
            refine lv_iadd hx hb dX1_findStep_114 ?_
            refine lv_topi (fun x38 ex38 => ?_)
            refine tc_v hAL hS hA (va_runV (As := [.int (nI y3_31), .int x38]) (rest := []) ⟨hx, hb, hml, hown, noTs⟩ (t_X10_putNumber l dC dI H.size G cs tt mm a4 ha4 (nI y3_31) x38) ⟨cbE 2 (wd_654 hE) (wd_120 hE) (wd_1028 hE) rfl rfl (by decide +kernel) ⟨Nat.le_of_ble_eq_true rfl, Nat.le_of_ble_eq_true rfl⟩, (wd_652 hE), (wd_653 hE)⟩ ⟨PT.blind, th_recv hK hP ha4.1 he31 rfl, (th_pre (av := [.ref a4, .int (nI y3_31), .int x38]) trivial hK hP hok hnd hWT hE)⟩ rfl rfl hl.1 rfl (lv_room (Nat.le_of_ble_eq_true rfl)) dX1_findStep_115 ⟨Nat.le_of_ble_eq_true rfl, Nat.le_of_ble_eq_true rfl⟩) (fun f39 H locs hr39 hok hP hS => ?_)
            refine lv_aload hx hb dX1_findStep_118 (lv_at hl 6 rfl) ?_
            refine lv_iload hx hb dX1_findStep_120 (lv_at hl 10 rfl) ?_
            refine lv_iconst (v := 0) hx hb dX1_findStep_122 (by decide) ?_
            obtain ⟨y2_40, y3_40, hy3_40, he40⟩ := ok_X10 hok ha4
            refine tc_v hAL hS hA (va_runV (As := [.int w10_5, .int 0]) (rest := []) ⟨hx, hb, hml, hown, noTs⟩ (t_X10_push l dC dI H.size G cs tt mm a4 ha4 w10_5 0) ⟨cbE 2 (wd_688 hE) (wd_120 hE) (wd_1029 hE) rfl rfl (by decide +kernel) ⟨Nat.le_of_ble_eq_true rfl, Nat.le_of_ble_eq_true rfl⟩, (wd_686 hE), (wd_687 hE)⟩ ⟨PT.blind, th_recv hK hP ha4.1 he40 rfl, (th_pre (av := [.ref a4, .int w10_5, .int 0]) trivial hK hP hok hnd hWT hE)⟩ rfl rfl hl.1 rfl (lv_room (Nat.le_of_ble_eq_true rfl)) dX1_findStep_123 ⟨Nat.le_of_ble_eq_true rfl, Nat.le_of_ble_eq_true rfl⟩) (fun f41 H locs hr41 hok hP hS => ?_)
            refine lv_lload hx hb dX1_findStep_126 (lv_at hl 7 rfl) ?_
            refine lv_lload hx hb dX1_findStep_128 (lv_at hl 1 rfl) ?_
            refine lv_lrem hx hb dX1_findStep_130 nz26 ?_
            refine lv_topl (fun x42 _ => ?_)
            exact W.lret (v := x42) hx hb hr (fun t ht hW => ⟨⟨x42, f41, rfl, trivial, hok, by rw [ht]; exact hP⟩, hS.F ht⟩) hS.2.2 dX1_findStep_131
          · refine lv_iconst (v := 1) hx hb dX1_findStep_106 (by decide) ?_
            refine lv_goto (tgt := 111) hx hb dX1_findStep_107 (by decide) ?_
            refine vp_callSi (va_Run.run (va_runSN (As := [.int 1]) (rest := [.int x34, .int (nI y3_31), .ref a4]) ⟨hx, hb, hml, hown, noTs⟩ (t_X11_bit l dC dI H.size G cs tt mm 1) ⟨cnE 1 (wd_669 hE) (wd_115 hE) (wd_1027 hE) rfl rfl (by decide +kernel) ⟨Nat.le_of_ble_eq_true rfl, Nat.le_of_ble_eq_true rfl⟩, (wd_668 hE), trivial⟩ ⟨PT.blind, (th_pre (av := [.int 1]) trivial hK hP hok hnd hWT hE)⟩ rfl rfl hl.1 rfl (lv_room (Nat.le_of_ble_eq_true rfl)) dX1_findStep_111 ⟨Nat.le_of_ble_eq_true rfl, Nat.le_of_ble_eq_true rfl⟩)) (fun r43 hr43 => ?_)
            refine lv_iadd hx hb dX1_findStep_114 ?_
            refine lv_topi (fun x44 ex44 => ?_)
            refine tc_v hAL hS hA (va_runV (As := [.int (nI y3_31), .int x44]) (rest := []) ⟨hx, hb, hml, hown, noTs⟩ (t_X10_putNumber l dC dI H.size G cs tt mm a4 ha4 (nI y3_31) x44) ⟨cbE 2 (wd_654 hE) (wd_120 hE) (wd_1028 hE) rfl rfl (by decide +kernel) ⟨Nat.le_of_ble_eq_true rfl, Nat.le_of_ble_eq_true rfl⟩, (wd_652 hE), (wd_653 hE)⟩ ⟨PT.blind, th_recv hK hP ha4.1 he31 rfl, (th_pre (av := [.ref a4, .int (nI y3_31), .int x44]) trivial hK hP hok hnd hWT hE)⟩ rfl rfl hl.1 rfl (lv_room (Nat.le_of_ble_eq_true rfl)) dX1_findStep_115 ⟨Nat.le_of_ble_eq_true rfl, Nat.le_of_ble_eq_true rfl⟩) (fun f45 H locs hr45 hok hP hS => ?_)
            refine lv_aload hx hb dX1_findStep_118 (lv_at hl 6 rfl) ?_
            refine lv_iload hx hb dX1_findStep_120 (lv_at hl 10 rfl) ?_
            refine lv_iconst (v := 0) hx hb dX1_findStep_122 (by decide) ?_
            obtain ⟨y2_46, y3_46, hy3_46, he46⟩ := ok_X10 hok ha4
            refine tc_v hAL hS hA (va_runV (As := [.int w10_5, .int 0]) (rest := []) ⟨hx, hb, hml, hown, noTs⟩ (t_X10_push l dC dI H.size G cs tt mm a4 ha4 w10_5 0) ⟨cbE 2 (wd_688 hE) (wd_120 hE) (wd_1029 hE) rfl rfl (by decide +kernel) ⟨Nat.le_of_ble_eq_true rfl, Nat.le_of_ble_eq_true rfl⟩, (wd_686 hE), (wd_687 hE)⟩ ⟨PT.blind, th_recv hK hP ha4.1 he46 rfl, (th_pre (av := [.ref a4, .int w10_5, .int 0]) trivial hK hP hok hnd hWT hE)⟩ rfl rfl hl.1 rfl (lv_room (Nat.le_of_ble_eq_true rfl)) dX1_findStep_123 ⟨Nat.le_of_ble_eq_true rfl, Nat.le_of_ble_eq_true rfl⟩) (fun f47 H locs hr47 hok hP hS => ?_)
            refine lv_lload hx hb dX1_findStep_126 (lv_at hl 7 rfl) ?_
            refine lv_lload hx hb dX1_findStep_128 (lv_at hl 1 rfl) ?_
            refine lv_lrem hx hb dX1_findStep_130 nz26 ?_
            refine lv_topl (fun x48 _ => ?_)
            exact W.lret (v := x48) hx hb hr (fun t ht hW => ⟨⟨x48, f47, rfl, trivial, hok, by rw [ht]; exact hP⟩, hS.F ht⟩) hS.2.2 dX1_findStep_131

set_option maxHeartbeats 4000000 in
set_option maxRecDepth 100000 in
theorem t_X1_find (l : Launch) (dC : Nat → ClassId) (dI : Nat → Nat → Nat) (sz : Nat) (G : GT) (cs : Nat → ClassId) (tt mm : Nat) (a0 : Nat) (ha0 : Ty G a0 2) (a1 : Nat) (ha1 : Ty G a1 7) (v2 : Int32) (v3 : Int32) (v4 : Int32) (a5 : Nat) (ha5 : Ty G a5 10) (hp0 : 0 ≤ v3.toInt) (hp1 : v3.toInt ≤ 12) : Met l yX1_find [.code yX1_find cX1_find 9 none] ({ frames := 5, cells := 0, slots := 0, locals := 200 }) (PT [.ref a0, .ref a1, .int v2, .int v3, .int v4, .ref a5] sz dC dI G cs tt mm (fun _ => True)) (va_Qv (fun (u : Nat → va_E) => True) (BT dC dI G cs tt mm) (AT G sz)) 0 0 (AT G sz) := by
  refine Met.ofW (cc := cX1_find) (maxL := 9) (ret := none) (by decide) rfl ?_
  intro p e s m args below meth c s₁ B hml hv
  obtain ⟨rfl, hsz, ⟨f0, hok, hP, hX⟩, hK, hnd, hWT, hE⟩ := hv
  have hx := B.exec
  have hb := B.bytes
  have hr := B.returns
  have hown : s.vm.findClass RX1 = some m.cls := findClass_of_methodNamed B.named
  have hlocks := B.notSynchronized
  subst hsz
  have hAL : ∀ a, a ∈ gL G → AT G s.heap.size a := fun a h => Or.inl h
  have hA : ∀ q : Nat, s.heap.size ≤ q → AT G s.heap.size q := fun q h => Or.inr h
  have hS : va_S (AT G s.heap.size) s.heap s.heap [] := va_S.rf
  have hl := lv_entry ([.ref a0, .ref a1, .int v2, .int v3, .int v4, .ref a5]) (n := 9) (Nat.le_of_ble_eq_true rfl)
  rw [lg_entry_eq]
  generalize (lg_sl ([.ref a0, .ref a1, .int v2, .int v3, .int v4, .ref a5]) ++ List.replicate (9 - (lg_sl ([.ref a0, .ref a1, .int v2, .int v3, .int v4, .ref a5])).length) Slot.unset).toArray = ls at hl ⊢
  have hl : lv_has ls 9 [(0, .ref a0), (1, .ref a1), (2, .int v2), (3, .int v3), (4, .int v4), (5, .ref a5)] := hl
  refine lv_aload_n hx hb dX1_find_0 rfl (lv_at hl 0 rfl) ?_
  refine lv_aload_n hx hb dX1_find_1 rfl (lv_at hl 1 rfl) ?_
  refine lv_iload_n hx hb dX1_find_2 rfl (lv_at hl 2 rfl) ?_
  refine lv_iload_n hx hb dX1_find_3 rfl (lv_at hl 3 rfl) ?_
  have he1 := ok_X1 hok ha0
  refine tc_v hAL hS hA (va_runV (As := [.ref a1, .int v2, .int v3]) (rest := []) ⟨hx, hb, hml, hown, noTs⟩ (t_X1_fillLoops l dC dI s.heap.size G cs tt mm a0 ha0 a1 ha1 v2 v3 (by first | omega | (simp only [i_lt, i_le, i_eq, ti_m9, ti_m1, ti_0, ti_1, ti_2, ti_3, ti_4, ti_5, ti_6, ti_7, ti_9, ti_12, ti_20, ti_99, ti_700, ti_24, ti_156, ti_72, ti_8, ti_60, ti_543, ti_10, ti_33, ti_51, ti_178, ti_119, ti_111, ti_114, ti_100, ti_32, ti_62, ti_59, ti_48, ti_701, ti_97, ti_122, ti_57, ti_73, ti_128] at hp0 hp1 ⊢; omega)) (by first | omega | (simp only [i_lt, i_le, i_eq, ti_m9, ti_m1, ti_0, ti_1, ti_2, ti_3, ti_4, ti_5, ti_6, ti_7, ti_9, ti_12, ti_20, ti_99, ti_700, ti_24, ti_156, ti_72, ti_8, ti_60, ti_543, ti_10, ti_33, ti_51, ti_178, ti_119, ti_111, ti_114, ti_100, ti_32, ti_62, ti_59, ti_48, ti_701, ti_97, ti_122, ti_57, ti_73, ti_128] at hp0 hp1 ⊢; omega))) ⟨cbE 3 (wd_983 hE) (wd_125 hE) (wd_980 hE) rfl rfl (by decide +kernel) ⟨Nat.le_of_ble_eq_true rfl, Nat.le_of_ble_eq_true rfl⟩, (wd_982 hE), (wd_32 hE)⟩ ⟨PT.blind, th_recv hK hP ha0.1 he1 rfl, (th_pre (av := [.ref a0, .ref a1, .int v2, .int v3]) trivial hK hP hok hnd hWT hE)⟩ rfl rfl hl.1 rfl (lv_room (Nat.le_of_ble_eq_true rfl)) dX1_find_4 ⟨Nat.le_of_ble_eq_true rfl, Nat.le_of_ble_eq_true rfl⟩) (fun f2 H locs hr2 hok hP hS => ?_)
  refine lv_iload hx hb dX1_find_7 (lv_at hl 4 rfl) ?_
  refine lv_i2l hx hb dX1_find_9 rfl ?_
  refine lv_topl (fun x3 _ => ?_)
  refine lv_lstore (lv' := [(6, .long x3), (0, .ref a0), (1, .ref a1), (2, .int v2), (3, .int v3), (4, .int v4), (5, .ref a5)]) hx hb dX1_find_10 hl (by decide) rfl (fun ls hl => ?_)
  refine lv_aload hx hb dX1_find_12 (lv_at hl 6 rfl) ?_
  refine lv_iload_n hx hb dX1_find_14 rfl (lv_at hl 3 rfl) ?_
  refine lv_iconst (v := 0) hx hb dX1_find_15 (by decide) ?_
  obtain ⟨y2_4, y3_4, hy3_4, he4⟩ := ok_X10 hok ha5
  refine tc_v hAL hS hA (va_runV (As := [.int v2, .int 0]) (rest := []) ⟨hx, hb, hml, hown, noTs⟩ (t_X10_start l dC dI H.size G cs tt mm a5 ha5 v2 0) ⟨cbE 2 (wd_637 hE) (wd_120 hE) (wd_1018 hE) rfl rfl (by decide +kernel) ⟨Nat.le_of_ble_eq_true rfl, Nat.le_of_ble_eq_true rfl⟩, (wd_635 hE), (wd_636 hE)⟩ ⟨PT.blind, th_recv hK hP ha5.1 he4 rfl, (th_pre (av := [.ref a5, .int v2, .int 0]) trivial hK hP hok hnd hWT hE)⟩ rfl rfl hl.1 rfl (lv_room (Nat.le_of_ble_eq_true rfl)) dX1_find_16 ⟨Nat.le_of_ble_eq_true rfl, Nat.le_of_ble_eq_true rfl⟩) (fun f5 H locs hr5 hok hP hS => ?_)
  refine lv_iconst (v := 1) hx hb dX1_find_19 (by decide) ?_
  refine lv_istore (lv' := [(8, .int 1), (6, .long x3), (0, .ref a0), (1, .ref a1), (2, .int v2), (3, .int v3), (4, .int v4), (5, .ref a5)]) hx hb dX1_find_20 hl (by decide) rfl (fun ls hl => ?_)
  refine w_ind (I := fun n f H locs ls => OKT G cs tt mm f ∧ va_P (dC, dI) vwCl (va_pl (gL G) f) H ∧ va_S (AT G s.heap.size) s.heap H locs ∧ ∃ (w6_6 : Int64) (w8_6 : Int32), n = (2147483647 - w8_6.toInt).toNat ∧ 1 ≤ w8_6 ∧ lv_has ls 9 [(0, .ref a0), (1, .ref a1), (2, .int v2), (3, .int v3), (4, .int v4), (5, .ref a5), (6, .long w6_6), (8, .int w8_6)]) (fun n f6 H locs ls hI ih6 => ?_) _ f5 _ _ _ ⟨hok, hP, hS, x3, 1, rfl, (by first | omega | (simp only [i_lt, i_le, i_eq, ti_m9, ti_m1, ti_0, ti_1, ti_2, ti_3, ti_4, ti_5, ti_6, ti_7, ti_9, ti_12, ti_20, ti_99, ti_700, ti_24, ti_156, ti_72, ti_8, ti_60, ti_543, ti_10, ti_33, ti_51, ti_178, ti_119, ti_111, ti_114, ti_100, ti_32, ti_62, ti_59, ti_48, ti_701, ti_97, ti_122, ti_57, ti_73, ti_128] at hp0 hp1 ⊢; omega)), lv_sub hl [2, 3, 4, 5, 6, 7, 1, 0] rfl⟩
  obtain ⟨hok, hP, hS, w6_6, w8_6, hmu6, hlo6, hl⟩ := hI
  subst hmu6
  refine lv_iload hx hb dX1_find_22 (lv_at hl 7 rfl) ?_
  refine lv_iload_n hx hb dX1_find_24 rfl (lv_at hl 3 rfl) ?_
  refine lv_icmp_gt (tgt := 49) hx hb dX1_find_25 (by decide) (fun c7 => ?_) (fun c7 => ?_)
  · refine lv_aload hx hb dX1_find_49 (lv_at hl 5 rfl) ?_
    refine lv_aload hx hb dX1_find_51 (lv_at hl 5 rfl) ?_
    obtain ⟨y2_8, y3_8, hy3_8, he8⟩ := ok_X10 hok ha5
    refine vp_callSi (va_Run.run (va_runV (As := []) (rest := [.ref a5]) ⟨hx, hb, hml, hown, noTs⟩ (t_X10_size l dC dI H.size G cs tt mm a5 ha5 y2_8 y3_8) ⟨cbE 0 (wd_666 hE) (wd_120 hE) (wd_1025 hE) rfl rfl (by decide +kernel) ⟨Nat.le_of_ble_eq_true rfl, Nat.le_of_ble_eq_true rfl⟩, (wd_664 hE), (wd_665 hE)⟩ ⟨PT.blind, th_recv hK hP ha5.1 he8 rfl, (th_pre (av := [.ref a5]) he8 hK hP hok hnd hWT hE)⟩ rfl rfl hl.1 rfl (lv_room (Nat.le_of_ble_eq_true rfl)) dX1_find_53 ⟨Nat.le_of_ble_eq_true rfl, Nat.le_of_ble_eq_true rfl⟩)) (fun r9 hr9 => ?_)
    subst hr9
    refine lv_lload hx hb dX1_find_56 (lv_at hl 6 rfl) ?_
    refine lv_l2i hx hb dX1_find_58 rfl ?_
    refine lv_topi (fun x10 _ => ?_)
    refine tc_v hAL hS hA (va_runV (As := [.int (nI y3_8), .int x10]) (rest := []) ⟨hx, hb, hml, hown, noTs⟩ (t_X10_putNumber l dC dI H.size G cs tt mm a5 ha5 (nI y3_8) x10) ⟨cbE 2 (wd_654 hE) (wd_120 hE) (wd_1028 hE) rfl rfl (by decide +kernel) ⟨Nat.le_of_ble_eq_true rfl, Nat.le_of_ble_eq_true rfl⟩, (wd_652 hE), (wd_653 hE)⟩ ⟨PT.blind, th_recv hK hP ha5.1 he8 rfl, (th_pre (av := [.ref a5, .int (nI y3_8), .int x10]) trivial hK hP hok hnd hWT hE)⟩ rfl rfl hl.1 rfl (lv_room (Nat.le_of_ble_eq_true rfl)) dX1_find_59 ⟨Nat.le_of_ble_eq_true rfl, Nat.le_of_ble_eq_true rfl⟩) (fun f11 H locs hr11 hok hP hS => ?_)
    exact W.vret hx hb hr (fun t ht hW => ⟨⟨f11, rfl, trivial, hok, by rw [ht]; exact hP⟩, hS.F ht⟩) hS.2.2 dX1_find_62
  · refine lv_aload_n hx hb dX1_find_28 rfl (lv_at hl 0 rfl) ?_
    refine lv_aload_n hx hb dX1_find_29 rfl (lv_at hl 1 rfl) ?_
    refine lv_iload_n hx hb dX1_find_30 rfl (lv_at hl 3 rfl) ?_
    refine lv_iload hx hb dX1_find_31 (lv_at hl 7 rfl) ?_
    obtain ⟨j12, hj12, rfl⟩ : ∃ j : Nat, j ≤ 12 ∧ v3 = nI j := i_nat (by first | omega | (simp only [i_lt, i_le, i_eq, ti_m9, ti_m1, ti_0, ti_1, ti_2, ti_3, ti_4, ti_5, ti_6, ti_7, ti_9, ti_12, ti_20, ti_99, ti_700, ti_24, ti_156, ti_72, ti_8, ti_60, ti_543, ti_10, ti_33, ti_51, ti_178, ti_119, ti_111, ti_114, ti_100, ti_32, ti_62, ti_59, ti_48, ti_701, ti_97, ti_122, ti_57, ti_73, ti_128] at hp0 hp1 hlo6 c7 ⊢; omega)) (by first | omega | (simp only [i_lt, i_le, i_eq, ti_m9, ti_m1, ti_0, ti_1, ti_2, ti_3, ti_4, ti_5, ti_6, ti_7, ti_9, ti_12, ti_20, ti_99, ti_700, ti_24, ti_156, ti_72, ti_8, ti_60, ti_543, ti_10, ti_33, ti_51, ti_178, ti_119, ti_111, ti_114, ti_100, ti_32, ti_62, ti_59, ti_48, ti_701, ti_97, ti_122, ti_57, ti_73, ti_128] at hp0 hp1 hlo6 c7 ⊢; omega))
    have nt13 : (nI j12).toInt = ((j12 : Nat) : Int) := nI_toInt (by omega)
    obtain ⟨j14, hj14, rfl⟩ : ∃ j : Nat, j ≤ 12 ∧ w8_6 = nI j := i_nat (by first | omega | (simp only [i_lt, i_le, i_eq, ti_m9, ti_m1, ti_0, ti_1, ti_2, ti_3, ti_4, ti_5, ti_6, ti_7, ti_9, ti_12, ti_20, ti_99, ti_700, ti_24, ti_156, ti_72, ti_8, ti_60, ti_543, ti_10, ti_33, ti_51, ti_178, ti_119, ti_111, ti_114, ti_100, ti_32, ti_62, ti_59, ti_48, ti_701, ti_97, ti_122, ti_57, ti_73, ti_128, nt13] at hp0 hp1 hlo6 c7 ⊢; omega)) (by first | omega | (simp only [i_lt, i_le, i_eq, ti_m9, ti_m1, ti_0, ti_1, ti_2, ti_3, ti_4, ti_5, ti_6, ti_7, ti_9, ti_12, ti_20, ti_99, ti_700, ti_24, ti_156, ti_72, ti_8, ti_60, ti_543, ti_10, ti_33, ti_51, ti_178, ti_119, ti_111, ti_114, ti_100, ti_32, ti_62, ti_59, ti_48, ti_701, ti_97, ti_122, ti_57, ti_73, ti_128, nt13] at hp0 hp1 hlo6 c7 ⊢; omega))
    have nt15 : (nI j14).toInt = ((j14 : Nat) : Int) := nI_toInt (by omega)
    refine lv_isub hx hb dX1_find_33 ?_
    have hs16 : j14 ≤ j12 := by first | omega | (simp only [i_lt, i_le, i_eq, ti_m9, ti_m1, ti_0, ti_1, ti_2, ti_3, ti_4, ti_5, ti_6, ti_7, ti_9, ti_12, ti_20, ti_99, ti_700, ti_24, ti_156, ti_72, ti_8, ti_60, ti_543, ti_10, ti_33, ti_51, ti_178, ti_119, ti_111, ti_114, ti_100, ti_32, ti_62, ti_59, ti_48, ti_701, ti_97, ti_122, ti_57, ti_73, ti_128, nt13, nt15] at hp0 hp1 hlo6 c7 ⊢; omega)
    refine W.eq (g2 := F0 m 34 ls [.int (nI (j12 - j14)), .ref a1, .ref a0]) (congrArg (fun z : Int32 => F0 m 34 ls (.int z :: [.ref a1, .ref a0])) (pk_sub hs16)) ?_
    refine lv_lload hx hb dX1_find_34 (lv_at hl 6 rfl) ?_
    refine lv_aload hx hb dX1_find_36 (lv_at hl 5 rfl) ?_
    have nt17 : (nI (j12 - j14)).toInt = ((j12 - j14 : Nat) : Int) := nI_toInt (by omega)
    have he18 := ok_X1 hok ha0
    refine tc_l hAL hS hA (va_runV (As := [.ref a1, .int (nI (j12 - j14)), .long w6_6, .ref a5]) (rest := []) ⟨hx, hb, hml, hown, noTs⟩ (t_X1_findStep l dC dI H.size G cs tt mm a0 ha0 a1 ha1 (nI (j12 - j14)) w6_6 a5 ha5 (by first | omega | (simp only [i_lt, i_le, i_eq, ti_m9, ti_m1, ti_0, ti_1, ti_2, ti_3, ti_4, ti_5, ti_6, ti_7, ti_9, ti_12, ti_20, ti_99, ti_700, ti_24, ti_156, ti_72, ti_8, ti_60, ti_543, ti_10, ti_33, ti_51, ti_178, ti_119, ti_111, ti_114, ti_100, ti_32, ti_62, ti_59, ti_48, ti_701, ti_97, ti_122, ti_57, ti_73, ti_128, nt13, nt15, nt17] at hp0 hp1 hlo6 c7 ⊢; omega)) (by first | omega | (simp only [i_lt, i_le, i_eq, ti_m9, ti_m1, ti_0, ti_1, ti_2, ti_3, ti_4, ti_5, ti_6, ti_7, ti_9, ti_12, ti_20, ti_99, ti_700, ti_24, ti_156, ti_72, ti_8, ti_60, ti_543, ti_10, ti_33, ti_51, ti_178, ti_119, ti_111, ti_114, ti_100, ti_32, ti_62, ti_59, ti_48, ti_701, ti_97, ti_122, ti_57, ti_73, ti_128, nt13, nt15, nt17] at hp0 hp1 hlo6 c7 ⊢; omega))) ⟨cbE 4 (wd_1022 hE) (wd_125 hE) (wd_1019 hE) rfl rfl (by decide +kernel) ⟨Nat.le_of_ble_eq_true rfl, Nat.le_of_ble_eq_true rfl⟩, (wd_1021 hE), (wd_36 hE)⟩ ⟨PT.blind, th_recv hK hP ha0.1 he18 rfl, (th_pre (av := [.ref a0, .ref a1, .int (nI (j12 - j14)), .long w6_6, .ref a5]) trivial hK hP hok hnd hWT hE)⟩ rfl rfl hl.1 rfl (lv_room (Nat.le_of_ble_eq_true rfl)) dX1_find_38 ⟨Nat.le_of_ble_eq_true rfl, Nat.le_of_ble_eq_true rfl⟩) (fun r19 f19 H locs hr19 hok hP hS => ?_)
    refine lv_lstore (lv' := [(6, .long r19), (0, .ref a0), (1, .ref a1), (2, .int v2), (3, .int (nI j12)), (4, .int v4), (5, .ref a5), (8, .int (nI j14))]) hx hb dX1_find_41 hl (by decide) rfl (fun ls hl => ?_)
    obtain ⟨z20, ez20⟩ : ∃ z : Int32, z = (nI j14) + 1 := ⟨_, rfl⟩
    refine lv_iinc (v := z20) (lv' := [(8, .int z20), (6, .long r19), (0, .ref a0), (1, .ref a1), (2, .int v2), (3, .int (nI j12)), (4, .int v4), (5, .ref a5)]) hx hb dX1_find_43 hl (k := 7) rfl (by rw [ez20]; rfl) (by decide) rfl (fun ls hl => ?_)
    have ic20 : z20.toInt = (nI j14).toInt + 1 := by rw [ez20]; exact ic_up (by have := i_rng (nI j14); have := i_rng (nI j12); simp only [i_lt, i_le, i_eq, ti_m9, ti_m1, ti_0, ti_1, ti_2, ti_3, ti_4, ti_5, ti_6, ti_7, ti_9, ti_12, ti_20, ti_99, ti_700, ti_24, ti_156, ti_72, ti_8, ti_60, ti_543, ti_10, ti_33, ti_51, ti_178, ti_119, ti_111, ti_114, ti_100, ti_32, ti_62, ti_59, ti_48, ti_701, ti_97, ti_122, ti_57, ti_73, ti_128, nt13, nt15, nt17] at hp0 hp1 hlo6 c7 ⊢; omega)
    refine lv_goto (tgt := 22) hx hb dX1_find_46 (by decide) ?_
    exact ih6 _ f19 _ _ _ (by have := i_rng z20; first | omega | (simp only [i_lt, i_le, i_eq, ti_m9, ti_m1, ti_0, ti_1, ti_2, ti_3, ti_4, ti_5, ti_6, ti_7, ti_9, ti_12, ti_20, ti_99, ti_700, ti_24, ti_156, ti_72, ti_8, ti_60, ti_543, ti_10, ti_33, ti_51, ti_178, ti_119, ti_111, ti_114, ti_100, ti_32, ti_62, ti_59, ti_48, ti_701, ti_97, ti_122, ti_57, ti_73, ti_128, nt13, nt15, nt17, ic20] at hp0 hp1 hlo6 c7 ic20 ⊢; omega)) ⟨hok, hP, hS, r19, z20, rfl, (by first | omega | (simp only [i_lt, i_le, i_eq, ti_m9, ti_m1, ti_0, ti_1, ti_2, ti_3, ti_4, ti_5, ti_6, ti_7, ti_9, ti_12, ti_20, ti_99, ti_700, ti_24, ti_156, ti_72, ti_8, ti_60, ti_543, ti_10, ti_33, ti_51, ti_178, ti_119, ti_111, ti_114, ti_100, ti_32, ti_62, ti_59, ti_48, ti_701, ti_97, ti_122, ti_57, ti_73, ti_128, nt13, nt15, nt17, ic20] at hp0 hp1 hlo6 c7 ⊢; omega)), lv_sub hl [2, 3, 4, 5, 6, 7, 1, 0] rfl⟩

set_option maxHeartbeats 4000000 in
set_option maxRecDepth 100000 in
theorem t_X10_pop (l : Launch) (dC : Nat → ClassId) (dI : Nat → Nat → Nat) (sz : Nat) (G : GT) (cs : Nat → ClassId) (tt mm : Nat) (a0 : Nat) (ha0 : Ty G a0 10) : Met l yX10_pop [.code yX10_pop cX10_pop 1 none] ({ frames := 0, cells := 0, slots := 0, locals := 0 }) (PT [.ref a0] sz dC dI G cs tt mm (fun _ => True)) (va_Qv (fun (u : Nat → va_E) => True) (BT dC dI G cs tt mm) (AT G sz)) 0 0 (AT G sz) := by
  refine Met.ofW (cc := cX10_pop) (maxL := 1) (ret := none) (by decide) rfl ?_
  intro p e s m args below meth c s₁ B hml hv
  obtain ⟨rfl, hsz, ⟨f0, hok, hP, hX⟩, hK, hnd, hWT, hE⟩ := hv
  have hx := B.exec
  have hb := B.bytes
  have hr := B.returns
  have hown : s.vm.findClass RX10 = some m.cls := findClass_of_methodNamed B.named
  have hlocks := B.notSynchronized
  subst hsz
  have hAL : ∀ a, a ∈ gL G → AT G s.heap.size a := fun a h => Or.inl h
  have hA : ∀ q : Nat, s.heap.size ≤ q → AT G s.heap.size q := fun q h => Or.inr h
  have hS : va_S (AT G s.heap.size) s.heap s.heap [] := va_S.rf
  have hl := lv_entry ([.ref a0]) (n := 1) (Nat.le_of_ble_eq_true rfl)
  rw [lg_entry_eq]
  generalize (lg_sl ([.ref a0]) ++ List.replicate (1 - (lg_sl ([.ref a0])).length) Slot.unset).toArray = ls at hl ⊢
  have hl : lv_has ls 1 [(0, .ref a0)] := hl
  refine lv_aload_n hx hb dX10_pop_0 rfl (lv_at hl 0 rfl) ?_
  obtain ⟨y2_1, y3_1, hy3_1, he1⟩ := ok_X10 hok ha0
  refine th_get hx hb (ly_X10 hE) hown hK hP ha0.1 he1 rfl 3 (by decide) (wd_217 hE) (fun _ h9 => h9) rfl dX10_pop_1 ?_
  have nt2 : (nI y3_1).toInt = ((y3_1 : Nat) : Int) := nI_toInt (by omega)
  refine lv_if_le (tgt := 17) hx hb dX10_pop_4 (by decide) (fun c3 => ?_) (fun c3 => ?_)
  · exact W.vret hx hb hr (fun t ht hW => ⟨⟨f0, rfl, trivial, hok, by rw [ht]; exact hP⟩, hS.F ht⟩) hS.2.2 dX10_pop_17
  · refine lv_aload_n hx hb dX10_pop_7 rfl (lv_at hl 0 rfl) ?_
    refine lv_dup hx hb dX10_pop_8 rfl ?_
    refine th_get hx hb (ly_X10 hE) hown hK hP ha0.1 he1 rfl 3 (by decide) (wd_217 hE) (fun _ h9 => h9) rfl dX10_pop_9 ?_
    refine lv_iconst (v := 1) hx hb dX10_pop_12 (by decide) ?_
    refine lv_isub hx hb dX10_pop_13 ?_
    refine W.eq (g2 := F0 m 14 ls [.int (nI (y3_1 - 1)), .ref a0]) (congrArg (fun z : Int32 => F0 m 14 ls (.int z :: [.ref a0])) (pk_sub (a := y3_1) (b := 1) (by first | omega | (simp only [i_lt, i_le, i_eq, ti_m9, ti_m1, ti_0, ti_1, ti_2, ti_3, ti_4, ti_5, ti_6, ti_7, ti_9, ti_12, ti_20, ti_99, ti_700, ti_24, ti_156, ti_72, ti_8, ti_60, ti_543, ti_10, ti_33, ti_51, ti_178, ti_119, ti_111, ti_114, ti_100, ti_32, ti_62, ti_59, ti_48, ti_701, ti_97, ti_122, ti_57, ti_73, ti_128, nt2] at c3 ⊢; omega)))) ?_
    refine th_put (v := .int (nI (y3_1 - 1))) (ty := .int) hx hb (ly_X10 hE) tyX10 tyX10_ok nmX10 hown hK hP hnd hAL hS ha0.1 he1 rfl 3 (by decide) (wd_217 hE) (fun _ h9 => h9) rfl (by decide +kernel) rfl rfl (Nat.le_of_ble_eq_true rfl) (up_X10 hok ha0 ⟨y2_1, y3_1 - 1, (by first | omega | (simp only [i_lt, i_le, i_eq, ti_m9, ti_m1, ti_0, ti_1, ti_2, ti_3, ti_4, ti_5, ti_6, ti_7, ti_9, ti_12, ti_20, ti_99, ti_700, ti_24, ti_156, ti_72, ti_8, ti_60, ti_543, ti_10, ti_33, ti_51, ti_178, ti_119, ti_111, ti_114, ti_100, ti_32, ti_62, ti_59, ti_48, ti_701, ti_97, ti_122, ti_57, ti_73, ti_128, nt2] at c3 ⊢; omega)), rfl⟩) dX10_pop_14 (fun f4 H locs hfa4 hfo4 hok hP hS => ?_)
    exact W.vret hx hb hr (fun t ht hW => ⟨⟨f4, rfl, trivial, hok, by rw [ht]; exact hP⟩, hS.F ht⟩) hS.2.2 dX10_pop_17

set_option maxHeartbeats 4000000 in
set_option maxRecDepth 100000 in
theorem t_X10_addLast (l : Launch) (dC : Nat → ClassId) (dI : Nat → Nat → Nat) (sz : Nat) (G : GT) (cs : Nat → ClassId) (tt mm : Nat) (a0 : Nat) (ha0 : Ty G a0 10) (v1 : Int32) (v2 : Int32) : Met l yX10_addLast [.code yX10_addLast cX10_addLast 3 none] ({ frames := 1, cells := 0, slots := 0, locals := 40 }) (PT [.ref a0, .int v1, .int v2] sz dC dI G cs tt mm (fun _ => True)) (va_Qv (fun (u : Nat → va_E) => True) (BT dC dI G cs tt mm) (AT G sz)) 0 0 (AT G sz) := by
  refine Met.ofW (cc := cX10_addLast) (maxL := 3) (ret := none) (by decide) rfl ?_
  intro p e s m args below meth c s₁ B hml hv
  obtain ⟨rfl, hsz, ⟨f0, hok, hP, hX⟩, hK, hnd, hWT, hE⟩ := hv
  have hx := B.exec
  have hb := B.bytes
  have hr := B.returns
  have hown : s.vm.findClass RX10 = some m.cls := findClass_of_methodNamed B.named
  have hlocks := B.notSynchronized
  subst hsz
  have hAL : ∀ a, a ∈ gL G → AT G s.heap.size a := fun a h => Or.inl h
  have hA : ∀ q : Nat, s.heap.size ≤ q → AT G s.heap.size q := fun q h => Or.inr h
  have hS : va_S (AT G s.heap.size) s.heap s.heap [] := va_S.rf
  have hl := lv_entry ([.ref a0, .int v1, .int v2]) (n := 3) (Nat.le_of_ble_eq_true rfl)
  rw [lg_entry_eq]
  generalize (lg_sl ([.ref a0, .int v1, .int v2]) ++ List.replicate (3 - (lg_sl ([.ref a0, .int v1, .int v2])).length) Slot.unset).toArray = ls at hl ⊢
  have hl : lv_has ls 3 [(0, .ref a0), (1, .int v1), (2, .int v2)] := hl
  refine lv_aload_n hx hb dX10_addLast_0 rfl (lv_at hl 0 rfl) ?_
  refine lv_aload_n hx hb dX10_addLast_1 rfl (lv_at hl 0 rfl) ?_
  obtain ⟨y2_1, y3_1, hy3_1, he1⟩ := ok_X10 hok ha0
  refine th_get hx hb (ly_X10 hE) hown hK hP ha0.1 he1 rfl 3 (by decide) (wd_217 hE) (fun _ h9 => h9) rfl dX10_addLast_2 ?_
  refine lv_aload_n hx hb dX10_addLast_5 rfl (lv_at hl 0 rfl) ?_
  refine vp_callSi (va_Run.run (va_runV (As := []) (rest := [.int (nI y3_1), .ref a0]) ⟨hx, hb, hml, hown, noTs⟩ (t_X10_lastNumber l dC dI s.heap.size G cs tt mm a0 ha0) ⟨cbE 0 (wd_649 hE) (wd_120 hE) (wd_646 hE) rfl rfl (by decide +kernel) ⟨Nat.le_of_ble_eq_true rfl, Nat.le_of_ble_eq_true rfl⟩, (wd_647 hE), (wd_648 hE)⟩ ⟨PT.blind, th_recv hK hP ha0.1 he1 rfl, (th_pre (av := [.ref a0]) trivial hK hP hok hnd hWT hE)⟩ rfl rfl hl.1 rfl (lv_room (Nat.le_of_ble_eq_true rfl)) dX10_addLast_6 ⟨Nat.le_of_ble_eq_true rfl, Nat.le_of_ble_eq_true rfl⟩)) (fun r2 hr2 => ?_)
  refine lv_iload_n hx hb dX10_addLast_9 rfl (lv_at hl 1 rfl) ?_
  refine lv_iadd hx hb dX10_addLast_10 ?_
  refine lv_topi (fun x3 ex3 => ?_)
  refine lv_iload_n hx hb dX10_addLast_11 rfl (lv_at hl 2 rfl) ?_
  refine vp_callSi (va_Run.run (va_runSN (As := [.int x3, .int v2]) (rest := [.int (nI y3_1), .ref a0]) ⟨hx, hb, hml, hown, noTs⟩ (t_X11_rest l dC dI s.heap.size G cs tt mm x3 v2) ⟨cnE 2 (wd_617 hE) (wd_115 hE) (wd_650 hE) rfl rfl (by decide +kernel) ⟨Nat.le_of_ble_eq_true rfl, Nat.le_of_ble_eq_true rfl⟩, (wd_616 hE), trivial⟩ ⟨PT.blind, (th_pre (av := [.int x3, .int v2]) trivial hK hP hok hnd hWT hE)⟩ rfl rfl hl.1 rfl (lv_room (Nat.le_of_ble_eq_true rfl)) dX10_addLast_12 ⟨Nat.le_of_ble_eq_true rfl, Nat.le_of_ble_eq_true rfl⟩)) (fun r4 hr4 => ?_)
  obtain ⟨hra4, hrb4⟩ := hr4
  refine tc_v hAL hS hA (va_runV (As := [.int (nI y3_1), .int r4]) (rest := []) ⟨hx, hb, hml, hown, noTs⟩ (t_X10_putNumber l dC dI s.heap.size G cs tt mm a0 ha0 (nI y3_1) r4) ⟨cbE 2 (wd_654 hE) (wd_120 hE) (wd_651 hE) rfl rfl (by decide +kernel) ⟨Nat.le_of_ble_eq_true rfl, Nat.le_of_ble_eq_true rfl⟩, (wd_652 hE), (wd_653 hE)⟩ ⟨PT.blind, th_recv hK hP ha0.1 he1 rfl, (th_pre (av := [.ref a0, .int (nI y3_1), .int r4]) trivial hK hP hok hnd hWT hE)⟩ rfl rfl hl.1 rfl (lv_room (Nat.le_of_ble_eq_true rfl)) dX10_addLast_15 ⟨Nat.le_of_ble_eq_true rfl, Nat.le_of_ble_eq_true rfl⟩) (fun f5 H locs hr5 hok hP hS => ?_)
  exact W.vret hx hb hr (fun t ht hW => ⟨⟨f5, rfl, trivial, hok, by rw [ht]; exact hP⟩, hS.F ht⟩) hS.2.2 dX10_addLast_18

set_option maxHeartbeats 4000000 in
set_option maxRecDepth 100000 in
theorem t_X2_takeStep (l : Launch) (dC : Nat → ClassId) (dI : Nat → Nat → Nat) (sz : Nat) (G : GT) (cs : Nat → ClassId) (tt mm : Nat) (a0 : Nat) (ha0 : Ty G a0 7) (a1 : Nat) (ha1 : Ty G a1 10) (v2 : Int32) (v3 : Int32) : Met l yX2_takeStep [.code yX2_takeStep cX2_takeStep 8 (some .boolean)] ({ frames := 2, cells := 0, slots := 0, locals := 80 }) (PT [.ref a0, .ref a1, .int v2, .int v3] sz dC dI G cs tt mm (fun _ => True)) (va_Qi (fun (r : Int32) (u : Nat → va_E) => r = 0 ∨ r = 1) (BT dC dI G cs tt mm) (AT G sz)) 0 0 (AT G sz) := by
  refine Met.ofW (cc := cX2_takeStep) (maxL := 8) (ret := (some .boolean)) (by decide) rfl ?_
  intro p e s m args below meth c s₁ B hml hv
  obtain ⟨rfl, hsz, ⟨f0, hok, hP, hX⟩, hK, hnd, hWT, hE⟩ := hv
  have hx := B.exec
  have hb := B.bytes
  have hr := B.returns
  have hown : s.vm.findClass RX2 = some m.cls := findClass_of_methodNamed B.named
  have hlocks := B.notSynchronized
  subst hsz
  have hAL : ∀ a, a ∈ gL G → AT G s.heap.size a := fun a h => Or.inl h
  have hA : ∀ q : Nat, s.heap.size ≤ q → AT G s.heap.size q := fun q h => Or.inr h
  have hS : va_S (AT G s.heap.size) s.heap s.heap [] := va_S.rf
  have hl := lv_entry ([.ref a0, .ref a1, .int v2, .int v3]) (n := 8) (Nat.le_of_ble_eq_true rfl)
  rw [lg_entry_eq]
  generalize (lg_sl ([.ref a0, .ref a1, .int v2, .int v3]) ++ List.replicate (8 - (lg_sl ([.ref a0, .ref a1, .int v2, .int v3])).length) Slot.unset).toArray = ls at hl ⊢
  have hl : lv_has ls 8 [(0, .ref a0), (1, .ref a1), (2, .int v2), (3, .int v3)] := hl
  refine lv_aload_n hx hb dX2_takeStep_0 rfl (lv_at hl 1 rfl) ?_
  obtain ⟨y2_1, y3_1, hy3_1, he1⟩ := ok_X10 hok ha1
  refine vp_callSi (va_Run.run (va_runV (As := []) (rest := []) ⟨hx, hb, hml, hown, noTs⟩ (t_X10_lastNumber l dC dI s.heap.size G cs tt mm a1 ha1) ⟨cbE 0 (wd_649 hE) (wd_120 hE) (wd_851 hE) rfl rfl (by decide +kernel) ⟨Nat.le_of_ble_eq_true rfl, Nat.le_of_ble_eq_true rfl⟩, (wd_647 hE), (wd_648 hE)⟩ ⟨PT.blind, th_recv hK hP ha1.1 he1 rfl, (th_pre (av := [.ref a1]) trivial hK hP hok hnd hWT hE)⟩ rfl rfl hl.1 rfl (lv_room (Nat.le_of_ble_eq_true rfl)) dX2_takeStep_1 ⟨Nat.le_of_ble_eq_true rfl, Nat.le_of_ble_eq_true rfl⟩)) (fun r2 hr2 => ?_)
  refine lv_istore (lv' := [(4, .int r2), (0, .ref a0), (1, .ref a1), (2, .int v2), (3, .int v3)]) hx hb dX2_takeStep_4 hl (by decide) rfl (fun ls hl => ?_)
  refine lv_aload_n hx hb dX2_takeStep_6 rfl (lv_at hl 1 rfl) ?_
  refine lv_iload_n hx hb dX2_takeStep_7 rfl (lv_at hl 3 rfl) ?_
  have he3 := ok_X7 hok ha0
  refine vp_callSi (va_Run.run (va_runV (As := [.int v2]) (rest := []) ⟨hx, hb, hml, hown, noTs⟩ (t_X7_fromIndex l dC dI s.heap.size G cs tt mm a0 ha0 v2) ⟨cbE 1 (wd_855 hE) (wd_116 hE) (wd_852 hE) rfl rfl (by decide +kernel) ⟨Nat.le_of_ble_eq_true rfl, Nat.le_of_ble_eq_true rfl⟩, (wd_853 hE), (wd_854 hE)⟩ ⟨PT.blind, th_recv hK hP ha0.1 he3 rfl, (th_pre (av := [.ref a0, .int v2]) trivial hK hP hok hnd hWT hE)⟩ rfl rfl hl.1 rfl (lv_room (Nat.le_of_ble_eq_true rfl)) dX2_takeStep_8 ⟨Nat.le_of_ble_eq_true rfl, Nat.le_of_ble_eq_true rfl⟩)) (fun r4 hr4 => ?_)
  refine lv_istore (lv' := [(5, .int r4), (4, .int r2), (0, .ref a0), (1, .ref a1), (2, .int v2), (3, .int v3)]) hx hb dX2_takeStep_11 hl (by decide) rfl (fun ls hl => ?_)
  refine lv_aload_n hx hb dX2_takeStep_13 rfl (lv_at hl 2 rfl) ?_
  refine lv_aload_n hx hb dX2_takeStep_14 rfl (lv_at hl 2 rfl) ?_
  refine lv_iload_n hx hb dX2_takeStep_15 rfl (lv_at hl 4 rfl) ?_
  refine vp_callSi (va_Run.run (va_runV (As := [.int v2]) (rest := [.ref a0]) ⟨hx, hb, hml, hown, noTs⟩ (t_X7_toVertex l dC dI s.heap.size G cs tt mm a0 ha0 v2) ⟨cbE 1 (wd_692 hE) (wd_116 hE) (wd_856 hE) rfl rfl (by decide +kernel) ⟨Nat.le_of_ble_eq_true rfl, Nat.le_of_ble_eq_true rfl⟩, (wd_690 hE), (wd_691 hE)⟩ ⟨PT.blind, th_recv hK hP ha0.1 he3 rfl, (th_pre (av := [.ref a0, .int v2]) trivial hK hP hok hnd hWT hE)⟩ rfl rfl hl.1 rfl (lv_room (Nat.le_of_ble_eq_true rfl)) dX2_takeStep_16 ⟨Nat.le_of_ble_eq_true rfl, Nat.le_of_ble_eq_true rfl⟩)) (fun r5 hr5 => ?_)
  refine vp_callSi (va_Run.run (va_runV (As := [.int r5]) (rest := []) ⟨hx, hb, hml, hown, noTs⟩ (t_X7_orderAt l dC dI s.heap.size G cs tt mm a0 ha0 r5) ⟨cbE 1 (wd_614 hE) (wd_116 hE) (wd_844 hE) rfl rfl (by decide +kernel) ⟨Nat.le_of_ble_eq_true rfl, Nat.le_of_ble_eq_true rfl⟩, (wd_612 hE), (wd_613 hE)⟩ ⟨PT.blind, th_recv hK hP ha0.1 he3 rfl, (th_pre (av := [.ref a0, .int r5]) trivial hK hP hok hnd hWT hE)⟩ rfl rfl hl.1 rfl (lv_room (Nat.le_of_ble_eq_true rfl)) dX2_takeStep_19 ⟨Nat.le_of_ble_eq_true rfl, Nat.le_of_ble_eq_true rfl⟩)) (fun r6 hr6 => ?_)
  refine lv_istore (lv' := [(6, .int r6), (5, .int r4), (4, .int r2), (0, .ref a0), (1, .ref a1), (2, .int v2), (3, .int v3)]) hx hb dX2_takeStep_22 hl (by decide) rfl (fun ls hl => ?_)
  refine lv_iload hx hb dX2_takeStep_24 (lv_at hl 2 rfl) ?_
  refine lv_iload hx hb dX2_takeStep_26 (lv_at hl 1 rfl) ?_
  refine vp_callSi (va_Run.run (va_runSN (As := [.int r2, .int r4]) (rest := []) ⟨hx, hb, hml, hown, noTs⟩ (t_X11_share l dC dI s.heap.size G cs tt mm r2 r4) ⟨cnE 2 (wd_620 hE) (wd_115 hE) (wd_857 hE) rfl rfl (by decide +kernel) ⟨Nat.le_of_ble_eq_true rfl, Nat.le_of_ble_eq_true rfl⟩, (wd_619 hE), trivial⟩ ⟨PT.blind, (th_pre (av := [.int r2, .int r4]) trivial hK hP hok hnd hWT hE)⟩ rfl rfl hl.1 rfl (lv_room (Nat.le_of_ble_eq_true rfl)) dX2_takeStep_28 ⟨Nat.le_of_ble_eq_true rfl, Nat.le_of_ble_eq_true rfl⟩)) (fun r7 hr7 => ?_)
  refine lv_aload_n hx hb dX2_takeStep_31 rfl (lv_at hl 3 rfl) ?_
  refine lv_iload_n hx hb dX2_takeStep_32 rfl (lv_at hl 5 rfl) ?_
  refine vp_callSi (va_Run.run (va_runV (As := [.int v2]) (rest := [.int r7]) ⟨hx, hb, hml, hown, noTs⟩ (t_X7_toIndex l dC dI s.heap.size G cs tt mm a0 ha0 v2) ⟨cbE 1 (wd_861 hE) (wd_116 hE) (wd_858 hE) rfl rfl (by decide +kernel) ⟨Nat.le_of_ble_eq_true rfl, Nat.le_of_ble_eq_true rfl⟩, (wd_859 hE), (wd_860 hE)⟩ ⟨PT.blind, th_recv hK hP ha0.1 he3 rfl, (th_pre (av := [.ref a0, .int v2]) trivial hK hP hok hnd hWT hE)⟩ rfl rfl hl.1 rfl (lv_room (Nat.le_of_ble_eq_true rfl)) dX2_takeStep_33 ⟨Nat.le_of_ble_eq_true rfl, Nat.le_of_ble_eq_true rfl⟩)) (fun r8 hr8 => ?_)
  refine lv_imul hx hb dX2_takeStep_36 ?_
  refine lv_topi (fun x9 ex9 => ?_)
  refine lv_istore (lv' := [(7, .int x9), (6, .int r6), (5, .int r4), (4, .int r2), (0, .ref a0), (1, .ref a1), (2, .int v2), (3, .int v3)]) hx hb dX2_takeStep_37 hl (by decide) rfl (fun ls hl => ?_)
  refine lv_aload_n hx hb dX2_takeStep_39 rfl (lv_at hl 5 rfl) ?_
  refine vp_callSi (va_Run.run (va_runV (As := []) (rest := []) ⟨hx, hb, hml, hown, noTs⟩ (t_X10_lastStep l dC dI s.heap.size G cs tt mm a1 ha1) ⟨cbE 0 (wd_832 hE) (wd_120 hE) (wd_862 hE) rfl rfl (by decide +kernel) ⟨Nat.le_of_ble_eq_true rfl, Nat.le_of_ble_eq_true rfl⟩, (wd_830 hE), (wd_831 hE)⟩ ⟨PT.blind, th_recv hK hP ha1.1 he1 rfl, (th_pre (av := [.ref a1]) trivial hK hP hok hnd hWT hE)⟩ rfl rfl hl.1 rfl (lv_room (Nat.le_of_ble_eq_true rfl)) dX2_takeStep_40 ⟨Nat.le_of_ble_eq_true rfl, Nat.le_of_ble_eq_true rfl⟩)) (fun r10 hr10 => ?_)
  refine lv_iload_n hx hb dX2_takeStep_43 rfl (lv_at hl 6 rfl) ?_
  refine vp_callSi (va_Run.run (va_runSN (As := [.int v2]) (rest := [.int r10]) ⟨hx, hb, hml, hown, noTs⟩ (t_X11_opposite l dC dI s.heap.size G cs tt mm v2) ⟨cnE 1 (wd_865 hE) (wd_115 hE) (wd_863 hE) rfl rfl (by decide +kernel) ⟨Nat.le_of_ble_eq_true rfl, Nat.le_of_ble_eq_true rfl⟩, (wd_864 hE), trivial⟩ ⟨PT.blind, (th_pre (av := [.int v2]) trivial hK hP hok hnd hWT hE)⟩ rfl rfl hl.1 rfl (lv_room (Nat.le_of_ble_eq_true rfl)) dX2_takeStep_44 ⟨Nat.le_of_ble_eq_true rfl, Nat.le_of_ble_eq_true rfl⟩)) (fun r11 hr11 => ?_)
  refine lv_icmp_ne (tgt := 76) hx hb dX2_takeStep_47 (by decide) (fun c12 => ?_) (fun c12 => ?_)
  · refine lv_aload_n hx hb dX2_takeStep_76 rfl (lv_at hl 5 rfl) ?_
    refine lv_aload_n hx hb dX2_takeStep_77 rfl (lv_at hl 5 rfl) ?_
    refine vp_callSi (va_Run.run (va_runV (As := []) (rest := [.ref a1]) ⟨hx, hb, hml, hown, noTs⟩ (t_X10_size l dC dI s.heap.size G cs tt mm a1 ha1 y2_1 y3_1) ⟨cbE 0 (wd_666 hE) (wd_120 hE) (wd_846 hE) rfl rfl (by decide +kernel) ⟨Nat.le_of_ble_eq_true rfl, Nat.le_of_ble_eq_true rfl⟩, (wd_664 hE), (wd_665 hE)⟩ ⟨PT.blind, th_recv hK hP ha1.1 he1 rfl, (th_pre (av := [.ref a1]) he1 hK hP hok hnd hWT hE)⟩ rfl rfl hl.1 rfl (lv_room (Nat.le_of_ble_eq_true rfl)) dX2_takeStep_78 ⟨Nat.le_of_ble_eq_true rfl, Nat.le_of_ble_eq_true rfl⟩)) (fun r13 hr13 => ?_)
    subst hr13
    refine lv_iload hx hb dX2_takeStep_81 (lv_at hl 3 rfl) ?_
    refine lv_iload hx hb dX2_takeStep_83 (lv_at hl 2 rfl) ?_
    refine vp_callSi (va_Run.run (va_runSN (As := [.int r2, .int r4]) (rest := [.int (nI y3_1), .ref a1]) ⟨hx, hb, hml, hown, noTs⟩ (t_X11_rest l dC dI s.heap.size G cs tt mm r2 r4) ⟨cnE 2 (wd_617 hE) (wd_115 hE) (wd_866 hE) rfl rfl (by decide +kernel) ⟨Nat.le_of_ble_eq_true rfl, Nat.le_of_ble_eq_true rfl⟩, (wd_616 hE), trivial⟩ ⟨PT.blind, (th_pre (av := [.int r2, .int r4]) trivial hK hP hok hnd hWT hE)⟩ rfl rfl hl.1 rfl (lv_room (Nat.le_of_ble_eq_true rfl)) dX2_takeStep_85 ⟨Nat.le_of_ble_eq_true rfl, Nat.le_of_ble_eq_true rfl⟩)) (fun r14 hr14 => ?_)
    obtain ⟨hra14, hrb14⟩ := hr14
    refine tc_v hAL hS hA (va_runV (As := [.int (nI y3_1), .int r14]) (rest := []) ⟨hx, hb, hml, hown, noTs⟩ (t_X10_putNumber l dC dI s.heap.size G cs tt mm a1 ha1 (nI y3_1) r14) ⟨cbE 2 (wd_654 hE) (wd_120 hE) (wd_871 hE) rfl rfl (by decide +kernel) ⟨Nat.le_of_ble_eq_true rfl, Nat.le_of_ble_eq_true rfl⟩, (wd_652 hE), (wd_653 hE)⟩ ⟨PT.blind, th_recv hK hP ha1.1 he1 rfl, (th_pre (av := [.ref a1, .int (nI y3_1), .int r14]) trivial hK hP hok hnd hWT hE)⟩ rfl rfl hl.1 rfl (lv_room (Nat.le_of_ble_eq_true rfl)) dX2_takeStep_88 ⟨Nat.le_of_ble_eq_true rfl, Nat.le_of_ble_eq_true rfl⟩) (fun f15 H locs hr15 hok hP hS => ?_)
    refine lv_aload_n hx hb dX2_takeStep_91 rfl (lv_at hl 5 rfl) ?_
    refine lv_iload_n hx hb dX2_takeStep_92 rfl (lv_at hl 6 rfl) ?_
    refine lv_iload hx hb dX2_takeStep_93 (lv_at hl 0 rfl) ?_
    refine lv_iload_n hx hb dX2_takeStep_95 rfl (lv_at hl 7 rfl) ?_
    refine lv_iadd hx hb dX2_takeStep_96 ?_
    refine lv_topi (fun x16 ex16 => ?_)
    refine lv_iload hx hb dX2_takeStep_97 (lv_at hl 1 rfl) ?_
    refine vp_callSi (va_Run.run (va_runSN (As := [.int x16, .int r6]) (rest := [.int v2, .ref a1]) ⟨hx, hb, hml, hown, noTs⟩ (t_X11_rest l dC dI H.size G cs tt mm x16 r6) ⟨cnE 2 (wd_617 hE) (wd_115 hE) (wd_866 hE) rfl rfl (by decide +kernel) ⟨Nat.le_of_ble_eq_true rfl, Nat.le_of_ble_eq_true rfl⟩, (wd_616 hE), trivial⟩ ⟨PT.blind, (th_pre (av := [.int x16, .int r6]) trivial hK hP hok hnd hWT hE)⟩ rfl rfl hl.1 rfl (lv_room (Nat.le_of_ble_eq_true rfl)) dX2_takeStep_99 ⟨Nat.le_of_ble_eq_true rfl, Nat.le_of_ble_eq_true rfl⟩)) (fun r17 hr17 => ?_)
    obtain ⟨hra17, hrb17⟩ := hr17
    obtain ⟨y2_18, y3_18, hy3_18, he18⟩ := ok_X10 hok ha1
    refine tc_v hAL hS hA (va_runV (As := [.int v2, .int r17]) (rest := []) ⟨hx, hb, hml, hown, noTs⟩ (t_X10_push l dC dI H.size G cs tt mm a1 ha1 v2 r17) ⟨cbE 2 (wd_688 hE) (wd_120 hE) (wd_872 hE) rfl rfl (by decide +kernel) ⟨Nat.le_of_ble_eq_true rfl, Nat.le_of_ble_eq_true rfl⟩, (wd_686 hE), (wd_687 hE)⟩ ⟨PT.blind, th_recv hK hP ha1.1 he18 rfl, (th_pre (av := [.ref a1, .int v2, .int r17]) trivial hK hP hok hnd hWT hE)⟩ rfl rfl hl.1 rfl (lv_room (Nat.le_of_ble_eq_true rfl)) dX2_takeStep_102 ⟨Nat.le_of_ble_eq_true rfl, Nat.le_of_ble_eq_true rfl⟩) (fun f19 H locs hr19 hok hP hS => ?_)
    refine lv_iconst (v := 0) hx hb dX2_takeStep_105 (by decide) ?_
    exact W.zret (v := 0) hx hb hr rfl (fun t ht hW => ⟨⟨0, f19, rfl, Or.inl rfl, hok, by rw [ht]; exact hP⟩, hS.F ht⟩) hS.2.2 dX2_takeStep_106
  · refine lv_iload hx hb dX2_takeStep_50 (lv_at hl 3 rfl) ?_
    refine lv_iload hx hb dX2_takeStep_52 (lv_at hl 2 rfl) ?_
    refine vp_callSi (va_Run.run (va_runSN (As := [.int r2, .int r4]) (rest := []) ⟨hx, hb, hml, hown, noTs⟩ (t_X11_rest l dC dI s.heap.size G cs tt mm r2 r4) ⟨cnE 2 (wd_617 hE) (wd_115 hE) (wd_866 hE) rfl rfl (by decide +kernel) ⟨Nat.le_of_ble_eq_true rfl, Nat.le_of_ble_eq_true rfl⟩, (wd_616 hE), trivial⟩ ⟨PT.blind, (th_pre (av := [.int r2, .int r4]) trivial hK hP hok hnd hWT hE)⟩ rfl rfl hl.1 rfl (lv_room (Nat.le_of_ble_eq_true rfl)) dX2_takeStep_54 ⟨Nat.le_of_ble_eq_true rfl, Nat.le_of_ble_eq_true rfl⟩)) (fun r20 hr20 => ?_)
    obtain ⟨hra20, hrb20⟩ := hr20
    refine lv_if_ne (tgt := 76) hx hb dX2_takeStep_57 (by decide) (fun c21 => ?_) (fun c21 => ?_)
    · refine lv_aload_n hx hb dX2_takeStep_76 rfl (lv_at hl 5 rfl) ?_
      refine lv_aload_n hx hb dX2_takeStep_77 rfl (lv_at hl 5 rfl) ?_
      refine vp_callSi (va_Run.run (va_runV (As := []) (rest := [.ref a1]) ⟨hx, hb, hml, hown, noTs⟩ (t_X10_size l dC dI s.heap.size G cs tt mm a1 ha1 y2_1 y3_1) ⟨cbE 0 (wd_666 hE) (wd_120 hE) (wd_846 hE) rfl rfl (by decide +kernel) ⟨Nat.le_of_ble_eq_true rfl, Nat.le_of_ble_eq_true rfl⟩, (wd_664 hE), (wd_665 hE)⟩ ⟨PT.blind, th_recv hK hP ha1.1 he1 rfl, (th_pre (av := [.ref a1]) he1 hK hP hok hnd hWT hE)⟩ rfl rfl hl.1 rfl (lv_room (Nat.le_of_ble_eq_true rfl)) dX2_takeStep_78 ⟨Nat.le_of_ble_eq_true rfl, Nat.le_of_ble_eq_true rfl⟩)) (fun r22 hr22 => ?_)
      subst hr22
      refine lv_iload hx hb dX2_takeStep_81 (lv_at hl 3 rfl) ?_
      refine lv_iload hx hb dX2_takeStep_83 (lv_at hl 2 rfl) ?_
      refine vp_callSi (va_Run.run (va_runSN (As := [.int r2, .int r4]) (rest := [.int (nI y3_1), .ref a1]) ⟨hx, hb, hml, hown, noTs⟩ (t_X11_rest l dC dI s.heap.size G cs tt mm r2 r4) ⟨cnE 2 (wd_617 hE) (wd_115 hE) (wd_866 hE) rfl rfl (by decide +kernel) ⟨Nat.le_of_ble_eq_true rfl, Nat.le_of_ble_eq_true rfl⟩, (wd_616 hE), trivial⟩ ⟨PT.blind, (th_pre (av := [.int r2, .int r4]) trivial hK hP hok hnd hWT hE)⟩ rfl rfl hl.1 rfl (lv_room (Nat.le_of_ble_eq_true rfl)) dX2_takeStep_85 ⟨Nat.le_of_ble_eq_true rfl, Nat.le_of_ble_eq_true rfl⟩)) (fun r23 hr23 => ?_)
      obtain ⟨hra23, hrb23⟩ := hr23
      refine tc_v hAL hS hA (va_runV (As := [.int (nI y3_1), .int r23]) (rest := []) ⟨hx, hb, hml, hown, noTs⟩ (t_X10_putNumber l dC dI s.heap.size G cs tt mm a1 ha1 (nI y3_1) r23) ⟨cbE 2 (wd_654 hE) (wd_120 hE) (wd_871 hE) rfl rfl (by decide +kernel) ⟨Nat.le_of_ble_eq_true rfl, Nat.le_of_ble_eq_true rfl⟩, (wd_652 hE), (wd_653 hE)⟩ ⟨PT.blind, th_recv hK hP ha1.1 he1 rfl, (th_pre (av := [.ref a1, .int (nI y3_1), .int r23]) trivial hK hP hok hnd hWT hE)⟩ rfl rfl hl.1 rfl (lv_room (Nat.le_of_ble_eq_true rfl)) dX2_takeStep_88 ⟨Nat.le_of_ble_eq_true rfl, Nat.le_of_ble_eq_true rfl⟩) (fun f24 H locs hr24 hok hP hS => ?_)
      refine lv_aload_n hx hb dX2_takeStep_91 rfl (lv_at hl 5 rfl) ?_
      refine lv_iload_n hx hb dX2_takeStep_92 rfl (lv_at hl 6 rfl) ?_
      refine lv_iload hx hb dX2_takeStep_93 (lv_at hl 0 rfl) ?_
      refine lv_iload_n hx hb dX2_takeStep_95 rfl (lv_at hl 7 rfl) ?_
      refine lv_iadd hx hb dX2_takeStep_96 ?_
      refine lv_topi (fun x25 ex25 => ?_)
      refine lv_iload hx hb dX2_takeStep_97 (lv_at hl 1 rfl) ?_
      refine vp_callSi (va_Run.run (va_runSN (As := [.int x25, .int r6]) (rest := [.int v2, .ref a1]) ⟨hx, hb, hml, hown, noTs⟩ (t_X11_rest l dC dI H.size G cs tt mm x25 r6) ⟨cnE 2 (wd_617 hE) (wd_115 hE) (wd_866 hE) rfl rfl (by decide +kernel) ⟨Nat.le_of_ble_eq_true rfl, Nat.le_of_ble_eq_true rfl⟩, (wd_616 hE), trivial⟩ ⟨PT.blind, (th_pre (av := [.int x25, .int r6]) trivial hK hP hok hnd hWT hE)⟩ rfl rfl hl.1 rfl (lv_room (Nat.le_of_ble_eq_true rfl)) dX2_takeStep_99 ⟨Nat.le_of_ble_eq_true rfl, Nat.le_of_ble_eq_true rfl⟩)) (fun r26 hr26 => ?_)
      obtain ⟨hra26, hrb26⟩ := hr26
      obtain ⟨y2_27, y3_27, hy3_27, he27⟩ := ok_X10 hok ha1
      refine tc_v hAL hS hA (va_runV (As := [.int v2, .int r26]) (rest := []) ⟨hx, hb, hml, hown, noTs⟩ (t_X10_push l dC dI H.size G cs tt mm a1 ha1 v2 r26) ⟨cbE 2 (wd_688 hE) (wd_120 hE) (wd_872 hE) rfl rfl (by decide +kernel) ⟨Nat.le_of_ble_eq_true rfl, Nat.le_of_ble_eq_true rfl⟩, (wd_686 hE), (wd_687 hE)⟩ ⟨PT.blind, th_recv hK hP ha1.1 he27 rfl, (th_pre (av := [.ref a1, .int v2, .int r26]) trivial hK hP hok hnd hWT hE)⟩ rfl rfl hl.1 rfl (lv_room (Nat.le_of_ble_eq_true rfl)) dX2_takeStep_102 ⟨Nat.le_of_ble_eq_true rfl, Nat.le_of_ble_eq_true rfl⟩) (fun f28 H locs hr28 hok hP hS => ?_)
      refine lv_iconst (v := 0) hx hb dX2_takeStep_105 (by decide) ?_
      exact W.zret (v := 0) hx hb hr rfl (fun t ht hW => ⟨⟨0, f28, rfl, Or.inl rfl, hok, by rw [ht]; exact hP⟩, hS.F ht⟩) hS.2.2 dX2_takeStep_106
    · refine lv_aload_n hx hb dX2_takeStep_60 rfl (lv_at hl 5 rfl) ?_
      refine tc_v hAL hS hA (va_runV (As := []) (rest := []) ⟨hx, hb, hml, hown, noTs⟩ (t_X10_pop l dC dI s.heap.size G cs tt mm a1 ha1) ⟨cbE 0 (wd_870 hE) (wd_120 hE) (wd_867 hE) rfl rfl (by decide +kernel) ⟨Nat.le_of_ble_eq_true rfl, Nat.le_of_ble_eq_true rfl⟩, (wd_868 hE), (wd_869 hE)⟩ ⟨PT.blind, th_recv hK hP ha1.1 he1 rfl, (th_pre (av := [.ref a1]) trivial hK hP hok hnd hWT hE)⟩ rfl rfl hl.1 rfl (lv_room (Nat.le_of_ble_eq_true rfl)) dX2_takeStep_61 ⟨Nat.le_of_ble_eq_true rfl, Nat.le_of_ble_eq_true rfl⟩) (fun f29 H locs hr29 hok hP hS => ?_)
      refine lv_aload_n hx hb dX2_takeStep_64 rfl (lv_at hl 5 rfl) ?_
      refine lv_iload hx hb dX2_takeStep_65 (lv_at hl 0 rfl) ?_
      refine lv_iload_n hx hb dX2_takeStep_67 rfl (lv_at hl 7 rfl) ?_
      refine lv_iadd hx hb dX2_takeStep_68 ?_
      refine lv_topi (fun x30 ex30 => ?_)
      refine lv_iload hx hb dX2_takeStep_69 (lv_at hl 1 rfl) ?_
      obtain ⟨y2_31, y3_31, hy3_31, he31⟩ := ok_X10 hok ha1
      refine tc_v hAL hS hA (va_runV (As := [.int x30, .int r6]) (rest := []) ⟨hx, hb, hml, hown, noTs⟩ (t_X10_addLast l dC dI H.size G cs tt mm a1 ha1 x30 r6) ⟨cbE 2 (wd_645 hE) (wd_120 hE) (wd_845 hE) rfl rfl (by decide +kernel) ⟨Nat.le_of_ble_eq_true rfl, Nat.le_of_ble_eq_true rfl⟩, (wd_643 hE), (wd_644 hE)⟩ ⟨PT.blind, th_recv hK hP ha1.1 he31 rfl, (th_pre (av := [.ref a1, .int x30, .int r6]) trivial hK hP hok hnd hWT hE)⟩ rfl rfl hl.1 rfl (lv_room (Nat.le_of_ble_eq_true rfl)) dX2_takeStep_71 ⟨Nat.le_of_ble_eq_true rfl, Nat.le_of_ble_eq_true rfl⟩) (fun f32 H locs hr32 hok hP hS => ?_)
      refine lv_iconst (v := 1) hx hb dX2_takeStep_74 (by decide) ?_
      exact W.zret (v := 1) hx hb hr rfl (fun t ht hW => ⟨⟨1, f32, rfl, Or.inr rfl, hok, by rw [ht]; exact hP⟩, hS.F ht⟩) hS.2.2 dX2_takeStep_75

set_option maxHeartbeats 4000000 in
set_option maxRecDepth 100000 in
theorem t_X2_append (l : Launch) (dC : Nat → ClassId) (dI : Nat → Nat → Nat) (sz : Nat) (G : GT) (cs : Nat → ClassId) (tt mm : Nat) (a0 : Nat) (ha0 : Ty G a0 7) (a1 : Nat) (ha1 : Ty G a1 10) (a2 : Nat) (ha2 : Ty G a2 10) : Met l yX2_append [.code yX2_append cX2_append 5 (some .int)] ({ frames := 3, cells := 0, slots := 0, locals := 120 }) (PT [.ref a0, .ref a1, .ref a2] sz dC dI G cs tt mm (fun _ => True)) (va_Qi (fun (r : Int32) (u : Nat → va_E) => True) (BT dC dI G cs tt mm) (AT G sz)) 0 0 (AT G sz) := by
  refine Met.ofW (cc := cX2_append) (maxL := 5) (ret := (some .int)) (by decide) rfl ?_
  intro p e s m args below meth c s₁ B hml hv
  obtain ⟨rfl, hsz, ⟨f0, hok, hP, hX⟩, hK, hnd, hWT, hE⟩ := hv
  have hx := B.exec
  have hb := B.bytes
  have hr := B.returns
  have hown : s.vm.findClass RX2 = some m.cls := findClass_of_methodNamed B.named
  have hlocks := B.notSynchronized
  subst hsz
  have hAL : ∀ a, a ∈ gL G → AT G s.heap.size a := fun a h => Or.inl h
  have hA : ∀ q : Nat, s.heap.size ≤ q → AT G s.heap.size q := fun q h => Or.inr h
  have hS : va_S (AT G s.heap.size) s.heap s.heap [] := va_S.rf
  have hl := lv_entry ([.ref a0, .ref a1, .ref a2]) (n := 5) (Nat.le_of_ble_eq_true rfl)
  rw [lg_entry_eq]
  generalize (lg_sl ([.ref a0, .ref a1, .ref a2]) ++ List.replicate (5 - (lg_sl ([.ref a0, .ref a1, .ref a2])).length) Slot.unset).toArray = ls at hl ⊢
  have hl : lv_has ls 5 [(0, .ref a0), (1, .ref a1), (2, .ref a2)] := hl
  refine lv_iconst (v := 0) hx hb dX2_append_0 (by decide) ?_
  refine lv_istore_n (lv' := [(3, .int 0), (0, .ref a0), (1, .ref a1), (2, .ref a2)]) hx hb dX2_append_1 rfl hl (by decide) rfl (fun ls hl => ?_)
  refine lv_aload_n hx hb dX2_append_2 rfl (lv_at hl 2 rfl) ?_
  refine lv_aload_n hx hb dX2_append_3 rfl (lv_at hl 3 rfl) ?_
  refine lv_iconst (v := 0) hx hb dX2_append_4 (by decide) ?_
  obtain ⟨y2_1, y3_1, hy3_1, he1⟩ := ok_X10 hok ha2
  refine vp_callSi (va_Run.run (va_runV (As := [.int 0]) (rest := [.ref a1]) ⟨hx, hb, hml, hown, noTs⟩ (t_X10_numberAt l dC dI s.heap.size G cs tt mm a2 ha2 0) ⟨cbE 1 (wd_717 hE) (wd_120 hE) (wd_843 hE) rfl rfl (by decide +kernel) ⟨Nat.le_of_ble_eq_true rfl, Nat.le_of_ble_eq_true rfl⟩, (wd_715 hE), (wd_716 hE)⟩ ⟨PT.blind, th_recv hK hP ha2.1 he1 rfl, (th_pre (av := [.ref a2, .int 0]) trivial hK hP hok hnd hWT hE)⟩ rfl rfl hl.1 rfl (lv_room (Nat.le_of_ble_eq_true rfl)) dX2_append_5 ⟨Nat.le_of_ble_eq_true rfl, Nat.le_of_ble_eq_true rfl⟩)) (fun r2 hr2 => ?_)
  refine lv_aload_n hx hb dX2_append_8 rfl (lv_at hl 1 rfl) ?_
  refine lv_aload_n hx hb dX2_append_9 rfl (lv_at hl 3 rfl) ?_
  refine vp_callSi (va_Run.run (va_runV (As := []) (rest := [.ref a0, .int r2, .ref a1]) ⟨hx, hb, hml, hown, noTs⟩ (t_X10_begin l dC dI s.heap.size G cs tt mm a2 ha2) ⟨cbE 0 (wd_713 hE) (wd_120 hE) (wd_838 hE) rfl rfl (by decide +kernel) ⟨Nat.le_of_ble_eq_true rfl, Nat.le_of_ble_eq_true rfl⟩, (wd_711 hE), (wd_712 hE)⟩ ⟨PT.blind, th_recv hK hP ha2.1 he1 rfl, (th_pre (av := [.ref a2]) trivial hK hP hok hnd hWT hE)⟩ rfl rfl hl.1 rfl (lv_room (Nat.le_of_ble_eq_true rfl)) dX2_append_10 ⟨Nat.le_of_ble_eq_true rfl, Nat.le_of_ble_eq_true rfl⟩)) (fun r3 hr3 => ?_)
  have he4 := ok_X7 hok ha0
  refine vp_callSi (va_Run.run (va_runV (As := [.int r3]) (rest := [.int r2, .ref a1]) ⟨hx, hb, hml, hown, noTs⟩ (t_X7_orderAt l dC dI s.heap.size G cs tt mm a0 ha0 r3) ⟨cbE 1 (wd_614 hE) (wd_116 hE) (wd_844 hE) rfl rfl (by decide +kernel) ⟨Nat.le_of_ble_eq_true rfl, Nat.le_of_ble_eq_true rfl⟩, (wd_612 hE), (wd_613 hE)⟩ ⟨PT.blind, th_recv hK hP ha0.1 he4 rfl, (th_pre (av := [.ref a0, .int r3]) trivial hK hP hok hnd hWT hE)⟩ rfl rfl hl.1 rfl (lv_room (Nat.le_of_ble_eq_true rfl)) dX2_append_13 ⟨Nat.le_of_ble_eq_true rfl, Nat.le_of_ble_eq_true rfl⟩)) (fun r5 hr5 => ?_)
  obtain ⟨y2_6, y3_6, hy3_6, he6⟩ := ok_X10 hok ha1
  refine tc_v hAL hS hA (va_runV (As := [.int r2, .int r5]) (rest := []) ⟨hx, hb, hml, hown, noTs⟩ (t_X10_addLast l dC dI s.heap.size G cs tt mm a1 ha1 r2 r5) ⟨cbE 2 (wd_645 hE) (wd_120 hE) (wd_845 hE) rfl rfl (by decide +kernel) ⟨Nat.le_of_ble_eq_true rfl, Nat.le_of_ble_eq_true rfl⟩, (wd_643 hE), (wd_644 hE)⟩ ⟨PT.blind, th_recv hK hP ha1.1 he6 rfl, (th_pre (av := [.ref a1, .int r2, .int r5]) trivial hK hP hok hnd hWT hE)⟩ rfl rfl hl.1 rfl (lv_room (Nat.le_of_ble_eq_true rfl)) dX2_append_16 ⟨Nat.le_of_ble_eq_true rfl, Nat.le_of_ble_eq_true rfl⟩) (fun f7 H locs hr7 hok hP hS => ?_)
  refine lv_iconst (v := 0) hx hb dX2_append_19 (by decide) ?_
  refine lv_istore (lv' := [(4, .int 0), (3, .int 0), (0, .ref a0), (1, .ref a1), (2, .ref a2)]) hx hb dX2_append_20 hl (by decide) rfl (fun ls hl => ?_)
  refine w_ind (I := fun n f H locs ls => OKT G cs tt mm f ∧ va_P (dC, dI) vwCl (va_pl (gL G) f) H ∧ va_S (AT G s.heap.size) s.heap H locs ∧ ∃ (w3_8 : Int32) (w4_8 : Int32), n = (2147483647 - w4_8.toInt).toNat ∧ 0 ≤ w4_8 ∧ lv_has ls 5 [(0, .ref a0), (1, .ref a1), (2, .ref a2), (3, .int w3_8), (4, .int w4_8)]) (fun n f8 H locs ls hI ih8 => ?_) _ f7 _ _ _ ⟨hok, hP, hS, 0, 0, rfl, (by first | omega | (simp only [i_lt, i_le, i_eq, ti_m9, ti_m1, ti_0, ti_1, ti_2, ti_3, ti_4, ti_5, ti_6, ti_7, ti_9, ti_12, ti_20, ti_99, ti_700, ti_24, ti_156, ti_72, ti_8, ti_60, ti_543, ti_10, ti_33, ti_51, ti_178, ti_119, ti_111, ti_114, ti_100, ti_32, ti_62, ti_59, ti_48, ti_701, ti_97, ti_122, ti_57, ti_73, ti_128]; omega)), lv_sub hl [2, 3, 4, 1, 0] rfl⟩
  obtain ⟨hok, hP, hS, w3_8, w4_8, hmu8, hlo8, hl⟩ := hI
  subst hmu8
  refine lv_iload hx hb dX2_append_22 (lv_at hl 4 rfl) ?_
  refine lv_aload_n hx hb dX2_append_24 rfl (lv_at hl 2 rfl) ?_
  obtain ⟨y2_9, y3_9, hy3_9, he9⟩ := ok_X10 hok ha2
  refine vp_callSi (va_Run.run (va_runV (As := []) (rest := [.int w4_8]) ⟨hx, hb, hml, hown, noTs⟩ (t_X10_size l dC dI H.size G cs tt mm a2 ha2 y2_9 y3_9) ⟨cbE 0 (wd_666 hE) (wd_120 hE) (wd_846 hE) rfl rfl (by decide +kernel) ⟨Nat.le_of_ble_eq_true rfl, Nat.le_of_ble_eq_true rfl⟩, (wd_664 hE), (wd_665 hE)⟩ ⟨PT.blind, th_recv hK hP ha2.1 he9 rfl, (th_pre (av := [.ref a2]) he9 hK hP hok hnd hWT hE)⟩ rfl rfl hl.1 rfl (lv_room (Nat.le_of_ble_eq_true rfl)) dX2_append_25 ⟨Nat.le_of_ble_eq_true rfl, Nat.le_of_ble_eq_true rfl⟩)) (fun r10 hr10 => ?_)
  subst hr10
  have nt11 : (nI y3_9).toInt = ((y3_9 : Nat) : Int) := nI_toInt (by omega)
  refine lv_icmp_ge (tgt := 62) hx hb dX2_append_28 (by decide) (fun c12 => ?_) (fun c12 => ?_)
  · refine lv_iload_n hx hb dX2_append_62 rfl (lv_at hl 3 rfl) ?_
    exact W.iret (v := w3_8) hx hb hr (fun t ht hW => ⟨⟨w3_8, f8, rfl, trivial, hok, by rw [ht]; exact hP⟩, hS.F ht⟩) hS.2.2 dX2_append_63
  · refine lv_iload_n hx hb dX2_append_31 rfl (lv_at hl 3 rfl) ?_
    refine lv_aload_n hx hb dX2_append_32 rfl (lv_at hl 0 rfl) ?_
    refine lv_aload_n hx hb dX2_append_33 rfl (lv_at hl 1 rfl) ?_
    refine lv_aload_n hx hb dX2_append_34 rfl (lv_at hl 2 rfl) ?_
    refine lv_iload hx hb dX2_append_35 (lv_at hl 4 rfl) ?_
    refine vp_callSi (va_Run.run (va_runV (As := [.int w4_8]) (rest := [.ref a1, .ref a0, .int w3_8]) ⟨hx, hb, hml, hown, noTs⟩ (t_X10_stepAt l dC dI H.size G cs tt mm a2 ha2 w4_8) ⟨cbE 1 (wd_721 hE) (wd_120 hE) (wd_847 hE) rfl rfl (by decide +kernel) ⟨Nat.le_of_ble_eq_true rfl, Nat.le_of_ble_eq_true rfl⟩, (wd_719 hE), (wd_720 hE)⟩ ⟨PT.blind, th_recv hK hP ha2.1 he9 rfl, (th_pre (av := [.ref a2, .int w4_8]) trivial hK hP hok hnd hWT hE)⟩ rfl rfl hl.1 rfl (lv_room (Nat.le_of_ble_eq_true rfl)) dX2_append_37 ⟨Nat.le_of_ble_eq_true rfl, Nat.le_of_ble_eq_true rfl⟩)) (fun r13 hr13 => ?_)
    refine lv_aload_n hx hb dX2_append_40 rfl (lv_at hl 2 rfl) ?_
    refine lv_iload hx hb dX2_append_41 (lv_at hl 4 rfl) ?_
    refine lv_iconst (v := 1) hx hb dX2_append_43 (by decide) ?_
    obtain ⟨j14, hj14, rfl⟩ : ∃ j : Nat, j ≤ 71 ∧ w4_8 = nI j := i_nat (by first | omega | (simp only [i_lt, i_le, i_eq, ti_m9, ti_m1, ti_0, ti_1, ti_2, ti_3, ti_4, ti_5, ti_6, ti_7, ti_9, ti_12, ti_20, ti_99, ti_700, ti_24, ti_156, ti_72, ti_8, ti_60, ti_543, ti_10, ti_33, ti_51, ti_178, ti_119, ti_111, ti_114, ti_100, ti_32, ti_62, ti_59, ti_48, ti_701, ti_97, ti_122, ti_57, ti_73, ti_128, nt11] at hlo8 c12 ⊢; omega)) (by first | omega | (simp only [i_lt, i_le, i_eq, ti_m9, ti_m1, ti_0, ti_1, ti_2, ti_3, ti_4, ti_5, ti_6, ti_7, ti_9, ti_12, ti_20, ti_99, ti_700, ti_24, ti_156, ti_72, ti_8, ti_60, ti_543, ti_10, ti_33, ti_51, ti_178, ti_119, ti_111, ti_114, ti_100, ti_32, ti_62, ti_59, ti_48, ti_701, ti_97, ti_122, ti_57, ti_73, ti_128, nt11] at hlo8 c12 ⊢; omega))
    have nt15 : (nI j14).toInt = ((j14 : Nat) : Int) := nI_toInt (by omega)
    refine lv_iadd hx hb dX2_append_44 ?_
    refine W.eq (g2 := F0 m 45 ls [.int (nI (j14 + 1)), .ref a2, .int r13, .ref a1, .ref a0, .int w3_8]) (congrArg (fun z : Int32 => F0 m 45 ls (.int z :: [.ref a2, .int r13, .ref a1, .ref a0, .int w3_8])) (nI_add j14 1)) ?_
    refine vp_callSi (va_Run.run (va_runV (As := [.int (nI (j14 + 1))]) (rest := [.int r13, .ref a1, .ref a0, .int w3_8]) ⟨hx, hb, hml, hown, noTs⟩ (t_X10_numberAt l dC dI H.size G cs tt mm a2 ha2 (nI (j14 + 1))) ⟨cbE 1 (wd_717 hE) (wd_120 hE) (wd_843 hE) rfl rfl (by decide +kernel) ⟨Nat.le_of_ble_eq_true rfl, Nat.le_of_ble_eq_true rfl⟩, (wd_715 hE), (wd_716 hE)⟩ ⟨PT.blind, th_recv hK hP ha2.1 he9 rfl, (th_pre (av := [.ref a2, .int (nI (j14 + 1))]) trivial hK hP hok hnd hWT hE)⟩ rfl rfl hl.1 rfl (lv_room (Nat.le_of_ble_eq_true rfl)) dX2_append_45 ⟨Nat.le_of_ble_eq_true rfl, Nat.le_of_ble_eq_true rfl⟩)) (fun r16 hr16 => ?_)
    refine tc_i hAL hS hA (va_runS (As := [.ref a0, .ref a1, .int r13, .int r16]) (rest := [.int w3_8]) ⟨hx, hb, hml, hown, noTs⟩ (t_X2_takeStep l dC dI H.size G cs tt mm a0 ha0 a1 ha1 r13 r16) ⟨cbE 4 (wd_850 hE) (wd_134 hE) (wd_848 hE) rfl rfl (by decide +kernel) ⟨Nat.le_of_ble_eq_true rfl, Nat.le_of_ble_eq_true rfl⟩, (wd_849 hE)⟩ ⟨PT.blind, (th_pre (av := [.ref a0, .ref a1, .int r13, .int r16]) trivial hK hP hok hnd hWT hE)⟩ rfl rfl hl.1 rfl (lv_room (Nat.le_of_ble_eq_true rfl)) dX2_append_48 ⟨Nat.le_of_ble_eq_true rfl, Nat.le_of_ble_eq_true rfl⟩) (fun r17 f17 H locs hr17 hok hP hS => ?_)
    refine vp_callSi (va_Run.run (va_runSN (As := [.int r17]) (rest := [.int w3_8]) ⟨hx, hb, hml, hown, noTs⟩ (t_X11_bit l dC dI H.size G cs tt mm r17) ⟨cnE 1 (wd_669 hE) (wd_115 hE) (wd_873 hE) rfl rfl (by decide +kernel) ⟨Nat.le_of_ble_eq_true rfl, Nat.le_of_ble_eq_true rfl⟩, (wd_668 hE), trivial⟩ ⟨PT.blind, (th_pre (av := [.int r17]) trivial hK hP hok hnd hWT hE)⟩ rfl rfl hl.1 rfl (lv_room (Nat.le_of_ble_eq_true rfl)) dX2_append_51 ⟨Nat.le_of_ble_eq_true rfl, Nat.le_of_ble_eq_true rfl⟩)) (fun r18 hr18 => ?_)
    refine lv_iadd hx hb dX2_append_54 ?_
    refine lv_topi (fun x19 ex19 => ?_)
    refine lv_istore_n (lv' := [(3, .int x19), (0, .ref a0), (1, .ref a1), (2, .ref a2), (4, .int (nI j14))]) hx hb dX2_append_55 rfl hl (by decide) rfl (fun ls hl => ?_)
    obtain ⟨z20, ez20⟩ : ∃ z : Int32, z = (nI j14) + 1 := ⟨_, rfl⟩
    refine lv_iinc (v := z20) (lv' := [(4, .int z20), (3, .int x19), (0, .ref a0), (1, .ref a1), (2, .ref a2)]) hx hb dX2_append_56 hl (k := 4) rfl (by rw [ez20]; rfl) (by decide) rfl (fun ls hl => ?_)
    have ic20 : z20.toInt = (nI j14).toInt + 1 := by rw [ez20]; exact ic_up (by have := i_rng (nI j14); have := i_rng (nI y3_9); simp only [i_lt, i_le, i_eq, ti_m9, ti_m1, ti_0, ti_1, ti_2, ti_3, ti_4, ti_5, ti_6, ti_7, ti_9, ti_12, ti_20, ti_99, ti_700, ti_24, ti_156, ti_72, ti_8, ti_60, ti_543, ti_10, ti_33, ti_51, ti_178, ti_119, ti_111, ti_114, ti_100, ti_32, ti_62, ti_59, ti_48, ti_701, ti_97, ti_122, ti_57, ti_73, ti_128, nt11, nt15] at hlo8 c12 ⊢; omega)
    refine lv_goto (tgt := 22) hx hb dX2_append_59 (by decide) ?_
    exact ih8 _ f17 _ _ _ (by have := i_rng z20; first | omega | (simp only [i_lt, i_le, i_eq, ti_m9, ti_m1, ti_0, ti_1, ti_2, ti_3, ti_4, ti_5, ti_6, ti_7, ti_9, ti_12, ti_20, ti_99, ti_700, ti_24, ti_156, ti_72, ti_8, ti_60, ti_543, ti_10, ti_33, ti_51, ti_178, ti_119, ti_111, ti_114, ti_100, ti_32, ti_62, ti_59, ti_48, ti_701, ti_97, ti_122, ti_57, ti_73, ti_128, nt11, nt15, ic20] at hlo8 c12 ic20 ⊢; omega)) ⟨hok, hP, hS, x19, z20, rfl, (by first | omega | (simp only [i_lt, i_le, i_eq, ti_m9, ti_m1, ti_0, ti_1, ti_2, ti_3, ti_4, ti_5, ti_6, ti_7, ti_9, ti_12, ti_20, ti_99, ti_700, ti_24, ti_156, ti_72, ti_8, ti_60, ti_543, ti_10, ti_33, ti_51, ti_178, ti_119, ti_111, ti_114, ti_100, ti_32, ti_62, ti_59, ti_48, ti_701, ti_97, ti_122, ti_57, ti_73, ti_128, nt11, nt15, ic20] at hlo8 c12 ⊢; omega)), lv_sub hl [2, 3, 4, 1, 0] rfl⟩
