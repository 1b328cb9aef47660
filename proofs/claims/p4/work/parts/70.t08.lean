set_option maxHeartbeats 4000000 in
set_option maxRecDepth 100000 in
theorem t_X6_weigh (l : Launch) (dC : Nat → ClassId) (dI : Nat → Nat → Nat) (sz : Nat) (G : GT) (cs : Nat → ClassId) (tt mm : Nat) (a0 : Nat) (ha0 : Ty G a0 6) (a1 : Nat) (ha1 : Ty G a1 7) : Met l yX6_weigh [.code yX6_weigh cX6_weigh 3 none] ({ frames := 3, cells := 0, slots := 0, locals := 120 }) (PT [.ref a0, .ref a1] sz dC dI G cs tt mm (fun _ => True)) (va_Qv (fun (u : Nat → va_E) => True) (BT dC dI G cs tt mm) (AT G sz)) 0 0 (AT G sz) := by
  refine Met.ofW (cc := cX6_weigh) (maxL := 3) (ret := none) (by decide) rfl ?_
  intro p e s m args below meth c s₁ B hml hv
  obtain ⟨rfl, hsz, ⟨f0, hok, hP, hX⟩, hK, hnd, hWT, hE⟩ := hv
  have hx := B.exec
  have hb := B.bytes
  have hr := B.returns
  have hown : s.vm.findClass RX6 = some m.cls := findClass_of_methodNamed B.named
  have hlocks := B.notSynchronized
  subst hsz
  have hAL : ∀ a, a ∈ gL G → AT G s.heap.size a := fun a h => Or.inl h
  have hA : ∀ q : Nat, s.heap.size ≤ q → AT G s.heap.size q := fun q h => Or.inr h
  have hS : va_S (AT G s.heap.size) s.heap s.heap [] := va_S.rf
  have hl := lv_entry ([.ref a0, .ref a1]) (n := 3) (Nat.le_of_ble_eq_true rfl)
  rw [lg_entry_eq]
  generalize (lg_sl ([.ref a0, .ref a1]) ++ List.replicate (3 - (lg_sl ([.ref a0, .ref a1])).length) Slot.unset).toArray = ls at hl ⊢
  have hl : lv_has ls 3 [(0, .ref a0), (1, .ref a1)] := hl
  refine lv_aload_n hx hb dX6_weigh_0 rfl (lv_at hl 0 rfl) ?_
  refine lv_lconst (v := 0) hx hb dX6_weigh_1 (by decide) ?_
  obtain ⟨y1_1, y2_1, he1⟩ := ok_X6 hok ha0
  refine th_put (v := .long 0) (ty := .long) hx hb (ly_X6 hE) tyX6 tyX6_ok nmX6 hown hK hP hnd hAL hS ha0.1 he1 rfl 1 (by decide) (wd_339 hE) (fun _ h9 => h9) rfl (by decide +kernel) rfl rfl (Nat.le_of_ble_eq_true rfl) (up_X6 hok ha0 ⟨0, y2_1, rfl⟩) dX6_weigh_2 (fun f2 H locs hfa2 hfo2 hok hP hS => ?_)
  refine lv_aload_n hx hb dX6_weigh_5 rfl (lv_at hl 0 rfl) ?_
  refine lv_lconst (v := 1) hx hb dX6_weigh_6 (by decide) ?_
  refine th_put (v := .long 1) (ty := .long) hx hb (ly_X6 hE) tyX6 tyX6_ok nmX6 hown hK hP hnd hAL hS ha0.1 hfa2 rfl 2 (by decide) (wd_340 hE) (fun _ h9 => h9) rfl (by decide +kernel) rfl rfl (Nat.le_of_ble_eq_true rfl) (up_X6 hok ha0 ⟨0, 1, rfl⟩) dX6_weigh_7 (fun f3 H locs hfa3 hfo3 hok hP hS => ?_)
  refine lv_iconst (v := 0) hx hb dX6_weigh_10 (by decide) ?_
  refine lv_istore_n (lv' := [(2, .int 0), (0, .ref a0), (1, .ref a1)]) hx hb dX6_weigh_11 rfl hl (by decide) rfl (fun ls hl => ?_)
  refine w_ind (I := fun n f H locs ls => OKT G cs tt mm f ∧ va_P (dC, dI) vwCl (va_pl (gL G) f) H ∧ va_S (AT G s.heap.size) s.heap H locs ∧ ∃ (w2_4 : Int32), n = (2147483647 - w2_4.toInt).toNat ∧ 0 ≤ w2_4 ∧ lv_has ls 3 [(0, .ref a0), (1, .ref a1), (2, .int w2_4)]) (fun n f4 H locs ls hI ih4 => ?_) _ f3 _ _ _ ⟨hok, hP, hS, 0, rfl, (by first | omega | (simp only [i_lt, i_le, i_eq, ti_m9, ti_m1, ti_0, ti_1, ti_2, ti_3, ti_4, ti_5, ti_6, ti_7, ti_9, ti_12, ti_20, ti_99, ti_700, ti_24, ti_156, ti_72, ti_8, ti_60, ti_543, ti_10, ti_33, ti_51, ti_178, ti_119, ti_111, ti_114, ti_100, ti_32, ti_62, ti_59, ti_48, ti_701, ti_97, ti_122, ti_57, ti_73, ti_128, ti_61]; omega)), lv_sub hl [1, 2, 0] rfl⟩
  obtain ⟨hok, hP, hS, w2_4, hmu4, hlo4, hl⟩ := hI
  subst hmu4
  refine lv_iload_n hx hb dX6_weigh_12 rfl (lv_at hl 2 rfl) ?_
  refine lv_aload_n hx hb dX6_weigh_13 rfl (lv_at hl 1 rfl) ?_
  have he5 := ok_X7 hok ha1
  refine vp_callSi (va_Run.run (va_runV (As := []) (rest := [.int w2_4]) ⟨hx, hb, hml, hown, noTs⟩ (t_X7_vertices l dC dI H.size G cs tt mm a1 ha1) ⟨cbE 0 (wd_557 hE) (wd_116 hE) (wd_779 hE) rfl rfl (by decide +kernel) ⟨Nat.le_of_ble_eq_true rfl, Nat.le_of_ble_eq_true rfl⟩, (wd_555 hE), (wd_556 hE)⟩ ⟨PT.blind, th_recv hK hP ha1.1 he5 rfl, (th_pre (av := [.ref a1]) trivial hK hP hok hnd hWT hE)⟩ rfl rfl hl.1 rfl (lv_room (Nat.le_of_ble_eq_true rfl)) dX6_weigh_14 ⟨Nat.le_of_ble_eq_true rfl, Nat.le_of_ble_eq_true rfl⟩)) (fun r6 hr6 => ?_)
  refine lv_icmp_ge (tgt := 37) hx hb dX6_weigh_17 (by decide) (fun c7 => ?_) (fun c7 => ?_)
  · refine lv_iconst (v := 0) hx hb dX6_weigh_37 (by decide) ?_
    refine lv_istore_n (lv' := [(2, .int 0), (0, .ref a0), (1, .ref a1)]) hx hb dX6_weigh_38 rfl hl (by decide) rfl (fun ls hl => ?_)
    refine w_ind (I := fun n f H locs ls => OKT G cs tt mm f ∧ va_P (dC, dI) vwCl (va_pl (gL G) f) H ∧ va_S (AT G s.heap.size) s.heap H locs ∧ ∃ (w2_8 : Int32), n = (2147483647 - w2_8.toInt).toNat ∧ 0 ≤ w2_8 ∧ lv_has ls 3 [(0, .ref a0), (1, .ref a1), (2, .int w2_8)]) (fun n f8 H locs ls hI ih8 => ?_) _ f4 _ _ _ ⟨hok, hP, hS, 0, rfl, (by first | omega | (simp only [i_lt, i_le, i_eq, ti_m9, ti_m1, ti_0, ti_1, ti_2, ti_3, ti_4, ti_5, ti_6, ti_7, ti_9, ti_12, ti_20, ti_99, ti_700, ti_24, ti_156, ti_72, ti_8, ti_60, ti_543, ti_10, ti_33, ti_51, ti_178, ti_119, ti_111, ti_114, ti_100, ti_32, ti_62, ti_59, ti_48, ti_701, ti_97, ti_122, ti_57, ti_73, ti_128, ti_61] at hlo4 c7 ⊢; omega)), lv_sub hl [1, 2, 0] rfl⟩
    obtain ⟨hok, hP, hS, w2_8, hmu8, hlo8, hl⟩ := hI
    subst hmu8
    refine lv_iload_n hx hb dX6_weigh_39 rfl (lv_at hl 2 rfl) ?_
    refine lv_aload_n hx hb dX6_weigh_40 rfl (lv_at hl 1 rfl) ?_
    have he9 := ok_X7 hok ha1
    refine vp_callSi (va_Run.run (va_runV (As := []) (rest := [.int w2_8]) ⟨hx, hb, hml, hown, noTs⟩ (t_X7_edges l dC dI H.size G cs tt mm a1 ha1) ⟨cbE 0 (wd_598 hE) (wd_116 hE) (wd_1200 hE) rfl rfl (by decide +kernel) ⟨Nat.le_of_ble_eq_true rfl, Nat.le_of_ble_eq_true rfl⟩, (wd_596 hE), (wd_597 hE)⟩ ⟨PT.blind, th_recv hK hP ha1.1 he9 rfl, (th_pre (av := [.ref a1]) trivial hK hP hok hnd hWT hE)⟩ rfl rfl hl.1 rfl (lv_room (Nat.le_of_ble_eq_true rfl)) dX6_weigh_41 ⟨Nat.le_of_ble_eq_true rfl, Nat.le_of_ble_eq_true rfl⟩)) (fun r10 hr10 => ?_)
    refine lv_icmp_ge (tgt := 66) hx hb dX6_weigh_44 (by decide) (fun c11 => ?_) (fun c11 => ?_)
    · exact W.vret hx hb hr (fun t ht hW => ⟨⟨f8, rfl, trivial, hok, by rw [ht]; exact hP⟩, hS.F ht⟩) hS.2.2 dX6_weigh_66
    · refine lv_aload_n hx hb dX6_weigh_47 rfl (lv_at hl 0 rfl) ?_
      refine lv_ldc2 (v := -1) hx hb hown (wd_1360 hE) dX6_weigh_48 ?_
      refine lv_aload_n hx hb dX6_weigh_51 rfl (lv_at hl 1 rfl) ?_
      refine lv_iload_n hx hb dX6_weigh_52 rfl (lv_at hl 2 rfl) ?_
      refine vp_callSi (va_Run.run (va_runV (As := [.int w2_8]) (rest := [.long (-1), .ref a0]) ⟨hx, hb, hml, hown, noTs⟩ (t_X7_common l dC dI H.size G cs tt mm a1 ha1 w2_8) ⟨cbE 1 (wd_806 hE) (wd_116 hE) (wd_1202 hE) rfl rfl (by decide +kernel) ⟨Nat.le_of_ble_eq_true rfl, Nat.le_of_ble_eq_true rfl⟩, (wd_804 hE), (wd_805 hE)⟩ ⟨PT.blind, th_recv hK hP ha1.1 he9 rfl, (th_pre (av := [.ref a1, .int w2_8]) trivial hK hP hok hnd hWT hE)⟩ rfl rfl hl.1 rfl (lv_room (Nat.le_of_ble_eq_true rfl)) dX6_weigh_53 ⟨Nat.le_of_ble_eq_true rfl, Nat.le_of_ble_eq_true rfl⟩)) (fun r12 hr12 => ?_)
      refine lv_i2l hx hb dX6_weigh_56 rfl ?_
      refine lv_topl (fun x13 _ => ?_)
      obtain ⟨y1_14, y2_14, he14⟩ := ok_X6 hok ha0
      refine tc_v hAL hS hA (va_runV (As := [.long (-1), .long x13]) (rest := []) ⟨hx, hb, hml, hown, noTs⟩ (t_X6_addPart l dC dI H.size G cs tt mm a0 ha0 (-1) x13) ⟨cbE 2 (wd_1359 hE) (wd_124 hE) (wd_1356 hE) rfl rfl (by decide +kernel) ⟨Nat.le_of_ble_eq_true rfl, Nat.le_of_ble_eq_true rfl⟩, (wd_1358 hE), (wd_52 hE)⟩ ⟨PT.blind, th_recv hK hP ha0.1 he14 rfl, (th_pre (av := [.ref a0, .long (-1), .long x13]) trivial hK hP hok hnd hWT hE)⟩ rfl rfl hl.1 rfl (lv_room (Nat.le_of_ble_eq_true rfl)) dX6_weigh_57 ⟨Nat.le_of_ble_eq_true rfl, Nat.le_of_ble_eq_true rfl⟩) (fun f15 H locs hr15 hok hP hS => ?_)
      obtain ⟨z16, ez16⟩ : ∃ z : Int32, z = w2_8 + 1 := ⟨_, rfl⟩
      refine lv_iinc (v := z16) (lv' := [(2, .int z16), (0, .ref a0), (1, .ref a1)]) hx hb dX6_weigh_60 hl (k := 2) rfl (by rw [ez16]; rfl) (by decide) rfl (fun ls hl => ?_)
      have ic16 : z16.toInt = w2_8.toInt + 1 := by rw [ez16]; exact ic_up (by have := i_rng w2_4; have := i_rng r6; have := i_rng w2_8; have := i_rng r10; simp only [i_lt, i_le, i_eq, ti_m9, ti_m1, ti_0, ti_1, ti_2, ti_3, ti_4, ti_5, ti_6, ti_7, ti_9, ti_12, ti_20, ti_99, ti_700, ti_24, ti_156, ti_72, ti_8, ti_60, ti_543, ti_10, ti_33, ti_51, ti_178, ti_119, ti_111, ti_114, ti_100, ti_32, ti_62, ti_59, ti_48, ti_701, ti_97, ti_122, ti_57, ti_73, ti_128, ti_61] at hlo4 c7 hlo8 c11 ⊢; omega)
      refine lv_goto (tgt := 39) hx hb dX6_weigh_63 (by decide) ?_
      exact ih8 _ f15 _ _ _ (by have := i_rng z16; first | omega | (simp only [i_lt, i_le, i_eq, ti_m9, ti_m1, ti_0, ti_1, ti_2, ti_3, ti_4, ti_5, ti_6, ti_7, ti_9, ti_12, ti_20, ti_99, ti_700, ti_24, ti_156, ti_72, ti_8, ti_60, ti_543, ti_10, ti_33, ti_51, ti_178, ti_119, ti_111, ti_114, ti_100, ti_32, ti_62, ti_59, ti_48, ti_701, ti_97, ti_122, ti_57, ti_73, ti_128, ti_61, ic16] at hlo4 c7 hlo8 c11 ic16 ⊢; omega)) ⟨hok, hP, hS, z16, rfl, (by first | omega | (simp only [i_lt, i_le, i_eq, ti_m9, ti_m1, ti_0, ti_1, ti_2, ti_3, ti_4, ti_5, ti_6, ti_7, ti_9, ti_12, ti_20, ti_99, ti_700, ti_24, ti_156, ti_72, ti_8, ti_60, ti_543, ti_10, ti_33, ti_51, ti_178, ti_119, ti_111, ti_114, ti_100, ti_32, ti_62, ti_59, ti_48, ti_701, ti_97, ti_122, ti_57, ti_73, ti_128, ti_61, ic16] at hlo4 c7 hlo8 c11 ⊢; omega)), lv_sub hl [1, 2, 0] rfl⟩
  · refine lv_aload_n hx hb dX6_weigh_20 rfl (lv_at hl 0 rfl) ?_
    refine lv_lconst (v := 1) hx hb dX6_weigh_21 (by decide) ?_
    refine lv_aload_n hx hb dX6_weigh_22 rfl (lv_at hl 1 rfl) ?_
    refine lv_iload_n hx hb dX6_weigh_23 rfl (lv_at hl 2 rfl) ?_
    refine vp_callSi (va_Run.run (va_runV (As := [.int w2_4]) (rest := [.long 1, .ref a0]) ⟨hx, hb, hml, hown, noTs⟩ (t_X7_orderAt l dC dI H.size G cs tt mm a1 ha1 w2_4) ⟨cbE 1 (wd_614 hE) (wd_116 hE) (wd_1199 hE) rfl rfl (by decide +kernel) ⟨Nat.le_of_ble_eq_true rfl, Nat.le_of_ble_eq_true rfl⟩, (wd_612 hE), (wd_613 hE)⟩ ⟨PT.blind, th_recv hK hP ha1.1 he5 rfl, (th_pre (av := [.ref a1, .int w2_4]) trivial hK hP hok hnd hWT hE)⟩ rfl rfl hl.1 rfl (lv_room (Nat.le_of_ble_eq_true rfl)) dX6_weigh_24 ⟨Nat.le_of_ble_eq_true rfl, Nat.le_of_ble_eq_true rfl⟩)) (fun r17 hr17 => ?_)
    refine lv_i2l hx hb dX6_weigh_27 rfl ?_
    refine lv_topl (fun x18 _ => ?_)
    obtain ⟨y1_19, y2_19, he19⟩ := ok_X6 hok ha0
    refine tc_v hAL hS hA (va_runV (As := [.long 1, .long x18]) (rest := []) ⟨hx, hb, hml, hown, noTs⟩ (t_X6_addPart l dC dI H.size G cs tt mm a0 ha0 1 x18) ⟨cbE 2 (wd_1359 hE) (wd_124 hE) (wd_1356 hE) rfl rfl (by decide +kernel) ⟨Nat.le_of_ble_eq_true rfl, Nat.le_of_ble_eq_true rfl⟩, (wd_1358 hE), (wd_52 hE)⟩ ⟨PT.blind, th_recv hK hP ha0.1 he19 rfl, (th_pre (av := [.ref a0, .long 1, .long x18]) trivial hK hP hok hnd hWT hE)⟩ rfl rfl hl.1 rfl (lv_room (Nat.le_of_ble_eq_true rfl)) dX6_weigh_28 ⟨Nat.le_of_ble_eq_true rfl, Nat.le_of_ble_eq_true rfl⟩) (fun f20 H locs hr20 hok hP hS => ?_)
    obtain ⟨z21, ez21⟩ : ∃ z : Int32, z = w2_4 + 1 := ⟨_, rfl⟩
    refine lv_iinc (v := z21) (lv' := [(2, .int z21), (0, .ref a0), (1, .ref a1)]) hx hb dX6_weigh_31 hl (k := 2) rfl (by rw [ez21]; rfl) (by decide) rfl (fun ls hl => ?_)
    have ic21 : z21.toInt = w2_4.toInt + 1 := by rw [ez21]; exact ic_up (by have := i_rng w2_4; have := i_rng r6; simp only [i_lt, i_le, i_eq, ti_m9, ti_m1, ti_0, ti_1, ti_2, ti_3, ti_4, ti_5, ti_6, ti_7, ti_9, ti_12, ti_20, ti_99, ti_700, ti_24, ti_156, ti_72, ti_8, ti_60, ti_543, ti_10, ti_33, ti_51, ti_178, ti_119, ti_111, ti_114, ti_100, ti_32, ti_62, ti_59, ti_48, ti_701, ti_97, ti_122, ti_57, ti_73, ti_128, ti_61] at hlo4 c7 ⊢; omega)
    refine lv_goto (tgt := 12) hx hb dX6_weigh_34 (by decide) ?_
    exact ih4 _ f20 _ _ _ (by have := i_rng z21; first | omega | (simp only [i_lt, i_le, i_eq, ti_m9, ti_m1, ti_0, ti_1, ti_2, ti_3, ti_4, ti_5, ti_6, ti_7, ti_9, ti_12, ti_20, ti_99, ti_700, ti_24, ti_156, ti_72, ti_8, ti_60, ti_543, ti_10, ti_33, ti_51, ti_178, ti_119, ti_111, ti_114, ti_100, ti_32, ti_62, ti_59, ti_48, ti_701, ti_97, ti_122, ti_57, ti_73, ti_128, ti_61, ic21] at hlo4 c7 ic21 ⊢; omega)) ⟨hok, hP, hS, z21, rfl, (by first | omega | (simp only [i_lt, i_le, i_eq, ti_m9, ti_m1, ti_0, ti_1, ti_2, ti_3, ti_4, ti_5, ti_6, ti_7, ti_9, ti_12, ti_20, ti_99, ti_700, ti_24, ti_156, ti_72, ti_8, ti_60, ti_543, ti_10, ti_33, ti_51, ti_178, ti_119, ti_111, ti_114, ti_100, ti_32, ti_62, ti_59, ti_48, ti_701, ti_97, ti_122, ti_57, ti_73, ti_128, ti_61, ic21] at hlo4 c7 ⊢; omega)), lv_sub hl [1, 2, 0] rfl⟩

set_option maxHeartbeats 4000000 in
set_option maxRecDepth 100000 in
theorem t_X6_above (l : Launch) (dC : Nat → ClassId) (dI : Nat → Nat → Nat) (sz : Nat) (G : GT) (cs : Nat → ClassId) (tt mm : Nat) (a0 : Nat) (ha0 : Ty G a0 6) : Met l yX6_above [.code yX6_above cX6_above 1 (some .long)] ({ frames := 0, cells := 0, slots := 0, locals := 0 }) (PT [.ref a0] sz dC dI G cs tt mm (fun _ => True)) (vp_Sl (fun (r : Int64) => True)) 0 0 (fun _ => False) := by
  refine Met.ofW (cc := cX6_above) (maxL := 1) (ret := (some .long)) (by decide) rfl ?_
  intro p e s m args below meth c s₁ B hml hv
  obtain ⟨rfl, hsz, ⟨f0, hok, hP, hX⟩, hK, hnd, hWT, hE⟩ := hv
  have hx := B.exec
  have hb := B.bytes
  have hr := B.returns
  have hown : s.vm.findClass RX6 = some m.cls := findClass_of_methodNamed B.named
  have hlocks := B.notSynchronized
  subst hsz
  have hl := lv_entry ([.ref a0]) (n := 1) (Nat.le_of_ble_eq_true rfl)
  rw [lg_entry_eq]
  generalize (lg_sl ([.ref a0]) ++ List.replicate (1 - (lg_sl ([.ref a0])).length) Slot.unset).toArray = ls at hl ⊢
  have hl : lv_has ls 1 [(0, .ref a0)] := hl
  refine lv_aload_n hx hb dX6_above_0 rfl (lv_at hl 0 rfl) ?_
  obtain ⟨y1_1, y2_1, he1⟩ := ok_X6 hok ha0
  refine th_get hx hb (ly_X6 hE) hown hK hP ha0.1 he1 rfl 1 (by decide) (wd_339 hE) (fun _ h9 => h9) rfl dX6_above_1 ?_
  exact W.lret (v := y1_1) hx hb hr (fun t ht hW => ⟨y1_1, rfl, trivial, ht⟩) (fun _ h => absurd h List.not_mem_nil) dX6_above_4

set_option maxHeartbeats 4000000 in
set_option maxRecDepth 100000 in
theorem t_X6_below (l : Launch) (dC : Nat → ClassId) (dI : Nat → Nat → Nat) (sz : Nat) (G : GT) (cs : Nat → ClassId) (tt mm : Nat) (a0 : Nat) (ha0 : Ty G a0 6) : Met l yX6_below [.code yX6_below cX6_below 1 (some .long)] ({ frames := 0, cells := 0, slots := 0, locals := 0 }) (PT [.ref a0] sz dC dI G cs tt mm (fun _ => True)) (vp_Sl (fun (r : Int64) => True)) 0 0 (fun _ => False) := by
  refine Met.ofW (cc := cX6_below) (maxL := 1) (ret := (some .long)) (by decide) rfl ?_
  intro p e s m args below meth c s₁ B hml hv
  obtain ⟨rfl, hsz, ⟨f0, hok, hP, hX⟩, hK, hnd, hWT, hE⟩ := hv
  have hx := B.exec
  have hb := B.bytes
  have hr := B.returns
  have hown : s.vm.findClass RX6 = some m.cls := findClass_of_methodNamed B.named
  have hlocks := B.notSynchronized
  subst hsz
  have hl := lv_entry ([.ref a0]) (n := 1) (Nat.le_of_ble_eq_true rfl)
  rw [lg_entry_eq]
  generalize (lg_sl ([.ref a0]) ++ List.replicate (1 - (lg_sl ([.ref a0])).length) Slot.unset).toArray = ls at hl ⊢
  have hl : lv_has ls 1 [(0, .ref a0)] := hl
  refine lv_aload_n hx hb dX6_below_0 rfl (lv_at hl 0 rfl) ?_
  obtain ⟨y1_1, y2_1, he1⟩ := ok_X6 hok ha0
  refine th_get hx hb (ly_X6 hE) hown hK hP ha0.1 he1 rfl 2 (by decide) (wd_340 hE) (fun _ h9 => h9) rfl dX6_below_1 ?_
  exact W.lret (v := y2_1) hx hb hr (fun t ht hW => ⟨y2_1, rfl, trivial, ht⟩) (fun _ h => absurd h List.not_mem_nil) dX6_below_4

set_option maxHeartbeats 4000000 in
set_option maxRecDepth 100000 in
theorem t_X7_cell (l : Launch) (dC : Nat → ClassId) (dI : Nat → Nat → Nat) (sz : Nat) (G : GT) (cs : Nat → ClassId) (tt mm : Nat) (a0 : Nat) (ha0 : Ty G a0 7) (v1 : Int32) : Met l yX7_cell [.code yX7_cell cX7_cell 2 (some .int)] ({ frames := 0, cells := 0, slots := 0, locals := 0 }) (PT [.ref a0, .int v1] sz dC dI G cs tt mm (fun _ => True)) (vp_Si (fun (r : Int32) => True)) 0 0 (fun _ => False) := by
  refine Met.ofW (cc := cX7_cell) (maxL := 2) (ret := (some .int)) (by decide) rfl ?_
  intro p e s m args below meth c s₁ B hml hv
  obtain ⟨rfl, hsz, ⟨f0, hok, hP, hX⟩, hK, hnd, hWT, hE⟩ := hv
  have hx := B.exec
  have hb := B.bytes
  have hr := B.returns
  have hown : s.vm.findClass RX7 = some m.cls := findClass_of_methodNamed B.named
  have hlocks := B.notSynchronized
  subst hsz
  have hl := lv_entry ([.ref a0, .int v1]) (n := 2) (Nat.le_of_ble_eq_true rfl)
  rw [lg_entry_eq]
  generalize (lg_sl ([.ref a0, .int v1]) ++ List.replicate (2 - (lg_sl ([.ref a0, .int v1])).length) Slot.unset).toArray = ls at hl ⊢
  have hl : lv_has ls 2 [(0, .ref a0), (1, .int v1)] := hl
  refine lv_iload_n hx hb dX7_cell_0 rfl (lv_at hl 1 rfl) ?_
  refine lv_if_lt (tgt := 13) hx hb dX7_cell_1 (by decide) (fun c1 => ?_) (fun c1 => ?_)
  · refine lv_iconst (v := 0) hx hb dX7_cell_13 (by decide) ?_
    refine lv_goto (tgt := 23) hx hb dX7_cell_14 (by decide) ?_
    exact W.iret (v := 0) hx hb hr (fun t ht hW => ⟨0, rfl, trivial, ht⟩) (fun _ h => absurd h List.not_mem_nil) dX7_cell_23
  · refine lv_iload_n hx hb dX7_cell_4 rfl (lv_at hl 1 rfl) ?_
    refine lv_aload_n hx hb dX7_cell_5 rfl (lv_at hl 0 rfl) ?_
    have he2 := ok_X7 hok ha0
    refine th_get hx hb (ly_X7 hE) hown hK hP ha0.1 he2 rfl 0 (by decide) (wd_149 hE) (fun _ h9 => h9) rfl dX7_cell_6 ?_
    refine th_len1 hx hb hK hP hok (n := 543) (wl_X7_0 hWT ha0) (Or.inl (wt_X7_0 hWT ha0)) dX7_cell_9 ?_
    refine W.eq (g2 := F0 m 10 ls [.int 543, .int v1]) rfl ?_
    refine lv_icmp_lt (tgt := 17) hx hb dX7_cell_10 (by decide) (fun c3 => ?_) (fun c3 => ?_)
    · refine lv_aload_n hx hb dX7_cell_17 rfl (lv_at hl 0 rfl) ?_
      refine th_get hx hb (ly_X7 hE) hown hK hP ha0.1 he2 rfl 0 (by decide) (wd_149 hE) (fun _ h9 => h9) rfl dX7_cell_18 ?_
      refine lv_iload_n hx hb dX7_cell_21 rfl (lv_at hl 1 rfl) ?_
      refine th_iald hx hb hK hP hok (wt_X7_0 hWT ha0) (n := 543) (wl_X7_0 hWT ha0) (vp_in_iff.mpr (by first | omega | (simp only [i_lt, i_le, i_eq, ti_m9, ti_m1, ti_0, ti_1, ti_2, ti_3, ti_4, ti_5, ti_6, ti_7, ti_9, ti_12, ti_20, ti_99, ti_700, ti_24, ti_156, ti_72, ti_8, ti_60, ti_543, ti_10, ti_33, ti_51, ti_178, ti_119, ti_111, ti_114, ti_100, ti_32, ti_62, ti_59, ti_48, ti_701, ti_97, ti_122, ti_57, ti_73, ti_128, ti_61] at c1 c3 ⊢; omega))) dX7_cell_22 (fun x4 => ?_)
      exact W.iret (v := x4) hx hb hr (fun t ht hW => ⟨x4, rfl, trivial, ht⟩) (fun _ h => absurd h List.not_mem_nil) dX7_cell_23
    · refine lv_iconst (v := 0) hx hb dX7_cell_13 (by decide) ?_
      refine lv_goto (tgt := 23) hx hb dX7_cell_14 (by decide) ?_
      exact W.iret (v := 0) hx hb hr (fun t ht hW => ⟨0, rfl, trivial, ht⟩) (fun _ h => absurd h List.not_mem_nil) dX7_cell_23

set_option maxHeartbeats 4000000 in
set_option maxRecDepth 100000 in
theorem t_X7_isLoop (l : Launch) (dC : Nat → ClassId) (dI : Nat → Nat → Nat) (sz : Nat) (G : GT) (cs : Nat → ClassId) (tt mm : Nat) (a0 : Nat) (ha0 : Ty G a0 7) (a1 : Nat) (ha1 : Ty G a1 10) : Met l yX7_isLoop [.code yX7_isLoop cX7_isLoop 2 (some .boolean)] ({ frames := 3, cells := 0, slots := 0, locals := 120 }) (PT [.ref a0, .ref a1] sz dC dI G cs tt mm (fun _ => True)) (vp_Si (fun (r : Int32) => r = 0 ∨ r = 1)) 0 0 (fun _ => False) := by
  refine Met.ofW (cc := cX7_isLoop) (maxL := 2) (ret := (some .boolean)) (by decide) rfl ?_
  intro p e s m args below meth c s₁ B hml hv
  obtain ⟨rfl, hsz, ⟨f0, hok, hP, hX⟩, hK, hnd, hWT, hE⟩ := hv
  have hx := B.exec
  have hb := B.bytes
  have hr := B.returns
  have hown : s.vm.findClass RX7 = some m.cls := findClass_of_methodNamed B.named
  have hlocks := B.notSynchronized
  subst hsz
  have hl := lv_entry ([.ref a0, .ref a1]) (n := 2) (Nat.le_of_ble_eq_true rfl)
  rw [lg_entry_eq]
  generalize (lg_sl ([.ref a0, .ref a1]) ++ List.replicate (2 - (lg_sl ([.ref a0, .ref a1])).length) Slot.unset).toArray = ls at hl ⊢
  have hl : lv_has ls 2 [(0, .ref a0), (1, .ref a1)] := hl
  refine lv_aload_n hx hb dX7_isLoop_0 rfl (lv_at hl 0 rfl) ?_
  refine lv_aload_n hx hb dX7_isLoop_1 rfl (lv_at hl 1 rfl) ?_
  have he1 := ok_X7 hok ha0
  refine vp_callSi (va_Run.run (va_runV (As := [.ref a1]) (rest := []) ⟨hx, hb, hml, hown, noTs⟩ (t_X7_endOf l dC dI s.heap.size G cs tt mm a0 ha0 a1 ha1) ⟨cbE 1 (wd_828 hE) (wd_116 hE) (wd_950 hE) rfl rfl (by decide +kernel) ⟨Nat.le_of_ble_eq_true rfl, Nat.le_of_ble_eq_true rfl⟩, (wd_826 hE), (wd_827 hE)⟩ ⟨PT.blind, th_recv hK hP ha0.1 he1 rfl, (th_pre (av := [.ref a0, .ref a1]) trivial hK hP hok hnd hWT hE)⟩ rfl rfl hl.1 rfl (lv_room (Nat.le_of_ble_eq_true rfl)) dX7_isLoop_2 ⟨Nat.le_of_ble_eq_true rfl, Nat.le_of_ble_eq_true rfl⟩)) (fun r2 hr2 => ?_)
  refine lv_aload_n hx hb dX7_isLoop_5 rfl (lv_at hl 1 rfl) ?_
  obtain ⟨y2_3, y3_3, hy3_3, he3⟩ := ok_X10 hok ha1
  refine vp_callSi (va_Run.run (va_runV (As := []) (rest := [.int r2]) ⟨hx, hb, hml, hown, noTs⟩ (t_X10_begin l dC dI s.heap.size G cs tt mm a1 ha1) ⟨cbE 0 (wd_713 hE) (wd_120 hE) (wd_710 hE) rfl rfl (by decide +kernel) ⟨Nat.le_of_ble_eq_true rfl, Nat.le_of_ble_eq_true rfl⟩, (wd_711 hE), (wd_712 hE)⟩ ⟨PT.blind, th_recv hK hP ha1.1 he3 rfl, (th_pre (av := [.ref a1]) trivial hK hP hok hnd hWT hE)⟩ rfl rfl hl.1 rfl (lv_room (Nat.le_of_ble_eq_true rfl)) dX7_isLoop_6 ⟨Nat.le_of_ble_eq_true rfl, Nat.le_of_ble_eq_true rfl⟩)) (fun r4 hr4 => ?_)
  refine lv_icmp_ne (tgt := 16) hx hb dX7_isLoop_9 (by decide) (fun c5 => ?_) (fun c5 => ?_)
  · refine lv_iconst (v := 0) hx hb dX7_isLoop_16 (by decide) ?_
    exact W.zret (v := 0) hx hb hr rfl (fun t ht hW => ⟨0, rfl, Or.inl rfl, ht⟩) (fun _ h => absurd h List.not_mem_nil) dX7_isLoop_17
  · refine lv_iconst (v := 1) hx hb dX7_isLoop_12 (by decide) ?_
    refine lv_goto (tgt := 17) hx hb dX7_isLoop_13 (by decide) ?_
    exact W.zret (v := 1) hx hb hr rfl (fun t ht hW => ⟨1, rfl, Or.inr rfl, ht⟩) (fun _ h => absurd h List.not_mem_nil) dX7_isLoop_17

set_option maxHeartbeats 4000000 in
set_option maxRecDepth 100000 in
theorem t_X7_readWord (l : Launch) (dC : Nat → ClassId) (dI : Nat → Nat → Nat) (sz : Nat) (G : GT) (cs : Nat → ClassId) (tt mm : Nat) (a0 : Nat) (ha0 : Ty G a0 7) (v1 : Int32) (a2 : Nat) (ha2 : Ty G a2 10) : Met l yX7_readWord [.code yX7_readWord cX7_readWord 6 (some .boolean)] ({ frames := 1, cells := 0, slots := 0, locals := 40 }) (PT [.ref a0, .int v1, .ref a2] sz dC dI G cs tt mm (fun _ => True)) (va_Qi (fun (r : Int32) (u : Nat → va_E) => r = 0 ∨ r = 1) (BT dC dI G cs tt mm) (AT G sz)) 0 0 (AT G sz) := by
  refine Met.ofW (cc := cX7_readWord) (maxL := 6) (ret := (some .boolean)) (by decide) rfl ?_
  intro p e s m args below meth c s₁ B hml hv
  obtain ⟨rfl, hsz, ⟨f0, hok, hP, hX⟩, hK, hnd, hWT, hE⟩ := hv
  have hx := B.exec
  have hb := B.bytes
  have hr := B.returns
  have hown : s.vm.findClass RX7 = some m.cls := findClass_of_methodNamed B.named
  have hlocks := B.notSynchronized
  subst hsz
  have hAL : ∀ a, a ∈ gL G → AT G s.heap.size a := fun a h => Or.inl h
  have hA : ∀ q : Nat, s.heap.size ≤ q → AT G s.heap.size q := fun q h => Or.inr h
  have hS : va_S (AT G s.heap.size) s.heap s.heap [] := va_S.rf
  have hl := lv_entry ([.ref a0, .int v1, .ref a2]) (n := 6) (Nat.le_of_ble_eq_true rfl)
  rw [lg_entry_eq]
  generalize (lg_sl ([.ref a0, .int v1, .ref a2]) ++ List.replicate (6 - (lg_sl ([.ref a0, .int v1, .ref a2])).length) Slot.unset).toArray = ls at hl ⊢
  have hl : lv_has ls 6 [(0, .ref a0), (1, .int v1), (2, .ref a2)] := hl
  refine lv_aload_n hx hb dX7_readWord_0 rfl (lv_at hl 0 rfl) ?_
  refine lv_iload_n hx hb dX7_readWord_1 rfl (lv_at hl 1 rfl) ?_
  have he1 := ok_X7 hok ha0
  refine vp_callSi (va_Run.run (va_runV (As := [.int v1]) (rest := []) ⟨hx, hb, hml, hown, noTs⟩ (t_X7_hasWord l dC dI s.heap.size G cs tt mm a0 ha0 v1) ⟨cbE 1 (wd_708 hE) (wd_116 hE) (wd_705 hE) rfl rfl (by decide +kernel) ⟨Nat.le_of_ble_eq_true rfl, Nat.le_of_ble_eq_true rfl⟩, (wd_706 hE), (wd_707 hE)⟩ ⟨PT.blind, th_recv hK hP ha0.1 he1 rfl, (th_pre (av := [.ref a0, .int v1]) trivial hK hP hok hnd hWT hE)⟩ rfl rfl hl.1 rfl (lv_room (Nat.le_of_ble_eq_true rfl)) dX7_readWord_2 ⟨Nat.le_of_ble_eq_true rfl, Nat.le_of_ble_eq_true rfl⟩)) (fun r2 hr2 => ?_)
  refine lv_if_ne (tgt := 10) hx hb dX7_readWord_5 (by decide) (fun c3 => ?_) (fun c3 => ?_)
  · refine lv_bipush (v := 33) hx hb dX7_readWord_10 (by decide) ?_
    refine lv_bipush (v := 51) hx hb dX7_readWord_12 (by decide) ?_
    refine lv_iload_n hx hb dX7_readWord_14 rfl (lv_at hl 1 rfl) ?_
    refine lv_imul hx hb dX7_readWord_15 ?_
    refine lv_topi (fun x4 ex4 => ?_)
    refine lv_iadd hx hb dX7_readWord_16 ?_
    refine lv_topi (fun x5 ex5 => ?_)
    refine lv_istore_n (lv' := [(3, .int x5), (0, .ref a0), (1, .int v1), (2, .ref a2)]) hx hb dX7_readWord_17 rfl hl (by decide) rfl (fun ls hl => ?_)
    refine lv_aload_n hx hb dX7_readWord_18 rfl (lv_at hl 1 rfl) ?_
    refine lv_iload_n hx hb dX7_readWord_19 rfl (lv_at hl 0 rfl) ?_
    refine lv_iconst (v := 1) hx hb dX7_readWord_20 (by decide) ?_
    refine lv_iadd hx hb dX7_readWord_21 ?_
    refine lv_topi (fun x6 ex6 => ?_)
    refine vp_callSi (va_Run.run (va_runV (As := [.int x6]) (rest := []) ⟨hx, hb, hml, hown, noTs⟩ (t_X7_cell l dC dI s.heap.size G cs tt mm a0 ha0 x6) ⟨cbE 1 (wd_821 hE) (wd_116 hE) (wd_818 hE) rfl rfl (by decide +kernel) ⟨Nat.le_of_ble_eq_true rfl, Nat.le_of_ble_eq_true rfl⟩, (wd_820 hE), (wd_27 hE)⟩ ⟨PT.blind, th_recv hK hP ha0.1 he1 rfl, (th_pre (av := [.ref a0, .int x6]) trivial hK hP hok hnd hWT hE)⟩ rfl rfl hl.1 rfl (lv_room (Nat.le_of_ble_eq_true rfl)) dX7_readWord_22 ⟨Nat.le_of_ble_eq_true rfl, Nat.le_of_ble_eq_true rfl⟩)) (fun r7 hr7 => ?_)
    refine lv_istore (lv' := [(4, .int r7), (3, .int x5), (0, .ref a0), (1, .int v1), (2, .ref a2)]) hx hb dX7_readWord_25 hl (by decide) rfl (fun ls hl => ?_)
    refine lv_aload_n hx hb dX7_readWord_27 rfl (lv_at hl 4 rfl) ?_
    refine lv_aload_n hx hb dX7_readWord_28 rfl (lv_at hl 2 rfl) ?_
    refine lv_iload_n hx hb dX7_readWord_29 rfl (lv_at hl 1 rfl) ?_
    refine vp_callSi (va_Run.run (va_runV (As := [.int x5]) (rest := [.ref a2]) ⟨hx, hb, hml, hown, noTs⟩ (t_X7_cell l dC dI s.heap.size G cs tt mm a0 ha0 x5) ⟨cbE 1 (wd_821 hE) (wd_116 hE) (wd_818 hE) rfl rfl (by decide +kernel) ⟨Nat.le_of_ble_eq_true rfl, Nat.le_of_ble_eq_true rfl⟩, (wd_820 hE), (wd_27 hE)⟩ ⟨PT.blind, th_recv hK hP ha0.1 he1 rfl, (th_pre (av := [.ref a0, .int x5]) trivial hK hP hok hnd hWT hE)⟩ rfl rfl hl.1 rfl (lv_room (Nat.le_of_ble_eq_true rfl)) dX7_readWord_30 ⟨Nat.le_of_ble_eq_true rfl, Nat.le_of_ble_eq_true rfl⟩)) (fun r8 hr8 => ?_)
    refine lv_aload_n hx hb dX7_readWord_33 rfl (lv_at hl 2 rfl) ?_
    refine lv_iload_n hx hb dX7_readWord_34 rfl (lv_at hl 1 rfl) ?_
    refine lv_iconst (v := 2) hx hb dX7_readWord_35 (by decide) ?_
    refine lv_iadd hx hb dX7_readWord_36 ?_
    refine lv_topi (fun x9 ex9 => ?_)
    refine vp_callSi (va_Run.run (va_runV (As := [.int x9]) (rest := [.int r8, .ref a2]) ⟨hx, hb, hml, hown, noTs⟩ (t_X7_cell l dC dI s.heap.size G cs tt mm a0 ha0 x9) ⟨cbE 1 (wd_821 hE) (wd_116 hE) (wd_818 hE) rfl rfl (by decide +kernel) ⟨Nat.le_of_ble_eq_true rfl, Nat.le_of_ble_eq_true rfl⟩, (wd_820 hE), (wd_27 hE)⟩ ⟨PT.blind, th_recv hK hP ha0.1 he1 rfl, (th_pre (av := [.ref a0, .int x9]) trivial hK hP hok hnd hWT hE)⟩ rfl rfl hl.1 rfl (lv_room (Nat.le_of_ble_eq_true rfl)) dX7_readWord_37 ⟨Nat.le_of_ble_eq_true rfl, Nat.le_of_ble_eq_true rfl⟩)) (fun r10 hr10 => ?_)
    obtain ⟨y2_11, y3_11, hy3_11, he11⟩ := ok_X10 hok ha2
    refine tc_v hAL hS hA (va_runV (As := [.int r8, .int r10]) (rest := []) ⟨hx, hb, hml, hown, noTs⟩ (t_X10_start l dC dI s.heap.size G cs tt mm a2 ha2 r8 r10) ⟨cbE 2 (wd_637 hE) (wd_120 hE) (wd_822 hE) rfl rfl (by decide +kernel) ⟨Nat.le_of_ble_eq_true rfl, Nat.le_of_ble_eq_true rfl⟩, (wd_635 hE), (wd_636 hE)⟩ ⟨PT.blind, th_recv hK hP ha2.1 he11 rfl, (th_pre (av := [.ref a2, .int r8, .int r10]) trivial hK hP hok hnd hWT hE)⟩ rfl rfl hl.1 rfl (lv_room (Nat.le_of_ble_eq_true rfl)) dX7_readWord_40 ⟨Nat.le_of_ble_eq_true rfl, Nat.le_of_ble_eq_true rfl⟩) (fun f12 H locs hr12 hok hP hS => ?_)
    refine lv_iconst (v := 0) hx hb dX7_readWord_43 (by decide) ?_
    refine lv_istore (lv' := [(5, .int 0), (4, .int r7), (3, .int x5), (0, .ref a0), (1, .int v1), (2, .ref a2)]) hx hb dX7_readWord_44 hl (by decide) rfl (fun ls hl => ?_)
    refine w_ind (I := fun n f H locs ls => OKT G cs tt mm f ∧ va_P (dC, dI) vwCl (va_pl (gL G) f) H ∧ va_S (AT G s.heap.size) s.heap H locs ∧ ∃ (w5_13 : Int32), n = (2147483647 - w5_13.toInt).toNat ∧ 0 ≤ w5_13 ∧ lv_has ls 6 [(0, .ref a0), (1, .int v1), (2, .ref a2), (3, .int x5), (4, .int r7), (5, .int w5_13)]) (fun n f13 H locs ls hI ih13 => ?_) _ f12 _ _ _ ⟨hok, hP, hS, 0, rfl, (by first | omega | (simp only [i_lt, i_le, i_eq, ti_m9, ti_m1, ti_0, ti_1, ti_2, ti_3, ti_4, ti_5, ti_6, ti_7, ti_9, ti_12, ti_20, ti_99, ti_700, ti_24, ti_156, ti_72, ti_8, ti_60, ti_543, ti_10, ti_33, ti_51, ti_178, ti_119, ti_111, ti_114, ti_100, ti_32, ti_62, ti_59, ti_48, ti_701, ti_97, ti_122, ti_57, ti_73, ti_128, ti_61] at c3 ⊢; omega)), lv_sub hl [3, 4, 5, 2, 1, 0] rfl⟩
    obtain ⟨hok, hP, hS, w5_13, hmu13, hlo13, hl⟩ := hI
    subst hmu13
    refine lv_iload hx hb dX7_readWord_46 (lv_at hl 5 rfl) ?_
    refine lv_iload hx hb dX7_readWord_48 (lv_at hl 4 rfl) ?_
    refine lv_icmp_ge (tgt := 87) hx hb dX7_readWord_50 (by decide) (fun c14 => ?_) (fun c14 => ?_)
    · refine lv_iconst (v := 1) hx hb dX7_readWord_87 (by decide) ?_
      exact W.zret (v := 1) hx hb hr rfl (fun t ht hW => ⟨⟨1, f13, rfl, Or.inr rfl, hok, by rw [ht]; exact hP⟩, hS.F ht⟩) hS.2.2 dX7_readWord_88
    · refine lv_aload_n hx hb dX7_readWord_53 rfl (lv_at hl 2 rfl) ?_
      refine lv_aload_n hx hb dX7_readWord_54 rfl (lv_at hl 0 rfl) ?_
      refine lv_iload_n hx hb dX7_readWord_55 rfl (lv_at hl 3 rfl) ?_
      refine lv_iconst (v := 3) hx hb dX7_readWord_56 (by decide) ?_
      refine lv_iadd hx hb dX7_readWord_57 ?_
      refine lv_topi (fun x15 ex15 => ?_)
      refine lv_iconst (v := 2) hx hb dX7_readWord_58 (by decide) ?_
      refine lv_iload hx hb dX7_readWord_59 (lv_at hl 5 rfl) ?_
      refine lv_imul hx hb dX7_readWord_61 ?_
      refine lv_topi (fun x16 ex16 => ?_)
      refine lv_iadd hx hb dX7_readWord_62 ?_
      refine lv_topi (fun x17 ex17 => ?_)
      have he18 := ok_X7 hok ha0
      refine vp_callSi (va_Run.run (va_runV (As := [.int x17]) (rest := [.ref a2]) ⟨hx, hb, hml, hown, noTs⟩ (t_X7_cell l dC dI H.size G cs tt mm a0 ha0 x17) ⟨cbE 1 (wd_821 hE) (wd_116 hE) (wd_818 hE) rfl rfl (by decide +kernel) ⟨Nat.le_of_ble_eq_true rfl, Nat.le_of_ble_eq_true rfl⟩, (wd_820 hE), (wd_27 hE)⟩ ⟨PT.blind, th_recv hK hP ha0.1 he18 rfl, (th_pre (av := [.ref a0, .int x17]) trivial hK hP hok hnd hWT hE)⟩ rfl rfl hl.1 rfl (lv_room (Nat.le_of_ble_eq_true rfl)) dX7_readWord_63 ⟨Nat.le_of_ble_eq_true rfl, Nat.le_of_ble_eq_true rfl⟩)) (fun r19 hr19 => ?_)
      refine lv_aload_n hx hb dX7_readWord_66 rfl (lv_at hl 0 rfl) ?_
      refine lv_iload_n hx hb dX7_readWord_67 rfl (lv_at hl 3 rfl) ?_
      refine lv_iconst (v := 4) hx hb dX7_readWord_68 (by decide) ?_
      refine lv_iadd hx hb dX7_readWord_69 ?_
      refine lv_topi (fun x20 ex20 => ?_)
      refine lv_iconst (v := 2) hx hb dX7_readWord_70 (by decide) ?_
      refine lv_iload hx hb dX7_readWord_71 (lv_at hl 5 rfl) ?_
      refine lv_imul hx hb dX7_readWord_73 ?_
      refine lv_topi (fun x21 ex21 => ?_)
      refine lv_iadd hx hb dX7_readWord_74 ?_
      refine lv_topi (fun x22 ex22 => ?_)
      refine vp_callSi (va_Run.run (va_runV (As := [.int x22]) (rest := [.int r19, .ref a2]) ⟨hx, hb, hml, hown, noTs⟩ (t_X7_cell l dC dI H.size G cs tt mm a0 ha0 x22) ⟨cbE 1 (wd_821 hE) (wd_116 hE) (wd_818 hE) rfl rfl (by decide +kernel) ⟨Nat.le_of_ble_eq_true rfl, Nat.le_of_ble_eq_true rfl⟩, (wd_820 hE), (wd_27 hE)⟩ ⟨PT.blind, th_recv hK hP ha0.1 he18 rfl, (th_pre (av := [.ref a0, .int x22]) trivial hK hP hok hnd hWT hE)⟩ rfl rfl hl.1 rfl (lv_room (Nat.le_of_ble_eq_true rfl)) dX7_readWord_75 ⟨Nat.le_of_ble_eq_true rfl, Nat.le_of_ble_eq_true rfl⟩)) (fun r23 hr23 => ?_)
      obtain ⟨y2_24, y3_24, hy3_24, he24⟩ := ok_X10 hok ha2
      refine tc_v hAL hS hA (va_runV (As := [.int r19, .int r23]) (rest := []) ⟨hx, hb, hml, hown, noTs⟩ (t_X10_push l dC dI H.size G cs tt mm a2 ha2 r19 r23) ⟨cbE 2 (wd_688 hE) (wd_120 hE) (wd_823 hE) rfl rfl (by decide +kernel) ⟨Nat.le_of_ble_eq_true rfl, Nat.le_of_ble_eq_true rfl⟩, (wd_686 hE), (wd_687 hE)⟩ ⟨PT.blind, th_recv hK hP ha2.1 he24 rfl, (th_pre (av := [.ref a2, .int r19, .int r23]) trivial hK hP hok hnd hWT hE)⟩ rfl rfl hl.1 rfl (lv_room (Nat.le_of_ble_eq_true rfl)) dX7_readWord_78 ⟨Nat.le_of_ble_eq_true rfl, Nat.le_of_ble_eq_true rfl⟩) (fun f25 H locs hr25 hok hP hS => ?_)
      obtain ⟨z26, ez26⟩ : ∃ z : Int32, z = w5_13 + 1 := ⟨_, rfl⟩
      refine lv_iinc (v := z26) (lv' := [(5, .int z26), (0, .ref a0), (1, .int v1), (2, .ref a2), (3, .int x5), (4, .int r7)]) hx hb dX7_readWord_81 hl (k := 5) rfl (by rw [ez26]; rfl) (by decide) rfl (fun ls hl => ?_)
      have ic26 : z26.toInt = w5_13.toInt + 1 := by rw [ez26]; exact ic_up (by have := i_rng r2; have := i_rng w5_13; have := i_rng r7; simp only [i_lt, i_le, i_eq, ti_m9, ti_m1, ti_0, ti_1, ti_2, ti_3, ti_4, ti_5, ti_6, ti_7, ti_9, ti_12, ti_20, ti_99, ti_700, ti_24, ti_156, ti_72, ti_8, ti_60, ti_543, ti_10, ti_33, ti_51, ti_178, ti_119, ti_111, ti_114, ti_100, ti_32, ti_62, ti_59, ti_48, ti_701, ti_97, ti_122, ti_57, ti_73, ti_128, ti_61] at c3 hlo13 c14 ⊢; omega)
      refine lv_goto (tgt := 46) hx hb dX7_readWord_84 (by decide) ?_
      exact ih13 _ f25 _ _ _ (by have := i_rng z26; first | omega | (simp only [i_lt, i_le, i_eq, ti_m9, ti_m1, ti_0, ti_1, ti_2, ti_3, ti_4, ti_5, ti_6, ti_7, ti_9, ti_12, ti_20, ti_99, ti_700, ti_24, ti_156, ti_72, ti_8, ti_60, ti_543, ti_10, ti_33, ti_51, ti_178, ti_119, ti_111, ti_114, ti_100, ti_32, ti_62, ti_59, ti_48, ti_701, ti_97, ti_122, ti_57, ti_73, ti_128, ti_61, ic26] at c3 hlo13 c14 ic26 ⊢; omega)) ⟨hok, hP, hS, z26, rfl, (by first | omega | (simp only [i_lt, i_le, i_eq, ti_m9, ti_m1, ti_0, ti_1, ti_2, ti_3, ti_4, ti_5, ti_6, ti_7, ti_9, ti_12, ti_20, ti_99, ti_700, ti_24, ti_156, ti_72, ti_8, ti_60, ti_543, ti_10, ti_33, ti_51, ti_178, ti_119, ti_111, ti_114, ti_100, ti_32, ti_62, ti_59, ti_48, ti_701, ti_97, ti_122, ti_57, ti_73, ti_128, ti_61, ic26] at c3 hlo13 c14 ⊢; omega)), lv_sub hl [1, 2, 3, 4, 5, 0] rfl⟩
  · refine lv_iconst (v := 0) hx hb dX7_readWord_8 (by decide) ?_
    exact W.zret (v := 0) hx hb hr rfl (fun t ht hW => ⟨⟨0, f0, rfl, Or.inl rfl, hok, by rw [ht]; exact hP⟩, hS.F ht⟩) hS.2.2 dX7_readWord_9

set_option maxHeartbeats 4000000 in
set_option maxRecDepth 100000 in
theorem t_X7_removeWord (l : Launch) (dC : Nat → ClassId) (dI : Nat → Nat → Nat) (sz : Nat) (G : GT) (cs : Nat → ClassId) (tt mm : Nat) (a0 : Nat) (ha0 : Ty G a0 7) (v1 : Int32) : Met l yX7_removeWord [.code yX7_removeWord cX7_removeWord 4 none] ({ frames := 1, cells := 0, slots := 0, locals := 40 }) (PT [.ref a0, .int v1] sz dC dI G cs tt mm (fun _ => True)) (va_Qv (fun (u : Nat → va_E) => True) (BT dC dI G cs tt mm) (AT G sz)) 0 0 (AT G sz) := by
  refine Met.ofW (cc := cX7_removeWord) (maxL := 4) (ret := none) (by decide) rfl ?_
  intro p e s m args below meth c s₁ B hml hv
  obtain ⟨rfl, hsz, ⟨f0, hok, hP, hX⟩, hK, hnd, hWT, hE⟩ := hv
  have hx := B.exec
  have hb := B.bytes
  have hr := B.returns
  have hown : s.vm.findClass RX7 = some m.cls := findClass_of_methodNamed B.named
  have hlocks := B.notSynchronized
  subst hsz
  have hAL : ∀ a, a ∈ gL G → AT G s.heap.size a := fun a h => Or.inl h
  have hA : ∀ q : Nat, s.heap.size ≤ q → AT G s.heap.size q := fun q h => Or.inr h
  have hS : va_S (AT G s.heap.size) s.heap s.heap [] := va_S.rf
  have hl := lv_entry ([.ref a0, .int v1]) (n := 4) (Nat.le_of_ble_eq_true rfl)
  rw [lg_entry_eq]
  generalize (lg_sl ([.ref a0, .int v1]) ++ List.replicate (4 - (lg_sl ([.ref a0, .int v1])).length) Slot.unset).toArray = ls at hl ⊢
  have hl : lv_has ls 4 [(0, .ref a0), (1, .int v1)] := hl
  refine lv_aload_n hx hb dX7_removeWord_0 rfl (lv_at hl 0 rfl) ?_
  refine lv_iload_n hx hb dX7_removeWord_1 rfl (lv_at hl 1 rfl) ?_
  have he1 := ok_X7 hok ha0
  refine vp_callSi (va_Run.run (va_runV (As := [.int v1]) (rest := []) ⟨hx, hb, hml, hown, noTs⟩ (t_X7_hasWord l dC dI s.heap.size G cs tt mm a0 ha0 v1) ⟨cbE 1 (wd_708 hE) (wd_116 hE) (wd_705 hE) rfl rfl (by decide +kernel) ⟨Nat.le_of_ble_eq_true rfl, Nat.le_of_ble_eq_true rfl⟩, (wd_706 hE), (wd_707 hE)⟩ ⟨PT.blind, th_recv hK hP ha0.1 he1 rfl, (th_pre (av := [.ref a0, .int v1]) trivial hK hP hok hnd hWT hE)⟩ rfl rfl hl.1 rfl (lv_room (Nat.le_of_ble_eq_true rfl)) dX7_removeWord_2 ⟨Nat.le_of_ble_eq_true rfl, Nat.le_of_ble_eq_true rfl⟩)) (fun r2 hr2 => ?_)
  refine lv_if_ne (tgt := 9) hx hb dX7_removeWord_5 (by decide) (fun c3 => ?_) (fun c3 => ?_)
  · refine lv_bipush (v := 33) hx hb dX7_removeWord_9 (by decide) ?_
    refine lv_bipush (v := 51) hx hb dX7_removeWord_11 (by decide) ?_
    refine lv_aload_n hx hb dX7_removeWord_13 rfl (lv_at hl 0 rfl) ?_
    refine vp_callSi (va_Run.run (va_runV (As := []) (rest := [.int 51, .int 33]) ⟨hx, hb, hml, hown, noTs⟩ (t_X7_words l dC dI s.heap.size G cs tt mm a0 ha0) ⟨cbE 0 (wd_700 hE) (wd_116 hE) (wd_697 hE) rfl rfl (by decide +kernel) ⟨Nat.le_of_ble_eq_true rfl, Nat.le_of_ble_eq_true rfl⟩, (wd_698 hE), (wd_699 hE)⟩ ⟨PT.blind, th_recv hK hP ha0.1 he1 rfl, (th_pre (av := [.ref a0]) trivial hK hP hok hnd hWT hE)⟩ rfl rfl hl.1 rfl (lv_room (Nat.le_of_ble_eq_true rfl)) dX7_removeWord_14 ⟨Nat.le_of_ble_eq_true rfl, Nat.le_of_ble_eq_true rfl⟩)) (fun r4 hr4 => ?_)
    refine lv_iconst (v := 1) hx hb dX7_removeWord_17 (by decide) ?_
    refine lv_isub hx hb dX7_removeWord_18 ?_
    refine lv_topi (fun x5 ex5 => ?_)
    refine lv_imul hx hb dX7_removeWord_19 ?_
    refine lv_topi (fun x6 ex6 => ?_)
    refine lv_iadd hx hb dX7_removeWord_20 ?_
    refine lv_topi (fun x7 ex7 => ?_)
    refine lv_istore_n (lv' := [(2, .int x7), (0, .ref a0), (1, .int v1)]) hx hb dX7_removeWord_21 rfl hl (by decide) rfl (fun ls hl => ?_)
    refine lv_bipush (v := 33) hx hb dX7_removeWord_22 (by decide) ?_
    refine lv_bipush (v := 51) hx hb dX7_removeWord_24 (by decide) ?_
    refine lv_iload_n hx hb dX7_removeWord_26 rfl (lv_at hl 2 rfl) ?_
    refine lv_imul hx hb dX7_removeWord_27 ?_
    refine lv_topi (fun x8 ex8 => ?_)
    refine lv_iadd hx hb dX7_removeWord_28 ?_
    refine lv_topi (fun x9 ex9 => ?_)
    refine lv_istore_n (lv' := [(3, .int x9), (2, .int x7), (0, .ref a0), (1, .int v1)]) hx hb dX7_removeWord_29 rfl hl (by decide) rfl (fun ls hl => ?_)
    refine w_ind (I := fun n f H locs ls => OKT G cs tt mm f ∧ va_P (dC, dI) vwCl (va_pl (gL G) f) H ∧ va_S (AT G s.heap.size) s.heap H locs ∧ ∃ (w3_10 : Int32), n = (2147483647 - w3_10.toInt).toNat ∧ lv_has ls 4 [(0, .ref a0), (1, .int v1), (2, .int x7), (3, .int w3_10)]) (fun n f10 H locs ls hI ih10 => ?_) _ f0 _ _ _ ⟨hok, hP, hS, x9, rfl, lv_sub hl [2, 3, 1, 0] rfl⟩
    obtain ⟨hok, hP, hS, w3_10, hmu10, hl⟩ := hI
    subst hmu10
    refine lv_iload_n hx hb dX7_removeWord_30 rfl (lv_at hl 3 rfl) ?_
    refine lv_iload_n hx hb dX7_removeWord_31 rfl (lv_at hl 2 rfl) ?_
    refine lv_icmp_ge (tgt := 54) hx hb dX7_removeWord_32 (by decide) (fun c11 => ?_) (fun c11 => ?_)
    · refine lv_aload_n hx hb dX7_removeWord_54 rfl (lv_at hl 0 rfl) ?_
      refine lv_iconst (v := 2) hx hb dX7_removeWord_55 (by decide) ?_
      refine lv_aload_n hx hb dX7_removeWord_56 rfl (lv_at hl 0 rfl) ?_
      have he12 := ok_X7 hok ha0
      refine vp_callSi (va_Run.run (va_runV (As := []) (rest := [.int 2, .ref a0]) ⟨hx, hb, hml, hown, noTs⟩ (t_X7_words l dC dI H.size G cs tt mm a0 ha0) ⟨cbE 0 (wd_700 hE) (wd_116 hE) (wd_697 hE) rfl rfl (by decide +kernel) ⟨Nat.le_of_ble_eq_true rfl, Nat.le_of_ble_eq_true rfl⟩, (wd_698 hE), (wd_699 hE)⟩ ⟨PT.blind, th_recv hK hP ha0.1 he12 rfl, (th_pre (av := [.ref a0]) trivial hK hP hok hnd hWT hE)⟩ rfl rfl hl.1 rfl (lv_room (Nat.le_of_ble_eq_true rfl)) dX7_removeWord_57 ⟨Nat.le_of_ble_eq_true rfl, Nat.le_of_ble_eq_true rfl⟩)) (fun r13 hr13 => ?_)
      refine lv_iconst (v := 1) hx hb dX7_removeWord_60 (by decide) ?_
      refine lv_isub hx hb dX7_removeWord_61 ?_
      refine lv_topi (fun x14 ex14 => ?_)
      refine tc_v hAL hS hA (va_runV (As := [.int 2, .int x14]) (rest := []) ⟨hx, hb, hml, hown, noTs⟩ (t_X7_put l dC dI H.size G cs tt mm a0 ha0 2 x14) ⟨cbE 2 (wd_590 hE) (wd_116 hE) (wd_587 hE) rfl rfl (by decide +kernel) ⟨Nat.le_of_ble_eq_true rfl, Nat.le_of_ble_eq_true rfl⟩, (wd_589 hE), (wd_14 hE)⟩ ⟨PT.blind, th_recv hK hP ha0.1 he12 rfl, (th_pre (av := [.ref a0, .int 2, .int x14]) trivial hK hP hok hnd hWT hE)⟩ rfl rfl hl.1 rfl (lv_room (Nat.le_of_ble_eq_true rfl)) dX7_removeWord_62 ⟨Nat.le_of_ble_eq_true rfl, Nat.le_of_ble_eq_true rfl⟩) (fun f15 H locs hr15 hok hP hS => ?_)
      exact W.vret hx hb hr (fun t ht hW => ⟨⟨f15, rfl, trivial, hok, by rw [ht]; exact hP⟩, hS.F ht⟩) hS.2.2 dX7_removeWord_65
    · refine lv_aload_n hx hb dX7_removeWord_35 rfl (lv_at hl 0 rfl) ?_
      refine lv_iload_n hx hb dX7_removeWord_36 rfl (lv_at hl 3 rfl) ?_
      refine lv_aload_n hx hb dX7_removeWord_37 rfl (lv_at hl 0 rfl) ?_
      refine lv_iload_n hx hb dX7_removeWord_38 rfl (lv_at hl 3 rfl) ?_
      refine lv_bipush (v := 51) hx hb dX7_removeWord_39 (by decide) ?_
      refine lv_iadd hx hb dX7_removeWord_41 ?_
      refine lv_topi (fun x16 ex16 => ?_)
      have he17 := ok_X7 hok ha0
      refine vp_callSi (va_Run.run (va_runV (As := [.int x16]) (rest := [.int w3_10, .ref a0]) ⟨hx, hb, hml, hown, noTs⟩ (t_X7_cell l dC dI H.size G cs tt mm a0 ha0 x16) ⟨cbE 1 (wd_821 hE) (wd_116 hE) (wd_818 hE) rfl rfl (by decide +kernel) ⟨Nat.le_of_ble_eq_true rfl, Nat.le_of_ble_eq_true rfl⟩, (wd_820 hE), (wd_27 hE)⟩ ⟨PT.blind, th_recv hK hP ha0.1 he17 rfl, (th_pre (av := [.ref a0, .int x16]) trivial hK hP hok hnd hWT hE)⟩ rfl rfl hl.1 rfl (lv_room (Nat.le_of_ble_eq_true rfl)) dX7_removeWord_42 ⟨Nat.le_of_ble_eq_true rfl, Nat.le_of_ble_eq_true rfl⟩)) (fun r18 hr18 => ?_)
      refine tc_v hAL hS hA (va_runV (As := [.int w3_10, .int r18]) (rest := []) ⟨hx, hb, hml, hown, noTs⟩ (t_X7_put l dC dI H.size G cs tt mm a0 ha0 w3_10 r18) ⟨cbE 2 (wd_590 hE) (wd_116 hE) (wd_587 hE) rfl rfl (by decide +kernel) ⟨Nat.le_of_ble_eq_true rfl, Nat.le_of_ble_eq_true rfl⟩, (wd_589 hE), (wd_14 hE)⟩ ⟨PT.blind, th_recv hK hP ha0.1 he17 rfl, (th_pre (av := [.ref a0, .int w3_10, .int r18]) trivial hK hP hok hnd hWT hE)⟩ rfl rfl hl.1 rfl (lv_room (Nat.le_of_ble_eq_true rfl)) dX7_removeWord_45 ⟨Nat.le_of_ble_eq_true rfl, Nat.le_of_ble_eq_true rfl⟩) (fun f19 H locs hr19 hok hP hS => ?_)
      obtain ⟨z20, ez20⟩ : ∃ z : Int32, z = w3_10 + 1 := ⟨_, rfl⟩
      refine lv_iinc (v := z20) (lv' := [(3, .int z20), (0, .ref a0), (1, .int v1), (2, .int x7)]) hx hb dX7_removeWord_48 hl (k := 3) rfl (by rw [ez20]; rfl) (by decide) rfl (fun ls hl => ?_)
      have ic20 : z20.toInt = w3_10.toInt + 1 := by rw [ez20]; exact ic_up (by have := i_rng r2; have := i_rng w3_10; have := i_rng x7; simp only [i_lt, i_le, i_eq, ti_m9, ti_m1, ti_0, ti_1, ti_2, ti_3, ti_4, ti_5, ti_6, ti_7, ti_9, ti_12, ti_20, ti_99, ti_700, ti_24, ti_156, ti_72, ti_8, ti_60, ti_543, ti_10, ti_33, ti_51, ti_178, ti_119, ti_111, ti_114, ti_100, ti_32, ti_62, ti_59, ti_48, ti_701, ti_97, ti_122, ti_57, ti_73, ti_128, ti_61] at c3 c11 ⊢; omega)
      refine lv_goto (tgt := 30) hx hb dX7_removeWord_51 (by decide) ?_
      exact ih10 _ f19 _ _ _ (by have := i_rng z20; first | omega | (simp only [i_lt, i_le, i_eq, ti_m9, ti_m1, ti_0, ti_1, ti_2, ti_3, ti_4, ti_5, ti_6, ti_7, ti_9, ti_12, ti_20, ti_99, ti_700, ti_24, ti_156, ti_72, ti_8, ti_60, ti_543, ti_10, ti_33, ti_51, ti_178, ti_119, ti_111, ti_114, ti_100, ti_32, ti_62, ti_59, ti_48, ti_701, ti_97, ti_122, ti_57, ti_73, ti_128, ti_61, ic20] at c3 c11 ic20 ⊢; omega)) ⟨hok, hP, hS, z20, rfl, lv_sub hl [1, 2, 3, 0] rfl⟩
  · exact W.vret hx hb hr (fun t ht hW => ⟨⟨f0, rfl, trivial, hok, by rw [ht]; exact hP⟩, hS.F ht⟩) hS.2.2 dX7_removeWord_8

set_option maxHeartbeats 4000000 in
set_option maxRecDepth 100000 in
theorem t_X8_size (l : Launch) (dC : Nat → ClassId) (dI : Nat → Nat → Nat) (sz : Nat) (G : GT) (cs : Nat → ClassId) (tt mm : Nat) (a0 : Nat) (ha0 : Ty G a0 8) : Met l yX8_size [.code yX8_size cX8_size 1 (some .int)] ({ frames := 0, cells := 0, slots := 0, locals := 0 }) (PT [.ref a0] sz dC dI G cs tt mm (fun _ => True)) (vp_Si (fun (r : Int32) => True)) 0 0 (fun _ => False) := by
  refine Met.ofW (cc := cX8_size) (maxL := 1) (ret := (some .int)) (by decide) rfl ?_
  intro p e s m args below meth c s₁ B hml hv
  obtain ⟨rfl, hsz, ⟨f0, hok, hP, hX⟩, hK, hnd, hWT, hE⟩ := hv
  have hx := B.exec
  have hb := B.bytes
  have hr := B.returns
  have hown : s.vm.findClass RX8 = some m.cls := findClass_of_methodNamed B.named
  have hlocks := B.notSynchronized
  subst hsz
  have hl := lv_entry ([.ref a0]) (n := 1) (Nat.le_of_ble_eq_true rfl)
  rw [lg_entry_eq]
  generalize (lg_sl ([.ref a0]) ++ List.replicate (1 - (lg_sl ([.ref a0])).length) Slot.unset).toArray = ls at hl ⊢
  have hl : lv_has ls 1 [(0, .ref a0)] := hl
  refine lv_aload_n hx hb dX8_size_0 rfl (lv_at hl 0 rfl) ?_
  obtain ⟨y1_1, he1⟩ := ok_X8 hok ha0
  refine th_get hx hb (ly_X8 hE) hown hK hP ha0.1 he1 rfl 1 (by decide) (wd_265 hE) (fun _ h9 => h9) rfl dX8_size_1 ?_
  exact W.iret (v := y1_1) hx hb hr (fun t ht hW => ⟨y1_1, rfl, trivial, ht⟩) (fun _ h => absurd h List.not_mem_nil) dX8_size_4

set_option maxHeartbeats 4000000 in
set_option maxRecDepth 100000 in
theorem t_X8_byteAt (l : Launch) (dC : Nat → ClassId) (dI : Nat → Nat → Nat) (sz : Nat) (G : GT) (cs : Nat → ClassId) (tt mm : Nat) (a0 : Nat) (ha0 : Ty G a0 8) (v1 : Int32) : Met l yX8_byteAt [.code yX8_byteAt cX8_byteAt 2 (some .int)] ({ frames := 0, cells := 0, slots := 0, locals := 0 }) (PT [.ref a0, .int v1] sz dC dI G cs tt mm (fun _ => True)) (vp_Si (fun (r : Int32) => True)) 0 0 (fun _ => False) := by
  refine Met.ofW (cc := cX8_byteAt) (maxL := 2) (ret := (some .int)) (by decide) rfl ?_
  intro p e s m args below meth c s₁ B hml hv
  obtain ⟨rfl, hsz, ⟨f0, hok, hP, hX⟩, hK, hnd, hWT, hE⟩ := hv
  have hx := B.exec
  have hb := B.bytes
  have hr := B.returns
  have hown : s.vm.findClass RX8 = some m.cls := findClass_of_methodNamed B.named
  have hlocks := B.notSynchronized
  subst hsz
  have hl := lv_entry ([.ref a0, .int v1]) (n := 2) (Nat.le_of_ble_eq_true rfl)
  rw [lg_entry_eq]
  generalize (lg_sl ([.ref a0, .int v1]) ++ List.replicate (2 - (lg_sl ([.ref a0, .int v1])).length) Slot.unset).toArray = ls at hl ⊢
  have hl : lv_has ls 2 [(0, .ref a0), (1, .int v1)] := hl
  refine lv_iload_n hx hb dX8_byteAt_0 rfl (lv_at hl 1 rfl) ?_
  refine lv_if_lt (tgt := 21) hx hb dX8_byteAt_1 (by decide) (fun c1 => ?_) (fun c1 => ?_)
  · refine lv_iconst (v := -1) hx hb dX8_byteAt_21 (by decide) ?_
    refine lv_goto (tgt := 31) hx hb dX8_byteAt_22 (by decide) ?_
    exact W.iret (v := -1) hx hb hr (fun t ht hW => ⟨-1, rfl, trivial, ht⟩) (fun _ h => absurd h List.not_mem_nil) dX8_byteAt_31
  · refine lv_iload_n hx hb dX8_byteAt_4 rfl (lv_at hl 1 rfl) ?_
    refine lv_aload_n hx hb dX8_byteAt_5 rfl (lv_at hl 0 rfl) ?_
    obtain ⟨y1_2, he2⟩ := ok_X8 hok ha0
    refine th_get hx hb (ly_X8 hE) hown hK hP ha0.1 he2 rfl 1 (by decide) (wd_265 hE) (fun _ h9 => h9) rfl dX8_byteAt_6 ?_
    refine lv_icmp_ge (tgt := 21) hx hb dX8_byteAt_9 (by decide) (fun c3 => ?_) (fun c3 => ?_)
    · refine lv_iconst (v := -1) hx hb dX8_byteAt_21 (by decide) ?_
      refine lv_goto (tgt := 31) hx hb dX8_byteAt_22 (by decide) ?_
      exact W.iret (v := -1) hx hb hr (fun t ht hW => ⟨-1, rfl, trivial, ht⟩) (fun _ h => absurd h List.not_mem_nil) dX8_byteAt_31
    · refine lv_iload_n hx hb dX8_byteAt_12 rfl (lv_at hl 1 rfl) ?_
      refine lv_aload_n hx hb dX8_byteAt_13 rfl (lv_at hl 0 rfl) ?_
      refine th_get hx hb (ly_X8 hE) hown hK hP ha0.1 he2 rfl 0 (by decide) (wd_264 hE) (fun _ h9 => h9) rfl dX8_byteAt_14 ?_
      refine th_len1 hx hb hK hP hok (n := 178) (wl_X8_0 hWT ha0) (Or.inr (Or.inl (wt_X8_0 hWT ha0))) dX8_byteAt_17 ?_
      refine W.eq (g2 := F0 m 18 ls [.int 178, .int v1]) rfl ?_
      refine lv_icmp_lt (tgt := 25) hx hb dX8_byteAt_18 (by decide) (fun c4 => ?_) (fun c4 => ?_)
      · refine lv_aload_n hx hb dX8_byteAt_25 rfl (lv_at hl 0 rfl) ?_
        refine th_get hx hb (ly_X8 hE) hown hK hP ha0.1 he2 rfl 0 (by decide) (wd_264 hE) (fun _ h9 => h9) rfl dX8_byteAt_26 ?_
        refine lv_iload_n hx hb dX8_byteAt_29 rfl (lv_at hl 1 rfl) ?_
        refine th_bald hx hb hK hP hok (wt_X8_0 hWT ha0) (n := 178) (wl_X8_0 hWT ha0) (vp_in_iff.mpr (by first | omega | (simp only [i_lt, i_le, i_eq, ti_m9, ti_m1, ti_0, ti_1, ti_2, ti_3, ti_4, ti_5, ti_6, ti_7, ti_9, ti_12, ti_20, ti_99, ti_700, ti_24, ti_156, ti_72, ti_8, ti_60, ti_543, ti_10, ti_33, ti_51, ti_178, ti_119, ti_111, ti_114, ti_100, ti_32, ti_62, ti_59, ti_48, ti_701, ti_97, ti_122, ti_57, ti_73, ti_128, ti_61] at c1 c3 c4 ⊢; omega))) dX8_byteAt_30 (fun x5 => ?_)
        exact W.iret (v := x5) hx hb hr (fun t ht hW => ⟨x5, rfl, trivial, ht⟩) (fun _ h => absurd h List.not_mem_nil) dX8_byteAt_31
      · refine lv_iconst (v := -1) hx hb dX8_byteAt_21 (by decide) ?_
        refine lv_goto (tgt := 31) hx hb dX8_byteAt_22 (by decide) ?_
        exact W.iret (v := -1) hx hb hr (fun t ht hW => ⟨-1, rfl, trivial, ht⟩) (fun _ h => absurd h List.not_mem_nil) dX8_byteAt_31

set_option maxHeartbeats 4000000 in
set_option maxRecDepth 100000 in
theorem t_X8_put (l : Launch) (dC : Nat → ClassId) (dI : Nat → Nat → Nat) (sz : Nat) (G : GT) (cs : Nat → ClassId) (tt mm : Nat) (a0 : Nat) (ha0 : Ty G a0 8) (v1 : Int32) : Met l yX8_put [.code yX8_put cX8_put 2 none] ({ frames := 0, cells := 0, slots := 0, locals := 0 }) (PT [.ref a0, .int v1] sz dC dI G cs tt mm (fun _ => True)) (va_Qv (fun (u : Nat → va_E) => True) (BT dC dI G cs tt mm) (AT G sz)) 0 0 (AT G sz) := by
  refine Met.ofW (cc := cX8_put) (maxL := 2) (ret := none) (by decide) rfl ?_
  intro p e s m args below meth c s₁ B hml hv
  obtain ⟨rfl, hsz, ⟨f0, hok, hP, hX⟩, hK, hnd, hWT, hE⟩ := hv
  have hx := B.exec
  have hb := B.bytes
  have hr := B.returns
  have hown : s.vm.findClass RX8 = some m.cls := findClass_of_methodNamed B.named
  have hlocks := B.notSynchronized
  subst hsz
  have hAL : ∀ a, a ∈ gL G → AT G s.heap.size a := fun a h => Or.inl h
  have hA : ∀ q : Nat, s.heap.size ≤ q → AT G s.heap.size q := fun q h => Or.inr h
  have hS : va_S (AT G s.heap.size) s.heap s.heap [] := va_S.rf
  have hl := lv_entry ([.ref a0, .int v1]) (n := 2) (Nat.le_of_ble_eq_true rfl)
  rw [lg_entry_eq]
  generalize (lg_sl ([.ref a0, .int v1]) ++ List.replicate (2 - (lg_sl ([.ref a0, .int v1])).length) Slot.unset).toArray = ls at hl ⊢
  have hl : lv_has ls 2 [(0, .ref a0), (1, .int v1)] := hl
  refine lv_aload_n hx hb dX8_put_0 rfl (lv_at hl 0 rfl) ?_
  obtain ⟨y1_1, he1⟩ := ok_X8 hok ha0
  refine th_get hx hb (ly_X8 hE) hown hK hP ha0.1 he1 rfl 1 (by decide) (wd_265 hE) (fun _ h9 => h9) rfl dX8_put_1 ?_
  refine lv_if_lt (tgt := 40) hx hb dX8_put_4 (by decide) (fun c2 => ?_) (fun c2 => ?_)
  · exact W.vret hx hb hr (fun t ht hW => ⟨⟨f0, rfl, trivial, hok, by rw [ht]; exact hP⟩, hS.F ht⟩) hS.2.2 dX8_put_40
  · refine lv_aload_n hx hb dX8_put_7 rfl (lv_at hl 0 rfl) ?_
    refine th_get hx hb (ly_X8 hE) hown hK hP ha0.1 he1 rfl 1 (by decide) (wd_265 hE) (fun _ h9 => h9) rfl dX8_put_8 ?_
    refine lv_aload_n hx hb dX8_put_11 rfl (lv_at hl 0 rfl) ?_
    refine th_get hx hb (ly_X8 hE) hown hK hP ha0.1 he1 rfl 0 (by decide) (wd_264 hE) (fun _ h9 => h9) rfl dX8_put_12 ?_
    refine th_len1 hx hb hK hP hok (n := 178) (wl_X8_0 hWT ha0) (Or.inr (Or.inl (wt_X8_0 hWT ha0))) dX8_put_15 ?_
    refine W.eq (g2 := F0 m 16 ls [.int 178, .int y1_1]) rfl ?_
    refine lv_icmp_ge (tgt := 40) hx hb dX8_put_16 (by decide) (fun c3 => ?_) (fun c3 => ?_)
    · exact W.vret hx hb hr (fun t ht hW => ⟨⟨f0, rfl, trivial, hok, by rw [ht]; exact hP⟩, hS.F ht⟩) hS.2.2 dX8_put_40
    · refine lv_aload_n hx hb dX8_put_19 rfl (lv_at hl 0 rfl) ?_
      refine th_get hx hb (ly_X8 hE) hown hK hP ha0.1 he1 rfl 0 (by decide) (wd_264 hE) (fun _ h9 => h9) rfl dX8_put_20 ?_
      refine lv_aload_n hx hb dX8_put_23 rfl (lv_at hl 0 rfl) ?_
      refine th_get hx hb (ly_X8 hE) hown hK hP ha0.1 he1 rfl 1 (by decide) (wd_265 hE) (fun _ h9 => h9) rfl dX8_put_24 ?_
      refine lv_iload_n hx hb dX8_put_27 rfl (lv_at hl 1 rfl) ?_
      refine lv_i2b hx hb dX8_put_28 rfl ?_
      refine lv_topi (fun x4 _ => ?_)
      refine th_bast hx hb hK hP hok hnd hAL hS (wt_X8_0 hWT ha0) (n := 178) (wl_X8_0 hWT ha0) (vp_in_iff.mpr (by first | omega | (simp only [i_lt, i_le, i_eq, ti_m9, ti_m1, ti_0, ti_1, ti_2, ti_3, ti_4, ti_5, ti_6, ti_7, ti_9, ti_12, ti_20, ti_99, ti_700, ti_24, ti_156, ti_72, ti_8, ti_60, ti_543, ti_10, ti_33, ti_51, ti_178, ti_119, ti_111, ti_114, ti_100, ti_32, ti_62, ti_59, ti_48, ti_701, ti_97, ti_122, ti_57, ti_73, ti_128, ti_61] at c2 c3 ⊢; omega))) dX8_put_29 (fun f5 H locs hfo5 hok hP hS => ?_)
      have he6 := (hfo5 a0 (Ty.ne ha0 (wt_X8_0 hWT ha0) (by decide))).trans he1
      refine lv_aload_n hx hb dX8_put_30 rfl (lv_at hl 0 rfl) ?_
      refine lv_dup hx hb dX8_put_31 rfl ?_
      refine th_get hx hb (ly_X8 hE) hown hK hP ha0.1 he6 rfl 1 (by decide) (wd_265 hE) (fun _ h9 => h9) rfl dX8_put_32 ?_
      refine lv_iconst (v := 1) hx hb dX8_put_35 (by decide) ?_
      obtain ⟨j7, hj7, rfl⟩ : ∃ j : Nat, j ≤ 177 ∧ y1_1 = nI j := i_nat (by first | omega | (simp only [i_lt, i_le, i_eq, ti_m9, ti_m1, ti_0, ti_1, ti_2, ti_3, ti_4, ti_5, ti_6, ti_7, ti_9, ti_12, ti_20, ti_99, ti_700, ti_24, ti_156, ti_72, ti_8, ti_60, ti_543, ti_10, ti_33, ti_51, ti_178, ti_119, ti_111, ti_114, ti_100, ti_32, ti_62, ti_59, ti_48, ti_701, ti_97, ti_122, ti_57, ti_73, ti_128, ti_61] at c2 c3 ⊢; omega)) (by first | omega | (simp only [i_lt, i_le, i_eq, ti_m9, ti_m1, ti_0, ti_1, ti_2, ti_3, ti_4, ti_5, ti_6, ti_7, ti_9, ti_12, ti_20, ti_99, ti_700, ti_24, ti_156, ti_72, ti_8, ti_60, ti_543, ti_10, ti_33, ti_51, ti_178, ti_119, ti_111, ti_114, ti_100, ti_32, ti_62, ti_59, ti_48, ti_701, ti_97, ti_122, ti_57, ti_73, ti_128, ti_61] at c2 c3 ⊢; omega))
      have nt8 : (nI j7).toInt = ((j7 : Nat) : Int) := nI_toInt (by omega)
      refine lv_iadd hx hb dX8_put_36 ?_
      refine W.eq (g2 := F0 m 37 ls [.int (nI (j7 + 1)), .ref a0]) (congrArg (fun z : Int32 => F0 m 37 ls (.int z :: [.ref a0])) (nI_add j7 1)) ?_
      refine th_put (v := .int (nI (j7 + 1))) (ty := .int) hx hb (ly_X8 hE) tyX8 tyX8_ok nmX8 hown hK hP hnd hAL hS ha0.1 he6 rfl 1 (by decide) (wd_265 hE) (fun _ h9 => h9) rfl (by decide +kernel) rfl rfl (Nat.le_of_ble_eq_true rfl) (up_X8 hok ha0 ⟨nI (j7 + 1), rfl⟩) dX8_put_37 (fun f9 H locs hfa9 hfo9 hok hP hS => ?_)
      exact W.vret hx hb hr (fun t ht hW => ⟨⟨f9, rfl, trivial, hok, by rw [ht]; exact hP⟩, hS.F ht⟩) hS.2.2 dX8_put_40

set_option maxHeartbeats 4000000 in
set_option maxRecDepth 100000 in
theorem t_X8_putNumber (l : Launch) (dC : Nat → ClassId) (dI : Nat → Nat → Nat) (sz : Nat) (G : GT) (cs : Nat → ClassId) (tt mm : Nat) (a0 : Nat) (ha0 : Ty G a0 8) (v1 : Int32) : Met l yX8_putNumber [.code yX8_putNumber cX8_putNumber 2 none] ({ frames := 1, cells := 0, slots := 0, locals := 40 }) (PT [.ref a0, .int v1] sz dC dI G cs tt mm (fun _ => True)) (va_Qv (fun (u : Nat → va_E) => True) (BT dC dI G cs tt mm) (AT G sz)) 0 0 (AT G sz) := by
  refine Met.ofW (cc := cX8_putNumber) (maxL := 2) (ret := none) (by decide) rfl ?_
  intro p e s m args below meth c s₁ B hml hv
  obtain ⟨rfl, hsz, ⟨f0, hok, hP, hX⟩, hK, hnd, hWT, hE⟩ := hv
  have hx := B.exec
  have hb := B.bytes
  have hr := B.returns
  have hown : s.vm.findClass RX8 = some m.cls := findClass_of_methodNamed B.named
  have hlocks := B.notSynchronized
  subst hsz
  have hAL : ∀ a, a ∈ gL G → AT G s.heap.size a := fun a h => Or.inl h
  have hA : ∀ q : Nat, s.heap.size ≤ q → AT G s.heap.size q := fun q h => Or.inr h
  have hS : va_S (AT G s.heap.size) s.heap s.heap [] := va_S.rf
  have hl := lv_entry ([.ref a0, .int v1]) (n := 2) (Nat.le_of_ble_eq_true rfl)
  rw [lg_entry_eq]
  generalize (lg_sl ([.ref a0, .int v1]) ++ List.replicate (2 - (lg_sl ([.ref a0, .int v1])).length) Slot.unset).toArray = ls at hl ⊢
  have hl : lv_has ls 2 [(0, .ref a0), (1, .int v1)] := hl
  refine lv_aload_n hx hb dX8_putNumber_0 rfl (lv_at hl 0 rfl) ?_
  refine lv_bipush (v := 32) hx hb dX8_putNumber_1 (by decide) ?_
  obtain ⟨y1_1, he1⟩ := ok_X8 hok ha0
  refine tc_v hAL hS hA (va_runV (As := [.int 32]) (rest := []) ⟨hx, hb, hml, hown, noTs⟩ (t_X8_put l dC dI s.heap.size G cs tt mm a0 ha0 32) ⟨cbE 1 (wd_1324 hE) (wd_121 hE) (wd_1321 hE) rfl rfl (by decide +kernel) ⟨Nat.le_of_ble_eq_true rfl, Nat.le_of_ble_eq_true rfl⟩, (wd_1323 hE), (wd_50 hE)⟩ ⟨PT.blind, th_recv hK hP ha0.1 he1 rfl, (th_pre (av := [.ref a0, .int 32]) trivial hK hP hok hnd hWT hE)⟩ rfl rfl hl.1 rfl (lv_room (Nat.le_of_ble_eq_true rfl)) dX8_putNumber_3 ⟨Nat.le_of_ble_eq_true rfl, Nat.le_of_ble_eq_true rfl⟩) (fun f2 H locs hr2 hok hP hS => ?_)
  refine lv_iload_n hx hb dX8_putNumber_6 rfl (lv_at hl 1 rfl) ?_
  refine lv_bipush (v := 10) hx hb dX8_putNumber_7 (by decide) ?_
  refine lv_icmp_lt (tgt := 31) hx hb dX8_putNumber_9 (by decide) (fun c3 => ?_) (fun c3 => ?_)
  · refine lv_aload_n hx hb dX8_putNumber_31 rfl (lv_at hl 0 rfl) ?_
    refine lv_bipush (v := 48) hx hb dX8_putNumber_32 (by decide) ?_
    refine lv_iload_n hx hb dX8_putNumber_34 rfl (lv_at hl 1 rfl) ?_
    refine lv_bipush (v := 10) hx hb dX8_putNumber_35 (by decide) ?_
    refine vp_callSi (va_Run.run (va_runSN (As := [.int v1, .int 10]) (rest := [.int 48, .ref a0]) ⟨hx, hb, hml, hown, noTs⟩ (t_X11_rest l dC dI H.size G cs tt mm v1 10) ⟨cnE 2 (wd_617 hE) (wd_115 hE) (wd_1331 hE) rfl rfl (by decide +kernel) ⟨Nat.le_of_ble_eq_true rfl, Nat.le_of_ble_eq_true rfl⟩, (wd_616 hE), trivial⟩ ⟨PT.blind, (th_pre (av := [.int v1, .int 10]) trivial hK hP hok hnd hWT hE)⟩ rfl rfl hl.1 rfl (lv_room (Nat.le_of_ble_eq_true rfl)) dX8_putNumber_37 ⟨Nat.le_of_ble_eq_true rfl, Nat.le_of_ble_eq_true rfl⟩)) (fun r4 hr4 => ?_)
    obtain ⟨hra4, hrb4⟩ := hr4
    obtain ⟨j5, hj5, rfl⟩ : ∃ j : Nat, j ≤ 9 ∧ r4 = nI j := i_nat (by first | omega | (simp only [i_lt, i_le, i_eq, ti_m9, ti_m1, ti_0, ti_1, ti_2, ti_3, ti_4, ti_5, ti_6, ti_7, ti_9, ti_12, ti_20, ti_99, ti_700, ti_24, ti_156, ti_72, ti_8, ti_60, ti_543, ti_10, ti_33, ti_51, ti_178, ti_119, ti_111, ti_114, ti_100, ti_32, ti_62, ti_59, ti_48, ti_701, ti_97, ti_122, ti_57, ti_73, ti_128, ti_61] at c3 hra4 hrb4 ⊢; omega)) (by first | omega | (simp only [i_lt, i_le, i_eq, ti_m9, ti_m1, ti_0, ti_1, ti_2, ti_3, ti_4, ti_5, ti_6, ti_7, ti_9, ti_12, ti_20, ti_99, ti_700, ti_24, ti_156, ti_72, ti_8, ti_60, ti_543, ti_10, ti_33, ti_51, ti_178, ti_119, ti_111, ti_114, ti_100, ti_32, ti_62, ti_59, ti_48, ti_701, ti_97, ti_122, ti_57, ti_73, ti_128, ti_61] at c3 hra4 hrb4 ⊢; omega))
    have nt6 : (nI j5).toInt = ((j5 : Nat) : Int) := nI_toInt (by omega)
    refine lv_iadd hx hb dX8_putNumber_40 ?_
    refine W.eq (g2 := F0 m 41 ls [.int (nI (48 + j5)), .ref a0]) (congrArg (fun z : Int32 => F0 m 41 ls (.int z :: [.ref a0])) (nI_add 48 j5)) ?_
    refine lv_i2c hx hb dX8_putNumber_41 rfl ?_
    refine lv_topi (fun x7 _ => ?_)
    obtain ⟨y1_8, he8⟩ := ok_X8 hok ha0
    refine tc_v hAL hS hA (va_runV (As := [.int x7]) (rest := []) ⟨hx, hb, hml, hown, noTs⟩ (t_X8_put l dC dI H.size G cs tt mm a0 ha0 x7) ⟨cbE 1 (wd_1324 hE) (wd_121 hE) (wd_1321 hE) rfl rfl (by decide +kernel) ⟨Nat.le_of_ble_eq_true rfl, Nat.le_of_ble_eq_true rfl⟩, (wd_1323 hE), (wd_50 hE)⟩ ⟨PT.blind, th_recv hK hP ha0.1 he8 rfl, (th_pre (av := [.ref a0, .int x7]) trivial hK hP hok hnd hWT hE)⟩ rfl rfl hl.1 rfl (lv_room (Nat.le_of_ble_eq_true rfl)) dX8_putNumber_42 ⟨Nat.le_of_ble_eq_true rfl, Nat.le_of_ble_eq_true rfl⟩) (fun f9 H locs hr9 hok hP hS => ?_)
    exact W.vret hx hb hr (fun t ht hW => ⟨⟨f9, rfl, trivial, hok, by rw [ht]; exact hP⟩, hS.F ht⟩) hS.2.2 dX8_putNumber_45
  · refine lv_aload_n hx hb dX8_putNumber_12 rfl (lv_at hl 0 rfl) ?_
    refine lv_bipush (v := 48) hx hb dX8_putNumber_13 (by decide) ?_
    refine lv_iload_n hx hb dX8_putNumber_15 rfl (lv_at hl 1 rfl) ?_
    refine lv_bipush (v := 10) hx hb dX8_putNumber_16 (by decide) ?_
    refine vp_callSi (va_Run.run (va_runSN (As := [.int v1, .int 10]) (rest := [.int 48, .ref a0]) ⟨hx, hb, hml, hown, noTs⟩ (t_X11_share l dC dI H.size G cs tt mm v1 10) ⟨cnE 2 (wd_620 hE) (wd_115 hE) (wd_1330 hE) rfl rfl (by decide +kernel) ⟨Nat.le_of_ble_eq_true rfl, Nat.le_of_ble_eq_true rfl⟩, (wd_619 hE), trivial⟩ ⟨PT.blind, (th_pre (av := [.int v1, .int 10]) trivial hK hP hok hnd hWT hE)⟩ rfl rfl hl.1 rfl (lv_room (Nat.le_of_ble_eq_true rfl)) dX8_putNumber_18 ⟨Nat.le_of_ble_eq_true rfl, Nat.le_of_ble_eq_true rfl⟩)) (fun r10 hr10 => ?_)
    refine lv_bipush (v := 10) hx hb dX8_putNumber_21 (by decide) ?_
    refine vp_callSi (va_Run.run (va_runSN (As := [.int r10, .int 10]) (rest := [.int 48, .ref a0]) ⟨hx, hb, hml, hown, noTs⟩ (t_X11_rest l dC dI H.size G cs tt mm r10 10) ⟨cnE 2 (wd_617 hE) (wd_115 hE) (wd_1331 hE) rfl rfl (by decide +kernel) ⟨Nat.le_of_ble_eq_true rfl, Nat.le_of_ble_eq_true rfl⟩, (wd_616 hE), trivial⟩ ⟨PT.blind, (th_pre (av := [.int r10, .int 10]) trivial hK hP hok hnd hWT hE)⟩ rfl rfl hl.1 rfl (lv_room (Nat.le_of_ble_eq_true rfl)) dX8_putNumber_23 ⟨Nat.le_of_ble_eq_true rfl, Nat.le_of_ble_eq_true rfl⟩)) (fun r11 hr11 => ?_)
    obtain ⟨hra11, hrb11⟩ := hr11
    obtain ⟨j12, hj12, rfl⟩ : ∃ j : Nat, j ≤ 9 ∧ r11 = nI j := i_nat (by first | omega | (simp only [i_lt, i_le, i_eq, ti_m9, ti_m1, ti_0, ti_1, ti_2, ti_3, ti_4, ti_5, ti_6, ti_7, ti_9, ti_12, ti_20, ti_99, ti_700, ti_24, ti_156, ti_72, ti_8, ti_60, ti_543, ti_10, ti_33, ti_51, ti_178, ti_119, ti_111, ti_114, ti_100, ti_32, ti_62, ti_59, ti_48, ti_701, ti_97, ti_122, ti_57, ti_73, ti_128, ti_61] at c3 hra11 hrb11 ⊢; omega)) (by first | omega | (simp only [i_lt, i_le, i_eq, ti_m9, ti_m1, ti_0, ti_1, ti_2, ti_3, ti_4, ti_5, ti_6, ti_7, ti_9, ti_12, ti_20, ti_99, ti_700, ti_24, ti_156, ti_72, ti_8, ti_60, ti_543, ti_10, ti_33, ti_51, ti_178, ti_119, ti_111, ti_114, ti_100, ti_32, ti_62, ti_59, ti_48, ti_701, ti_97, ti_122, ti_57, ti_73, ti_128, ti_61] at c3 hra11 hrb11 ⊢; omega))
    have nt13 : (nI j12).toInt = ((j12 : Nat) : Int) := nI_toInt (by omega)
    refine lv_iadd hx hb dX8_putNumber_26 ?_
    refine W.eq (g2 := F0 m 27 ls [.int (nI (48 + j12)), .ref a0]) (congrArg (fun z : Int32 => F0 m 27 ls (.int z :: [.ref a0])) (nI_add 48 j12)) ?_
    refine lv_i2c hx hb dX8_putNumber_27 rfl ?_
    refine lv_topi (fun x14 _ => ?_)
    obtain ⟨y1_15, he15⟩ := ok_X8 hok ha0
    refine tc_v hAL hS hA (va_runV (As := [.int x14]) (rest := []) ⟨hx, hb, hml, hown, noTs⟩ (t_X8_put l dC dI H.size G cs tt mm a0 ha0 x14) ⟨cbE 1 (wd_1324 hE) (wd_121 hE) (wd_1321 hE) rfl rfl (by decide +kernel) ⟨Nat.le_of_ble_eq_true rfl, Nat.le_of_ble_eq_true rfl⟩, (wd_1323 hE), (wd_50 hE)⟩ ⟨PT.blind, th_recv hK hP ha0.1 he15 rfl, (th_pre (av := [.ref a0, .int x14]) trivial hK hP hok hnd hWT hE)⟩ rfl rfl hl.1 rfl (lv_room (Nat.le_of_ble_eq_true rfl)) dX8_putNumber_28 ⟨Nat.le_of_ble_eq_true rfl, Nat.le_of_ble_eq_true rfl⟩) (fun f16 H locs hr16 hok hP hS => ?_)
    refine lv_aload_n hx hb dX8_putNumber_31 rfl (lv_at hl 0 rfl) ?_
    refine lv_bipush (v := 48) hx hb dX8_putNumber_32 (by decide) ?_
    refine lv_iload_n hx hb dX8_putNumber_34 rfl (lv_at hl 1 rfl) ?_
    refine lv_bipush (v := 10) hx hb dX8_putNumber_35 (by decide) ?_
    refine vp_callSi (va_Run.run (va_runSN (As := [.int v1, .int 10]) (rest := [.int 48, .ref a0]) ⟨hx, hb, hml, hown, noTs⟩ (t_X11_rest l dC dI H.size G cs tt mm v1 10) ⟨cnE 2 (wd_617 hE) (wd_115 hE) (wd_1331 hE) rfl rfl (by decide +kernel) ⟨Nat.le_of_ble_eq_true rfl, Nat.le_of_ble_eq_true rfl⟩, (wd_616 hE), trivial⟩ ⟨PT.blind, (th_pre (av := [.int v1, .int 10]) trivial hK hP hok hnd hWT hE)⟩ rfl rfl hl.1 rfl (lv_room (Nat.le_of_ble_eq_true rfl)) dX8_putNumber_37 ⟨Nat.le_of_ble_eq_true rfl, Nat.le_of_ble_eq_true rfl⟩)) (fun r17 hr17 => ?_)
    obtain ⟨hra17, hrb17⟩ := hr17
    obtain ⟨j18, hj18, rfl⟩ : ∃ j : Nat, j ≤ 9 ∧ r17 = nI j := i_nat (by first | omega | (simp only [i_lt, i_le, i_eq, ti_m9, ti_m1, ti_0, ti_1, ti_2, ti_3, ti_4, ti_5, ti_6, ti_7, ti_9, ti_12, ti_20, ti_99, ti_700, ti_24, ti_156, ti_72, ti_8, ti_60, ti_543, ti_10, ti_33, ti_51, ti_178, ti_119, ti_111, ti_114, ti_100, ti_32, ti_62, ti_59, ti_48, ti_701, ti_97, ti_122, ti_57, ti_73, ti_128, ti_61, nt13] at c3 hra11 hrb11 hra17 hrb17 ⊢; omega)) (by first | omega | (simp only [i_lt, i_le, i_eq, ti_m9, ti_m1, ti_0, ti_1, ti_2, ti_3, ti_4, ti_5, ti_6, ti_7, ti_9, ti_12, ti_20, ti_99, ti_700, ti_24, ti_156, ti_72, ti_8, ti_60, ti_543, ti_10, ti_33, ti_51, ti_178, ti_119, ti_111, ti_114, ti_100, ti_32, ti_62, ti_59, ti_48, ti_701, ti_97, ti_122, ti_57, ti_73, ti_128, ti_61, nt13] at c3 hra11 hrb11 hra17 hrb17 ⊢; omega))
    have nt19 : (nI j18).toInt = ((j18 : Nat) : Int) := nI_toInt (by omega)
    refine lv_iadd hx hb dX8_putNumber_40 ?_
    refine W.eq (g2 := F0 m 41 ls [.int (nI (48 + j18)), .ref a0]) (congrArg (fun z : Int32 => F0 m 41 ls (.int z :: [.ref a0])) (nI_add 48 j18)) ?_
    refine lv_i2c hx hb dX8_putNumber_41 rfl ?_
    refine lv_topi (fun x20 _ => ?_)
    obtain ⟨y1_21, he21⟩ := ok_X8 hok ha0
    refine tc_v hAL hS hA (va_runV (As := [.int x20]) (rest := []) ⟨hx, hb, hml, hown, noTs⟩ (t_X8_put l dC dI H.size G cs tt mm a0 ha0 x20) ⟨cbE 1 (wd_1324 hE) (wd_121 hE) (wd_1321 hE) rfl rfl (by decide +kernel) ⟨Nat.le_of_ble_eq_true rfl, Nat.le_of_ble_eq_true rfl⟩, (wd_1323 hE), (wd_50 hE)⟩ ⟨PT.blind, th_recv hK hP ha0.1 he21 rfl, (th_pre (av := [.ref a0, .int x20]) trivial hK hP hok hnd hWT hE)⟩ rfl rfl hl.1 rfl (lv_room (Nat.le_of_ble_eq_true rfl)) dX8_putNumber_42 ⟨Nat.le_of_ble_eq_true rfl, Nat.le_of_ble_eq_true rfl⟩) (fun f22 H locs hr22 hok hP hS => ?_)
    exact W.vret hx hb hr (fun t ht hW => ⟨⟨f22, rfl, trivial, hok, by rw [ht]; exact hP⟩, hS.F ht⟩) hS.2.2 dX8_putNumber_45

set_option maxHeartbeats 4000000 in
set_option maxRecDepth 100000 in
theorem t_X8_tellWord (l : Launch) (dC : Nat → ClassId) (dI : Nat → Nat → Nat) (sz : Nat) (G : GT) (cs : Nat → ClassId) (tt mm : Nat) (a0 : Nat) (ha0 : Ty G a0 8) (a1 : Nat) (ha1 : Ty G a1 10) : Met l yX8_tellWord [.code yX8_tellWord cX8_tellWord 3 (some .int)] ({ frames := 2, cells := 0, slots := 0, locals := 80 }) (PT [.ref a0, .ref a1] sz dC dI G cs tt mm (fun _ => True)) (va_Qi (fun (r : Int32) (u : Nat → va_E) => True) (BT dC dI G cs tt mm) (AT G sz)) 0 0 (AT G sz) := by
  refine Met.ofW (cc := cX8_tellWord) (maxL := 3) (ret := (some .int)) (by decide) rfl ?_
  intro p e s m args below meth c s₁ B hml hv
  obtain ⟨rfl, hsz, ⟨f0, hok, hP, hX⟩, hK, hnd, hWT, hE⟩ := hv
  have hx := B.exec
  have hb := B.bytes
  have hr := B.returns
  have hown : s.vm.findClass RX8 = some m.cls := findClass_of_methodNamed B.named
  have hlocks := B.notSynchronized
  subst hsz
  have hAL : ∀ a, a ∈ gL G → AT G s.heap.size a := fun a h => Or.inl h
  have hA : ∀ q : Nat, s.heap.size ≤ q → AT G s.heap.size q := fun q h => Or.inr h
  have hS : va_S (AT G s.heap.size) s.heap s.heap [] := va_S.rf
  have hl := lv_entry ([.ref a0, .ref a1]) (n := 3) (Nat.le_of_ble_eq_true rfl)
  rw [lg_entry_eq]
  generalize (lg_sl ([.ref a0, .ref a1]) ++ List.replicate (3 - (lg_sl ([.ref a0, .ref a1])).length) Slot.unset).toArray = ls at hl ⊢
  have hl : lv_has ls 3 [(0, .ref a0), (1, .ref a1)] := hl
  refine lv_aload_n hx hb dX8_tellWord_0 rfl (lv_at hl 0 rfl) ?_
  refine lv_iconst (v := 0) hx hb dX8_tellWord_1 (by decide) ?_
  obtain ⟨y1_1, he1⟩ := ok_X8 hok ha0
  refine th_put (v := .int 0) (ty := .int) hx hb (ly_X8 hE) tyX8 tyX8_ok nmX8 hown hK hP hnd hAL hS ha0.1 he1 rfl 1 (by decide) (wd_265 hE) (fun _ h9 => h9) rfl (by decide +kernel) rfl rfl (Nat.le_of_ble_eq_true rfl) (up_X8 hok ha0 ⟨0, rfl⟩) dX8_tellWord_2 (fun f2 H locs hfa2 hfo2 hok hP hS => ?_)
  refine lv_aload_n hx hb dX8_tellWord_5 rfl (lv_at hl 0 rfl) ?_
  refine lv_bipush (v := 119) hx hb dX8_tellWord_6 (by decide) ?_
  refine tc_v hAL hS hA (va_runV (As := [.int 119]) (rest := []) ⟨hx, hb, hml, hown, noTs⟩ (t_X8_put l dC dI H.size G cs tt mm a0 ha0 119) ⟨cbE 1 (wd_1324 hE) (wd_121 hE) (wd_1321 hE) rfl rfl (by decide +kernel) ⟨Nat.le_of_ble_eq_true rfl, Nat.le_of_ble_eq_true rfl⟩, (wd_1323 hE), (wd_50 hE)⟩ ⟨PT.blind, th_recv hK hP ha0.1 hfa2 rfl, (th_pre (av := [.ref a0, .int 119]) trivial hK hP hok hnd hWT hE)⟩ rfl rfl hl.1 rfl (lv_room (Nat.le_of_ble_eq_true rfl)) dX8_tellWord_8 ⟨Nat.le_of_ble_eq_true rfl, Nat.le_of_ble_eq_true rfl⟩) (fun f3 H locs hr3 hok hP hS => ?_)
  refine lv_aload_n hx hb dX8_tellWord_11 rfl (lv_at hl 0 rfl) ?_
  refine lv_bipush (v := 111) hx hb dX8_tellWord_12 (by decide) ?_
  obtain ⟨y1_4, he4⟩ := ok_X8 hok ha0
  refine tc_v hAL hS hA (va_runV (As := [.int 111]) (rest := []) ⟨hx, hb, hml, hown, noTs⟩ (t_X8_put l dC dI H.size G cs tt mm a0 ha0 111) ⟨cbE 1 (wd_1324 hE) (wd_121 hE) (wd_1321 hE) rfl rfl (by decide +kernel) ⟨Nat.le_of_ble_eq_true rfl, Nat.le_of_ble_eq_true rfl⟩, (wd_1323 hE), (wd_50 hE)⟩ ⟨PT.blind, th_recv hK hP ha0.1 he4 rfl, (th_pre (av := [.ref a0, .int 111]) trivial hK hP hok hnd hWT hE)⟩ rfl rfl hl.1 rfl (lv_room (Nat.le_of_ble_eq_true rfl)) dX8_tellWord_14 ⟨Nat.le_of_ble_eq_true rfl, Nat.le_of_ble_eq_true rfl⟩) (fun f5 H locs hr5 hok hP hS => ?_)
  refine lv_aload_n hx hb dX8_tellWord_17 rfl (lv_at hl 0 rfl) ?_
  refine lv_bipush (v := 114) hx hb dX8_tellWord_18 (by decide) ?_
  obtain ⟨y1_6, he6⟩ := ok_X8 hok ha0
  refine tc_v hAL hS hA (va_runV (As := [.int 114]) (rest := []) ⟨hx, hb, hml, hown, noTs⟩ (t_X8_put l dC dI H.size G cs tt mm a0 ha0 114) ⟨cbE 1 (wd_1324 hE) (wd_121 hE) (wd_1321 hE) rfl rfl (by decide +kernel) ⟨Nat.le_of_ble_eq_true rfl, Nat.le_of_ble_eq_true rfl⟩, (wd_1323 hE), (wd_50 hE)⟩ ⟨PT.blind, th_recv hK hP ha0.1 he6 rfl, (th_pre (av := [.ref a0, .int 114]) trivial hK hP hok hnd hWT hE)⟩ rfl rfl hl.1 rfl (lv_room (Nat.le_of_ble_eq_true rfl)) dX8_tellWord_20 ⟨Nat.le_of_ble_eq_true rfl, Nat.le_of_ble_eq_true rfl⟩) (fun f7 H locs hr7 hok hP hS => ?_)
  refine lv_aload_n hx hb dX8_tellWord_23 rfl (lv_at hl 0 rfl) ?_
  refine lv_bipush (v := 100) hx hb dX8_tellWord_24 (by decide) ?_
  obtain ⟨y1_8, he8⟩ := ok_X8 hok ha0
  refine tc_v hAL hS hA (va_runV (As := [.int 100]) (rest := []) ⟨hx, hb, hml, hown, noTs⟩ (t_X8_put l dC dI H.size G cs tt mm a0 ha0 100) ⟨cbE 1 (wd_1324 hE) (wd_121 hE) (wd_1321 hE) rfl rfl (by decide +kernel) ⟨Nat.le_of_ble_eq_true rfl, Nat.le_of_ble_eq_true rfl⟩, (wd_1323 hE), (wd_50 hE)⟩ ⟨PT.blind, th_recv hK hP ha0.1 he8 rfl, (th_pre (av := [.ref a0, .int 100]) trivial hK hP hok hnd hWT hE)⟩ rfl rfl hl.1 rfl (lv_room (Nat.le_of_ble_eq_true rfl)) dX8_tellWord_26 ⟨Nat.le_of_ble_eq_true rfl, Nat.le_of_ble_eq_true rfl⟩) (fun f9 H locs hr9 hok hP hS => ?_)
  refine lv_aload_n hx hb dX8_tellWord_29 rfl (lv_at hl 0 rfl) ?_
  refine lv_aload_n hx hb dX8_tellWord_30 rfl (lv_at hl 1 rfl) ?_
  obtain ⟨y2_10, y3_10, hy3_10, he10⟩ := ok_X10 hok ha1
  refine vp_callSi (va_Run.run (va_runV (As := []) (rest := [.ref a0]) ⟨hx, hb, hml, hown, noTs⟩ (t_X10_begin l dC dI H.size G cs tt mm a1 ha1) ⟨cbE 0 (wd_713 hE) (wd_120 hE) (wd_1325 hE) rfl rfl (by decide +kernel) ⟨Nat.le_of_ble_eq_true rfl, Nat.le_of_ble_eq_true rfl⟩, (wd_711 hE), (wd_712 hE)⟩ ⟨PT.blind, th_recv hK hP ha1.1 he10 rfl, (th_pre (av := [.ref a1]) trivial hK hP hok hnd hWT hE)⟩ rfl rfl hl.1 rfl (lv_room (Nat.le_of_ble_eq_true rfl)) dX8_tellWord_31 ⟨Nat.le_of_ble_eq_true rfl, Nat.le_of_ble_eq_true rfl⟩)) (fun r11 hr11 => ?_)
  obtain ⟨y1_12, he12⟩ := ok_X8 hok ha0
  refine tc_v hAL hS hA (va_runV (As := [.int r11]) (rest := []) ⟨hx, hb, hml, hown, noTs⟩ (t_X8_putNumber l dC dI H.size G cs tt mm a0 ha0 r11) ⟨cbE 1 (wd_1329 hE) (wd_121 hE) (wd_1326 hE) rfl rfl (by decide +kernel) ⟨Nat.le_of_ble_eq_true rfl, Nat.le_of_ble_eq_true rfl⟩, (wd_1328 hE), (wd_51 hE)⟩ ⟨PT.blind, th_recv hK hP ha0.1 he12 rfl, (th_pre (av := [.ref a0, .int r11]) trivial hK hP hok hnd hWT hE)⟩ rfl rfl hl.1 rfl (lv_room (Nat.le_of_ble_eq_true rfl)) dX8_tellWord_34 ⟨Nat.le_of_ble_eq_true rfl, Nat.le_of_ble_eq_true rfl⟩) (fun f13 H locs hr13 hok hP hS => ?_)
  refine lv_aload_n hx hb dX8_tellWord_37 rfl (lv_at hl 0 rfl) ?_
  refine lv_aload_n hx hb dX8_tellWord_38 rfl (lv_at hl 1 rfl) ?_
  refine lv_iconst (v := 0) hx hb dX8_tellWord_39 (by decide) ?_
  obtain ⟨y2_14, y3_14, hy3_14, he14⟩ := ok_X10 hok ha1
  refine vp_callSi (va_Run.run (va_runV (As := [.int 0]) (rest := [.ref a0]) ⟨hx, hb, hml, hown, noTs⟩ (t_X10_numberAt l dC dI H.size G cs tt mm a1 ha1 0) ⟨cbE 1 (wd_717 hE) (wd_120 hE) (wd_1332 hE) rfl rfl (by decide +kernel) ⟨Nat.le_of_ble_eq_true rfl, Nat.le_of_ble_eq_true rfl⟩, (wd_715 hE), (wd_716 hE)⟩ ⟨PT.blind, th_recv hK hP ha1.1 he14 rfl, (th_pre (av := [.ref a1, .int 0]) trivial hK hP hok hnd hWT hE)⟩ rfl rfl hl.1 rfl (lv_room (Nat.le_of_ble_eq_true rfl)) dX8_tellWord_40 ⟨Nat.le_of_ble_eq_true rfl, Nat.le_of_ble_eq_true rfl⟩)) (fun r15 hr15 => ?_)
  obtain ⟨y1_16, he16⟩ := ok_X8 hok ha0
  refine tc_v hAL hS hA (va_runV (As := [.int r15]) (rest := []) ⟨hx, hb, hml, hown, noTs⟩ (t_X8_putNumber l dC dI H.size G cs tt mm a0 ha0 r15) ⟨cbE 1 (wd_1329 hE) (wd_121 hE) (wd_1326 hE) rfl rfl (by decide +kernel) ⟨Nat.le_of_ble_eq_true rfl, Nat.le_of_ble_eq_true rfl⟩, (wd_1328 hE), (wd_51 hE)⟩ ⟨PT.blind, th_recv hK hP ha0.1 he16 rfl, (th_pre (av := [.ref a0, .int r15]) trivial hK hP hok hnd hWT hE)⟩ rfl rfl hl.1 rfl (lv_room (Nat.le_of_ble_eq_true rfl)) dX8_tellWord_43 ⟨Nat.le_of_ble_eq_true rfl, Nat.le_of_ble_eq_true rfl⟩) (fun f17 H locs hr17 hok hP hS => ?_)
  refine lv_iconst (v := 0) hx hb dX8_tellWord_46 (by decide) ?_
  refine lv_istore_n (lv' := [(2, .int 0), (0, .ref a0), (1, .ref a1)]) hx hb dX8_tellWord_47 rfl hl (by decide) rfl (fun ls hl => ?_)
  refine w_ind (I := fun n f H locs ls => OKT G cs tt mm f ∧ va_P (dC, dI) vwCl (va_pl (gL G) f) H ∧ va_S (AT G s.heap.size) s.heap H locs ∧ ∃ (w2_18 : Int32), n = (2147483647 - w2_18.toInt).toNat ∧ 0 ≤ w2_18 ∧ lv_has ls 3 [(0, .ref a0), (1, .ref a1), (2, .int w2_18)]) (fun n f18 H locs ls hI ih18 => ?_) _ f17 _ _ _ ⟨hok, hP, hS, 0, rfl, (by first | omega | (simp only [i_lt, i_le, i_eq, ti_m9, ti_m1, ti_0, ti_1, ti_2, ti_3, ti_4, ti_5, ti_6, ti_7, ti_9, ti_12, ti_20, ti_99, ti_700, ti_24, ti_156, ti_72, ti_8, ti_60, ti_543, ti_10, ti_33, ti_51, ti_178, ti_119, ti_111, ti_114, ti_100, ti_32, ti_62, ti_59, ti_48, ti_701, ti_97, ti_122, ti_57, ti_73, ti_128, ti_61]; omega)), lv_sub hl [1, 2, 0] rfl⟩
  obtain ⟨hok, hP, hS, w2_18, hmu18, hlo18, hl⟩ := hI
  subst hmu18
  refine lv_iload_n hx hb dX8_tellWord_48 rfl (lv_at hl 2 rfl) ?_
  refine lv_aload_n hx hb dX8_tellWord_49 rfl (lv_at hl 1 rfl) ?_
  obtain ⟨y2_19, y3_19, hy3_19, he19⟩ := ok_X10 hok ha1
  refine vp_callSi (va_Run.run (va_runV (As := []) (rest := [.int w2_18]) ⟨hx, hb, hml, hown, noTs⟩ (t_X10_size l dC dI H.size G cs tt mm a1 ha1 y2_19 y3_19) ⟨cbE 0 (wd_666 hE) (wd_120 hE) (wd_1333 hE) rfl rfl (by decide +kernel) ⟨Nat.le_of_ble_eq_true rfl, Nat.le_of_ble_eq_true rfl⟩, (wd_664 hE), (wd_665 hE)⟩ ⟨PT.blind, th_recv hK hP ha1.1 he19 rfl, (th_pre (av := [.ref a1]) he19 hK hP hok hnd hWT hE)⟩ rfl rfl hl.1 rfl (lv_room (Nat.le_of_ble_eq_true rfl)) dX8_tellWord_50 ⟨Nat.le_of_ble_eq_true rfl, Nat.le_of_ble_eq_true rfl⟩)) (fun r20 hr20 => ?_)
  subst hr20
  have nt21 : (nI y3_19).toInt = ((y3_19 : Nat) : Int) := nI_toInt (by omega)
  refine lv_icmp_ge (tgt := 112) hx hb dX8_tellWord_53 (by decide) (fun c22 => ?_) (fun c22 => ?_)
  · refine lv_aload_n hx hb dX8_tellWord_112 rfl (lv_at hl 0 rfl) ?_
    refine lv_bipush (v := 59) hx hb dX8_tellWord_113 (by decide) ?_
    obtain ⟨y1_23, he23⟩ := ok_X8 hok ha0
    refine tc_v hAL hS hA (va_runV (As := [.int 59]) (rest := []) ⟨hx, hb, hml, hown, noTs⟩ (t_X8_put l dC dI H.size G cs tt mm a0 ha0 59) ⟨cbE 1 (wd_1324 hE) (wd_121 hE) (wd_1321 hE) rfl rfl (by decide +kernel) ⟨Nat.le_of_ble_eq_true rfl, Nat.le_of_ble_eq_true rfl⟩, (wd_1323 hE), (wd_50 hE)⟩ ⟨PT.blind, th_recv hK hP ha0.1 he23 rfl, (th_pre (av := [.ref a0, .int 59]) trivial hK hP hok hnd hWT hE)⟩ rfl rfl hl.1 rfl (lv_room (Nat.le_of_ble_eq_true rfl)) dX8_tellWord_115 ⟨Nat.le_of_ble_eq_true rfl, Nat.le_of_ble_eq_true rfl⟩) (fun f24 H locs hr24 hok hP hS => ?_)
    refine lv_aload_n hx hb dX8_tellWord_118 rfl (lv_at hl 0 rfl) ?_
    obtain ⟨y1_25, he25⟩ := ok_X8 hok ha0
    refine th_get hx hb (ly_X8 hE) hown hK hP ha0.1 he25 rfl 1 (by decide) (wd_265 hE) (fun _ h9 => h9) rfl dX8_tellWord_119 ?_
    exact W.iret (v := y1_25) hx hb hr (fun t ht hW => ⟨⟨y1_25, f24, rfl, trivial, hok, by rw [ht]; exact hP⟩, hS.F ht⟩) hS.2.2 dX8_tellWord_122
  · refine lv_aload_n hx hb dX8_tellWord_56 rfl (lv_at hl 0 rfl) ?_
    refine lv_bipush (v := 32) hx hb dX8_tellWord_57 (by decide) ?_
    obtain ⟨y1_26, he26⟩ := ok_X8 hok ha0
    refine tc_v hAL hS hA (va_runV (As := [.int 32]) (rest := []) ⟨hx, hb, hml, hown, noTs⟩ (t_X8_put l dC dI H.size G cs tt mm a0 ha0 32) ⟨cbE 1 (wd_1324 hE) (wd_121 hE) (wd_1321 hE) rfl rfl (by decide +kernel) ⟨Nat.le_of_ble_eq_true rfl, Nat.le_of_ble_eq_true rfl⟩, (wd_1323 hE), (wd_50 hE)⟩ ⟨PT.blind, th_recv hK hP ha0.1 he26 rfl, (th_pre (av := [.ref a0, .int 32]) trivial hK hP hok hnd hWT hE)⟩ rfl rfl hl.1 rfl (lv_room (Nat.le_of_ble_eq_true rfl)) dX8_tellWord_59 ⟨Nat.le_of_ble_eq_true rfl, Nat.le_of_ble_eq_true rfl⟩) (fun f27 H locs hr27 hok hP hS => ?_)
    refine lv_aload_n hx hb dX8_tellWord_62 rfl (lv_at hl 0 rfl) ?_
    refine lv_aload_n hx hb dX8_tellWord_63 rfl (lv_at hl 1 rfl) ?_
    refine lv_iload_n hx hb dX8_tellWord_64 rfl (lv_at hl 2 rfl) ?_
    obtain ⟨y2_28, y3_28, hy3_28, he28⟩ := ok_X10 hok ha1
    refine vp_callSi (va_Run.run (va_runV (As := [.int w2_18]) (rest := [.ref a0]) ⟨hx, hb, hml, hown, noTs⟩ (t_X10_stepAt l dC dI H.size G cs tt mm a1 ha1 w2_18) ⟨cbE 1 (wd_721 hE) (wd_120 hE) (wd_1334 hE) rfl rfl (by decide +kernel) ⟨Nat.le_of_ble_eq_true rfl, Nat.le_of_ble_eq_true rfl⟩, (wd_719 hE), (wd_720 hE)⟩ ⟨PT.blind, th_recv hK hP ha1.1 he28 rfl, (th_pre (av := [.ref a1, .int w2_18]) trivial hK hP hok hnd hWT hE)⟩ rfl rfl hl.1 rfl (lv_room (Nat.le_of_ble_eq_true rfl)) dX8_tellWord_65 ⟨Nat.le_of_ble_eq_true rfl, Nat.le_of_ble_eq_true rfl⟩)) (fun r29 hr29 => ?_)
    refine vp_callSi (va_Run.run (va_runSN (As := [.int r29]) (rest := [.ref a0]) ⟨hx, hb, hml, hown, noTs⟩ (t_X11_isBackwards l dC dI H.size G cs tt mm r29) ⟨cnE 1 (wd_680 hE) (wd_115 hE) (wd_1335 hE) rfl rfl (by decide +kernel) ⟨Nat.le_of_ble_eq_true rfl, Nat.le_of_ble_eq_true rfl⟩, (wd_679 hE), trivial⟩ ⟨PT.blind, (th_pre (av := [.int r29]) trivial hK hP hok hnd hWT hE)⟩ rfl rfl hl.1 rfl (lv_room (Nat.le_of_ble_eq_true rfl)) dX8_tellWord_68 ⟨Nat.le_of_ble_eq_true rfl, Nat.le_of_ble_eq_true rfl⟩)) (fun r30 hr30 => ?_)
    refine lv_if_eq (tgt := 79) hx hb dX8_tellWord_71 (by decide) (fun c31 => ?_) (fun c31 => ?_)
    · refine lv_bipush (v := 62) hx hb dX8_tellWord_79 (by decide) ?_
      obtain ⟨y1_32, he32⟩ := ok_X8 hok ha0
      refine tc_v hAL hS hA (va_runV (As := [.int 62]) (rest := []) ⟨hx, hb, hml, hown, noTs⟩ (t_X8_put l dC dI H.size G cs tt mm a0 ha0 62) ⟨cbE 1 (wd_1324 hE) (wd_121 hE) (wd_1321 hE) rfl rfl (by decide +kernel) ⟨Nat.le_of_ble_eq_true rfl, Nat.le_of_ble_eq_true rfl⟩, (wd_1323 hE), (wd_50 hE)⟩ ⟨PT.blind, th_recv hK hP ha0.1 he32 rfl, (th_pre (av := [.ref a0, .int 62]) trivial hK hP hok hnd hWT hE)⟩ rfl rfl hl.1 rfl (lv_room (Nat.le_of_ble_eq_true rfl)) dX8_tellWord_81 ⟨Nat.le_of_ble_eq_true rfl, Nat.le_of_ble_eq_true rfl⟩) (fun f33 H locs hr33 hok hP hS => ?_)
      refine lv_aload_n hx hb dX8_tellWord_84 rfl (lv_at hl 0 rfl) ?_
      refine lv_aload_n hx hb dX8_tellWord_85 rfl (lv_at hl 1 rfl) ?_
      refine lv_iload_n hx hb dX8_tellWord_86 rfl (lv_at hl 2 rfl) ?_
      obtain ⟨y2_34, y3_34, hy3_34, he34⟩ := ok_X10 hok ha1
      refine vp_callSi (va_Run.run (va_runV (As := [.int w2_18]) (rest := [.ref a0]) ⟨hx, hb, hml, hown, noTs⟩ (t_X10_stepAt l dC dI H.size G cs tt mm a1 ha1 w2_18) ⟨cbE 1 (wd_721 hE) (wd_120 hE) (wd_1334 hE) rfl rfl (by decide +kernel) ⟨Nat.le_of_ble_eq_true rfl, Nat.le_of_ble_eq_true rfl⟩, (wd_719 hE), (wd_720 hE)⟩ ⟨PT.blind, th_recv hK hP ha1.1 he34 rfl, (th_pre (av := [.ref a1, .int w2_18]) trivial hK hP hok hnd hWT hE)⟩ rfl rfl hl.1 rfl (lv_room (Nat.le_of_ble_eq_true rfl)) dX8_tellWord_87 ⟨Nat.le_of_ble_eq_true rfl, Nat.le_of_ble_eq_true rfl⟩)) (fun r35 hr35 => ?_)
      refine lv_iconst (v := 1) hx hb dX8_tellWord_90 (by decide) ?_
      refine lv_ishr hx hb dX8_tellWord_91 ?_
      refine lv_topi (fun x36 _ => ?_)
      obtain ⟨y1_37, he37⟩ := ok_X8 hok ha0
      refine tc_v hAL hS hA (va_runV (As := [.int x36]) (rest := []) ⟨hx, hb, hml, hown, noTs⟩ (t_X8_putNumber l dC dI H.size G cs tt mm a0 ha0 x36) ⟨cbE 1 (wd_1329 hE) (wd_121 hE) (wd_1326 hE) rfl rfl (by decide +kernel) ⟨Nat.le_of_ble_eq_true rfl, Nat.le_of_ble_eq_true rfl⟩, (wd_1328 hE), (wd_51 hE)⟩ ⟨PT.blind, th_recv hK hP ha0.1 he37 rfl, (th_pre (av := [.ref a0, .int x36]) trivial hK hP hok hnd hWT hE)⟩ rfl rfl hl.1 rfl (lv_room (Nat.le_of_ble_eq_true rfl)) dX8_tellWord_92 ⟨Nat.le_of_ble_eq_true rfl, Nat.le_of_ble_eq_true rfl⟩) (fun f38 H locs hr38 hok hP hS => ?_)
      refine lv_aload_n hx hb dX8_tellWord_95 rfl (lv_at hl 0 rfl) ?_
      refine lv_aload_n hx hb dX8_tellWord_96 rfl (lv_at hl 1 rfl) ?_
      refine lv_iload_n hx hb dX8_tellWord_97 rfl (lv_at hl 2 rfl) ?_
      refine lv_iconst (v := 1) hx hb dX8_tellWord_98 (by decide) ?_
      obtain ⟨j39, hj39, rfl⟩ : ∃ j : Nat, j ≤ 71 ∧ w2_18 = nI j := i_nat (by first | omega | (simp only [i_lt, i_le, i_eq, ti_m9, ti_m1, ti_0, ti_1, ti_2, ti_3, ti_4, ti_5, ti_6, ti_7, ti_9, ti_12, ti_20, ti_99, ti_700, ti_24, ti_156, ti_72, ti_8, ti_60, ti_543, ti_10, ti_33, ti_51, ti_178, ti_119, ti_111, ti_114, ti_100, ti_32, ti_62, ti_59, ti_48, ti_701, ti_97, ti_122, ti_57, ti_73, ti_128, ti_61, nt21] at hlo18 c22 c31 ⊢; omega)) (by first | omega | (simp only [i_lt, i_le, i_eq, ti_m9, ti_m1, ti_0, ti_1, ti_2, ti_3, ti_4, ti_5, ti_6, ti_7, ti_9, ti_12, ti_20, ti_99, ti_700, ti_24, ti_156, ti_72, ti_8, ti_60, ti_543, ti_10, ti_33, ti_51, ti_178, ti_119, ti_111, ti_114, ti_100, ti_32, ti_62, ti_59, ti_48, ti_701, ti_97, ti_122, ti_57, ti_73, ti_128, ti_61, nt21] at hlo18 c22 c31 ⊢; omega))
      have nt40 : (nI j39).toInt = ((j39 : Nat) : Int) := nI_toInt (by omega)
      refine lv_iadd hx hb dX8_tellWord_99 ?_
      refine W.eq (g2 := F0 m 100 ls [.int (nI (j39 + 1)), .ref a1, .ref a0]) (congrArg (fun z : Int32 => F0 m 100 ls (.int z :: [.ref a1, .ref a0])) (nI_add j39 1)) ?_
      obtain ⟨y2_41, y3_41, hy3_41, he41⟩ := ok_X10 hok ha1
      refine vp_callSi (va_Run.run (va_runV (As := [.int (nI (j39 + 1))]) (rest := [.ref a0]) ⟨hx, hb, hml, hown, noTs⟩ (t_X10_numberAt l dC dI H.size G cs tt mm a1 ha1 (nI (j39 + 1))) ⟨cbE 1 (wd_717 hE) (wd_120 hE) (wd_1332 hE) rfl rfl (by decide +kernel) ⟨Nat.le_of_ble_eq_true rfl, Nat.le_of_ble_eq_true rfl⟩, (wd_715 hE), (wd_716 hE)⟩ ⟨PT.blind, th_recv hK hP ha1.1 he41 rfl, (th_pre (av := [.ref a1, .int (nI (j39 + 1))]) trivial hK hP hok hnd hWT hE)⟩ rfl rfl hl.1 rfl (lv_room (Nat.le_of_ble_eq_true rfl)) dX8_tellWord_100 ⟨Nat.le_of_ble_eq_true rfl, Nat.le_of_ble_eq_true rfl⟩)) (fun r42 hr42 => ?_)
      obtain ⟨y1_43, he43⟩ := ok_X8 hok ha0
      refine tc_v hAL hS hA (va_runV (As := [.int r42]) (rest := []) ⟨hx, hb, hml, hown, noTs⟩ (t_X8_putNumber l dC dI H.size G cs tt mm a0 ha0 r42) ⟨cbE 1 (wd_1329 hE) (wd_121 hE) (wd_1326 hE) rfl rfl (by decide +kernel) ⟨Nat.le_of_ble_eq_true rfl, Nat.le_of_ble_eq_true rfl⟩, (wd_1328 hE), (wd_51 hE)⟩ ⟨PT.blind, th_recv hK hP ha0.1 he43 rfl, (th_pre (av := [.ref a0, .int r42]) trivial hK hP hok hnd hWT hE)⟩ rfl rfl hl.1 rfl (lv_room (Nat.le_of_ble_eq_true rfl)) dX8_tellWord_103 ⟨Nat.le_of_ble_eq_true rfl, Nat.le_of_ble_eq_true rfl⟩) (fun f44 H locs hr44 hok hP hS => ?_)
      obtain ⟨z45, ez45⟩ : ∃ z : Int32, z = (nI j39) + 1 := ⟨_, rfl⟩
      refine lv_iinc (v := z45) (lv' := [(2, .int z45), (0, .ref a0), (1, .ref a1)]) hx hb dX8_tellWord_106 hl (k := 2) rfl (by rw [ez45]; rfl) (by decide) rfl (fun ls hl => ?_)
      have ic45 : z45.toInt = (nI j39).toInt + 1 := by rw [ez45]; exact ic_up (by have := i_rng (nI j39); have := i_rng (nI y3_19); have := i_rng r30; simp only [i_lt, i_le, i_eq, ti_m9, ti_m1, ti_0, ti_1, ti_2, ti_3, ti_4, ti_5, ti_6, ti_7, ti_9, ti_12, ti_20, ti_99, ti_700, ti_24, ti_156, ti_72, ti_8, ti_60, ti_543, ti_10, ti_33, ti_51, ti_178, ti_119, ti_111, ti_114, ti_100, ti_32, ti_62, ti_59, ti_48, ti_701, ti_97, ti_122, ti_57, ti_73, ti_128, ti_61, nt21, nt40] at hlo18 c22 c31 ⊢; omega)
      refine lv_goto (tgt := 48) hx hb dX8_tellWord_109 (by decide) ?_
      exact ih18 _ f44 _ _ _ (by have := i_rng z45; first | omega | (simp only [i_lt, i_le, i_eq, ti_m9, ti_m1, ti_0, ti_1, ti_2, ti_3, ti_4, ti_5, ti_6, ti_7, ti_9, ti_12, ti_20, ti_99, ti_700, ti_24, ti_156, ti_72, ti_8, ti_60, ti_543, ti_10, ti_33, ti_51, ti_178, ti_119, ti_111, ti_114, ti_100, ti_32, ti_62, ti_59, ti_48, ti_701, ti_97, ti_122, ti_57, ti_73, ti_128, ti_61, nt21, nt40, ic45] at hlo18 c22 c31 ic45 ⊢; omega)) ⟨hok, hP, hS, z45, rfl, (by first | omega | (simp only [i_lt, i_le, i_eq, ti_m9, ti_m1, ti_0, ti_1, ti_2, ti_3, ti_4, ti_5, ti_6, ti_7, ti_9, ti_12, ti_20, ti_99, ti_700, ti_24, ti_156, ti_72, ti_8, ti_60, ti_543, ti_10, ti_33, ti_51, ti_178, ti_119, ti_111, ti_114, ti_100, ti_32, ti_62, ti_59, ti_48, ti_701, ti_97, ti_122, ti_57, ti_73, ti_128, ti_61, nt21, nt40, ic45] at hlo18 c22 c31 ⊢; omega)), lv_sub hl [1, 2, 0] rfl⟩
    · refine lv_bipush (v := 60) hx hb dX8_tellWord_74 (by decide) ?_
      refine lv_goto (tgt := 81) hx hb dX8_tellWord_76 (by decide) ?_
      obtain ⟨y1_46, he46⟩ := ok_X8 hok ha0
      refine tc_v hAL hS hA (va_runV (As := [.int 60]) (rest := []) ⟨hx, hb, hml, hown, noTs⟩ (t_X8_put l dC dI H.size G cs tt mm a0 ha0 60) ⟨cbE 1 (wd_1324 hE) (wd_121 hE) (wd_1321 hE) rfl rfl (by decide +kernel) ⟨Nat.le_of_ble_eq_true rfl, Nat.le_of_ble_eq_true rfl⟩, (wd_1323 hE), (wd_50 hE)⟩ ⟨PT.blind, th_recv hK hP ha0.1 he46 rfl, (th_pre (av := [.ref a0, .int 60]) trivial hK hP hok hnd hWT hE)⟩ rfl rfl hl.1 rfl (lv_room (Nat.le_of_ble_eq_true rfl)) dX8_tellWord_81 ⟨Nat.le_of_ble_eq_true rfl, Nat.le_of_ble_eq_true rfl⟩) (fun f47 H locs hr47 hok hP hS => ?_)
      refine lv_aload_n hx hb dX8_tellWord_84 rfl (lv_at hl 0 rfl) ?_
      refine lv_aload_n hx hb dX8_tellWord_85 rfl (lv_at hl 1 rfl) ?_
      refine lv_iload_n hx hb dX8_tellWord_86 rfl (lv_at hl 2 rfl) ?_
      obtain ⟨y2_48, y3_48, hy3_48, he48⟩ := ok_X10 hok ha1
      refine vp_callSi (va_Run.run (va_runV (As := [.int w2_18]) (rest := [.ref a0]) ⟨hx, hb, hml, hown, noTs⟩ (t_X10_stepAt l dC dI H.size G cs tt mm a1 ha1 w2_18) ⟨cbE 1 (wd_721 hE) (wd_120 hE) (wd_1334 hE) rfl rfl (by decide +kernel) ⟨Nat.le_of_ble_eq_true rfl, Nat.le_of_ble_eq_true rfl⟩, (wd_719 hE), (wd_720 hE)⟩ ⟨PT.blind, th_recv hK hP ha1.1 he48 rfl, (th_pre (av := [.ref a1, .int w2_18]) trivial hK hP hok hnd hWT hE)⟩ rfl rfl hl.1 rfl (lv_room (Nat.le_of_ble_eq_true rfl)) dX8_tellWord_87 ⟨Nat.le_of_ble_eq_true rfl, Nat.le_of_ble_eq_true rfl⟩)) (fun r49 hr49 => ?_)
      refine lv_iconst (v := 1) hx hb dX8_tellWord_90 (by decide) ?_
      refine lv_ishr hx hb dX8_tellWord_91 ?_
      refine lv_topi (fun x50 _ => ?_)
      obtain ⟨y1_51, he51⟩ := ok_X8 hok ha0
      refine tc_v hAL hS hA (va_runV (As := [.int x50]) (rest := []) ⟨hx, hb, hml, hown, noTs⟩ (t_X8_putNumber l dC dI H.size G cs tt mm a0 ha0 x50) ⟨cbE 1 (wd_1329 hE) (wd_121 hE) (wd_1326 hE) rfl rfl (by decide +kernel) ⟨Nat.le_of_ble_eq_true rfl, Nat.le_of_ble_eq_true rfl⟩, (wd_1328 hE), (wd_51 hE)⟩ ⟨PT.blind, th_recv hK hP ha0.1 he51 rfl, (th_pre (av := [.ref a0, .int x50]) trivial hK hP hok hnd hWT hE)⟩ rfl rfl hl.1 rfl (lv_room (Nat.le_of_ble_eq_true rfl)) dX8_tellWord_92 ⟨Nat.le_of_ble_eq_true rfl, Nat.le_of_ble_eq_true rfl⟩) (fun f52 H locs hr52 hok hP hS => ?_)
      refine lv_aload_n hx hb dX8_tellWord_95 rfl (lv_at hl 0 rfl) ?_
      refine lv_aload_n hx hb dX8_tellWord_96 rfl (lv_at hl 1 rfl) ?_
      refine lv_iload_n hx hb dX8_tellWord_97 rfl (lv_at hl 2 rfl) ?_
      refine lv_iconst (v := 1) hx hb dX8_tellWord_98 (by decide) ?_
      obtain ⟨j53, hj53, rfl⟩ : ∃ j : Nat, j ≤ 71 ∧ w2_18 = nI j := i_nat (by first | omega | (simp only [i_lt, i_le, i_eq, ti_m9, ti_m1, ti_0, ti_1, ti_2, ti_3, ti_4, ti_5, ti_6, ti_7, ti_9, ti_12, ti_20, ti_99, ti_700, ti_24, ti_156, ti_72, ti_8, ti_60, ti_543, ti_10, ti_33, ti_51, ti_178, ti_119, ti_111, ti_114, ti_100, ti_32, ti_62, ti_59, ti_48, ti_701, ti_97, ti_122, ti_57, ti_73, ti_128, ti_61, nt21] at hlo18 c22 c31 ⊢; omega)) (by first | omega | (simp only [i_lt, i_le, i_eq, ti_m9, ti_m1, ti_0, ti_1, ti_2, ti_3, ti_4, ti_5, ti_6, ti_7, ti_9, ti_12, ti_20, ti_99, ti_700, ti_24, ti_156, ti_72, ti_8, ti_60, ti_543, ti_10, ti_33, ti_51, ti_178, ti_119, ti_111, ti_114, ti_100, ti_32, ti_62, ti_59, ti_48, ti_701, ti_97, ti_122, ti_57, ti_73, ti_128, ti_61, nt21] at hlo18 c22 c31 ⊢; omega))
      have nt54 : (nI j53).toInt = ((j53 : Nat) : Int) := nI_toInt (by omega)
      refine lv_iadd hx hb dX8_tellWord_99 ?_
      refine W.eq (g2 := F0 m 100 ls [.int (nI (j53 + 1)), .ref a1, .ref a0]) (congrArg (fun z : Int32 => F0 m 100 ls (.int z :: [.ref a1, .ref a0])) (nI_add j53 1)) ?_
      obtain ⟨y2_55, y3_55, hy3_55, he55⟩ := ok_X10 hok ha1
      refine vp_callSi (va_Run.run (va_runV (As := [.int (nI (j53 + 1))]) (rest := [.ref a0]) ⟨hx, hb, hml, hown, noTs⟩ (t_X10_numberAt l dC dI H.size G cs tt mm a1 ha1 (nI (j53 + 1))) ⟨cbE 1 (wd_717 hE) (wd_120 hE) (wd_1332 hE) rfl rfl (by decide +kernel) ⟨Nat.le_of_ble_eq_true rfl, Nat.le_of_ble_eq_true rfl⟩, (wd_715 hE), (wd_716 hE)⟩ ⟨PT.blind, th_recv hK hP ha1.1 he55 rfl, (th_pre (av := [.ref a1, .int (nI (j53 + 1))]) trivial hK hP hok hnd hWT hE)⟩ rfl rfl hl.1 rfl (lv_room (Nat.le_of_ble_eq_true rfl)) dX8_tellWord_100 ⟨Nat.le_of_ble_eq_true rfl, Nat.le_of_ble_eq_true rfl⟩)) (fun r56 hr56 => ?_)
      obtain ⟨y1_57, he57⟩ := ok_X8 hok ha0
      refine tc_v hAL hS hA (va_runV (As := [.int r56]) (rest := []) ⟨hx, hb, hml, hown, noTs⟩ (t_X8_putNumber l dC dI H.size G cs tt mm a0 ha0 r56) ⟨cbE 1 (wd_1329 hE) (wd_121 hE) (wd_1326 hE) rfl rfl (by decide +kernel) ⟨Nat.le_of_ble_eq_true rfl, Nat.le_of_ble_eq_true rfl⟩, (wd_1328 hE), (wd_51 hE)⟩ ⟨PT.blind, th_recv hK hP ha0.1 he57 rfl, (th_pre (av := [.ref a0, .int r56]) trivial hK hP hok hnd hWT hE)⟩ rfl rfl hl.1 rfl (lv_room (Nat.le_of_ble_eq_true rfl)) dX8_tellWord_103 ⟨Nat.le_of_ble_eq_true rfl, Nat.le_of_ble_eq_true rfl⟩) (fun f58 H locs hr58 hok hP hS => ?_)
      obtain ⟨z59, ez59⟩ : ∃ z : Int32, z = (nI j53) + 1 := ⟨_, rfl⟩
      refine lv_iinc (v := z59) (lv' := [(2, .int z59), (0, .ref a0), (1, .ref a1)]) hx hb dX8_tellWord_106 hl (k := 2) rfl (by rw [ez59]; rfl) (by decide) rfl (fun ls hl => ?_)
      have ic59 : z59.toInt = (nI j53).toInt + 1 := by rw [ez59]; exact ic_up (by have := i_rng (nI j53); have := i_rng (nI y3_19); have := i_rng r30; simp only [i_lt, i_le, i_eq, ti_m9, ti_m1, ti_0, ti_1, ti_2, ti_3, ti_4, ti_5, ti_6, ti_7, ti_9, ti_12, ti_20, ti_99, ti_700, ti_24, ti_156, ti_72, ti_8, ti_60, ti_543, ti_10, ti_33, ti_51, ti_178, ti_119, ti_111, ti_114, ti_100, ti_32, ti_62, ti_59, ti_48, ti_701, ti_97, ti_122, ti_57, ti_73, ti_128, ti_61, nt21, nt54] at hlo18 c22 c31 ⊢; omega)
      refine lv_goto (tgt := 48) hx hb dX8_tellWord_109 (by decide) ?_
      exact ih18 _ f58 _ _ _ (by have := i_rng z59; first | omega | (simp only [i_lt, i_le, i_eq, ti_m9, ti_m1, ti_0, ti_1, ti_2, ti_3, ti_4, ti_5, ti_6, ti_7, ti_9, ti_12, ti_20, ti_99, ti_700, ti_24, ti_156, ti_72, ti_8, ti_60, ti_543, ti_10, ti_33, ti_51, ti_178, ti_119, ti_111, ti_114, ti_100, ti_32, ti_62, ti_59, ti_48, ti_701, ti_97, ti_122, ti_57, ti_73, ti_128, ti_61, nt21, nt54, ic59] at hlo18 c22 c31 ic59 ⊢; omega)) ⟨hok, hP, hS, z59, rfl, (by first | omega | (simp only [i_lt, i_le, i_eq, ti_m9, ti_m1, ti_0, ti_1, ti_2, ti_3, ti_4, ti_5, ti_6, ti_7, ti_9, ti_12, ti_20, ti_99, ti_700, ti_24, ti_156, ti_72, ti_8, ti_60, ti_543, ti_10, ti_33, ti_51, ti_178, ti_119, ti_111, ti_114, ti_100, ti_32, ti_62, ti_59, ti_48, ti_701, ti_97, ti_122, ti_57, ti_73, ti_128, ti_61, nt21, nt54, ic59] at hlo18 c22 c31 ⊢; omega)), lv_sub hl [1, 2, 0] rfl⟩

set_option maxHeartbeats 4000000 in
set_option maxRecDepth 100000 in
theorem t_X10_sameAs (l : Launch) (dC : Nat → ClassId) (dI : Nat → Nat → Nat) (sz : Nat) (G : GT) (cs : Nat → ClassId) (tt mm : Nat) (a0 : Nat) (ha0 : Ty G a0 10) (a1 : Nat) (ha1 : Ty G a1 10) : Met l yX10_sameAs [.code yX10_sameAs cX10_sameAs 3 (some .boolean)] ({ frames := 2, cells := 0, slots := 0, locals := 80 }) (PT [.ref a0, .ref a1] sz dC dI G cs tt mm (fun _ => True)) (vp_Si (fun (r : Int32) => r = 0 ∨ r = 1)) 0 0 (fun _ => False) := by
  refine Met.ofW (cc := cX10_sameAs) (maxL := 3) (ret := (some .boolean)) (by decide) rfl ?_
  intro p e s m args below meth c s₁ B hml hv
  obtain ⟨rfl, hsz, ⟨f0, hok, hP, hX⟩, hK, hnd, hWT, hE⟩ := hv
  have hx := B.exec
  have hb := B.bytes
  have hr := B.returns
  have hown : s.vm.findClass RX10 = some m.cls := findClass_of_methodNamed B.named
  have hlocks := B.notSynchronized
  subst hsz
  have hl := lv_entry ([.ref a0, .ref a1]) (n := 3) (Nat.le_of_ble_eq_true rfl)
  rw [lg_entry_eq]
  generalize (lg_sl ([.ref a0, .ref a1]) ++ List.replicate (3 - (lg_sl ([.ref a0, .ref a1])).length) Slot.unset).toArray = ls at hl ⊢
  have hl : lv_has ls 3 [(0, .ref a0), (1, .ref a1)] := hl
  refine lv_aload_n hx hb dX10_sameAs_0 rfl (lv_at hl 0 rfl) ?_
  refine lv_aload_n hx hb dX10_sameAs_1 rfl (lv_at hl 1 rfl) ?_
  obtain ⟨y2_1, y3_1, hy3_1, he1⟩ := ok_X10 hok ha0
  refine vp_callSi (va_Run.run (va_runV (As := [.ref a1]) (rest := []) ⟨hx, hb, hml, hown, noTs⟩ (t_X10_sameSteps l dC dI s.heap.size G cs tt mm a0 ha0 a1 ha1) ⟨cbE 1 (wd_881 hE) (wd_120 hE) (wd_878 hE) rfl rfl (by decide +kernel) ⟨Nat.le_of_ble_eq_true rfl, Nat.le_of_ble_eq_true rfl⟩, (wd_879 hE), (wd_880 hE)⟩ ⟨PT.blind, th_recv hK hP ha0.1 he1 rfl, (th_pre (av := [.ref a0, .ref a1]) trivial hK hP hok hnd hWT hE)⟩ rfl rfl hl.1 rfl (lv_room (Nat.le_of_ble_eq_true rfl)) dX10_sameAs_2 ⟨Nat.le_of_ble_eq_true rfl, Nat.le_of_ble_eq_true rfl⟩)) (fun r2 hr2 => ?_)
  refine lv_if_ne (tgt := 10) hx hb dX10_sameAs_5 (by decide) (fun c3 => ?_) (fun c3 => ?_)
  · refine lv_iconst (v := 0) hx hb dX10_sameAs_10 (by decide) ?_
    refine lv_istore_n (lv' := [(2, .int 0), (0, .ref a0), (1, .ref a1)]) hx hb dX10_sameAs_11 rfl hl (by decide) rfl (fun ls hl => ?_)
    refine w_indP (I := fun n ls => ∃ (w2_4 : Int32), n = (2147483647 - w2_4.toInt).toNat ∧ 0 ≤ w2_4 ∧ lv_has ls 3 [(0, .ref a0), (1, .ref a1), (2, .int w2_4)]) (fun n ls hI ih4 => ?_) _ _ ⟨0, rfl, (by first | omega | (simp only [i_lt, i_le, i_eq, ti_m9, ti_m1, ti_0, ti_1, ti_2, ti_3, ti_4, ti_5, ti_6, ti_7, ti_9, ti_12, ti_20, ti_99, ti_700, ti_24, ti_156, ti_72, ti_8, ti_60, ti_543, ti_10, ti_33, ti_51, ti_178, ti_119, ti_111, ti_114, ti_100, ti_32, ti_62, ti_59, ti_48, ti_701, ti_97, ti_122, ti_57, ti_73, ti_128, ti_61] at c3 ⊢; omega)), lv_sub hl [1, 2, 0] rfl⟩
    obtain ⟨w2_4, hmu4, hlo4, hl⟩ := hI
    subst hmu4
    refine lv_iload_n hx hb dX10_sameAs_12 rfl (lv_at hl 2 rfl) ?_
    refine lv_aload_n hx hb dX10_sameAs_13 rfl (lv_at hl 0 rfl) ?_
    refine th_get hx hb (ly_X10 hE) hown hK hP ha0.1 he1 rfl 3 (by decide) (wd_217 hE) (fun _ h9 => h9) rfl dX10_sameAs_14 ?_
    have nt5 : (nI y3_1).toInt = ((y3_1 : Nat) : Int) := nI_toInt (by omega)
    refine lv_icmp_gt (tgt := 41) hx hb dX10_sameAs_17 (by decide) (fun c6 => ?_) (fun c6 => ?_)
    · refine lv_iconst (v := 1) hx hb dX10_sameAs_41 (by decide) ?_
      exact W.zret (v := 1) hx hb hr rfl (fun t ht hW => ⟨1, rfl, Or.inr rfl, ht⟩) (fun _ h => absurd h List.not_mem_nil) dX10_sameAs_42
    · refine lv_aload_n hx hb dX10_sameAs_20 rfl (lv_at hl 0 rfl) ?_
      refine lv_iload_n hx hb dX10_sameAs_21 rfl (lv_at hl 2 rfl) ?_
      refine vp_callSi (va_Run.run (va_runV (As := [.int w2_4]) (rest := []) ⟨hx, hb, hml, hown, noTs⟩ (t_X10_numberAt l dC dI s.heap.size G cs tt mm a0 ha0 w2_4) ⟨cbE 1 (wd_717 hE) (wd_120 hE) (wd_883 hE) rfl rfl (by decide +kernel) ⟨Nat.le_of_ble_eq_true rfl, Nat.le_of_ble_eq_true rfl⟩, (wd_715 hE), (wd_716 hE)⟩ ⟨PT.blind, th_recv hK hP ha0.1 he1 rfl, (th_pre (av := [.ref a0, .int w2_4]) trivial hK hP hok hnd hWT hE)⟩ rfl rfl hl.1 rfl (lv_room (Nat.le_of_ble_eq_true rfl)) dX10_sameAs_22 ⟨Nat.le_of_ble_eq_true rfl, Nat.le_of_ble_eq_true rfl⟩)) (fun r7 hr7 => ?_)
      refine lv_aload_n hx hb dX10_sameAs_25 rfl (lv_at hl 1 rfl) ?_
      refine lv_iload_n hx hb dX10_sameAs_26 rfl (lv_at hl 2 rfl) ?_
      obtain ⟨y2_8, y3_8, hy3_8, he8⟩ := ok_X10 hok ha1
      refine vp_callSi (va_Run.run (va_runV (As := [.int w2_4]) (rest := [.int r7]) ⟨hx, hb, hml, hown, noTs⟩ (t_X10_numberAt l dC dI s.heap.size G cs tt mm a1 ha1 w2_4) ⟨cbE 1 (wd_717 hE) (wd_120 hE) (wd_883 hE) rfl rfl (by decide +kernel) ⟨Nat.le_of_ble_eq_true rfl, Nat.le_of_ble_eq_true rfl⟩, (wd_715 hE), (wd_716 hE)⟩ ⟨PT.blind, th_recv hK hP ha1.1 he8 rfl, (th_pre (av := [.ref a1, .int w2_4]) trivial hK hP hok hnd hWT hE)⟩ rfl rfl hl.1 rfl (lv_room (Nat.le_of_ble_eq_true rfl)) dX10_sameAs_27 ⟨Nat.le_of_ble_eq_true rfl, Nat.le_of_ble_eq_true rfl⟩)) (fun r9 hr9 => ?_)
      refine lv_icmp_eq (tgt := 35) hx hb dX10_sameAs_30 (by decide) (fun c10 => ?_) (fun c10 => ?_)
      · obtain ⟨z11, ez11⟩ : ∃ z : Int32, z = w2_4 + 1 := ⟨_, rfl⟩
        refine lv_iinc (v := z11) (lv' := [(2, .int z11), (0, .ref a0), (1, .ref a1)]) hx hb dX10_sameAs_35 hl (k := 2) rfl (by rw [ez11]; rfl) (by decide) rfl (fun ls hl => ?_)
        have ic11 : z11.toInt = w2_4.toInt + 1 := by rw [ez11]; exact ic_up (by have := i_rng r2; have := i_rng w2_4; have := i_rng (nI y3_1); have := i_rng r7; have := i_rng r9; simp only [i_lt, i_le, i_eq, ti_m9, ti_m1, ti_0, ti_1, ti_2, ti_3, ti_4, ti_5, ti_6, ti_7, ti_9, ti_12, ti_20, ti_99, ti_700, ti_24, ti_156, ti_72, ti_8, ti_60, ti_543, ti_10, ti_33, ti_51, ti_178, ti_119, ti_111, ti_114, ti_100, ti_32, ti_62, ti_59, ti_48, ti_701, ti_97, ti_122, ti_57, ti_73, ti_128, ti_61, nt5] at c3 hlo4 c6 c10 ⊢; omega)
        refine lv_goto (tgt := 12) hx hb dX10_sameAs_38 (by decide) ?_
        exact ih4 _ _ (by have := i_rng z11; first | omega | (simp only [i_lt, i_le, i_eq, ti_m9, ti_m1, ti_0, ti_1, ti_2, ti_3, ti_4, ti_5, ti_6, ti_7, ti_9, ti_12, ti_20, ti_99, ti_700, ti_24, ti_156, ti_72, ti_8, ti_60, ti_543, ti_10, ti_33, ti_51, ti_178, ti_119, ti_111, ti_114, ti_100, ti_32, ti_62, ti_59, ti_48, ti_701, ti_97, ti_122, ti_57, ti_73, ti_128, ti_61, nt5, ic11] at c3 hlo4 c6 c10 ic11 ⊢; omega)) ⟨z11, rfl, (by first | omega | (simp only [i_lt, i_le, i_eq, ti_m9, ti_m1, ti_0, ti_1, ti_2, ti_3, ti_4, ti_5, ti_6, ti_7, ti_9, ti_12, ti_20, ti_99, ti_700, ti_24, ti_156, ti_72, ti_8, ti_60, ti_543, ti_10, ti_33, ti_51, ti_178, ti_119, ti_111, ti_114, ti_100, ti_32, ti_62, ti_59, ti_48, ti_701, ti_97, ti_122, ti_57, ti_73, ti_128, ti_61, nt5, ic11] at c3 hlo4 c6 c10 ⊢; omega)), lv_sub hl [1, 2, 0] rfl⟩
      · refine lv_iconst (v := 0) hx hb dX10_sameAs_33 (by decide) ?_
        exact W.zret (v := 0) hx hb hr rfl (fun t ht hW => ⟨0, rfl, Or.inl rfl, ht⟩) (fun _ h => absurd h List.not_mem_nil) dX10_sameAs_34
  · refine lv_iconst (v := 0) hx hb dX10_sameAs_8 (by decide) ?_
    exact W.zret (v := 0) hx hb hr rfl (fun t ht hW => ⟨0, rfl, Or.inl rfl, ht⟩) (fun _ h => absurd h List.not_mem_nil) dX10_sameAs_9

set_option maxHeartbeats 4000000 in
set_option maxRecDepth 100000 in
theorem t_X11_status (l : Launch) (dC : Nat → ClassId) (dI : Nat → Nat → Nat) (sz : Nat) (G : GT) (cs : Nat → ClassId) (tt mm : Nat) (a0 : Nat) (ha0 : Ty G a0 11) : Met l yX11_status [.code yX11_status cX11_status 1 (some .int)] ({ frames := 0, cells := 0, slots := 0, locals := 0 }) (PT [.ref a0] sz dC dI G cs tt mm (fun _ => True)) (vp_Si (fun (r : Int32) => True)) 0 0 (fun _ => False) := by
  refine Met.ofW (cc := cX11_status) (maxL := 1) (ret := (some .int)) (by decide) rfl ?_
  intro p e s m args below meth c s₁ B hml hv
  obtain ⟨rfl, hsz, ⟨f0, hok, hP, hX⟩, hK, hnd, hWT, hE⟩ := hv
  have hx := B.exec
  have hb := B.bytes
  have hr := B.returns
  have hown : s.vm.findClass RX11 = some m.cls := findClass_of_methodNamed B.named
  have hlocks := B.notSynchronized
  subst hsz
  have hl := lv_entry ([.ref a0]) (n := 1) (Nat.le_of_ble_eq_true rfl)
  rw [lg_entry_eq]
  generalize (lg_sl ([.ref a0]) ++ List.replicate (1 - (lg_sl ([.ref a0])).length) Slot.unset).toArray = ls at hl ⊢
  have hl : lv_has ls 1 [(0, .ref a0)] := hl
  refine lv_aload_n hx hb dX11_status_0 rfl (lv_at hl 0 rfl) ?_
  obtain ⟨y5_1, hy4_1, hy7_1, he1⟩ := ok_X11 hok ha0
  refine th_get hx hb (ly_X11 hE) hown hK hP ha0.1 he1 rfl 5 (by decide) (wd_364 hE) (fun _ h9 => h9) rfl dX11_status_1 ?_
  exact W.iret (v := y5_1) hx hb hr (fun t ht hW => ⟨y5_1, rfl, trivial, ht⟩) (fun _ h => absurd h List.not_mem_nil) dX11_status_4

set_option maxHeartbeats 4000000 in
set_option maxRecDepth 100000 in
theorem t_X11_feed_no (l : Launch) (dC : Nat → ClassId) (dI : Nat → Nat → Nat) (sz : Nat) (G : GT) (cs : Nat → ClassId) (tt mm : Nat) (a0 : Nat) (ha0 : Ty G a0 11) (v1 : Int32) (v2 : Int32) (v3 : Int32) (v4 : Int32) (v5 : Int32) (htt : 700 < tt + 20) : Met l yX11_feed [.code yX11_feed cX11_feed 6 (some .int)] ({ frames := 0, cells := 0, slots := 0, locals := 0 }) (PT [.ref a0, .int v1, .int v2, .int v3, .int v4, .int v5] sz dC dI G cs tt mm (fun _ => True)) (va_Qi (fun (r : Int32) (u : Nat → va_E) => r = -1) (BT dC dI G cs tt mm) (AT G sz)) 0 0 (AT G sz) := by
  refine Met.ofW (cc := cX11_feed) (maxL := 6) (ret := (some .int)) (by decide) rfl ?_
  intro p e s m args below meth c s₁ B hml hv
  obtain ⟨rfl, hsz, ⟨f0, hok, hP, hX⟩, hK, hnd, hWT, hE⟩ := hv
  have hx := B.exec
  have hb := B.bytes
  have hr := B.returns
  have hown : s.vm.findClass RX11 = some m.cls := findClass_of_methodNamed B.named
  have hlocks := B.notSynchronized
  subst hsz
  have hAL : ∀ a, a ∈ gL G → AT G s.heap.size a := fun a h => Or.inl h
  have hA : ∀ q : Nat, s.heap.size ≤ q → AT G s.heap.size q := fun q h => Or.inr h
  have hS : va_S (AT G s.heap.size) s.heap s.heap [] := va_S.rf
  have hl := lv_entry ([.ref a0, .int v1, .int v2, .int v3, .int v4, .int v5]) (n := 6) (Nat.le_of_ble_eq_true rfl)
  rw [lg_entry_eq]
  generalize (lg_sl ([.ref a0, .int v1, .int v2, .int v3, .int v4, .int v5]) ++ List.replicate (6 - (lg_sl ([.ref a0, .int v1, .int v2, .int v3, .int v4, .int v5])).length) Slot.unset).toArray = ls at hl ⊢
  have hl : lv_has ls 6 [(0, .ref a0), (1, .int v1), (2, .int v2), (3, .int v3), (4, .int v4), (5, .int v5)] := hl
  refine lv_aload_n hx hb dX11_feed_0 rfl (lv_at hl 0 rfl) ?_
  obtain ⟨y5_1, hy4_1, hy7_1, he1⟩ := ok_X11 hok ha0
  refine th_get hx hb (ly_X11 hE) hown hK hP ha0.1 he1 rfl 7 (by decide) (wd_366 hE) (fun _ h9 => h9) rfl dX11_feed_1 ?_
  refine lv_bipush (v := 20) hx hb dX11_feed_4 (by decide) ?_
  refine lv_iadd hx hb dX11_feed_6 ?_
  refine W.eq (g2 := F0 m 7 ls [.int (nI (tt + 20))]) (congrArg (fun z : Int32 => F0 m 7 ls (.int z :: [])) (nI_add tt 20)) ?_
  refine lv_sipush (v := 700) hx hb dX11_feed_7 (by decide) ?_
  have nt2 : (nI (tt + 20)).toInt = ((tt + 20 : Nat) : Int) := nI_toInt (by omega)
  refine lv_icmp_le (tgt := 15) hx hb dX11_feed_10 (by decide) (fun c3 => False.elim (by simp only [i_lt, i_le, i_eq, ti_m9, ti_m1, ti_0, ti_1, ti_2, ti_3, ti_4, ti_5, ti_6, ti_7, ti_9, ti_12, ti_20, ti_99, ti_700, ti_24, ti_156, ti_72, ti_8, ti_60, ti_543, ti_10, ti_33, ti_51, ti_178, ti_119, ti_111, ti_114, ti_100, ti_32, ti_62, ti_59, ti_48, ti_701, ti_97, ti_122, ti_57, ti_73, ti_128, ti_61, nt2] at c3; omega)) (fun c3 => ?_)
  refine lv_iconst (v := -1) hx hb dX11_feed_13 (by decide) ?_
  exact W.iret (v := -1) hx hb hr (fun t ht hW => ⟨⟨-1, f0, rfl, rfl, hok, by rw [ht]; exact hP⟩, hS.F ht⟩) hS.2.2 dX11_feed_14

set_option maxHeartbeats 4000000 in
set_option maxRecDepth 100000 in
theorem t_X11_fail (l : Launch) (dC : Nat → ClassId) (dI : Nat → Nat → Nat) (sz : Nat) (G : GT) (cs : Nat → ClassId) (tt mm : Nat) (a0 : Nat) (ha0 : Ty G a0 11) (v1 : Int32) : Met l yX11_fail [.code yX11_fail cX11_fail 2 (some .int)] ({ frames := 0, cells := 0, slots := 0, locals := 0 }) (PT [.ref a0, .int v1] sz dC dI G cs tt mm (fun _ => True)) (va_Qi (fun (r : Int32) (u : Nat → va_E) => r = -1) (BT dC dI G cs tt mm) (AT G sz)) 0 0 (AT G sz) := by
  refine Met.ofW (cc := cX11_fail) (maxL := 2) (ret := (some .int)) (by decide) rfl ?_
  intro p e s m args below meth c s₁ B hml hv
  obtain ⟨rfl, hsz, ⟨f0, hok, hP, hX⟩, hK, hnd, hWT, hE⟩ := hv
  have hx := B.exec
  have hb := B.bytes
  have hr := B.returns
  have hown : s.vm.findClass RX11 = some m.cls := findClass_of_methodNamed B.named
  have hlocks := B.notSynchronized
  subst hsz
  have hAL : ∀ a, a ∈ gL G → AT G s.heap.size a := fun a h => Or.inl h
  have hA : ∀ q : Nat, s.heap.size ≤ q → AT G s.heap.size q := fun q h => Or.inr h
  have hS : va_S (AT G s.heap.size) s.heap s.heap [] := va_S.rf
  have hl := lv_entry ([.ref a0, .int v1]) (n := 2) (Nat.le_of_ble_eq_true rfl)
  rw [lg_entry_eq]
  generalize (lg_sl ([.ref a0, .int v1]) ++ List.replicate (2 - (lg_sl ([.ref a0, .int v1])).length) Slot.unset).toArray = ls at hl ⊢
  have hl : lv_has ls 2 [(0, .ref a0), (1, .int v1)] := hl
  refine lv_aload_n hx hb dX11_fail_0 rfl (lv_at hl 0 rfl) ?_
  refine lv_iload_n hx hb dX11_fail_1 rfl (lv_at hl 1 rfl) ?_
  obtain ⟨y5_1, hy4_1, hy7_1, he1⟩ := ok_X11 hok ha0
  refine th_put (v := .int v1) (ty := .int) hx hb (ly_X11 hE) tyX11 tyX11_ok nmX11 hown hK hP hnd hAL hS ha0.1 he1 rfl 5 (by decide) (wd_364 hE) (fun _ h9 => h9) rfl (by decide +kernel) rfl rfl (Nat.le_of_ble_eq_true rfl) (up_X11 hok ha0 ⟨v1, (by omega), (by omega), rfl⟩) dX11_fail_2 (fun f2 H locs hfa2 hfo2 hok hP hS => ?_)
  refine lv_iconst (v := -1) hx hb dX11_fail_5 (by decide) ?_
  exact W.iret (v := -1) hx hb hr (fun t ht hW => ⟨⟨-1, f2, rfl, rfl, hok, by rw [ht]; exact hP⟩, hS.F ht⟩) hS.2.2 dX11_fail_6

set_option maxHeartbeats 4000000 in
set_option maxRecDepth 100000 in
theorem t_X11_answer (l : Launch) (dC : Nat → ClassId) (dI : Nat → Nat → Nat) (sz : Nat) (G : GT) (cs : Nat → ClassId) (tt mm : Nat) (a0 : Nat) (ha0 : Ty G a0 11) (v1 : Int32) : Met l yX11_answer [.code yX11_answer cX11_answer 2 (some .int)] ({ frames := 0, cells := 0, slots := 0, locals := 0 }) (PT [.ref a0, .int v1] sz dC dI G cs tt mm (fun _ => True)) (va_Qi (fun (r : Int32) (u : Nat → va_E) => r = v1) (BT dC dI G cs tt mm) (AT G sz)) 0 0 (AT G sz) := by
  refine Met.ofW (cc := cX11_answer) (maxL := 2) (ret := (some .int)) (by decide) rfl ?_
  intro p e s m args below meth c s₁ B hml hv
  obtain ⟨rfl, hsz, ⟨f0, hok, hP, hX⟩, hK, hnd, hWT, hE⟩ := hv
  have hx := B.exec
  have hb := B.bytes
  have hr := B.returns
  have hown : s.vm.findClass RX11 = some m.cls := findClass_of_methodNamed B.named
  have hlocks := B.notSynchronized
  subst hsz
  have hAL : ∀ a, a ∈ gL G → AT G s.heap.size a := fun a h => Or.inl h
  have hA : ∀ q : Nat, s.heap.size ≤ q → AT G s.heap.size q := fun q h => Or.inr h
  have hS : va_S (AT G s.heap.size) s.heap s.heap [] := va_S.rf
  have hl := lv_entry ([.ref a0, .int v1]) (n := 2) (Nat.le_of_ble_eq_true rfl)
  rw [lg_entry_eq]
  generalize (lg_sl ([.ref a0, .int v1]) ++ List.replicate (2 - (lg_sl ([.ref a0, .int v1])).length) Slot.unset).toArray = ls at hl ⊢
  have hl : lv_has ls 2 [(0, .ref a0), (1, .int v1)] := hl
  refine lv_aload_n hx hb dX11_answer_0 rfl (lv_at hl 0 rfl) ?_
  refine lv_iconst (v := 0) hx hb dX11_answer_1 (by decide) ?_
  obtain ⟨y5_1, hy4_1, hy7_1, he1⟩ := ok_X11 hok ha0
  refine th_put (v := .int 0) (ty := .int) hx hb (ly_X11 hE) tyX11 tyX11_ok nmX11 hown hK hP hnd hAL hS ha0.1 he1 rfl 5 (by decide) (wd_364 hE) (fun _ h9 => h9) rfl (by decide +kernel) rfl rfl (Nat.le_of_ble_eq_true rfl) (up_X11 hok ha0 ⟨0, (by omega), (by omega), rfl⟩) dX11_answer_2 (fun f2 H locs hfa2 hfo2 hok hP hS => ?_)
  refine lv_iload_n hx hb dX11_answer_5 rfl (lv_at hl 1 rfl) ?_
  exact W.iret (v := v1) hx hb hr (fun t ht hW => ⟨⟨v1, f2, rfl, rfl, hok, by rw [ht]; exact hP⟩, hS.F ht⟩) hS.2.2 dX11_answer_6

set_option maxHeartbeats 4000000 in
set_option maxRecDepth 100000 in
theorem t_X11_many (l : Launch) (dC : Nat → ClassId) (dI : Nat → Nat → Nat) (sz : Nat) (G : GT) (cs : Nat → ClassId) (tt mm : Nat) (a0 : Nat) (ha0 : Ty G a0 11) (v1 : Int32) : Met l yX11_many [.code yX11_many cX11_many 2 (some .int)] ({ frames := 4, cells := 0, slots := 0, locals := 160 }) (PT [.ref a0, .int v1] sz dC dI G cs tt mm (fun _ => True)) (va_Qi (fun (r : Int32) (u : Nat → va_E) => True) (BT dC dI G cs tt mm) (AT G sz)) 0 0 (AT G sz) := by
  refine Met.ofW (cc := cX11_many) (maxL := 2) (ret := (some .int)) (by decide) rfl ?_
  intro p e s m args below meth c s₁ B hml hv
  obtain ⟨rfl, hsz, ⟨f0, hok, hP, hX⟩, hK, hnd, hWT, hE⟩ := hv
  have hx := B.exec
  have hb := B.bytes
  have hr := B.returns
  have hown : s.vm.findClass RX11 = some m.cls := findClass_of_methodNamed B.named
  have hlocks := B.notSynchronized
  subst hsz
  have hAL : ∀ a, a ∈ gL G → AT G s.heap.size a := fun a h => Or.inl h
  have hA : ∀ q : Nat, s.heap.size ≤ q → AT G s.heap.size q := fun q h => Or.inr h
  have hS : va_S (AT G s.heap.size) s.heap s.heap [] := va_S.rf
  have hl := lv_entry ([.ref a0, .int v1]) (n := 2) (Nat.le_of_ble_eq_true rfl)
  rw [lg_entry_eq]
  generalize (lg_sl ([.ref a0, .int v1]) ++ List.replicate (2 - (lg_sl ([.ref a0, .int v1])).length) Slot.unset).toArray = ls at hl ⊢
  have hl : lv_has ls 2 [(0, .ref a0), (1, .int v1)] := hl
  refine lv_iload_n hx hb dX11_many_0 rfl (lv_at hl 1 rfl) ?_
  by_cases t1 : v1 = 0
  · refine lv_tableIn (tgt := 44) hx hb dX11_many_1 (by rw [t1]; decide) (by rw [t1]; decide) (by rw [t1]; rfl) (by decide) ?_
    refine lv_aload_n hx hb dX11_many_44 rfl (lv_at hl 0 rfl) ?_
    refine lv_aload_n hx hb dX11_many_45 rfl (lv_at hl 0 rfl) ?_
    obtain ⟨y5_2, hy4_2, hy7_2, he2⟩ := ok_X11 hok ha0
    refine th_get hx hb (ly_X11 hE) hown hK hP ha0.1 he2 rfl 0 (by decide) (wd_359 hE) (fun _ h9 => h9) rfl dX11_many_46 ?_
    have he3 := ok_X7 hok (wt_X11_0 hWT ha0)
    refine vp_callSi (va_Run.run (va_runV (As := []) (rest := [.ref a0]) ⟨hx, hb, hml, hown, noTs⟩ (t_X7_vertices l dC dI s.heap.size G cs tt mm (gR G a0 0) ((wt_X11_0 hWT ha0))) ⟨cbE 0 (wd_557 hE) (wd_116 hE) (wd_761 hE) rfl rfl (by decide +kernel) ⟨Nat.le_of_ble_eq_true rfl, Nat.le_of_ble_eq_true rfl⟩, (wd_555 hE), (wd_556 hE)⟩ ⟨PT.blind, th_recv hK hP (wt_X11_0 hWT ha0).1 he3 rfl, (th_pre (av := [.ref (gR G a0 0)]) trivial hK hP hok hnd hWT hE)⟩ rfl rfl hl.1 rfl (lv_room (Nat.le_of_ble_eq_true rfl)) dX11_many_49 ⟨Nat.le_of_ble_eq_true rfl, Nat.le_of_ble_eq_true rfl⟩)) (fun r4 hr4 => ?_)
    refine tc_i hAL hS hA (va_runV (As := [.int r4]) (rest := []) ⟨hx, hb, hml, hown, noTs⟩ (t_X11_answer l dC dI s.heap.size G cs tt mm a0 ha0 r4) ⟨cbE 1 (wd_748 hE) (wd_115 hE) (wd_745 hE) rfl rfl (by decide +kernel) ⟨Nat.le_of_ble_eq_true rfl, Nat.le_of_ble_eq_true rfl⟩, (wd_747 hE), (wd_23 hE)⟩ ⟨PT.blind, th_recv hK hP ha0.1 he2 rfl, (th_pre (av := [.ref a0, .int r4]) trivial hK hP hok hnd hWT hE)⟩ rfl rfl hl.1 rfl (lv_room (Nat.le_of_ble_eq_true rfl)) dX11_many_52 ⟨Nat.le_of_ble_eq_true rfl, Nat.le_of_ble_eq_true rfl⟩) (fun r5 f5 H locs hr5 hok hP hS => ?_)
    refine W.eq (g2 := F0 m 55 ls [.int r4]) (by rw [hr5]) ?_
    exact W.iret (v := r4) hx hb hr (fun t ht hW => ⟨⟨r4, f5, rfl, trivial, hok, by rw [ht]; exact hP⟩, hS.F ht⟩) hS.2.2 dX11_many_55
  by_cases t6 : v1 = 1
  · refine lv_tableIn (tgt := 56) hx hb dX11_many_1 (by rw [t6]; decide) (by rw [t6]; decide) (by rw [t6]; rfl) (by decide) ?_
    refine lv_aload_n hx hb dX11_many_56 rfl (lv_at hl 0 rfl) ?_
    refine lv_aload_n hx hb dX11_many_57 rfl (lv_at hl 0 rfl) ?_
    obtain ⟨y5_7, hy4_7, hy7_7, he7⟩ := ok_X11 hok ha0
    refine th_get hx hb (ly_X11 hE) hown hK hP ha0.1 he7 rfl 0 (by decide) (wd_359 hE) (fun _ h9 => h9) rfl dX11_many_58 ?_
    have he8 := ok_X7 hok (wt_X11_0 hWT ha0)
    refine vp_callSi (va_Run.run (va_runV (As := []) (rest := [.ref a0]) ⟨hx, hb, hml, hown, noTs⟩ (t_X7_edges l dC dI s.heap.size G cs tt mm (gR G a0 0) ((wt_X11_0 hWT ha0))) ⟨cbE 0 (wd_598 hE) (wd_116 hE) (wd_762 hE) rfl rfl (by decide +kernel) ⟨Nat.le_of_ble_eq_true rfl, Nat.le_of_ble_eq_true rfl⟩, (wd_596 hE), (wd_597 hE)⟩ ⟨PT.blind, th_recv hK hP (wt_X11_0 hWT ha0).1 he8 rfl, (th_pre (av := [.ref (gR G a0 0)]) trivial hK hP hok hnd hWT hE)⟩ rfl rfl hl.1 rfl (lv_room (Nat.le_of_ble_eq_true rfl)) dX11_many_61 ⟨Nat.le_of_ble_eq_true rfl, Nat.le_of_ble_eq_true rfl⟩)) (fun r9 hr9 => ?_)
    refine tc_i hAL hS hA (va_runV (As := [.int r9]) (rest := []) ⟨hx, hb, hml, hown, noTs⟩ (t_X11_answer l dC dI s.heap.size G cs tt mm a0 ha0 r9) ⟨cbE 1 (wd_748 hE) (wd_115 hE) (wd_745 hE) rfl rfl (by decide +kernel) ⟨Nat.le_of_ble_eq_true rfl, Nat.le_of_ble_eq_true rfl⟩, (wd_747 hE), (wd_23 hE)⟩ ⟨PT.blind, th_recv hK hP ha0.1 he7 rfl, (th_pre (av := [.ref a0, .int r9]) trivial hK hP hok hnd hWT hE)⟩ rfl rfl hl.1 rfl (lv_room (Nat.le_of_ble_eq_true rfl)) dX11_many_64 ⟨Nat.le_of_ble_eq_true rfl, Nat.le_of_ble_eq_true rfl⟩) (fun r10 f10 H locs hr10 hok hP hS => ?_)
    refine W.eq (g2 := F0 m 67 ls [.int r9]) (by rw [hr10]) ?_
    exact W.iret (v := r9) hx hb hr (fun t ht hW => ⟨⟨r9, f10, rfl, trivial, hok, by rw [ht]; exact hP⟩, hS.F ht⟩) hS.2.2 dX11_many_67
  by_cases t11 : v1 = 2
  · refine lv_tableIn (tgt := 68) hx hb dX11_many_1 (by rw [t11]; decide) (by rw [t11]; decide) (by rw [t11]; rfl) (by decide) ?_
    refine lv_aload_n hx hb dX11_many_68 rfl (lv_at hl 0 rfl) ?_
    refine lv_aload_n hx hb dX11_many_69 rfl (lv_at hl 0 rfl) ?_
    obtain ⟨y5_12, hy4_12, hy7_12, he12⟩ := ok_X11 hok ha0
    refine th_get hx hb (ly_X11 hE) hown hK hP ha0.1 he12 rfl 0 (by decide) (wd_359 hE) (fun _ h9 => h9) rfl dX11_many_70 ?_
    have he13 := ok_X7 hok (wt_X11_0 hWT ha0)
    refine vp_callSi (va_Run.run (va_runV (As := []) (rest := [.ref a0]) ⟨hx, hb, hml, hown, noTs⟩ (t_X7_words l dC dI s.heap.size G cs tt mm (gR G a0 0) ((wt_X11_0 hWT ha0))) ⟨cbE 0 (wd_700 hE) (wd_116 hE) (wd_744 hE) rfl rfl (by decide +kernel) ⟨Nat.le_of_ble_eq_true rfl, Nat.le_of_ble_eq_true rfl⟩, (wd_698 hE), (wd_699 hE)⟩ ⟨PT.blind, th_recv hK hP (wt_X11_0 hWT ha0).1 he13 rfl, (th_pre (av := [.ref (gR G a0 0)]) trivial hK hP hok hnd hWT hE)⟩ rfl rfl hl.1 rfl (lv_room (Nat.le_of_ble_eq_true rfl)) dX11_many_73 ⟨Nat.le_of_ble_eq_true rfl, Nat.le_of_ble_eq_true rfl⟩)) (fun r14 hr14 => ?_)
    refine tc_i hAL hS hA (va_runV (As := [.int r14]) (rest := []) ⟨hx, hb, hml, hown, noTs⟩ (t_X11_answer l dC dI s.heap.size G cs tt mm a0 ha0 r14) ⟨cbE 1 (wd_748 hE) (wd_115 hE) (wd_745 hE) rfl rfl (by decide +kernel) ⟨Nat.le_of_ble_eq_true rfl, Nat.le_of_ble_eq_true rfl⟩, (wd_747 hE), (wd_23 hE)⟩ ⟨PT.blind, th_recv hK hP ha0.1 he12 rfl, (th_pre (av := [.ref a0, .int r14]) trivial hK hP hok hnd hWT hE)⟩ rfl rfl hl.1 rfl (lv_room (Nat.le_of_ble_eq_true rfl)) dX11_many_76 ⟨Nat.le_of_ble_eq_true rfl, Nat.le_of_ble_eq_true rfl⟩) (fun r15 f15 H locs hr15 hok hP hS => ?_)
    refine W.eq (g2 := F0 m 79 ls [.int r14]) (by rw [hr15]) ?_
    exact W.iret (v := r14) hx hb hr (fun t ht hW => ⟨⟨r14, f15, rfl, trivial, hok, by rw [ht]; exact hP⟩, hS.F ht⟩) hS.2.2 dX11_many_79
  by_cases t16 : v1 = 3
  · refine lv_tableIn (tgt := 80) hx hb dX11_many_1 (by rw [t16]; decide) (by rw [t16]; decide) (by rw [t16]; rfl) (by decide) ?_
    refine lv_aload_n hx hb dX11_many_80 rfl (lv_at hl 0 rfl) ?_
    refine lv_aload_n hx hb dX11_many_81 rfl (lv_at hl 0 rfl) ?_
    obtain ⟨y5_17, hy4_17, hy7_17, he17⟩ := ok_X11 hok ha0
    refine th_get hx hb (ly_X11 hE) hown hK hP ha0.1 he17 rfl 1 (by decide) (wd_360 hE) (fun _ h9 => h9) rfl dX11_many_82 ?_
    obtain ⟨y1_18, y2_18, he18⟩ := ok_X3 hok (wt_X11_1 hWT ha0)
    refine vp_callSi (va_Run.run (va_runV (As := []) (rest := [.ref a0]) ⟨hx, hb, hml, hown, noTs⟩ (t_X3_size l dC dI s.heap.size G cs tt mm (gR G a0 1) ((wt_X11_1 hWT ha0))) ⟨cbE 0 (wd_766 hE) (wd_117 hE) (wd_763 hE) rfl rfl (by decide +kernel) ⟨Nat.le_of_ble_eq_true rfl, Nat.le_of_ble_eq_true rfl⟩, (wd_764 hE), (wd_765 hE)⟩ ⟨PT.blind, th_recv hK hP (wt_X11_1 hWT ha0).1 he18 rfl, (th_pre (av := [.ref (gR G a0 1)]) trivial hK hP hok hnd hWT hE)⟩ rfl rfl hl.1 rfl (lv_room (Nat.le_of_ble_eq_true rfl)) dX11_many_85 ⟨Nat.le_of_ble_eq_true rfl, Nat.le_of_ble_eq_true rfl⟩)) (fun r19 hr19 => ?_)
    refine tc_i hAL hS hA (va_runV (As := [.int r19]) (rest := []) ⟨hx, hb, hml, hown, noTs⟩ (t_X11_answer l dC dI s.heap.size G cs tt mm a0 ha0 r19) ⟨cbE 1 (wd_748 hE) (wd_115 hE) (wd_745 hE) rfl rfl (by decide +kernel) ⟨Nat.le_of_ble_eq_true rfl, Nat.le_of_ble_eq_true rfl⟩, (wd_747 hE), (wd_23 hE)⟩ ⟨PT.blind, th_recv hK hP ha0.1 he17 rfl, (th_pre (av := [.ref a0, .int r19]) trivial hK hP hok hnd hWT hE)⟩ rfl rfl hl.1 rfl (lv_room (Nat.le_of_ble_eq_true rfl)) dX11_many_88 ⟨Nat.le_of_ble_eq_true rfl, Nat.le_of_ble_eq_true rfl⟩) (fun r20 f20 H locs hr20 hok hP hS => ?_)
    refine W.eq (g2 := F0 m 91 ls [.int r19]) (by rw [hr20]) ?_
    exact W.iret (v := r19) hx hb hr (fun t ht hW => ⟨⟨r19, f20, rfl, trivial, hok, by rw [ht]; exact hP⟩, hS.F ht⟩) hS.2.2 dX11_many_91
  by_cases t21 : v1 = 4
  · refine lv_tableIn (tgt := 92) hx hb dX11_many_1 (by rw [t21]; decide) (by rw [t21]; decide) (by rw [t21]; rfl) (by decide) ?_
    refine lv_aload_n hx hb dX11_many_92 rfl (lv_at hl 0 rfl) ?_
    refine lv_aload_n hx hb dX11_many_93 rfl (lv_at hl 0 rfl) ?_
    obtain ⟨y5_22, hy4_22, hy7_22, he22⟩ := ok_X11 hok ha0
    refine th_get hx hb (ly_X11 hE) hown hK hP ha0.1 he22 rfl 4 (by decide) (wd_363 hE) (fun _ h9 => h9) rfl dX11_many_94 ?_
    refine tc_i hAL hS hA (va_runV (As := [.int (nI mm)]) (rest := []) ⟨hx, hb, hml, hown, noTs⟩ (t_X11_answer l dC dI s.heap.size G cs tt mm a0 ha0 (nI mm)) ⟨cbE 1 (wd_748 hE) (wd_115 hE) (wd_745 hE) rfl rfl (by decide +kernel) ⟨Nat.le_of_ble_eq_true rfl, Nat.le_of_ble_eq_true rfl⟩, (wd_747 hE), (wd_23 hE)⟩ ⟨PT.blind, th_recv hK hP ha0.1 he22 rfl, (th_pre (av := [.ref a0, .int (nI mm)]) trivial hK hP hok hnd hWT hE)⟩ rfl rfl hl.1 rfl (lv_room (Nat.le_of_ble_eq_true rfl)) dX11_many_97 ⟨Nat.le_of_ble_eq_true rfl, Nat.le_of_ble_eq_true rfl⟩) (fun r23 f23 H locs hr23 hok hP hS => ?_)
    subst hr23
    exact W.iret (v := nI mm) hx hb hr (fun t ht hW => ⟨⟨nI mm, f23, rfl, trivial, hok, by rw [ht]; exact hP⟩, hS.F ht⟩) hS.2.2 dX11_many_100
  by_cases t24 : v1 = 5
  · refine lv_tableIn (tgt := 101) hx hb dX11_many_1 (by rw [t24]; decide) (by rw [t24]; decide) (by rw [t24]; rfl) (by decide) ?_
    refine lv_aload_n hx hb dX11_many_101 rfl (lv_at hl 0 rfl) ?_
    refine lv_aload_n hx hb dX11_many_102 rfl (lv_at hl 0 rfl) ?_
    obtain ⟨y5_25, hy4_25, hy7_25, he25⟩ := ok_X11 hok ha0
    refine th_get hx hb (ly_X11 hE) hown hK hP ha0.1 he25 rfl 0 (by decide) (wd_359 hE) (fun _ h9 => h9) rfl dX11_many_103 ?_
    have he26 := ok_X7 hok (wt_X11_0 hWT ha0)
    refine vp_callSi (va_Run.run (va_runV (As := []) (rest := [.ref a0]) ⟨hx, hb, hml, hown, noTs⟩ (t_X7_edges l dC dI s.heap.size G cs tt mm (gR G a0 0) ((wt_X11_0 hWT ha0))) ⟨cbE 0 (wd_598 hE) (wd_116 hE) (wd_762 hE) rfl rfl (by decide +kernel) ⟨Nat.le_of_ble_eq_true rfl, Nat.le_of_ble_eq_true rfl⟩, (wd_596 hE), (wd_597 hE)⟩ ⟨PT.blind, th_recv hK hP (wt_X11_0 hWT ha0).1 he26 rfl, (th_pre (av := [.ref (gR G a0 0)]) trivial hK hP hok hnd hWT hE)⟩ rfl rfl hl.1 rfl (lv_room (Nat.le_of_ble_eq_true rfl)) dX11_many_106 ⟨Nat.le_of_ble_eq_true rfl, Nat.le_of_ble_eq_true rfl⟩)) (fun r27 hr27 => ?_)
    refine lv_aload_n hx hb dX11_many_109 rfl (lv_at hl 0 rfl) ?_
    refine th_get hx hb (ly_X11 hE) hown hK hP ha0.1 he25 rfl 0 (by decide) (wd_359 hE) (fun _ h9 => h9) rfl dX11_many_110 ?_
    refine vp_callSi (va_Run.run (va_runV (As := []) (rest := [.int r27, .ref a0]) ⟨hx, hb, hml, hown, noTs⟩ (t_X7_vertices l dC dI s.heap.size G cs tt mm (gR G a0 0) ((wt_X11_0 hWT ha0))) ⟨cbE 0 (wd_557 hE) (wd_116 hE) (wd_761 hE) rfl rfl (by decide +kernel) ⟨Nat.le_of_ble_eq_true rfl, Nat.le_of_ble_eq_true rfl⟩, (wd_555 hE), (wd_556 hE)⟩ ⟨PT.blind, th_recv hK hP (wt_X11_0 hWT ha0).1 he26 rfl, (th_pre (av := [.ref (gR G a0 0)]) trivial hK hP hok hnd hWT hE)⟩ rfl rfl hl.1 rfl (lv_room (Nat.le_of_ble_eq_true rfl)) dX11_many_113 ⟨Nat.le_of_ble_eq_true rfl, Nat.le_of_ble_eq_true rfl⟩)) (fun r28 hr28 => ?_)
    refine lv_isub hx hb dX11_many_116 ?_
    refine lv_topi (fun x29 ex29 => ?_)
    refine lv_aload_n hx hb dX11_many_117 rfl (lv_at hl 0 rfl) ?_
    refine th_get hx hb (ly_X11 hE) hown hK hP ha0.1 he25 rfl 17 (by decide) (wd_376 hE) (fun _ h9 => h9) rfl dX11_many_118 ?_
    refine lv_aload_n hx hb dX11_many_121 rfl (lv_at hl 0 rfl) ?_
    refine th_get hx hb (ly_X11 hE) hown hK hP ha0.1 he25 rfl 0 (by decide) (wd_359 hE) (fun _ h9 => h9) rfl dX11_many_122 ?_
    obtain ⟨y1_30, y2_30, he30⟩ := ok_X6 hok (wt_X11_17 hWT ha0)
    refine tc_i hAL hS hA (va_runV (As := [.ref (gR G a0 0)]) (rest := [.int x29, .ref a0]) ⟨hx, hb, hml, hown, noTs⟩ (t_X6_parts l dC dI s.heap.size G cs tt mm (gR G a0 17) ((wt_X11_17 hWT ha0)) (gR G a0 0) ((wt_X11_0 hWT ha0))) ⟨cbE 1 (wd_770 hE) (wd_124 hE) (wd_767 hE) rfl rfl (by decide +kernel) ⟨Nat.le_of_ble_eq_true rfl, Nat.le_of_ble_eq_true rfl⟩, (wd_768 hE), (wd_769 hE)⟩ ⟨PT.blind, th_recv hK hP (wt_X11_17 hWT ha0).1 he30 rfl, (th_pre (av := [.ref (gR G a0 17), .ref (gR G a0 0)]) trivial hK hP hok hnd hWT hE)⟩ rfl rfl hl.1 rfl (lv_room (Nat.le_of_ble_eq_true rfl)) dX11_many_125 ⟨Nat.le_of_ble_eq_true rfl, Nat.le_of_ble_eq_true rfl⟩) (fun r31 f31 H locs hr31 hok hP hS => ?_)
    refine lv_iadd hx hb dX11_many_128 ?_
    refine lv_topi (fun x32 ex32 => ?_)
    obtain ⟨y5_33, hy4_33, hy7_33, he33⟩ := ok_X11 hok ha0
    refine tc_i hAL hS hA (va_runV (As := [.int x32]) (rest := []) ⟨hx, hb, hml, hown, noTs⟩ (t_X11_answer l dC dI H.size G cs tt mm a0 ha0 x32) ⟨cbE 1 (wd_748 hE) (wd_115 hE) (wd_745 hE) rfl rfl (by decide +kernel) ⟨Nat.le_of_ble_eq_true rfl, Nat.le_of_ble_eq_true rfl⟩, (wd_747 hE), (wd_23 hE)⟩ ⟨PT.blind, th_recv hK hP ha0.1 he33 rfl, (th_pre (av := [.ref a0, .int x32]) trivial hK hP hok hnd hWT hE)⟩ rfl rfl hl.1 rfl (lv_room (Nat.le_of_ble_eq_true rfl)) dX11_many_129 ⟨Nat.le_of_ble_eq_true rfl, Nat.le_of_ble_eq_true rfl⟩) (fun r34 f34 H locs hr34 hok hP hS => ?_)
    refine W.eq (g2 := F0 m 132 ls [.int x32]) (by rw [hr34]) ?_
    exact W.iret (v := x32) hx hb hr (fun t ht hW => ⟨⟨x32, f34, rfl, trivial, hok, by rw [ht]; exact hP⟩, hS.F ht⟩) hS.2.2 dX11_many_132
  by_cases t35 : v1 = 6
  · refine lv_tableIn (tgt := 133) hx hb dX11_many_1 (by rw [t35]; decide) (by rw [t35]; decide) (by rw [t35]; rfl) (by decide) ?_
    refine lv_aload_n hx hb dX11_many_133 rfl (lv_at hl 0 rfl) ?_
    refine lv_aload_n hx hb dX11_many_134 rfl (lv_at hl 0 rfl) ?_
    obtain ⟨y5_36, hy4_36, hy7_36, he36⟩ := ok_X11 hok ha0
    refine th_get hx hb (ly_X11 hE) hown hK hP ha0.1 he36 rfl 17 (by decide) (wd_376 hE) (fun _ h9 => h9) rfl dX11_many_135 ?_
    refine lv_aload_n hx hb dX11_many_138 rfl (lv_at hl 0 rfl) ?_
    refine th_get hx hb (ly_X11 hE) hown hK hP ha0.1 he36 rfl 0 (by decide) (wd_359 hE) (fun _ h9 => h9) rfl dX11_many_139 ?_
    obtain ⟨y1_37, y2_37, he37⟩ := ok_X6 hok (wt_X11_17 hWT ha0)
    refine tc_i hAL hS hA (va_runV (As := [.ref (gR G a0 0)]) (rest := [.ref a0]) ⟨hx, hb, hml, hown, noTs⟩ (t_X6_parts l dC dI s.heap.size G cs tt mm (gR G a0 17) ((wt_X11_17 hWT ha0)) (gR G a0 0) ((wt_X11_0 hWT ha0))) ⟨cbE 1 (wd_770 hE) (wd_124 hE) (wd_767 hE) rfl rfl (by decide +kernel) ⟨Nat.le_of_ble_eq_true rfl, Nat.le_of_ble_eq_true rfl⟩, (wd_768 hE), (wd_769 hE)⟩ ⟨PT.blind, th_recv hK hP (wt_X11_17 hWT ha0).1 he37 rfl, (th_pre (av := [.ref (gR G a0 17), .ref (gR G a0 0)]) trivial hK hP hok hnd hWT hE)⟩ rfl rfl hl.1 rfl (lv_room (Nat.le_of_ble_eq_true rfl)) dX11_many_142 ⟨Nat.le_of_ble_eq_true rfl, Nat.le_of_ble_eq_true rfl⟩) (fun r38 f38 H locs hr38 hok hP hS => ?_)
    obtain ⟨y5_39, hy4_39, hy7_39, he39⟩ := ok_X11 hok ha0
    refine tc_i hAL hS hA (va_runV (As := [.int r38]) (rest := []) ⟨hx, hb, hml, hown, noTs⟩ (t_X11_answer l dC dI H.size G cs tt mm a0 ha0 r38) ⟨cbE 1 (wd_748 hE) (wd_115 hE) (wd_745 hE) rfl rfl (by decide +kernel) ⟨Nat.le_of_ble_eq_true rfl, Nat.le_of_ble_eq_true rfl⟩, (wd_747 hE), (wd_23 hE)⟩ ⟨PT.blind, th_recv hK hP ha0.1 he39 rfl, (th_pre (av := [.ref a0, .int r38]) trivial hK hP hok hnd hWT hE)⟩ rfl rfl hl.1 rfl (lv_room (Nat.le_of_ble_eq_true rfl)) dX11_many_145 ⟨Nat.le_of_ble_eq_true rfl, Nat.le_of_ble_eq_true rfl⟩) (fun r40 f40 H locs hr40 hok hP hS => ?_)
    refine W.eq (g2 := F0 m 148 ls [.int r38]) (by rw [hr40]) ?_
    exact W.iret (v := r38) hx hb hr (fun t ht hW => ⟨⟨r38, f40, rfl, trivial, hok, by rw [ht]; exact hP⟩, hS.F ht⟩) hS.2.2 dX11_many_148
  have hT41 : v1.toInt < 0 ∨ 6 < v1.toInt := by simp only [i_eq, ti_m9, ti_m1, ti_0, ti_1, ti_2, ti_3, ti_4, ti_5, ti_6, ti_7, ti_9, ti_12, ti_20, ti_99, ti_700, ti_24, ti_156, ti_72, ti_8, ti_60, ti_543, ti_10, ti_33, ti_51, ti_178, ti_119, ti_111, ti_114, ti_100, ti_32, ti_62, ti_59, ti_48, ti_701, ti_97, ti_122, ti_57, ti_73, ti_128, ti_61] at t1 t6 t11 t16 t21 t24 t35; omega
  refine lv_tableOut (tgt := 149) hx hb dX11_many_1 hT41 (by decide) ?_
  refine lv_aload_n hx hb dX11_many_149 rfl (lv_at hl 0 rfl) ?_
  refine lv_iconst (v := 1) hx hb dX11_many_150 (by decide) ?_
  obtain ⟨y5_42, hy4_42, hy7_42, he42⟩ := ok_X11 hok ha0
  refine tc_i hAL hS hA (va_runV (As := [.int 1]) (rest := []) ⟨hx, hb, hml, hown, noTs⟩ (t_X11_fail l dC dI s.heap.size G cs tt mm a0 ha0 1) ⟨cbE 1 (wd_436 hE) (wd_115 hE) (wd_433 hE) rfl rfl (by decide +kernel) ⟨Nat.le_of_ble_eq_true rfl, Nat.le_of_ble_eq_true rfl⟩, (wd_435 hE), (wd_1 hE)⟩ ⟨PT.blind, th_recv hK hP ha0.1 he42 rfl, (th_pre (av := [.ref a0, .int 1]) trivial hK hP hok hnd hWT hE)⟩ rfl rfl hl.1 rfl (lv_room (Nat.le_of_ble_eq_true rfl)) dX11_many_151 ⟨Nat.le_of_ble_eq_true rfl, Nat.le_of_ble_eq_true rfl⟩) (fun r43 f43 H locs hr43 hok hP hS => ?_)
  subst hr43
  exact W.iret (v := -1) hx hb hr (fun t ht hW => ⟨⟨-1, f43, rfl, trivial, hok, by rw [ht]; exact hP⟩, hS.F ht⟩) hS.2.2 dX11_many_154
