set_option maxHeartbeats 4000000 in
set_option maxRecDepth 100000 in
theorem t_X0_aim (l : Launch) (dC : Nat → ClassId) (dI : Nat → Nat → Nat) (sz : Nat) (G : GT) (cs : Nat → ClassId) (tt mm : Nat) (a0 : Nat) (ha0 : Ty G a0 1) (a1 : Nat) (ha1 : Ty G a1 7) (a2 : Nat) (ha2 : Ty G a2 10) : Met l yX0_aim [.code yX0_aim cX0_aim 5 none] ({ frames := 2, cells := 0, slots := 0, locals := 80 }) (PT [.ref a0, .ref a1, .ref a2] sz dC dI G cs tt mm) (va_Qv (fun (u : Nat → va_E) => True) (BT dC dI G cs tt mm) (AT G sz)) 0 0 (AT G sz) := by
  refine Met.ofW (cc := cX0_aim) (maxL := 5) (ret := none) (by decide) rfl ?_
  intro p e s m args below meth c s₁ B hml hv
  obtain ⟨rfl, hsz, ⟨f0, hok, hP⟩, hK, hnd, hWT, hE⟩ := hv
  have hx := B.exec
  have hb := B.bytes
  have hr := B.returns
  have hown : s.vm.findClass RX0 = some m.cls := findClass_of_methodNamed B.named
  have hlocks := B.notSynchronized
  subst hsz
  have hAL : ∀ a, a ∈ gL G → AT G s.heap.size a := fun a h => Or.inl h
  have hA : ∀ q : Nat, s.heap.size ≤ q → AT G s.heap.size q := fun q h => Or.inr h
  have hS : va_S (AT G s.heap.size) s.heap s.heap [] := va_S.rf
  have hl := lv_entry ([.ref a0, .ref a1, .ref a2]) (n := 5) (Nat.le_of_ble_eq_true rfl)
  rw [lg_entry_eq]
  generalize (lg_sl ([.ref a0, .ref a1, .ref a2]) ++ List.replicate (5 - (lg_sl ([.ref a0, .ref a1, .ref a2])).length) Slot.unset).toArray = ls at hl ⊢
  have hl : lv_has ls 5 [(0, .ref a0), (1, .ref a1), (2, .ref a2)] := hl
  refine lv_aload_n hx hb dX0_aim_0 rfl (lv_at hl 0 rfl) ?_
  refine lv_aload_n hx hb dX0_aim_1 rfl (lv_at hl 2 rfl) ?_
  obtain ⟨y4_1, hy4_1, he1⟩ := ok_X0 hok ha0
  refine th_put (v := .ref a2) (ty := .object "GluedWords$Walk") hx hb (ly_X0 hE) tyX0 tyX0_ok nmX0 hown hK hP hnd hAL hS ha0.1 he1 rfl 4 (by decide) (wd_293 hE) (fun _ h9 => h9) rfl (by decide +kernel) rfl rfl (Nat.le_of_ble_eq_true rfl) (up_X0 hok ha0 ⟨a2, ha2, rfl⟩) dX0_aim_2 (fun f2 H locs hfa2 hfo2 hok hP hS => ?_)
  refine lv_iconst (v := 0) hx hb dX0_aim_5 (by decide) ?_
  refine lv_istore_n (lv' := [(3, .int 0), (0, .ref a0), (1, .ref a1), (2, .ref a2)]) hx hb dX0_aim_6 rfl hl (by decide) rfl (fun ls hl => ?_)
  refine w_ind (I := fun n f H locs ls => OKT G cs tt mm f ∧ va_P (dC, dI) vwCl (va_pl (gL G) f) H ∧ va_S (AT G s.heap.size) s.heap H locs ∧ ∃ (w3_3 : Int32), n = (2147483647 - w3_3.toInt).toNat ∧ 0 ≤ w3_3 ∧ lv_has ls 5 [(0, .ref a0), (1, .ref a1), (2, .ref a2), (3, .int w3_3)]) (fun n f3 H locs ls hI ih3 => ?_) _ f2 _ _ _ ⟨hok, hP, hS, 0, rfl, (by first | omega | (simp only [i_lt, i_le, i_eq, ti_m9, ti_m1, ti_0, ti_1, ti_2, ti_3, ti_4, ti_5, ti_6, ti_7, ti_9, ti_12, ti_20, ti_99, ti_700, ti_24]; omega)), lv_sub hl [1, 2, 3, 0] rfl⟩
  obtain ⟨hok, hP, hS, w3_3, hmu3, hlo3, hl⟩ := hI
  subst hmu3
  refine lv_iload_n hx hb dX0_aim_7 rfl (lv_at hl 3 rfl) ?_
  refine lv_aload_n hx hb dX0_aim_8 rfl (lv_at hl 2 rfl) ?_
  obtain ⟨y2_4, y3_4, hy3_4, he4⟩ := ok_X10 hok ha2
  refine vp_callSi (va_Run.run (va_runV (As := []) (rest := [.int w3_3]) ⟨hx, hb, hml, hown, noTs⟩ (t_X10_size l dC dI H.size G cs tt mm a2 ha2) ⟨cbE 0 (wd_666 hE) (wd_120 hE) (wd_1146 hE) rfl rfl (by decide +kernel) ⟨Nat.le_of_ble_eq_true rfl, Nat.le_of_ble_eq_true rfl⟩, (wd_664 hE), (wd_665 hE)⟩ ⟨PT.blind, th_recv hK hP ha2.1 he4 rfl, (th_pre (av := [.ref a2]) hK hP hok hnd hWT hE)⟩ rfl rfl hl.1 rfl (lv_room (Nat.le_of_ble_eq_true rfl)) dX0_aim_9 ⟨Nat.le_of_ble_eq_true rfl, Nat.le_of_ble_eq_true rfl⟩)) (fun r5 hr5 => ?_)
  obtain ⟨hra5, hrb5⟩ := hr5
  refine lv_icmp_ge (tgt := 74) hx hb dX0_aim_12 (by decide) (fun c6 => ?_) (fun c6 => ?_)
  · exact W.vret hx hb hr (fun t ht hW => ⟨⟨f3, rfl, trivial, hok, by rw [ht]; exact hP⟩, hS.F ht⟩) hS.2.2 dX0_aim_74
  · refine lv_iload_n hx hb dX0_aim_15 rfl (lv_at hl 3 rfl) ?_
    refine lv_bipush (v := 24) hx hb dX0_aim_16 (by decide) ?_
    refine lv_icmp_ge (tgt := 74) hx hb dX0_aim_18 (by decide) (fun c7 => ?_) (fun c7 => ?_)
    · exact W.vret hx hb hr (fun t ht hW => ⟨⟨f3, rfl, trivial, hok, by rw [ht]; exact hP⟩, hS.F ht⟩) hS.2.2 dX0_aim_74
    · refine lv_aload_n hx hb dX0_aim_21 rfl (lv_at hl 2 rfl) ?_
      refine lv_iload_n hx hb dX0_aim_22 rfl (lv_at hl 3 rfl) ?_
      refine vp_callSi (va_Run.run (va_runV (As := [.int w3_3]) (rest := []) ⟨hx, hb, hml, hown, noTs⟩ (t_X10_stepAt l dC dI H.size G cs tt mm a2 ha2 w3_3) ⟨cbE 1 (wd_721 hE) (wd_120 hE) (wd_1147 hE) rfl rfl (by decide +kernel) ⟨Nat.le_of_ble_eq_true rfl, Nat.le_of_ble_eq_true rfl⟩, (wd_719 hE), (wd_720 hE)⟩ ⟨PT.blind, th_recv hK hP ha2.1 he4 rfl, (th_pre (av := [.ref a2, .int w3_3]) hK hP hok hnd hWT hE)⟩ rfl rfl hl.1 rfl (lv_room (Nat.le_of_ble_eq_true rfl)) dX0_aim_23 ⟨Nat.le_of_ble_eq_true rfl, Nat.le_of_ble_eq_true rfl⟩)) (fun r8 hr8 => ?_)
      refine lv_istore (lv' := [(4, .int r8), (0, .ref a0), (1, .ref a1), (2, .ref a2), (3, .int w3_3)]) hx hb dX0_aim_26 hl (by decide) rfl (fun ls hl => ?_)
      refine lv_aload_n hx hb dX0_aim_28 rfl (lv_at hl 1 rfl) ?_
      obtain ⟨y4_9, hy4_9, he9⟩ := ok_X0 hok ha0
      refine th_get hx hb (ly_X0 hE) hown hK hP ha0.1 he9 rfl 0 (by decide) (wd_289 hE) (fun _ h9 => h9) rfl dX0_aim_29 ?_
      refine lv_iload_n hx hb dX0_aim_32 rfl (lv_at hl 4 rfl) ?_
      refine lv_aload_n hx hb dX0_aim_33 rfl (lv_at hl 2 rfl) ?_
      refine lv_iload hx hb dX0_aim_34 (lv_at hl 0 rfl) ?_
      have he10 := ok_X7 hok ha1
      refine vp_callSi (va_Run.run (va_runV (As := [.int r8]) (rest := [.int w3_3, .ref (gR G a0 0)]) ⟨hx, hb, hml, hown, noTs⟩ (t_X7_fromIndex l dC dI H.size G cs tt mm a1 ha1 r8) ⟨cbE 1 (wd_855 hE) (wd_116 hE) (wd_1148 hE) rfl rfl (by decide +kernel) ⟨Nat.le_of_ble_eq_true rfl, Nat.le_of_ble_eq_true rfl⟩, (wd_853 hE), (wd_854 hE)⟩ ⟨PT.blind, th_recv hK hP ha1.1 he10 rfl, (th_pre (av := [.ref a1, .int r8]) hK hP hok hnd hWT hE)⟩ rfl rfl hl.1 rfl (lv_room (Nat.le_of_ble_eq_true rfl)) dX0_aim_36 ⟨Nat.le_of_ble_eq_true rfl, Nat.le_of_ble_eq_true rfl⟩)) (fun r11 hr11 => ?_)
      refine th_iast hx hb hK hP hok hnd hAL hS (wt_X0_0 hWT ha0) (n := 24) (wl_X0_0 hWT ha0) (vp_in_iff.mpr (by first | omega | (simp only [i_lt, i_le, i_eq, ti_m9, ti_m1, ti_0, ti_1, ti_2, ti_3, ti_4, ti_5, ti_6, ti_7, ti_9, ti_12, ti_20, ti_99, ti_700, ti_24] at hlo3 hra5 hrb5 c6 c7 ⊢; omega))) dX0_aim_39 (fun f12 H locs hfo12 hok hP hS => ?_)
      have he13 := (hfo12 a2 (Ty.ne ha2 (wt_X0_0 hWT ha0) (by decide))).trans he4
      have he14 := (hfo12 a0 (Ty.ne ha0 (wt_X0_0 hWT ha0) (by decide))).trans he9
      have he15 := (hfo12 a1 (Ty.ne ha1 (wt_X0_0 hWT ha0) (by decide))).trans he10
      refine lv_aload_n hx hb dX0_aim_40 rfl (lv_at hl 1 rfl) ?_
      refine th_get hx hb (ly_X0 hE) hown hK hP ha0.1 he14 rfl 1 (by decide) (wd_290 hE) (fun _ h9 => h9) rfl dX0_aim_41 ?_
      refine lv_iload_n hx hb dX0_aim_44 rfl (lv_at hl 4 rfl) ?_
      refine lv_aload_n hx hb dX0_aim_45 rfl (lv_at hl 2 rfl) ?_
      refine lv_iload hx hb dX0_aim_46 (lv_at hl 0 rfl) ?_
      refine vp_callSi (va_Run.run (va_runV (As := [.int r8]) (rest := [.int w3_3, .ref (gR G a0 1)]) ⟨hx, hb, hml, hown, noTs⟩ (t_X7_toIndex l dC dI H.size G cs tt mm a1 ha1 r8) ⟨cbE 1 (wd_861 hE) (wd_116 hE) (wd_1149 hE) rfl rfl (by decide +kernel) ⟨Nat.le_of_ble_eq_true rfl, Nat.le_of_ble_eq_true rfl⟩, (wd_859 hE), (wd_860 hE)⟩ ⟨PT.blind, th_recv hK hP ha1.1 he15 rfl, (th_pre (av := [.ref a1, .int r8]) hK hP hok hnd hWT hE)⟩ rfl rfl hl.1 rfl (lv_room (Nat.le_of_ble_eq_true rfl)) dX0_aim_48 ⟨Nat.le_of_ble_eq_true rfl, Nat.le_of_ble_eq_true rfl⟩)) (fun r16 hr16 => ?_)
      refine th_iast hx hb hK hP hok hnd hAL hS (wt_X0_1 hWT ha0) (n := 24) (wl_X0_1 hWT ha0) (vp_in_iff.mpr (by first | omega | (simp only [i_lt, i_le, i_eq, ti_m9, ti_m1, ti_0, ti_1, ti_2, ti_3, ti_4, ti_5, ti_6, ti_7, ti_9, ti_12, ti_20, ti_99, ti_700, ti_24] at hlo3 hra5 hrb5 c6 c7 ⊢; omega))) dX0_aim_51 (fun f17 H locs hfo17 hok hP hS => ?_)
      have he18 := (hfo17 a2 (Ty.ne ha2 (wt_X0_1 hWT ha0) (by decide))).trans he13
      have he19 := (hfo17 a0 (Ty.ne ha0 (wt_X0_1 hWT ha0) (by decide))).trans he14
      have he20 := (hfo17 a1 (Ty.ne ha1 (wt_X0_1 hWT ha0) (by decide))).trans he15
      refine lv_aload_n hx hb dX0_aim_52 rfl (lv_at hl 1 rfl) ?_
      refine th_get hx hb (ly_X0 hE) hown hK hP ha0.1 he19 rfl 2 (by decide) (wd_291 hE) (fun _ h9 => h9) rfl dX0_aim_53 ?_
      refine lv_iload_n hx hb dX0_aim_56 rfl (lv_at hl 4 rfl) ?_
      refine lv_aload_n hx hb dX0_aim_57 rfl (lv_at hl 2 rfl) ?_
      refine lv_aload_n hx hb dX0_aim_58 rfl (lv_at hl 2 rfl) ?_
      refine lv_iload hx hb dX0_aim_59 (lv_at hl 0 rfl) ?_
      refine vp_callSi (va_Run.run (va_runV (As := [.int r8]) (rest := [.ref a1, .int w3_3, .ref (gR G a0 2)]) ⟨hx, hb, hml, hown, noTs⟩ (t_X7_toVertex l dC dI H.size G cs tt mm a1 ha1 r8) ⟨cbE 1 (wd_692 hE) (wd_116 hE) (wd_1150 hE) rfl rfl (by decide +kernel) ⟨Nat.le_of_ble_eq_true rfl, Nat.le_of_ble_eq_true rfl⟩, (wd_690 hE), (wd_691 hE)⟩ ⟨PT.blind, th_recv hK hP ha1.1 he20 rfl, (th_pre (av := [.ref a1, .int r8]) hK hP hok hnd hWT hE)⟩ rfl rfl hl.1 rfl (lv_room (Nat.le_of_ble_eq_true rfl)) dX0_aim_61 ⟨Nat.le_of_ble_eq_true rfl, Nat.le_of_ble_eq_true rfl⟩)) (fun r21 hr21 => ?_)
      refine vp_callSi (va_Run.run (va_runV (As := [.int r21]) (rest := [.int w3_3, .ref (gR G a0 2)]) ⟨hx, hb, hml, hown, noTs⟩ (t_X7_orderAt l dC dI H.size G cs tt mm a1 ha1 r21) ⟨cbE 1 (wd_614 hE) (wd_116 hE) (wd_1151 hE) rfl rfl (by decide +kernel) ⟨Nat.le_of_ble_eq_true rfl, Nat.le_of_ble_eq_true rfl⟩, (wd_612 hE), (wd_613 hE)⟩ ⟨PT.blind, th_recv hK hP ha1.1 he20 rfl, (th_pre (av := [.ref a1, .int r21]) hK hP hok hnd hWT hE)⟩ rfl rfl hl.1 rfl (lv_room (Nat.le_of_ble_eq_true rfl)) dX0_aim_64 ⟨Nat.le_of_ble_eq_true rfl, Nat.le_of_ble_eq_true rfl⟩)) (fun r22 hr22 => ?_)
      refine th_iast hx hb hK hP hok hnd hAL hS (wt_X0_2 hWT ha0) (n := 24) (wl_X0_2 hWT ha0) (vp_in_iff.mpr (by first | omega | (simp only [i_lt, i_le, i_eq, ti_m9, ti_m1, ti_0, ti_1, ti_2, ti_3, ti_4, ti_5, ti_6, ti_7, ti_9, ti_12, ti_20, ti_99, ti_700, ti_24] at hlo3 hra5 hrb5 c6 c7 ⊢; omega))) dX0_aim_67 (fun f23 H locs hfo23 hok hP hS => ?_)
      have he24 := (hfo23 a2 (Ty.ne ha2 (wt_X0_2 hWT ha0) (by decide))).trans he18
      have he25 := (hfo23 a0 (Ty.ne ha0 (wt_X0_2 hWT ha0) (by decide))).trans he19
      have he26 := (hfo23 a1 (Ty.ne ha1 (wt_X0_2 hWT ha0) (by decide))).trans he20
      obtain ⟨z27, ez27⟩ : ∃ z : Int32, z = w3_3 + 1 := ⟨_, rfl⟩
      refine lv_iinc (v := z27) (lv' := [(3, .int z27), (4, .int r8), (0, .ref a0), (1, .ref a1), (2, .ref a2)]) hx hb dX0_aim_68 hl (k := 4) rfl (by rw [ez27]; rfl) (by decide) rfl (fun ls hl => ?_)
      have ic27 : z27.toInt = w3_3.toInt + 1 := by rw [ez27]; exact ic_up (by have := i_rng r5; have := i_rng w3_3; simp only [i_lt, i_le, i_eq, ti_m9, ti_m1, ti_0, ti_1, ti_2, ti_3, ti_4, ti_5, ti_6, ti_7, ti_9, ti_12, ti_20, ti_99, ti_700, ti_24] at hlo3 hra5 hrb5 c6 c7 ⊢; omega)
      refine lv_goto (tgt := 7) hx hb dX0_aim_71 (by decide) ?_
      exact ih3 _ f23 _ _ _ (by first | omega | (simp only [i_lt, i_le, i_eq, ti_m9, ti_m1, ti_0, ti_1, ti_2, ti_3, ti_4, ti_5, ti_6, ti_7, ti_9, ti_12, ti_20, ti_99, ti_700, ti_24, ic27] at hlo3 hra5 hrb5 c6 c7 ic27 ⊢; omega)) ⟨hok, hP, hS, z27, rfl, (by first | omega | (simp only [i_lt, i_le, i_eq, ti_m9, ti_m1, ti_0, ti_1, ti_2, ti_3, ti_4, ti_5, ti_6, ti_7, ti_9, ti_12, ti_20, ti_99, ti_700, ti_24, ic27] at hlo3 hra5 hrb5 c6 c7 ⊢; omega)), lv_sub hl [2, 3, 4, 0] rfl⟩

set_option maxHeartbeats 4000000 in
set_option maxRecDepth 100000 in
theorem t_X0_hits (l : Launch) (dC : Nat → ClassId) (dI : Nat → Nat → Nat) (sz : Nat) (G : GT) (cs : Nat → ClassId) (tt mm : Nat) (a0 : Nat) (ha0 : Ty G a0 1) (a1 : Nat) (ha1 : Ty G a1 10) : Met l yX0_hits [.code yX0_hits cX0_hits 5 (some .boolean)] ({ frames := 1, cells := 0, slots := 0, locals := 40 }) (PT [.ref a0, .ref a1] sz dC dI G cs tt mm) (vp_Si (fun (r : Int32) => r = 0 ∨ r = 1)) 0 0 (fun _ => False) := by
  refine Met.ofW (cc := cX0_hits) (maxL := 5) (ret := (some .boolean)) (by decide) rfl ?_
  intro p e s m args below meth c s₁ B hml hv
  obtain ⟨rfl, hsz, ⟨f0, hok, hP⟩, hK, hnd, hWT, hE⟩ := hv
  have hx := B.exec
  have hb := B.bytes
  have hr := B.returns
  have hown : s.vm.findClass RX0 = some m.cls := findClass_of_methodNamed B.named
  have hlocks := B.notSynchronized
  subst hsz
  have hl := lv_entry ([.ref a0, .ref a1]) (n := 5) (Nat.le_of_ble_eq_true rfl)
  rw [lg_entry_eq]
  generalize (lg_sl ([.ref a0, .ref a1]) ++ List.replicate (5 - (lg_sl ([.ref a0, .ref a1])).length) Slot.unset).toArray = ls at hl ⊢
  have hl : lv_has ls 5 [(0, .ref a0), (1, .ref a1)] := hl
  refine lv_aload_n hx hb dX0_hits_0 rfl (lv_at hl 1 rfl) ?_
  refine lv_iconst (v := 0) hx hb dX0_hits_1 (by decide) ?_
  obtain ⟨y2_1, y3_1, hy3_1, he1⟩ := ok_X10 hok ha1
  refine vp_callSi (va_Run.run (va_runV (As := [.int 0]) (rest := []) ⟨hx, hb, hml, hown, noTs⟩ (t_X10_numberAt l dC dI s.heap.size G cs tt mm a1 ha1 0) ⟨cbE 1 (wd_717 hE) (wd_120 hE) (wd_1166 hE) rfl rfl (by decide +kernel) ⟨Nat.le_of_ble_eq_true rfl, Nat.le_of_ble_eq_true rfl⟩, (wd_715 hE), (wd_716 hE)⟩ ⟨PT.blind, th_recv hK hP ha1.1 he1 rfl, (th_pre (av := [.ref a1, .int 0]) hK hP hok hnd hWT hE)⟩ rfl rfl hl.1 rfl (lv_room (Nat.le_of_ble_eq_true rfl)) dX0_hits_2 ⟨Nat.le_of_ble_eq_true rfl, Nat.le_of_ble_eq_true rfl⟩)) (fun r2 hr2 => ?_)
  refine lv_istore_n (lv' := [(2, .int r2), (0, .ref a0), (1, .ref a1)]) hx hb dX0_hits_5 rfl hl (by decide) rfl (fun ls hl => ?_)
  refine lv_iconst (v := 0) hx hb dX0_hits_6 (by decide) ?_
  refine lv_istore_n (lv' := [(3, .int 0), (2, .int r2), (0, .ref a0), (1, .ref a1)]) hx hb dX0_hits_7 rfl hl (by decide) rfl (fun ls hl => ?_)
  refine w_indP (I := fun n ls => ∃ (w2_3 : Int32) (w3_3 : Int32), n = (2147483647 - w3_3.toInt).toNat ∧ 0 ≤ w3_3 ∧ lv_has ls 5 [(0, .ref a0), (1, .ref a1), (2, .int w2_3), (3, .int w3_3)]) (fun n ls hI ih3 => ?_) _ _ ⟨r2, 0, rfl, (by first | omega | (simp only [i_lt, i_le, i_eq, ti_m9, ti_m1, ti_0, ti_1, ti_2, ti_3, ti_4, ti_5, ti_6, ti_7, ti_9, ti_12, ti_20, ti_99, ti_700, ti_24]; omega)), lv_sub hl [2, 3, 1, 0] rfl⟩
  obtain ⟨w2_3, w3_3, hmu3, hlo3, hl⟩ := hI
  subst hmu3
  refine lv_iload_n hx hb dX0_hits_8 rfl (lv_at hl 3 rfl) ?_
  refine lv_aload_n hx hb dX0_hits_9 rfl (lv_at hl 1 rfl) ?_
  refine vp_callSi (va_Run.run (va_runV (As := []) (rest := [.int w3_3]) ⟨hx, hb, hml, hown, noTs⟩ (t_X10_size l dC dI s.heap.size G cs tt mm a1 ha1) ⟨cbE 0 (wd_666 hE) (wd_120 hE) (wd_1146 hE) rfl rfl (by decide +kernel) ⟨Nat.le_of_ble_eq_true rfl, Nat.le_of_ble_eq_true rfl⟩, (wd_664 hE), (wd_665 hE)⟩ ⟨PT.blind, th_recv hK hP ha1.1 he1 rfl, (th_pre (av := [.ref a1]) hK hP hok hnd hWT hE)⟩ rfl rfl hl.1 rfl (lv_room (Nat.le_of_ble_eq_true rfl)) dX0_hits_10 ⟨Nat.le_of_ble_eq_true rfl, Nat.le_of_ble_eq_true rfl⟩)) (fun r4 hr4 => ?_)
  obtain ⟨hra4, hrb4⟩ := hr4
  refine lv_icmp_ge (tgt := 86) hx hb dX0_hits_13 (by decide) (fun c5 => ?_) (fun c5 => ?_)
  · refine lv_iload_n hx hb dX0_hits_86 rfl (lv_at hl 2 rfl) ?_
    refine lv_aload_n hx hb dX0_hits_87 rfl (lv_at hl 0 rfl) ?_
    obtain ⟨y4_6, hy4_6, he6⟩ := ok_X0 hok ha0
    refine th_get hx hb (ly_X0 hE) hown hK hP ha0.1 he6 rfl 4 (by decide) (wd_293 hE) (fun _ h9 => h9) rfl dX0_hits_88 ?_
    obtain ⟨y2_7, y3_7, hy3_7, he7⟩ := ok_X10 hok hy4_6
    refine vp_callSi (va_Run.run (va_runV (As := []) (rest := [.int w2_3]) ⟨hx, hb, hml, hown, noTs⟩ (t_X10_lastNumber l dC dI s.heap.size G cs tt mm y4_6 hy4_6) ⟨cbE 0 (wd_649 hE) (wd_120 hE) (wd_1169 hE) rfl rfl (by decide +kernel) ⟨Nat.le_of_ble_eq_true rfl, Nat.le_of_ble_eq_true rfl⟩, (wd_647 hE), (wd_648 hE)⟩ ⟨PT.blind, th_recv hK hP hy4_6.1 he7 rfl, (th_pre (av := [.ref y4_6]) hK hP hok hnd hWT hE)⟩ rfl rfl hl.1 rfl (lv_room (Nat.le_of_ble_eq_true rfl)) dX0_hits_91 ⟨Nat.le_of_ble_eq_true rfl, Nat.le_of_ble_eq_true rfl⟩)) (fun r8 hr8 => ?_)
    refine lv_icmp_ne (tgt := 101) hx hb dX0_hits_94 (by decide) (fun c9 => ?_) (fun c9 => ?_)
    · refine lv_iconst (v := 0) hx hb dX0_hits_101 (by decide) ?_
      exact W.zret (v := 0) hx hb hr rfl (fun t ht hW => ⟨0, rfl, Or.inl rfl, ht⟩) (fun _ h => absurd h List.not_mem_nil) dX0_hits_102
    · refine lv_iconst (v := 1) hx hb dX0_hits_97 (by decide) ?_
      refine lv_goto (tgt := 102) hx hb dX0_hits_98 (by decide) ?_
      exact W.zret (v := 1) hx hb hr rfl (fun t ht hW => ⟨1, rfl, Or.inr rfl, ht⟩) (fun _ h => absurd h List.not_mem_nil) dX0_hits_102
  · refine lv_iload_n hx hb dX0_hits_16 rfl (lv_at hl 3 rfl) ?_
    refine lv_bipush (v := 24) hx hb dX0_hits_17 (by decide) ?_
    refine lv_icmp_ge (tgt := 86) hx hb dX0_hits_19 (by decide) (fun c10 => ?_) (fun c10 => ?_)
    · refine lv_iload_n hx hb dX0_hits_86 rfl (lv_at hl 2 rfl) ?_
      refine lv_aload_n hx hb dX0_hits_87 rfl (lv_at hl 0 rfl) ?_
      obtain ⟨y4_11, hy4_11, he11⟩ := ok_X0 hok ha0
      refine th_get hx hb (ly_X0 hE) hown hK hP ha0.1 he11 rfl 4 (by decide) (wd_293 hE) (fun _ h9 => h9) rfl dX0_hits_88 ?_
      obtain ⟨y2_12, y3_12, hy3_12, he12⟩ := ok_X10 hok hy4_11
      refine vp_callSi (va_Run.run (va_runV (As := []) (rest := [.int w2_3]) ⟨hx, hb, hml, hown, noTs⟩ (t_X10_lastNumber l dC dI s.heap.size G cs tt mm y4_11 hy4_11) ⟨cbE 0 (wd_649 hE) (wd_120 hE) (wd_1169 hE) rfl rfl (by decide +kernel) ⟨Nat.le_of_ble_eq_true rfl, Nat.le_of_ble_eq_true rfl⟩, (wd_647 hE), (wd_648 hE)⟩ ⟨PT.blind, th_recv hK hP hy4_11.1 he12 rfl, (th_pre (av := [.ref y4_11]) hK hP hok hnd hWT hE)⟩ rfl rfl hl.1 rfl (lv_room (Nat.le_of_ble_eq_true rfl)) dX0_hits_91 ⟨Nat.le_of_ble_eq_true rfl, Nat.le_of_ble_eq_true rfl⟩)) (fun r13 hr13 => ?_)
      refine lv_icmp_ne (tgt := 101) hx hb dX0_hits_94 (by decide) (fun c14 => ?_) (fun c14 => ?_)
      · refine lv_iconst (v := 0) hx hb dX0_hits_101 (by decide) ?_
        exact W.zret (v := 0) hx hb hr rfl (fun t ht hW => ⟨0, rfl, Or.inl rfl, ht⟩) (fun _ h => absurd h List.not_mem_nil) dX0_hits_102
      · refine lv_iconst (v := 1) hx hb dX0_hits_97 (by decide) ?_
        refine lv_goto (tgt := 102) hx hb dX0_hits_98 (by decide) ?_
        exact W.zret (v := 1) hx hb hr rfl (fun t ht hW => ⟨1, rfl, Or.inr rfl, ht⟩) (fun _ h => absurd h List.not_mem_nil) dX0_hits_102
    · refine lv_aload_n hx hb dX0_hits_22 rfl (lv_at hl 0 rfl) ?_
      obtain ⟨y4_15, hy4_15, he15⟩ := ok_X0 hok ha0
      refine th_get hx hb (ly_X0 hE) hown hK hP ha0.1 he15 rfl 0 (by decide) (wd_289 hE) (fun _ h9 => h9) rfl dX0_hits_23 ?_
      refine lv_iload_n hx hb dX0_hits_26 rfl (lv_at hl 3 rfl) ?_
      refine th_iald hx hb hK hP hok (wt_X0_0 hWT ha0) (n := 24) (wl_X0_0 hWT ha0) (vp_in_iff.mpr (by first | omega | (simp only [i_lt, i_le, i_eq, ti_m9, ti_m1, ti_0, ti_1, ti_2, ti_3, ti_4, ti_5, ti_6, ti_7, ti_9, ti_12, ti_20, ti_99, ti_700, ti_24] at hlo3 hra4 hrb4 c5 c10 ⊢; omega))) dX0_hits_27 (fun x16 => ?_)
      refine lv_istore (lv' := [(4, .int x16), (0, .ref a0), (1, .ref a1), (2, .int w2_3), (3, .int w3_3)]) hx hb dX0_hits_28 hl (by decide) rfl (fun ls hl => ?_)
      refine lv_iload_n hx hb dX0_hits_30 rfl (lv_at hl 3 rfl) ?_
      refine lv_iload hx hb dX0_hits_31 (lv_at hl 0 rfl) ?_
      refine vp_callSi (va_Run.run (va_runSN (As := [.int w2_3, .int x16]) (rest := []) ⟨hx, hb, hml, hown, noTs⟩ (t_X11_rest l dC dI s.heap.size G cs tt mm w2_3 x16) ⟨cnE 2 (wd_617 hE) (wd_115 hE) (wd_1167 hE) rfl rfl (by decide +kernel) ⟨Nat.le_of_ble_eq_true rfl, Nat.le_of_ble_eq_true rfl⟩, (wd_616 hE), trivial⟩ ⟨PT.blind, (th_pre (av := [.int w2_3, .int x16]) hK hP hok hnd hWT hE)⟩ rfl rfl hl.1 rfl (lv_room (Nat.le_of_ble_eq_true rfl)) dX0_hits_33 ⟨Nat.le_of_ble_eq_true rfl, Nat.le_of_ble_eq_true rfl⟩)) (fun r17 hr17 => ?_)
      refine lv_aload_n hx hb dX0_hits_36 rfl (lv_at hl 1 rfl) ?_
      refine th_get hx hb (ly_X0 hE) hown hK hP ha0.1 he15 rfl 4 (by decide) (wd_293 hE) (fun _ h9 => h9) rfl dX0_hits_37 ?_
      refine lv_iload_n hx hb dX0_hits_40 rfl (lv_at hl 4 rfl) ?_
      obtain ⟨y2_18, y3_18, hy3_18, he18⟩ := ok_X10 hok hy4_15
      refine vp_callSi (va_Run.run (va_runV (As := [.int w3_3]) (rest := [.int r17]) ⟨hx, hb, hml, hown, noTs⟩ (t_X10_numberAt l dC dI s.heap.size G cs tt mm y4_15 hy4_15 w3_3) ⟨cbE 1 (wd_717 hE) (wd_120 hE) (wd_1166 hE) rfl rfl (by decide +kernel) ⟨Nat.le_of_ble_eq_true rfl, Nat.le_of_ble_eq_true rfl⟩, (wd_715 hE), (wd_716 hE)⟩ ⟨PT.blind, th_recv hK hP hy4_15.1 he18 rfl, (th_pre (av := [.ref y4_15, .int w3_3]) hK hP hok hnd hWT hE)⟩ rfl rfl hl.1 rfl (lv_room (Nat.le_of_ble_eq_true rfl)) dX0_hits_41 ⟨Nat.le_of_ble_eq_true rfl, Nat.le_of_ble_eq_true rfl⟩)) (fun r19 hr19 => ?_)
      refine lv_icmp_eq (tgt := 49) hx hb dX0_hits_44 (by decide) (fun c20 => ?_) (fun c20 => ?_)
      · refine lv_iload_n hx hb dX0_hits_49 rfl (lv_at hl 3 rfl) ?_
        refine lv_iload hx hb dX0_hits_50 (lv_at hl 0 rfl) ?_
        refine vp_callSi (va_Run.run (va_runSN (As := [.int w2_3, .int x16]) (rest := []) ⟨hx, hb, hml, hown, noTs⟩ (t_X11_share l dC dI s.heap.size G cs tt mm w2_3 x16) ⟨cnE 2 (wd_620 hE) (wd_115 hE) (wd_1168 hE) rfl rfl (by decide +kernel) ⟨Nat.le_of_ble_eq_true rfl, Nat.le_of_ble_eq_true rfl⟩, (wd_619 hE), trivial⟩ ⟨PT.blind, (th_pre (av := [.int w2_3, .int x16]) hK hP hok hnd hWT hE)⟩ rfl rfl hl.1 rfl (lv_room (Nat.le_of_ble_eq_true rfl)) dX0_hits_52 ⟨Nat.le_of_ble_eq_true rfl, Nat.le_of_ble_eq_true rfl⟩)) (fun r21 hr21 => ?_)
        refine lv_aload_n hx hb dX0_hits_55 rfl (lv_at hl 1 rfl) ?_
        refine th_get hx hb (ly_X0 hE) hown hK hP ha0.1 he15 rfl 1 (by decide) (wd_290 hE) (fun _ h9 => h9) rfl dX0_hits_56 ?_
        refine lv_iload_n hx hb dX0_hits_59 rfl (lv_at hl 4 rfl) ?_
        refine th_iald hx hb hK hP hok (wt_X0_1 hWT ha0) (n := 24) (wl_X0_1 hWT ha0) (vp_in_iff.mpr (by first | omega | (simp only [i_lt, i_le, i_eq, ti_m9, ti_m1, ti_0, ti_1, ti_2, ti_3, ti_4, ti_5, ti_6, ti_7, ti_9, ti_12, ti_20, ti_99, ti_700, ti_24] at hlo3 hra4 hrb4 c5 c10 c20 ⊢; omega))) dX0_hits_60 (fun x22 => ?_)
        refine lv_imul hx hb dX0_hits_61 ?_
        refine lv_topi (fun x23 _ => ?_)
        refine lv_aload_n hx hb dX0_hits_62 rfl (lv_at hl 2 rfl) ?_
        refine lv_iload_n hx hb dX0_hits_63 rfl (lv_at hl 4 rfl) ?_
        refine lv_iconst (v := 1) hx hb dX0_hits_64 (by decide) ?_
        obtain ⟨j24, hj24, rfl⟩ : ∃ j : Nat, j ≤ 23 ∧ w3_3 = nI j := i_nat (by first | omega | (simp only [i_lt, i_le, i_eq, ti_m9, ti_m1, ti_0, ti_1, ti_2, ti_3, ti_4, ti_5, ti_6, ti_7, ti_9, ti_12, ti_20, ti_99, ti_700, ti_24] at hlo3 hra4 hrb4 c5 c10 c20 ⊢; omega)) (by first | omega | (simp only [i_lt, i_le, i_eq, ti_m9, ti_m1, ti_0, ti_1, ti_2, ti_3, ti_4, ti_5, ti_6, ti_7, ti_9, ti_12, ti_20, ti_99, ti_700, ti_24] at hlo3 hra4 hrb4 c5 c10 c20 ⊢; omega))
        have nt25 : (nI j24).toInt = ((j24 : Nat) : Int) := nI_toInt (by omega)
        refine lv_iadd hx hb dX0_hits_65 ?_
        refine W.eq (g2 := F0 m 66 ls [.int (nI (j24 + 1)), .ref a1, .int x23]) (congrArg (fun z : Int32 => F0 m 66 ls (.int z :: [.ref a1, .int x23])) (nI_add j24 1)) ?_
        refine vp_callSi (va_Run.run (va_runV (As := [.int (nI (j24 + 1))]) (rest := [.int x23]) ⟨hx, hb, hml, hown, noTs⟩ (t_X10_numberAt l dC dI s.heap.size G cs tt mm a1 ha1 (nI (j24 + 1))) ⟨cbE 1 (wd_717 hE) (wd_120 hE) (wd_1166 hE) rfl rfl (by decide +kernel) ⟨Nat.le_of_ble_eq_true rfl, Nat.le_of_ble_eq_true rfl⟩, (wd_715 hE), (wd_716 hE)⟩ ⟨PT.blind, th_recv hK hP ha1.1 he1 rfl, (th_pre (av := [.ref a1, .int (nI (j24 + 1))]) hK hP hok hnd hWT hE)⟩ rfl rfl hl.1 rfl (lv_room (Nat.le_of_ble_eq_true rfl)) dX0_hits_66 ⟨Nat.le_of_ble_eq_true rfl, Nat.le_of_ble_eq_true rfl⟩)) (fun r26 hr26 => ?_)
        refine lv_iadd hx hb dX0_hits_69 ?_
        refine lv_topi (fun x27 _ => ?_)
        refine lv_aload_n hx hb dX0_hits_70 rfl (lv_at hl 1 rfl) ?_
        refine th_get hx hb (ly_X0 hE) hown hK hP ha0.1 he15 rfl 2 (by decide) (wd_291 hE) (fun _ h9 => h9) rfl dX0_hits_71 ?_
        refine lv_iload_n hx hb dX0_hits_74 rfl (lv_at hl 4 rfl) ?_
        refine th_iald hx hb hK hP hok (wt_X0_2 hWT ha0) (n := 24) (wl_X0_2 hWT ha0) (vp_in_iff.mpr (by first | omega | (simp only [i_lt, i_le, i_eq, ti_m9, ti_m1, ti_0, ti_1, ti_2, ti_3, ti_4, ti_5, ti_6, ti_7, ti_9, ti_12, ti_20, ti_99, ti_700, ti_24, nt25] at hlo3 hra4 hrb4 c5 c10 c20 ⊢; omega))) dX0_hits_75 (fun x28 => ?_)
        refine vp_callSi (va_Run.run (va_runSN (As := [.int x27, .int x28]) (rest := []) ⟨hx, hb, hml, hown, noTs⟩ (t_X11_rest l dC dI s.heap.size G cs tt mm x27 x28) ⟨cnE 2 (wd_617 hE) (wd_115 hE) (wd_1167 hE) rfl rfl (by decide +kernel) ⟨Nat.le_of_ble_eq_true rfl, Nat.le_of_ble_eq_true rfl⟩, (wd_616 hE), trivial⟩ ⟨PT.blind, (th_pre (av := [.int x27, .int x28]) hK hP hok hnd hWT hE)⟩ rfl rfl hl.1 rfl (lv_room (Nat.le_of_ble_eq_true rfl)) dX0_hits_76 ⟨Nat.le_of_ble_eq_true rfl, Nat.le_of_ble_eq_true rfl⟩)) (fun r29 hr29 => ?_)
        refine lv_istore_n (lv' := [(2, .int r29), (4, .int x16), (0, .ref a0), (1, .ref a1), (3, .int (nI j24))]) hx hb dX0_hits_79 rfl hl (by decide) rfl (fun ls hl => ?_)
        obtain ⟨z30, ez30⟩ : ∃ z : Int32, z = nI j24 + 1 := ⟨_, rfl⟩
        refine lv_iinc (v := z30) (lv' := [(3, .int z30), (2, .int r29), (4, .int x16), (0, .ref a0), (1, .ref a1)]) hx hb dX0_hits_80 hl (k := 4) rfl (by rw [ez30]; rfl) (by decide) rfl (fun ls hl => ?_)
        have ic30 : z30.toInt = nI j24.toInt + 1 := by rw [ez30]; exact ic_up (by have := i_rng r4; have := i_rng w3_3; have := i_rng r17; have := i_rng r19; simp only [i_lt, i_le, i_eq, ti_m9, ti_m1, ti_0, ti_1, ti_2, ti_3, ti_4, ti_5, ti_6, ti_7, ti_9, ti_12, ti_20, ti_99, ti_700, ti_24, nt25] at hlo3 hra4 hrb4 c5 c10 c20 ⊢; omega)
        refine lv_goto (tgt := 8) hx hb dX0_hits_83 (by decide) ?_
        exact ih3 _ _ (by first | omega | (simp only [i_lt, i_le, i_eq, ti_m9, ti_m1, ti_0, ti_1, ti_2, ti_3, ti_4, ti_5, ti_6, ti_7, ti_9, ti_12, ti_20, ti_99, ti_700, ti_24, nt25, ic30] at hlo3 hra4 hrb4 c5 c10 c20 ic30 ⊢; omega)) ⟨r29, z30, rfl, (by first | omega | (simp only [i_lt, i_le, i_eq, ti_m9, ti_m1, ti_0, ti_1, ti_2, ti_3, ti_4, ti_5, ti_6, ti_7, ti_9, ti_12, ti_20, ti_99, ti_700, ti_24, nt25, ic30] at hlo3 hra4 hrb4 c5 c10 c20 ⊢; omega)), lv_sub hl [3, 4, 1, 0] rfl⟩
      · refine lv_iconst (v := 0) hx hb dX0_hits_47 (by decide) ?_
        exact W.zret (v := 0) hx hb hr rfl (fun t ht hW => ⟨0, rfl, Or.inl rfl, ht⟩) (fun _ h => absurd h List.not_mem_nil) dX0_hits_48

set_option maxHeartbeats 4000000 in
set_option maxRecDepth 100000 in
theorem t_X0_repeatFirst (l : Launch) (dC : Nat → ClassId) (dI : Nat → Nat → Nat) (sz : Nat) (G : GT) (cs : Nat → ClassId) (tt mm : Nat) (a0 : Nat) (ha0 : Ty G a0 1) (a1 : Nat) (ha1 : Ty G a1 10) (v2 : Int32) : Met l yX0_repeatFirst [.code yX0_repeatFirst cX0_repeatFirst 4 none] ({ frames := 1, cells := 0, slots := 0, locals := 40 }) (PT [.ref a0, .ref a1, .int v2] sz dC dI G cs tt mm) (va_Qv (fun (u : Nat → va_E) => True) (BT dC dI G cs tt mm) (AT G sz)) 0 0 (AT G sz) := by
  refine Met.ofW (cc := cX0_repeatFirst) (maxL := 4) (ret := none) (by decide) rfl ?_
  intro p e s m args below meth c s₁ B hml hv
  obtain ⟨rfl, hsz, ⟨f0, hok, hP⟩, hK, hnd, hWT, hE⟩ := hv
  have hx := B.exec
  have hb := B.bytes
  have hr := B.returns
  have hown : s.vm.findClass RX0 = some m.cls := findClass_of_methodNamed B.named
  have hlocks := B.notSynchronized
  subst hsz
  have hAL : ∀ a, a ∈ gL G → AT G s.heap.size a := fun a h => Or.inl h
  have hA : ∀ q : Nat, s.heap.size ≤ q → AT G s.heap.size q := fun q h => Or.inr h
  have hS : va_S (AT G s.heap.size) s.heap s.heap [] := va_S.rf
  have hl := lv_entry ([.ref a0, .ref a1, .int v2]) (n := 4) (Nat.le_of_ble_eq_true rfl)
  rw [lg_entry_eq]
  generalize (lg_sl ([.ref a0, .ref a1, .int v2]) ++ List.replicate (4 - (lg_sl ([.ref a0, .ref a1, .int v2])).length) Slot.unset).toArray = ls at hl ⊢
  have hl : lv_has ls 4 [(0, .ref a0), (1, .ref a1), (2, .int v2)] := hl
  refine lv_aload_n hx hb dX0_repeatFirst_0 rfl (lv_at hl 0 rfl) ?_
  obtain ⟨y4_1, hy4_1, he1⟩ := ok_X0 hok ha0
  refine th_get hx hb (ly_X0 hE) hown hK hP ha0.1 he1 rfl 3 (by decide) (wd_292 hE) (fun _ h9 => h9) rfl dX0_repeatFirst_1 ?_
  refine lv_aload_n hx hb dX0_repeatFirst_4 rfl (lv_at hl 1 rfl) ?_
  obtain ⟨y2_2, y3_2, hy3_2, he2⟩ := ok_X10 hok ha1
  refine vp_callSi (va_Run.run (va_runV (As := []) (rest := [.ref (gR G a0 3)]) ⟨hx, hb, hml, hown, noTs⟩ (t_X10_begin l dC dI s.heap.size G cs tt mm a1 ha1) ⟨cbE 0 (wd_713 hE) (wd_120 hE) (wd_1229 hE) rfl rfl (by decide +kernel) ⟨Nat.le_of_ble_eq_true rfl, Nat.le_of_ble_eq_true rfl⟩, (wd_711 hE), (wd_712 hE)⟩ ⟨PT.blind, th_recv hK hP ha1.1 he2 rfl, (th_pre (av := [.ref a1]) hK hP hok hnd hWT hE)⟩ rfl rfl hl.1 rfl (lv_room (Nat.le_of_ble_eq_true rfl)) dX0_repeatFirst_5 ⟨Nat.le_of_ble_eq_true rfl, Nat.le_of_ble_eq_true rfl⟩)) (fun r3 hr3 => ?_)
  refine lv_aload_n hx hb dX0_repeatFirst_8 rfl (lv_at hl 1 rfl) ?_
  refine lv_iconst (v := 0) hx hb dX0_repeatFirst_9 (by decide) ?_
  refine vp_callSi (va_Run.run (va_runV (As := [.int 0]) (rest := [.int r3, .ref (gR G a0 3)]) ⟨hx, hb, hml, hown, noTs⟩ (t_X10_numberAt l dC dI s.heap.size G cs tt mm a1 ha1 0) ⟨cbE 1 (wd_717 hE) (wd_120 hE) (wd_1166 hE) rfl rfl (by decide +kernel) ⟨Nat.le_of_ble_eq_true rfl, Nat.le_of_ble_eq_true rfl⟩, (wd_715 hE), (wd_716 hE)⟩ ⟨PT.blind, th_recv hK hP ha1.1 he2 rfl, (th_pre (av := [.ref a1, .int 0]) hK hP hok hnd hWT hE)⟩ rfl rfl hl.1 rfl (lv_room (Nat.le_of_ble_eq_true rfl)) dX0_repeatFirst_10 ⟨Nat.le_of_ble_eq_true rfl, Nat.le_of_ble_eq_true rfl⟩)) (fun r4 hr4 => ?_)
  obtain ⟨y2_5, y3_5, hy3_5, he5⟩ := ok_X10 hok (wt_X0_3 hWT ha0)
  refine tc_v hAL hS hA (va_runV (As := [.int r3, .int r4]) (rest := []) ⟨hx, hb, hml, hown, noTs⟩ (t_X10_start l dC dI s.heap.size G cs tt mm (gR G a0 3) ((wt_X0_3 hWT ha0)) r3 r4) ⟨cbE 2 (wd_637 hE) (wd_120 hE) (wd_1230 hE) rfl rfl (by decide +kernel) ⟨Nat.le_of_ble_eq_true rfl, Nat.le_of_ble_eq_true rfl⟩, (wd_635 hE), (wd_636 hE)⟩ ⟨PT.blind, th_recv hK hP (wt_X0_3 hWT ha0).1 he5 rfl, (th_pre (av := [.ref (gR G a0 3), .int r3, .int r4]) hK hP hok hnd hWT hE)⟩ rfl rfl hl.1 rfl (lv_room (Nat.le_of_ble_eq_true rfl)) dX0_repeatFirst_13 ⟨Nat.le_of_ble_eq_true rfl, Nat.le_of_ble_eq_true rfl⟩) (fun f6 H locs hr6 hok hP hS => ?_)
  refine lv_iconst (v := 0) hx hb dX0_repeatFirst_16 (by decide) ?_
  refine lv_istore_n (lv' := [(3, .int 0), (0, .ref a0), (1, .ref a1), (2, .int v2)]) hx hb dX0_repeatFirst_17 rfl hl (by decide) rfl (fun ls hl => ?_)
  refine w_ind (I := fun n f H locs ls => OKT G cs tt mm f ∧ va_P (dC, dI) vwCl (va_pl (gL G) f) H ∧ va_S (AT G s.heap.size) s.heap H locs ∧ ∃ (w3_7 : Int32), n = (2147483647 - w3_7.toInt).toNat ∧ 0 ≤ w3_7 ∧ lv_has ls 4 [(0, .ref a0), (1, .ref a1), (2, .int v2), (3, .int w3_7)]) (fun n f7 H locs ls hI ih7 => ?_) _ f6 _ _ _ ⟨hok, hP, hS, 0, rfl, (by first | omega | (simp only [i_lt, i_le, i_eq, ti_m9, ti_m1, ti_0, ti_1, ti_2, ti_3, ti_4, ti_5, ti_6, ti_7, ti_9, ti_12, ti_20, ti_99, ti_700, ti_24]; omega)), lv_sub hl [1, 2, 3, 0] rfl⟩
  obtain ⟨hok, hP, hS, w3_7, hmu7, hlo7, hl⟩ := hI
  subst hmu7
  refine lv_iload_n hx hb dX0_repeatFirst_18 rfl (lv_at hl 3 rfl) ?_
  refine lv_aload_n hx hb dX0_repeatFirst_19 rfl (lv_at hl 1 rfl) ?_
  obtain ⟨y2_8, y3_8, hy3_8, he8⟩ := ok_X10 hok ha1
  refine vp_callSi (va_Run.run (va_runV (As := []) (rest := [.int w3_7]) ⟨hx, hb, hml, hown, noTs⟩ (t_X10_size l dC dI H.size G cs tt mm a1 ha1) ⟨cbE 0 (wd_666 hE) (wd_120 hE) (wd_1146 hE) rfl rfl (by decide +kernel) ⟨Nat.le_of_ble_eq_true rfl, Nat.le_of_ble_eq_true rfl⟩, (wd_664 hE), (wd_665 hE)⟩ ⟨PT.blind, th_recv hK hP ha1.1 he8 rfl, (th_pre (av := [.ref a1]) hK hP hok hnd hWT hE)⟩ rfl rfl hl.1 rfl (lv_room (Nat.le_of_ble_eq_true rfl)) dX0_repeatFirst_20 ⟨Nat.le_of_ble_eq_true rfl, Nat.le_of_ble_eq_true rfl⟩)) (fun r9 hr9 => ?_)
  obtain ⟨hra9, hrb9⟩ := hr9
  refine lv_icmp_ge (tgt := 59) hx hb dX0_repeatFirst_23 (by decide) (fun c10 => ?_) (fun c10 => ?_)
  · exact W.vret hx hb hr (fun t ht hW => ⟨⟨f7, rfl, trivial, hok, by rw [ht]; exact hP⟩, hS.F ht⟩) hS.2.2 dX0_repeatFirst_59
  · refine lv_aload_n hx hb dX0_repeatFirst_26 rfl (lv_at hl 0 rfl) ?_
    obtain ⟨y4_11, hy4_11, he11⟩ := ok_X0 hok ha0
    refine th_get hx hb (ly_X0 hE) hown hK hP ha0.1 he11 rfl 3 (by decide) (wd_292 hE) (fun _ h9 => h9) rfl dX0_repeatFirst_27 ?_
    refine lv_aload_n hx hb dX0_repeatFirst_30 rfl (lv_at hl 1 rfl) ?_
    refine lv_iload_n hx hb dX0_repeatFirst_31 rfl (lv_at hl 3 rfl) ?_
    refine lv_iload_n hx hb dX0_repeatFirst_32 rfl (lv_at hl 2 rfl) ?_
    refine vp_callSi (va_Run.run (va_runSN (As := [.int w3_7, .int v2]) (rest := [.ref a1, .ref (gR G a0 3)]) ⟨hx, hb, hml, hown, noTs⟩ (t_X11_rest l dC dI H.size G cs tt mm w3_7 v2) ⟨cnE 2 (wd_617 hE) (wd_115 hE) (wd_1167 hE) rfl rfl (by decide +kernel) ⟨Nat.le_of_ble_eq_true rfl, Nat.le_of_ble_eq_true rfl⟩, (wd_616 hE), trivial⟩ ⟨PT.blind, (th_pre (av := [.int w3_7, .int v2]) hK hP hok hnd hWT hE)⟩ rfl rfl hl.1 rfl (lv_room (Nat.le_of_ble_eq_true rfl)) dX0_repeatFirst_33 ⟨Nat.le_of_ble_eq_true rfl, Nat.le_of_ble_eq_true rfl⟩)) (fun r12 hr12 => ?_)
    refine vp_callSi (va_Run.run (va_runV (As := [.int r12]) (rest := [.ref (gR G a0 3)]) ⟨hx, hb, hml, hown, noTs⟩ (t_X10_stepAt l dC dI H.size G cs tt mm a1 ha1 r12) ⟨cbE 1 (wd_721 hE) (wd_120 hE) (wd_1147 hE) rfl rfl (by decide +kernel) ⟨Nat.le_of_ble_eq_true rfl, Nat.le_of_ble_eq_true rfl⟩, (wd_719 hE), (wd_720 hE)⟩ ⟨PT.blind, th_recv hK hP ha1.1 he8 rfl, (th_pre (av := [.ref a1, .int r12]) hK hP hok hnd hWT hE)⟩ rfl rfl hl.1 rfl (lv_room (Nat.le_of_ble_eq_true rfl)) dX0_repeatFirst_36 ⟨Nat.le_of_ble_eq_true rfl, Nat.le_of_ble_eq_true rfl⟩)) (fun r13 hr13 => ?_)
    refine lv_aload_n hx hb dX0_repeatFirst_39 rfl (lv_at hl 1 rfl) ?_
    refine lv_iload_n hx hb dX0_repeatFirst_40 rfl (lv_at hl 3 rfl) ?_
    refine lv_iconst (v := 1) hx hb dX0_repeatFirst_41 (by decide) ?_
    refine lv_iadd hx hb dX0_repeatFirst_42 ?_
    refine lv_topi (fun x14 _ => ?_)
    refine lv_iload_n hx hb dX0_repeatFirst_43 rfl (lv_at hl 2 rfl) ?_
    refine vp_callSi (va_Run.run (va_runSN (As := [.int x14, .int v2]) (rest := [.ref a1, .int r13, .ref (gR G a0 3)]) ⟨hx, hb, hml, hown, noTs⟩ (t_X11_rest l dC dI H.size G cs tt mm x14 v2) ⟨cnE 2 (wd_617 hE) (wd_115 hE) (wd_1167 hE) rfl rfl (by decide +kernel) ⟨Nat.le_of_ble_eq_true rfl, Nat.le_of_ble_eq_true rfl⟩, (wd_616 hE), trivial⟩ ⟨PT.blind, (th_pre (av := [.int x14, .int v2]) hK hP hok hnd hWT hE)⟩ rfl rfl hl.1 rfl (lv_room (Nat.le_of_ble_eq_true rfl)) dX0_repeatFirst_44 ⟨Nat.le_of_ble_eq_true rfl, Nat.le_of_ble_eq_true rfl⟩)) (fun r15 hr15 => ?_)
    refine vp_callSi (va_Run.run (va_runV (As := [.int r15]) (rest := [.int r13, .ref (gR G a0 3)]) ⟨hx, hb, hml, hown, noTs⟩ (t_X10_numberAt l dC dI H.size G cs tt mm a1 ha1 r15) ⟨cbE 1 (wd_717 hE) (wd_120 hE) (wd_1166 hE) rfl rfl (by decide +kernel) ⟨Nat.le_of_ble_eq_true rfl, Nat.le_of_ble_eq_true rfl⟩, (wd_715 hE), (wd_716 hE)⟩ ⟨PT.blind, th_recv hK hP ha1.1 he8 rfl, (th_pre (av := [.ref a1, .int r15]) hK hP hok hnd hWT hE)⟩ rfl rfl hl.1 rfl (lv_room (Nat.le_of_ble_eq_true rfl)) dX0_repeatFirst_47 ⟨Nat.le_of_ble_eq_true rfl, Nat.le_of_ble_eq_true rfl⟩)) (fun r16 hr16 => ?_)
    obtain ⟨y2_17, y3_17, hy3_17, he17⟩ := ok_X10 hok (wt_X0_3 hWT ha0)
    refine tc_v hAL hS hA (va_runV (As := [.int r13, .int r16]) (rest := []) ⟨hx, hb, hml, hown, noTs⟩ (t_X10_push l dC dI H.size G cs tt mm (gR G a0 3) ((wt_X0_3 hWT ha0)) r13 r16) ⟨cbE 2 (wd_688 hE) (wd_120 hE) (wd_1231 hE) rfl rfl (by decide +kernel) ⟨Nat.le_of_ble_eq_true rfl, Nat.le_of_ble_eq_true rfl⟩, (wd_686 hE), (wd_687 hE)⟩ ⟨PT.blind, th_recv hK hP (wt_X0_3 hWT ha0).1 he17 rfl, (th_pre (av := [.ref (gR G a0 3), .int r13, .int r16]) hK hP hok hnd hWT hE)⟩ rfl rfl hl.1 rfl (lv_room (Nat.le_of_ble_eq_true rfl)) dX0_repeatFirst_50 ⟨Nat.le_of_ble_eq_true rfl, Nat.le_of_ble_eq_true rfl⟩) (fun f18 H locs hr18 hok hP hS => ?_)
    obtain ⟨z19, ez19⟩ : ∃ z : Int32, z = w3_7 + 1 := ⟨_, rfl⟩
    refine lv_iinc (v := z19) (lv' := [(3, .int z19), (0, .ref a0), (1, .ref a1), (2, .int v2)]) hx hb dX0_repeatFirst_53 hl (k := 3) rfl (by rw [ez19]; rfl) (by decide) rfl (fun ls hl => ?_)
    have ic19 : z19.toInt = w3_7.toInt + 1 := by rw [ez19]; exact ic_up (by have := i_rng r9; have := i_rng w3_7; simp only [i_lt, i_le, i_eq, ti_m9, ti_m1, ti_0, ti_1, ti_2, ti_3, ti_4, ti_5, ti_6, ti_7, ti_9, ti_12, ti_20, ti_99, ti_700, ti_24] at hlo7 hra9 hrb9 c10 ⊢; omega)
    refine lv_goto (tgt := 18) hx hb dX0_repeatFirst_56 (by decide) ?_
    exact ih7 _ f18 _ _ _ (by first | omega | (simp only [i_lt, i_le, i_eq, ti_m9, ti_m1, ti_0, ti_1, ti_2, ti_3, ti_4, ti_5, ti_6, ti_7, ti_9, ti_12, ti_20, ti_99, ti_700, ti_24, ic19] at hlo7 hra9 hrb9 c10 ic19 ⊢; omega)) ⟨hok, hP, hS, z19, rfl, (by first | omega | (simp only [i_lt, i_le, i_eq, ti_m9, ti_m1, ti_0, ti_1, ti_2, ti_3, ti_4, ti_5, ti_6, ti_7, ti_9, ti_12, ti_20, ti_99, ti_700, ti_24, ic19] at hlo7 hra9 hrb9 c10 ⊢; omega)), lv_sub hl [1, 2, 3, 0] rfl⟩

set_option maxHeartbeats 4000000 in
set_option maxRecDepth 100000 in
theorem t_X1_waysBehind (l : Launch) (dC : Nat → ClassId) (dI : Nat → Nat → Nat) (sz : Nat) (G : GT) (cs : Nat → ClassId) (tt mm : Nat) (a0 : Nat) (ha0 : Ty G a0 2) (v1 : Int32) (v2 : Int32) : Met l yX1_waysBehind [.code yX1_waysBehind cX1_waysBehind 4 (some .long)] ({ frames := 0, cells := 0, slots := 0, locals := 0 }) (PT [.ref a0, .int v1, .int v2] sz dC dI G cs tt mm) (vp_Sl (fun (r : Int64) => True)) 0 0 (fun _ => False) := by
  refine Met.ofW (cc := cX1_waysBehind) (maxL := 4) (ret := (some .long)) (by decide) rfl ?_
  intro p e s m args below meth c s₁ B hml hv
  obtain ⟨rfl, hsz, ⟨f0, hok, hP⟩, hK, hnd, hWT, hE⟩ := hv
  have hx := B.exec
  have hb := B.bytes
  have hr := B.returns
  have hown : s.vm.findClass RX1 = some m.cls := findClass_of_methodNamed B.named
  have hlocks := B.notSynchronized
  subst hsz
  have hl := lv_entry ([.ref a0, .int v1, .int v2]) (n := 4) (Nat.le_of_ble_eq_true rfl)
  rw [lg_entry_eq]
  generalize (lg_sl ([.ref a0, .int v1, .int v2]) ++ List.replicate (4 - (lg_sl ([.ref a0, .int v1, .int v2])).length) Slot.unset).toArray = ls at hl ⊢
  have hl : lv_has ls 4 [(0, .ref a0), (1, .int v1), (2, .int v2)] := hl
  refine lv_iload_n hx hb dX1_waysBehind_0 rfl (lv_at hl 1 rfl) ?_
  refine lv_bipush (v := 12) hx hb dX1_waysBehind_1 (by decide) ?_
  refine lv_imul hx hb dX1_waysBehind_3 ?_
  refine lv_topi (fun x1 _ => ?_)
  refine lv_iload_n hx hb dX1_waysBehind_4 rfl (lv_at hl 2 rfl) ?_
  refine lv_iadd hx hb dX1_waysBehind_5 ?_
  refine lv_topi (fun x2 _ => ?_)
  refine lv_istore_n (lv' := [(3, .int x2), (0, .ref a0), (1, .int v1), (2, .int v2)]) hx hb dX1_waysBehind_6 rfl hl (by decide) rfl (fun ls hl => ?_)
  refine lv_iload_n hx hb dX1_waysBehind_7 rfl (lv_at hl 2 rfl) ?_
  refine lv_if_lt (tgt := 30) hx hb dX1_waysBehind_8 (by decide) (fun c3 => ?_) (fun c3 => ?_)
  · refine lv_lconst (v := 0) hx hb dX1_waysBehind_30 (by decide) ?_
    refine lv_goto (tgt := 40) hx hb dX1_waysBehind_31 (by decide) ?_
    exact W.lret (v := 0) hx hb hr (fun t ht hW => ⟨0, rfl, trivial, ht⟩) (fun _ h => absurd h List.not_mem_nil) dX1_waysBehind_40
  · refine lv_iload_n hx hb dX1_waysBehind_11 rfl (lv_at hl 3 rfl) ?_
    refine lv_if_lt (tgt := 30) hx hb dX1_waysBehind_12 (by decide) (fun c4 => ?_) (fun c4 => ?_)
    · refine lv_lconst (v := 0) hx hb dX1_waysBehind_30 (by decide) ?_
      refine lv_goto (tgt := 40) hx hb dX1_waysBehind_31 (by decide) ?_
      exact W.lret (v := 0) hx hb hr (fun t ht hW => ⟨0, rfl, trivial, ht⟩) (fun _ h => absurd h List.not_mem_nil) dX1_waysBehind_40
    · refine lv_iload_n hx hb dX1_waysBehind_15 rfl (lv_at hl 3 rfl) ?_
      refine lv_bipush (v := 12) hx hb dX1_waysBehind_16 (by decide) ?_
      refine lv_icmp_ge (tgt := 30) hx hb dX1_waysBehind_18 (by decide) (fun c5 => ?_) (fun c5 => ?_)
      · refine lv_lconst (v := 0) hx hb dX1_waysBehind_30 (by decide) ?_
        refine lv_goto (tgt := 40) hx hb dX1_waysBehind_31 (by decide) ?_
        exact W.lret (v := 0) hx hb hr (fun t ht hW => ⟨0, rfl, trivial, ht⟩) (fun _ h => absurd h List.not_mem_nil) dX1_waysBehind_40
      · refine lv_iload_n hx hb dX1_waysBehind_21 rfl (lv_at hl 0 rfl) ?_
        refine lv_aload_n hx hb dX1_waysBehind_22 rfl (lv_at hl 1 rfl) ?_
        have he6 := ok_X1 hok ha0
        refine th_get hx hb (ly_X1 hE) hown hK hP ha0.1 he6 rfl 0 (by decide) (wd_354 hE) (fun _ h9 => h9) rfl dX1_waysBehind_23 ?_
        refine th_len1 hx hb hK hP hok (n := 156) (wl_X1_0 hWT ha0) (Or.inr (Or.inr (Or.inl (wt_X1_0 hWT ha0)))) dX1_waysBehind_26 ?_
        refine W.eq (g2 := F0 m 27 ls [.int 156, .int x2]) rfl ?_
        refine lv_icmp_lt (tgt := 34) hx hb dX1_waysBehind_27 (by decide) (fun c7 => ?_) (fun c7 => ?_)
        · refine lv_aload_n hx hb dX1_waysBehind_34 rfl (lv_at hl 1 rfl) ?_
          refine th_get hx hb (ly_X1 hE) hown hK hP ha0.1 he6 rfl 0 (by decide) (wd_354 hE) (fun _ h9 => h9) rfl dX1_waysBehind_35 ?_
          refine lv_iload_n hx hb dX1_waysBehind_38 rfl (lv_at hl 0 rfl) ?_
          refine th_lald hx hb hK hP hok (wt_X1_0 hWT ha0) (n := 156) (wl_X1_0 hWT ha0) (vp_in_iff.mpr (by first | omega | (simp only [i_lt, i_le, i_eq, ti_m9, ti_m1, ti_0, ti_1, ti_2, ti_3, ti_4, ti_5, ti_6, ti_7, ti_9, ti_12, ti_20, ti_99, ti_700, ti_24, ti_72] at c3 c4 c5 c7 ⊢; omega))) dX1_waysBehind_39 (fun x8 => ?_)
          exact W.lret (v := x8) hx hb hr (fun t ht hW => ⟨x8, rfl, trivial, ht⟩) (fun _ h => absurd h List.not_mem_nil) dX1_waysBehind_40
        · refine lv_lconst (v := 0) hx hb dX1_waysBehind_30 (by decide) ?_
          refine lv_goto (tgt := 40) hx hb dX1_waysBehind_31 (by decide) ?_
          exact W.lret (v := 0) hx hb hr (fun t ht hW => ⟨0, rfl, trivial, ht⟩) (fun _ h => absurd h List.not_mem_nil) dX1_waysBehind_40

set_option maxHeartbeats 4000000 in
set_option maxRecDepth 100000 in
theorem t_X1_setWays (l : Launch) (dC : Nat → ClassId) (dI : Nat → Nat → Nat) (sz : Nat) (G : GT) (cs : Nat → ClassId) (tt mm : Nat) (a0 : Nat) (ha0 : Ty G a0 2) (v1 : Int32) (v2 : Int32) (v3 : Int64) : Met l yX1_setWays [.code yX1_setWays cX1_setWays 6 none] ({ frames := 0, cells := 0, slots := 0, locals := 0 }) (PT [.ref a0, .int v1, .int v2, .long v3] sz dC dI G cs tt mm) (va_Qv (fun (u : Nat → va_E) => True) (BT dC dI G cs tt mm) (AT G sz)) 0 0 (AT G sz) := by
  refine Met.ofW (cc := cX1_setWays) (maxL := 6) (ret := none) (by decide) rfl ?_
  intro p e s m args below meth c s₁ B hml hv
  obtain ⟨rfl, hsz, ⟨f0, hok, hP⟩, hK, hnd, hWT, hE⟩ := hv
  have hx := B.exec
  have hb := B.bytes
  have hr := B.returns
  have hown : s.vm.findClass RX1 = some m.cls := findClass_of_methodNamed B.named
  have hlocks := B.notSynchronized
  subst hsz
  have hAL : ∀ a, a ∈ gL G → AT G s.heap.size a := fun a h => Or.inl h
  have hA : ∀ q : Nat, s.heap.size ≤ q → AT G s.heap.size q := fun q h => Or.inr h
  have hS : va_S (AT G s.heap.size) s.heap s.heap [] := va_S.rf
  have hl := lv_entry ([.ref a0, .int v1, .int v2, .long v3]) (n := 6) (Nat.le_of_ble_eq_true rfl)
  rw [lg_entry_eq]
  generalize (lg_sl ([.ref a0, .int v1, .int v2, .long v3]) ++ List.replicate (6 - (lg_sl ([.ref a0, .int v1, .int v2, .long v3])).length) Slot.unset).toArray = ls at hl ⊢
  have hl : lv_has ls 6 [(0, .ref a0), (1, .int v1), (2, .int v2), (3, .long v3)] := hl
  refine lv_iload_n hx hb dX1_setWays_0 rfl (lv_at hl 1 rfl) ?_
  refine lv_bipush (v := 12) hx hb dX1_setWays_1 (by decide) ?_
  refine lv_imul hx hb dX1_setWays_3 ?_
  refine lv_topi (fun x1 _ => ?_)
  refine lv_iload_n hx hb dX1_setWays_4 rfl (lv_at hl 2 rfl) ?_
  refine lv_iadd hx hb dX1_setWays_5 ?_
  refine lv_topi (fun x2 _ => ?_)
  refine lv_istore (lv' := [(5, .int x2), (0, .ref a0), (1, .int v1), (2, .int v2), (3, .long v3)]) hx hb dX1_setWays_6 hl (by decide) rfl (fun ls hl => ?_)
  refine lv_iload_n hx hb dX1_setWays_8 rfl (lv_at hl 2 rfl) ?_
  refine lv_if_lt (tgt := 40) hx hb dX1_setWays_9 (by decide) (fun c3 => ?_) (fun c3 => ?_)
  · exact W.vret hx hb hr (fun t ht hW => ⟨⟨f0, rfl, trivial, hok, by rw [ht]; exact hP⟩, hS.F ht⟩) hS.2.2 dX1_setWays_40
  · refine lv_iload_n hx hb dX1_setWays_12 rfl (lv_at hl 3 rfl) ?_
    refine lv_if_lt (tgt := 40) hx hb dX1_setWays_13 (by decide) (fun c4 => ?_) (fun c4 => ?_)
    · exact W.vret hx hb hr (fun t ht hW => ⟨⟨f0, rfl, trivial, hok, by rw [ht]; exact hP⟩, hS.F ht⟩) hS.2.2 dX1_setWays_40
    · refine lv_iload_n hx hb dX1_setWays_16 rfl (lv_at hl 3 rfl) ?_
      refine lv_bipush (v := 12) hx hb dX1_setWays_17 (by decide) ?_
      refine lv_icmp_ge (tgt := 40) hx hb dX1_setWays_19 (by decide) (fun c5 => ?_) (fun c5 => ?_)
      · exact W.vret hx hb hr (fun t ht hW => ⟨⟨f0, rfl, trivial, hok, by rw [ht]; exact hP⟩, hS.F ht⟩) hS.2.2 dX1_setWays_40
      · refine lv_iload hx hb dX1_setWays_22 (lv_at hl 0 rfl) ?_
        refine lv_aload_n hx hb dX1_setWays_24 rfl (lv_at hl 1 rfl) ?_
        have he6 := ok_X1 hok ha0
        refine th_get hx hb (ly_X1 hE) hown hK hP ha0.1 he6 rfl 0 (by decide) (wd_354 hE) (fun _ h9 => h9) rfl dX1_setWays_25 ?_
        refine th_len1 hx hb hK hP hok (n := 156) (wl_X1_0 hWT ha0) (Or.inr (Or.inr (Or.inl (wt_X1_0 hWT ha0)))) dX1_setWays_28 ?_
        refine W.eq (g2 := F0 m 29 ls [.int 156, .int x2]) rfl ?_
        refine lv_icmp_ge (tgt := 40) hx hb dX1_setWays_29 (by decide) (fun c7 => ?_) (fun c7 => ?_)
        · exact W.vret hx hb hr (fun t ht hW => ⟨⟨f0, rfl, trivial, hok, by rw [ht]; exact hP⟩, hS.F ht⟩) hS.2.2 dX1_setWays_40
        · refine lv_aload_n hx hb dX1_setWays_32 rfl (lv_at hl 1 rfl) ?_
          refine th_get hx hb (ly_X1 hE) hown hK hP ha0.1 he6 rfl 0 (by decide) (wd_354 hE) (fun _ h9 => h9) rfl dX1_setWays_33 ?_
          refine lv_iload hx hb dX1_setWays_36 (lv_at hl 0 rfl) ?_
          refine lv_lload_n hx hb dX1_setWays_38 rfl (lv_at hl 4 rfl) ?_
          refine th_last hx hb hK hP hok hnd hAL hS (wt_X1_0 hWT ha0) (n := 156) (wl_X1_0 hWT ha0) (vp_in_iff.mpr (by first | omega | (simp only [i_lt, i_le, i_eq, ti_m9, ti_m1, ti_0, ti_1, ti_2, ti_3, ti_4, ti_5, ti_6, ti_7, ti_9, ti_12, ti_20, ti_99, ti_700, ti_24, ti_72] at c3 c4 c5 c7 ⊢; omega))) dX1_setWays_39 (fun f8 H locs hfo8 hok hP hS => ?_)
          have he9 := (hfo8 a0 (Ty.ne ha0 (wt_X1_0 hWT ha0) (by decide))).trans he6
          exact W.vret hx hb hr (fun t ht hW => ⟨⟨f8, rfl, trivial, hok, by rw [ht]; exact hP⟩, hS.F ht⟩) hS.2.2 dX1_setWays_40

set_option maxHeartbeats 4000000 in
set_option maxRecDepth 100000 in
theorem t_X2_takeStep (l : Launch) (dC : Nat → ClassId) (dI : Nat → Nat → Nat) (sz : Nat) (G : GT) (cs : Nat → ClassId) (tt mm : Nat) (a0 : Nat) (ha0 : Ty G a0 7) (a1 : Nat) (ha1 : Ty G a1 10) (v2 : Int32) (v3 : Int32) : Met l yX2_takeStep [.code yX2_takeStep cX2_takeStep 8 (some .boolean)] ({ frames := 2, cells := 0, slots := 0, locals := 80 }) (PT [.ref a0, .ref a1, .int v2, .int v3] sz dC dI G cs tt mm) (va_Qi (fun (r : Int32) (u : Nat → va_E) => r = 0 ∨ r = 1) (BT dC dI G cs tt mm) (AT G sz)) 0 0 (AT G sz) := by
  refine Met.ofW (cc := cX2_takeStep) (maxL := 8) (ret := (some .boolean)) (by decide) rfl ?_
  intro p e s m args below meth c s₁ B hml hv
  obtain ⟨rfl, hsz, ⟨f0, hok, hP⟩, hK, hnd, hWT, hE⟩ := hv
  have hx := B.exec
  have hb := B.bytes
  have hr := B.returns
  have hown : s.vm.findClass RX2 = some m.cls := findClass_of_methodNamed B.named
  have hlocks := B.notSynchronized
  subst hsz
  have hAL : ∀ a, a ∈ gL G → AT G s.heap.size a := fun a h => Or.inl h
  have hA : ∀ q : Nat, s.heap.size ≤ q → AT G s.heap.size q := fun q h => Or.inr h
  have hS : va_S (AT G s.heap.size) s.heap s.heap [] := va_S.rf
  have hl := lv_entry ([.ref a0, .ref a1, .int v2, .int v3]) (n := 8) (Nat.le_of_ble_eq_true rfl)
  rw [lg_entry_eq]
  generalize (lg_sl ([.ref a0, .ref a1, .int v2, .int v3]) ++ List.replicate (8 - (lg_sl ([.ref a0, .ref a1, .int v2, .int v3])).length) Slot.unset).toArray = ls at hl ⊢
  have hl : lv_has ls 8 [(0, .ref a0), (1, .ref a1), (2, .int v2), (3, .int v3)] := hl
  refine lv_aload_n hx hb dX2_takeStep_0 rfl (lv_at hl 1 rfl) ?_
  obtain ⟨y2_1, y3_1, hy3_1, he1⟩ := ok_X10 hok ha1
  refine vp_callSi (va_Run.run (va_runV (As := []) (rest := []) ⟨hx, hb, hml, hown, noTs⟩ (t_X10_lastNumber l dC dI s.heap.size G cs tt mm a1 ha1) ⟨cbE 0 (wd_649 hE) (wd_120 hE) (wd_851 hE) rfl rfl (by decide +kernel) ⟨Nat.le_of_ble_eq_true rfl, Nat.le_of_ble_eq_true rfl⟩, (wd_647 hE), (wd_648 hE)⟩ ⟨PT.blind, th_recv hK hP ha1.1 he1 rfl, (th_pre (av := [.ref a1]) hK hP hok hnd hWT hE)⟩ rfl rfl hl.1 rfl (lv_room (Nat.le_of_ble_eq_true rfl)) dX2_takeStep_1 ⟨Nat.le_of_ble_eq_true rfl, Nat.le_of_ble_eq_true rfl⟩)) (fun r2 hr2 => ?_)
  refine lv_istore (lv' := [(4, .int r2), (0, .ref a0), (1, .ref a1), (2, .int v2), (3, .int v3)]) hx hb dX2_takeStep_4 hl (by decide) rfl (fun ls hl => ?_)
  refine lv_aload_n hx hb dX2_takeStep_6 rfl (lv_at hl 1 rfl) ?_
  refine lv_iload_n hx hb dX2_takeStep_7 rfl (lv_at hl 3 rfl) ?_
  have he3 := ok_X7 hok ha0
  refine vp_callSi (va_Run.run (va_runV (As := [.int v2]) (rest := []) ⟨hx, hb, hml, hown, noTs⟩ (t_X7_fromIndex l dC dI s.heap.size G cs tt mm a0 ha0 v2) ⟨cbE 1 (wd_855 hE) (wd_116 hE) (wd_852 hE) rfl rfl (by decide +kernel) ⟨Nat.le_of_ble_eq_true rfl, Nat.le_of_ble_eq_true rfl⟩, (wd_853 hE), (wd_854 hE)⟩ ⟨PT.blind, th_recv hK hP ha0.1 he3 rfl, (th_pre (av := [.ref a0, .int v2]) hK hP hok hnd hWT hE)⟩ rfl rfl hl.1 rfl (lv_room (Nat.le_of_ble_eq_true rfl)) dX2_takeStep_8 ⟨Nat.le_of_ble_eq_true rfl, Nat.le_of_ble_eq_true rfl⟩)) (fun r4 hr4 => ?_)
  refine lv_istore (lv' := [(5, .int r4), (4, .int r2), (0, .ref a0), (1, .ref a1), (2, .int v2), (3, .int v3)]) hx hb dX2_takeStep_11 hl (by decide) rfl (fun ls hl => ?_)
  refine lv_aload_n hx hb dX2_takeStep_13 rfl (lv_at hl 2 rfl) ?_
  refine lv_aload_n hx hb dX2_takeStep_14 rfl (lv_at hl 2 rfl) ?_
  refine lv_iload_n hx hb dX2_takeStep_15 rfl (lv_at hl 4 rfl) ?_
  refine vp_callSi (va_Run.run (va_runV (As := [.int v2]) (rest := [.ref a0]) ⟨hx, hb, hml, hown, noTs⟩ (t_X7_toVertex l dC dI s.heap.size G cs tt mm a0 ha0 v2) ⟨cbE 1 (wd_692 hE) (wd_116 hE) (wd_856 hE) rfl rfl (by decide +kernel) ⟨Nat.le_of_ble_eq_true rfl, Nat.le_of_ble_eq_true rfl⟩, (wd_690 hE), (wd_691 hE)⟩ ⟨PT.blind, th_recv hK hP ha0.1 he3 rfl, (th_pre (av := [.ref a0, .int v2]) hK hP hok hnd hWT hE)⟩ rfl rfl hl.1 rfl (lv_room (Nat.le_of_ble_eq_true rfl)) dX2_takeStep_16 ⟨Nat.le_of_ble_eq_true rfl, Nat.le_of_ble_eq_true rfl⟩)) (fun r5 hr5 => ?_)
  refine vp_callSi (va_Run.run (va_runV (As := [.int r5]) (rest := []) ⟨hx, hb, hml, hown, noTs⟩ (t_X7_orderAt l dC dI s.heap.size G cs tt mm a0 ha0 r5) ⟨cbE 1 (wd_614 hE) (wd_116 hE) (wd_844 hE) rfl rfl (by decide +kernel) ⟨Nat.le_of_ble_eq_true rfl, Nat.le_of_ble_eq_true rfl⟩, (wd_612 hE), (wd_613 hE)⟩ ⟨PT.blind, th_recv hK hP ha0.1 he3 rfl, (th_pre (av := [.ref a0, .int r5]) hK hP hok hnd hWT hE)⟩ rfl rfl hl.1 rfl (lv_room (Nat.le_of_ble_eq_true rfl)) dX2_takeStep_19 ⟨Nat.le_of_ble_eq_true rfl, Nat.le_of_ble_eq_true rfl⟩)) (fun r6 hr6 => ?_)
  refine lv_istore (lv' := [(6, .int r6), (5, .int r4), (4, .int r2), (0, .ref a0), (1, .ref a1), (2, .int v2), (3, .int v3)]) hx hb dX2_takeStep_22 hl (by decide) rfl (fun ls hl => ?_)
  refine lv_iload hx hb dX2_takeStep_24 (lv_at hl 2 rfl) ?_
  refine lv_iload hx hb dX2_takeStep_26 (lv_at hl 1 rfl) ?_
  refine vp_callSi (va_Run.run (va_runSN (As := [.int r2, .int r4]) (rest := []) ⟨hx, hb, hml, hown, noTs⟩ (t_X11_share l dC dI s.heap.size G cs tt mm r2 r4) ⟨cnE 2 (wd_620 hE) (wd_115 hE) (wd_857 hE) rfl rfl (by decide +kernel) ⟨Nat.le_of_ble_eq_true rfl, Nat.le_of_ble_eq_true rfl⟩, (wd_619 hE), trivial⟩ ⟨PT.blind, (th_pre (av := [.int r2, .int r4]) hK hP hok hnd hWT hE)⟩ rfl rfl hl.1 rfl (lv_room (Nat.le_of_ble_eq_true rfl)) dX2_takeStep_28 ⟨Nat.le_of_ble_eq_true rfl, Nat.le_of_ble_eq_true rfl⟩)) (fun r7 hr7 => ?_)
  refine lv_aload_n hx hb dX2_takeStep_31 rfl (lv_at hl 3 rfl) ?_
  refine lv_iload_n hx hb dX2_takeStep_32 rfl (lv_at hl 5 rfl) ?_
  refine vp_callSi (va_Run.run (va_runV (As := [.int v2]) (rest := [.int r7]) ⟨hx, hb, hml, hown, noTs⟩ (t_X7_toIndex l dC dI s.heap.size G cs tt mm a0 ha0 v2) ⟨cbE 1 (wd_861 hE) (wd_116 hE) (wd_858 hE) rfl rfl (by decide +kernel) ⟨Nat.le_of_ble_eq_true rfl, Nat.le_of_ble_eq_true rfl⟩, (wd_859 hE), (wd_860 hE)⟩ ⟨PT.blind, th_recv hK hP ha0.1 he3 rfl, (th_pre (av := [.ref a0, .int v2]) hK hP hok hnd hWT hE)⟩ rfl rfl hl.1 rfl (lv_room (Nat.le_of_ble_eq_true rfl)) dX2_takeStep_33 ⟨Nat.le_of_ble_eq_true rfl, Nat.le_of_ble_eq_true rfl⟩)) (fun r8 hr8 => ?_)
  refine lv_imul hx hb dX2_takeStep_36 ?_
  refine lv_topi (fun x9 _ => ?_)
  refine lv_istore (lv' := [(7, .int x9), (6, .int r6), (5, .int r4), (4, .int r2), (0, .ref a0), (1, .ref a1), (2, .int v2), (3, .int v3)]) hx hb dX2_takeStep_37 hl (by decide) rfl (fun ls hl => ?_)
  refine lv_aload_n hx hb dX2_takeStep_39 rfl (lv_at hl 5 rfl) ?_
  refine vp_callSi (va_Run.run (va_runV (As := []) (rest := []) ⟨hx, hb, hml, hown, noTs⟩ (t_X10_lastStep l dC dI s.heap.size G cs tt mm a1 ha1) ⟨cbE 0 (wd_832 hE) (wd_120 hE) (wd_862 hE) rfl rfl (by decide +kernel) ⟨Nat.le_of_ble_eq_true rfl, Nat.le_of_ble_eq_true rfl⟩, (wd_830 hE), (wd_831 hE)⟩ ⟨PT.blind, th_recv hK hP ha1.1 he1 rfl, (th_pre (av := [.ref a1]) hK hP hok hnd hWT hE)⟩ rfl rfl hl.1 rfl (lv_room (Nat.le_of_ble_eq_true rfl)) dX2_takeStep_40 ⟨Nat.le_of_ble_eq_true rfl, Nat.le_of_ble_eq_true rfl⟩)) (fun r10 hr10 => ?_)
  refine lv_iload_n hx hb dX2_takeStep_43 rfl (lv_at hl 6 rfl) ?_
  refine vp_callSi (va_Run.run (va_runSN (As := [.int v2]) (rest := [.int r10]) ⟨hx, hb, hml, hown, noTs⟩ (t_X11_opposite l dC dI s.heap.size G cs tt mm v2) ⟨cnE 1 (wd_865 hE) (wd_115 hE) (wd_863 hE) rfl rfl (by decide +kernel) ⟨Nat.le_of_ble_eq_true rfl, Nat.le_of_ble_eq_true rfl⟩, (wd_864 hE), trivial⟩ ⟨PT.blind, (th_pre (av := [.int v2]) hK hP hok hnd hWT hE)⟩ rfl rfl hl.1 rfl (lv_room (Nat.le_of_ble_eq_true rfl)) dX2_takeStep_44 ⟨Nat.le_of_ble_eq_true rfl, Nat.le_of_ble_eq_true rfl⟩)) (fun r11 hr11 => ?_)
  refine lv_icmp_ne (tgt := 76) hx hb dX2_takeStep_47 (by decide) (fun c12 => ?_) (fun c12 => ?_)
  · refine lv_aload_n hx hb dX2_takeStep_76 rfl (lv_at hl 5 rfl) ?_
    refine lv_aload_n hx hb dX2_takeStep_77 rfl (lv_at hl 5 rfl) ?_
    refine vp_callSi (va_Run.run (va_runV (As := []) (rest := [.ref a1]) ⟨hx, hb, hml, hown, noTs⟩ (t_X10_size l dC dI s.heap.size G cs tt mm a1 ha1) ⟨cbE 0 (wd_666 hE) (wd_120 hE) (wd_846 hE) rfl rfl (by decide +kernel) ⟨Nat.le_of_ble_eq_true rfl, Nat.le_of_ble_eq_true rfl⟩, (wd_664 hE), (wd_665 hE)⟩ ⟨PT.blind, th_recv hK hP ha1.1 he1 rfl, (th_pre (av := [.ref a1]) hK hP hok hnd hWT hE)⟩ rfl rfl hl.1 rfl (lv_room (Nat.le_of_ble_eq_true rfl)) dX2_takeStep_78 ⟨Nat.le_of_ble_eq_true rfl, Nat.le_of_ble_eq_true rfl⟩)) (fun r13 hr13 => ?_)
    obtain ⟨hra13, hrb13⟩ := hr13
    refine lv_iload hx hb dX2_takeStep_81 (lv_at hl 3 rfl) ?_
    refine lv_iload hx hb dX2_takeStep_83 (lv_at hl 2 rfl) ?_
    refine vp_callSi (va_Run.run (va_runSN (As := [.int r2, .int r4]) (rest := [.int r13, .ref a1]) ⟨hx, hb, hml, hown, noTs⟩ (t_X11_rest l dC dI s.heap.size G cs tt mm r2 r4) ⟨cnE 2 (wd_617 hE) (wd_115 hE) (wd_866 hE) rfl rfl (by decide +kernel) ⟨Nat.le_of_ble_eq_true rfl, Nat.le_of_ble_eq_true rfl⟩, (wd_616 hE), trivial⟩ ⟨PT.blind, (th_pre (av := [.int r2, .int r4]) hK hP hok hnd hWT hE)⟩ rfl rfl hl.1 rfl (lv_room (Nat.le_of_ble_eq_true rfl)) dX2_takeStep_85 ⟨Nat.le_of_ble_eq_true rfl, Nat.le_of_ble_eq_true rfl⟩)) (fun r14 hr14 => ?_)
    refine tc_v hAL hS hA (va_runV (As := [.int r13, .int r14]) (rest := []) ⟨hx, hb, hml, hown, noTs⟩ (t_X10_putNumber l dC dI s.heap.size G cs tt mm a1 ha1 r13 r14) ⟨cbE 2 (wd_654 hE) (wd_120 hE) (wd_871 hE) rfl rfl (by decide +kernel) ⟨Nat.le_of_ble_eq_true rfl, Nat.le_of_ble_eq_true rfl⟩, (wd_652 hE), (wd_653 hE)⟩ ⟨PT.blind, th_recv hK hP ha1.1 he1 rfl, (th_pre (av := [.ref a1, .int r13, .int r14]) hK hP hok hnd hWT hE)⟩ rfl rfl hl.1 rfl (lv_room (Nat.le_of_ble_eq_true rfl)) dX2_takeStep_88 ⟨Nat.le_of_ble_eq_true rfl, Nat.le_of_ble_eq_true rfl⟩) (fun f15 H locs hr15 hok hP hS => ?_)
    refine lv_aload_n hx hb dX2_takeStep_91 rfl (lv_at hl 5 rfl) ?_
    refine lv_iload_n hx hb dX2_takeStep_92 rfl (lv_at hl 6 rfl) ?_
    refine lv_iload hx hb dX2_takeStep_93 (lv_at hl 0 rfl) ?_
    refine lv_iload_n hx hb dX2_takeStep_95 rfl (lv_at hl 7 rfl) ?_
    refine lv_iadd hx hb dX2_takeStep_96 ?_
    refine lv_topi (fun x16 _ => ?_)
    refine lv_iload hx hb dX2_takeStep_97 (lv_at hl 1 rfl) ?_
    refine vp_callSi (va_Run.run (va_runSN (As := [.int x16, .int r6]) (rest := [.int v2, .ref a1]) ⟨hx, hb, hml, hown, noTs⟩ (t_X11_rest l dC dI H.size G cs tt mm x16 r6) ⟨cnE 2 (wd_617 hE) (wd_115 hE) (wd_866 hE) rfl rfl (by decide +kernel) ⟨Nat.le_of_ble_eq_true rfl, Nat.le_of_ble_eq_true rfl⟩, (wd_616 hE), trivial⟩ ⟨PT.blind, (th_pre (av := [.int x16, .int r6]) hK hP hok hnd hWT hE)⟩ rfl rfl hl.1 rfl (lv_room (Nat.le_of_ble_eq_true rfl)) dX2_takeStep_99 ⟨Nat.le_of_ble_eq_true rfl, Nat.le_of_ble_eq_true rfl⟩)) (fun r17 hr17 => ?_)
    obtain ⟨y2_18, y3_18, hy3_18, he18⟩ := ok_X10 hok ha1
    refine tc_v hAL hS hA (va_runV (As := [.int v2, .int r17]) (rest := []) ⟨hx, hb, hml, hown, noTs⟩ (t_X10_push l dC dI H.size G cs tt mm a1 ha1 v2 r17) ⟨cbE 2 (wd_688 hE) (wd_120 hE) (wd_872 hE) rfl rfl (by decide +kernel) ⟨Nat.le_of_ble_eq_true rfl, Nat.le_of_ble_eq_true rfl⟩, (wd_686 hE), (wd_687 hE)⟩ ⟨PT.blind, th_recv hK hP ha1.1 he18 rfl, (th_pre (av := [.ref a1, .int v2, .int r17]) hK hP hok hnd hWT hE)⟩ rfl rfl hl.1 rfl (lv_room (Nat.le_of_ble_eq_true rfl)) dX2_takeStep_102 ⟨Nat.le_of_ble_eq_true rfl, Nat.le_of_ble_eq_true rfl⟩) (fun f19 H locs hr19 hok hP hS => ?_)
    refine lv_iconst (v := 0) hx hb dX2_takeStep_105 (by decide) ?_
    exact W.zret (v := 0) hx hb hr rfl (fun t ht hW => ⟨⟨0, f19, rfl, Or.inl rfl, hok, by rw [ht]; exact hP⟩, hS.F ht⟩) hS.2.2 dX2_takeStep_106
  · refine lv_iload hx hb dX2_takeStep_50 (lv_at hl 3 rfl) ?_
    refine lv_iload hx hb dX2_takeStep_52 (lv_at hl 2 rfl) ?_
    refine vp_callSi (va_Run.run (va_runSN (As := [.int r2, .int r4]) (rest := []) ⟨hx, hb, hml, hown, noTs⟩ (t_X11_rest l dC dI s.heap.size G cs tt mm r2 r4) ⟨cnE 2 (wd_617 hE) (wd_115 hE) (wd_866 hE) rfl rfl (by decide +kernel) ⟨Nat.le_of_ble_eq_true rfl, Nat.le_of_ble_eq_true rfl⟩, (wd_616 hE), trivial⟩ ⟨PT.blind, (th_pre (av := [.int r2, .int r4]) hK hP hok hnd hWT hE)⟩ rfl rfl hl.1 rfl (lv_room (Nat.le_of_ble_eq_true rfl)) dX2_takeStep_54 ⟨Nat.le_of_ble_eq_true rfl, Nat.le_of_ble_eq_true rfl⟩)) (fun r20 hr20 => ?_)
    refine lv_if_ne (tgt := 76) hx hb dX2_takeStep_57 (by decide) (fun c21 => ?_) (fun c21 => ?_)
    · refine lv_aload_n hx hb dX2_takeStep_76 rfl (lv_at hl 5 rfl) ?_
      refine lv_aload_n hx hb dX2_takeStep_77 rfl (lv_at hl 5 rfl) ?_
      refine vp_callSi (va_Run.run (va_runV (As := []) (rest := [.ref a1]) ⟨hx, hb, hml, hown, noTs⟩ (t_X10_size l dC dI s.heap.size G cs tt mm a1 ha1) ⟨cbE 0 (wd_666 hE) (wd_120 hE) (wd_846 hE) rfl rfl (by decide +kernel) ⟨Nat.le_of_ble_eq_true rfl, Nat.le_of_ble_eq_true rfl⟩, (wd_664 hE), (wd_665 hE)⟩ ⟨PT.blind, th_recv hK hP ha1.1 he1 rfl, (th_pre (av := [.ref a1]) hK hP hok hnd hWT hE)⟩ rfl rfl hl.1 rfl (lv_room (Nat.le_of_ble_eq_true rfl)) dX2_takeStep_78 ⟨Nat.le_of_ble_eq_true rfl, Nat.le_of_ble_eq_true rfl⟩)) (fun r22 hr22 => ?_)
      obtain ⟨hra22, hrb22⟩ := hr22
      refine lv_iload hx hb dX2_takeStep_81 (lv_at hl 3 rfl) ?_
      refine lv_iload hx hb dX2_takeStep_83 (lv_at hl 2 rfl) ?_
      refine vp_callSi (va_Run.run (va_runSN (As := [.int r2, .int r4]) (rest := [.int r22, .ref a1]) ⟨hx, hb, hml, hown, noTs⟩ (t_X11_rest l dC dI s.heap.size G cs tt mm r2 r4) ⟨cnE 2 (wd_617 hE) (wd_115 hE) (wd_866 hE) rfl rfl (by decide +kernel) ⟨Nat.le_of_ble_eq_true rfl, Nat.le_of_ble_eq_true rfl⟩, (wd_616 hE), trivial⟩ ⟨PT.blind, (th_pre (av := [.int r2, .int r4]) hK hP hok hnd hWT hE)⟩ rfl rfl hl.1 rfl (lv_room (Nat.le_of_ble_eq_true rfl)) dX2_takeStep_85 ⟨Nat.le_of_ble_eq_true rfl, Nat.le_of_ble_eq_true rfl⟩)) (fun r23 hr23 => ?_)
      refine tc_v hAL hS hA (va_runV (As := [.int r22, .int r23]) (rest := []) ⟨hx, hb, hml, hown, noTs⟩ (t_X10_putNumber l dC dI s.heap.size G cs tt mm a1 ha1 r22 r23) ⟨cbE 2 (wd_654 hE) (wd_120 hE) (wd_871 hE) rfl rfl (by decide +kernel) ⟨Nat.le_of_ble_eq_true rfl, Nat.le_of_ble_eq_true rfl⟩, (wd_652 hE), (wd_653 hE)⟩ ⟨PT.blind, th_recv hK hP ha1.1 he1 rfl, (th_pre (av := [.ref a1, .int r22, .int r23]) hK hP hok hnd hWT hE)⟩ rfl rfl hl.1 rfl (lv_room (Nat.le_of_ble_eq_true rfl)) dX2_takeStep_88 ⟨Nat.le_of_ble_eq_true rfl, Nat.le_of_ble_eq_true rfl⟩) (fun f24 H locs hr24 hok hP hS => ?_)
      refine lv_aload_n hx hb dX2_takeStep_91 rfl (lv_at hl 5 rfl) ?_
      refine lv_iload_n hx hb dX2_takeStep_92 rfl (lv_at hl 6 rfl) ?_
      refine lv_iload hx hb dX2_takeStep_93 (lv_at hl 0 rfl) ?_
      refine lv_iload_n hx hb dX2_takeStep_95 rfl (lv_at hl 7 rfl) ?_
      refine lv_iadd hx hb dX2_takeStep_96 ?_
      refine lv_topi (fun x25 _ => ?_)
      refine lv_iload hx hb dX2_takeStep_97 (lv_at hl 1 rfl) ?_
      refine vp_callSi (va_Run.run (va_runSN (As := [.int x25, .int r6]) (rest := [.int v2, .ref a1]) ⟨hx, hb, hml, hown, noTs⟩ (t_X11_rest l dC dI H.size G cs tt mm x25 r6) ⟨cnE 2 (wd_617 hE) (wd_115 hE) (wd_866 hE) rfl rfl (by decide +kernel) ⟨Nat.le_of_ble_eq_true rfl, Nat.le_of_ble_eq_true rfl⟩, (wd_616 hE), trivial⟩ ⟨PT.blind, (th_pre (av := [.int x25, .int r6]) hK hP hok hnd hWT hE)⟩ rfl rfl hl.1 rfl (lv_room (Nat.le_of_ble_eq_true rfl)) dX2_takeStep_99 ⟨Nat.le_of_ble_eq_true rfl, Nat.le_of_ble_eq_true rfl⟩)) (fun r26 hr26 => ?_)
      obtain ⟨y2_27, y3_27, hy3_27, he27⟩ := ok_X10 hok ha1
      refine tc_v hAL hS hA (va_runV (As := [.int v2, .int r26]) (rest := []) ⟨hx, hb, hml, hown, noTs⟩ (t_X10_push l dC dI H.size G cs tt mm a1 ha1 v2 r26) ⟨cbE 2 (wd_688 hE) (wd_120 hE) (wd_872 hE) rfl rfl (by decide +kernel) ⟨Nat.le_of_ble_eq_true rfl, Nat.le_of_ble_eq_true rfl⟩, (wd_686 hE), (wd_687 hE)⟩ ⟨PT.blind, th_recv hK hP ha1.1 he27 rfl, (th_pre (av := [.ref a1, .int v2, .int r26]) hK hP hok hnd hWT hE)⟩ rfl rfl hl.1 rfl (lv_room (Nat.le_of_ble_eq_true rfl)) dX2_takeStep_102 ⟨Nat.le_of_ble_eq_true rfl, Nat.le_of_ble_eq_true rfl⟩) (fun f28 H locs hr28 hok hP hS => ?_)
      refine lv_iconst (v := 0) hx hb dX2_takeStep_105 (by decide) ?_
      exact W.zret (v := 0) hx hb hr rfl (fun t ht hW => ⟨⟨0, f28, rfl, Or.inl rfl, hok, by rw [ht]; exact hP⟩, hS.F ht⟩) hS.2.2 dX2_takeStep_106
    · refine lv_aload_n hx hb dX2_takeStep_60 rfl (lv_at hl 5 rfl) ?_
      refine tc_v hAL hS hA (va_runV (As := []) (rest := []) ⟨hx, hb, hml, hown, noTs⟩ (t_X10_pop l dC dI s.heap.size G cs tt mm a1 ha1) ⟨cbE 0 (wd_870 hE) (wd_120 hE) (wd_867 hE) rfl rfl (by decide +kernel) ⟨Nat.le_of_ble_eq_true rfl, Nat.le_of_ble_eq_true rfl⟩, (wd_868 hE), (wd_869 hE)⟩ ⟨PT.blind, th_recv hK hP ha1.1 he1 rfl, (th_pre (av := [.ref a1]) hK hP hok hnd hWT hE)⟩ rfl rfl hl.1 rfl (lv_room (Nat.le_of_ble_eq_true rfl)) dX2_takeStep_61 ⟨Nat.le_of_ble_eq_true rfl, Nat.le_of_ble_eq_true rfl⟩) (fun f29 H locs hr29 hok hP hS => ?_)
      refine lv_aload_n hx hb dX2_takeStep_64 rfl (lv_at hl 5 rfl) ?_
      refine lv_iload hx hb dX2_takeStep_65 (lv_at hl 0 rfl) ?_
      refine lv_iload_n hx hb dX2_takeStep_67 rfl (lv_at hl 7 rfl) ?_
      refine lv_iadd hx hb dX2_takeStep_68 ?_
      refine lv_topi (fun x30 _ => ?_)
      refine lv_iload hx hb dX2_takeStep_69 (lv_at hl 1 rfl) ?_
      obtain ⟨y2_31, y3_31, hy3_31, he31⟩ := ok_X10 hok ha1
      refine tc_v hAL hS hA (va_runV (As := [.int x30, .int r6]) (rest := []) ⟨hx, hb, hml, hown, noTs⟩ (t_X10_addLast l dC dI H.size G cs tt mm a1 ha1 x30 r6) ⟨cbE 2 (wd_645 hE) (wd_120 hE) (wd_845 hE) rfl rfl (by decide +kernel) ⟨Nat.le_of_ble_eq_true rfl, Nat.le_of_ble_eq_true rfl⟩, (wd_643 hE), (wd_644 hE)⟩ ⟨PT.blind, th_recv hK hP ha1.1 he31 rfl, (th_pre (av := [.ref a1, .int x30, .int r6]) hK hP hok hnd hWT hE)⟩ rfl rfl hl.1 rfl (lv_room (Nat.le_of_ble_eq_true rfl)) dX2_takeStep_71 ⟨Nat.le_of_ble_eq_true rfl, Nat.le_of_ble_eq_true rfl⟩) (fun f32 H locs hr32 hok hP hS => ?_)
      refine lv_iconst (v := 1) hx hb dX2_takeStep_74 (by decide) ?_
      exact W.zret (v := 1) hx hb hr rfl (fun t ht hW => ⟨⟨1, f32, rfl, Or.inr rfl, hok, by rw [ht]; exact hP⟩, hS.F ht⟩) hS.2.2 dX2_takeStep_75

set_option maxHeartbeats 4000000 in
set_option maxRecDepth 100000 in
theorem t_X2_append (l : Launch) (dC : Nat → ClassId) (dI : Nat → Nat → Nat) (sz : Nat) (G : GT) (cs : Nat → ClassId) (tt mm : Nat) (a0 : Nat) (ha0 : Ty G a0 7) (a1 : Nat) (ha1 : Ty G a1 10) (a2 : Nat) (ha2 : Ty G a2 10) : Met l yX2_append [.code yX2_append cX2_append 5 (some .int)] ({ frames := 3, cells := 0, slots := 0, locals := 120 }) (PT [.ref a0, .ref a1, .ref a2] sz dC dI G cs tt mm) (va_Qi (fun (r : Int32) (u : Nat → va_E) => True) (BT dC dI G cs tt mm) (AT G sz)) 0 0 (AT G sz) := by
  refine Met.ofW (cc := cX2_append) (maxL := 5) (ret := (some .int)) (by decide) rfl ?_
  intro p e s m args below meth c s₁ B hml hv
  obtain ⟨rfl, hsz, ⟨f0, hok, hP⟩, hK, hnd, hWT, hE⟩ := hv
  have hx := B.exec
  have hb := B.bytes
  have hr := B.returns
  have hown : s.vm.findClass RX2 = some m.cls := findClass_of_methodNamed B.named
  have hlocks := B.notSynchronized
  subst hsz
  have hAL : ∀ a, a ∈ gL G → AT G s.heap.size a := fun a h => Or.inl h
  have hA : ∀ q : Nat, s.heap.size ≤ q → AT G s.heap.size q := fun q h => Or.inr h
  have hS : va_S (AT G s.heap.size) s.heap s.heap [] := va_S.rf
  have hl := lv_entry ([.ref a0, .ref a1, .ref a2]) (n := 5) (Nat.le_of_ble_eq_true rfl)
  rw [lg_entry_eq]
  generalize (lg_sl ([.ref a0, .ref a1, .ref a2]) ++ List.replicate (5 - (lg_sl ([.ref a0, .ref a1, .ref a2])).length) Slot.unset).toArray = ls at hl ⊢
  have hl : lv_has ls 5 [(0, .ref a0), (1, .ref a1), (2, .ref a2)] := hl
  refine lv_iconst (v := 0) hx hb dX2_append_0 (by decide) ?_
  refine lv_istore_n (lv' := [(3, .int 0), (0, .ref a0), (1, .ref a1), (2, .ref a2)]) hx hb dX2_append_1 rfl hl (by decide) rfl (fun ls hl => ?_)
  refine lv_aload_n hx hb dX2_append_2 rfl (lv_at hl 2 rfl) ?_
  refine lv_aload_n hx hb dX2_append_3 rfl (lv_at hl 3 rfl) ?_
  refine lv_iconst (v := 0) hx hb dX2_append_4 (by decide) ?_
  obtain ⟨y2_1, y3_1, hy3_1, he1⟩ := ok_X10 hok ha2
  refine vp_callSi (va_Run.run (va_runV (As := [.int 0]) (rest := [.ref a1]) ⟨hx, hb, hml, hown, noTs⟩ (t_X10_numberAt l dC dI s.heap.size G cs tt mm a2 ha2 0) ⟨cbE 1 (wd_717 hE) (wd_120 hE) (wd_843 hE) rfl rfl (by decide +kernel) ⟨Nat.le_of_ble_eq_true rfl, Nat.le_of_ble_eq_true rfl⟩, (wd_715 hE), (wd_716 hE)⟩ ⟨PT.blind, th_recv hK hP ha2.1 he1 rfl, (th_pre (av := [.ref a2, .int 0]) hK hP hok hnd hWT hE)⟩ rfl rfl hl.1 rfl (lv_room (Nat.le_of_ble_eq_true rfl)) dX2_append_5 ⟨Nat.le_of_ble_eq_true rfl, Nat.le_of_ble_eq_true rfl⟩)) (fun r2 hr2 => ?_)
  refine lv_aload_n hx hb dX2_append_8 rfl (lv_at hl 1 rfl) ?_
  refine lv_aload_n hx hb dX2_append_9 rfl (lv_at hl 3 rfl) ?_
  refine vp_callSi (va_Run.run (va_runV (As := []) (rest := [.ref a0, .int r2, .ref a1]) ⟨hx, hb, hml, hown, noTs⟩ (t_X10_begin l dC dI s.heap.size G cs tt mm a2 ha2) ⟨cbE 0 (wd_713 hE) (wd_120 hE) (wd_838 hE) rfl rfl (by decide +kernel) ⟨Nat.le_of_ble_eq_true rfl, Nat.le_of_ble_eq_true rfl⟩, (wd_711 hE), (wd_712 hE)⟩ ⟨PT.blind, th_recv hK hP ha2.1 he1 rfl, (th_pre (av := [.ref a2]) hK hP hok hnd hWT hE)⟩ rfl rfl hl.1 rfl (lv_room (Nat.le_of_ble_eq_true rfl)) dX2_append_10 ⟨Nat.le_of_ble_eq_true rfl, Nat.le_of_ble_eq_true rfl⟩)) (fun r3 hr3 => ?_)
  have he4 := ok_X7 hok ha0
  refine vp_callSi (va_Run.run (va_runV (As := [.int r3]) (rest := [.int r2, .ref a1]) ⟨hx, hb, hml, hown, noTs⟩ (t_X7_orderAt l dC dI s.heap.size G cs tt mm a0 ha0 r3) ⟨cbE 1 (wd_614 hE) (wd_116 hE) (wd_844 hE) rfl rfl (by decide +kernel) ⟨Nat.le_of_ble_eq_true rfl, Nat.le_of_ble_eq_true rfl⟩, (wd_612 hE), (wd_613 hE)⟩ ⟨PT.blind, th_recv hK hP ha0.1 he4 rfl, (th_pre (av := [.ref a0, .int r3]) hK hP hok hnd hWT hE)⟩ rfl rfl hl.1 rfl (lv_room (Nat.le_of_ble_eq_true rfl)) dX2_append_13 ⟨Nat.le_of_ble_eq_true rfl, Nat.le_of_ble_eq_true rfl⟩)) (fun r5 hr5 => ?_)
  obtain ⟨y2_6, y3_6, hy3_6, he6⟩ := ok_X10 hok ha1
  refine tc_v hAL hS hA (va_runV (As := [.int r2, .int r5]) (rest := []) ⟨hx, hb, hml, hown, noTs⟩ (t_X10_addLast l dC dI s.heap.size G cs tt mm a1 ha1 r2 r5) ⟨cbE 2 (wd_645 hE) (wd_120 hE) (wd_845 hE) rfl rfl (by decide +kernel) ⟨Nat.le_of_ble_eq_true rfl, Nat.le_of_ble_eq_true rfl⟩, (wd_643 hE), (wd_644 hE)⟩ ⟨PT.blind, th_recv hK hP ha1.1 he6 rfl, (th_pre (av := [.ref a1, .int r2, .int r5]) hK hP hok hnd hWT hE)⟩ rfl rfl hl.1 rfl (lv_room (Nat.le_of_ble_eq_true rfl)) dX2_append_16 ⟨Nat.le_of_ble_eq_true rfl, Nat.le_of_ble_eq_true rfl⟩) (fun f7 H locs hr7 hok hP hS => ?_)
  refine lv_iconst (v := 0) hx hb dX2_append_19 (by decide) ?_
  refine lv_istore (lv' := [(4, .int 0), (3, .int 0), (0, .ref a0), (1, .ref a1), (2, .ref a2)]) hx hb dX2_append_20 hl (by decide) rfl (fun ls hl => ?_)
  refine w_ind (I := fun n f H locs ls => OKT G cs tt mm f ∧ va_P (dC, dI) vwCl (va_pl (gL G) f) H ∧ va_S (AT G s.heap.size) s.heap H locs ∧ ∃ (w3_8 : Int32) (w4_8 : Int32), n = (2147483647 - w4_8.toInt).toNat ∧ 0 ≤ w4_8 ∧ lv_has ls 5 [(0, .ref a0), (1, .ref a1), (2, .ref a2), (3, .int w3_8), (4, .int w4_8)]) (fun n f8 H locs ls hI ih8 => ?_) _ f7 _ _ _ ⟨hok, hP, hS, 0, 0, rfl, (by first | omega | (simp only [i_lt, i_le, i_eq, ti_m9, ti_m1, ti_0, ti_1, ti_2, ti_3, ti_4, ti_5, ti_6, ti_7, ti_9, ti_12, ti_20, ti_99, ti_700, ti_24, ti_72]; omega)), lv_sub hl [2, 3, 4, 1, 0] rfl⟩
  obtain ⟨hok, hP, hS, w3_8, w4_8, hmu8, hlo8, hl⟩ := hI
  subst hmu8
  refine lv_iload hx hb dX2_append_22 (lv_at hl 4 rfl) ?_
  refine lv_aload_n hx hb dX2_append_24 rfl (lv_at hl 2 rfl) ?_
  obtain ⟨y2_9, y3_9, hy3_9, he9⟩ := ok_X10 hok ha2
  refine vp_callSi (va_Run.run (va_runV (As := []) (rest := [.int w4_8]) ⟨hx, hb, hml, hown, noTs⟩ (t_X10_size l dC dI H.size G cs tt mm a2 ha2) ⟨cbE 0 (wd_666 hE) (wd_120 hE) (wd_846 hE) rfl rfl (by decide +kernel) ⟨Nat.le_of_ble_eq_true rfl, Nat.le_of_ble_eq_true rfl⟩, (wd_664 hE), (wd_665 hE)⟩ ⟨PT.blind, th_recv hK hP ha2.1 he9 rfl, (th_pre (av := [.ref a2]) hK hP hok hnd hWT hE)⟩ rfl rfl hl.1 rfl (lv_room (Nat.le_of_ble_eq_true rfl)) dX2_append_25 ⟨Nat.le_of_ble_eq_true rfl, Nat.le_of_ble_eq_true rfl⟩)) (fun r10 hr10 => ?_)
  obtain ⟨hra10, hrb10⟩ := hr10
  refine lv_icmp_ge (tgt := 62) hx hb dX2_append_28 (by decide) (fun c11 => ?_) (fun c11 => ?_)
  · refine lv_iload_n hx hb dX2_append_62 rfl (lv_at hl 3 rfl) ?_
    exact W.iret (v := w3_8) hx hb hr (fun t ht hW => ⟨⟨w3_8, f8, rfl, trivial, hok, by rw [ht]; exact hP⟩, hS.F ht⟩) hS.2.2 dX2_append_63
  · refine lv_iload_n hx hb dX2_append_31 rfl (lv_at hl 3 rfl) ?_
    refine lv_aload_n hx hb dX2_append_32 rfl (lv_at hl 0 rfl) ?_
    refine lv_aload_n hx hb dX2_append_33 rfl (lv_at hl 1 rfl) ?_
    refine lv_aload_n hx hb dX2_append_34 rfl (lv_at hl 2 rfl) ?_
    refine lv_iload hx hb dX2_append_35 (lv_at hl 4 rfl) ?_
    refine vp_callSi (va_Run.run (va_runV (As := [.int w4_8]) (rest := [.ref a1, .ref a0, .int w3_8]) ⟨hx, hb, hml, hown, noTs⟩ (t_X10_stepAt l dC dI H.size G cs tt mm a2 ha2 w4_8) ⟨cbE 1 (wd_721 hE) (wd_120 hE) (wd_847 hE) rfl rfl (by decide +kernel) ⟨Nat.le_of_ble_eq_true rfl, Nat.le_of_ble_eq_true rfl⟩, (wd_719 hE), (wd_720 hE)⟩ ⟨PT.blind, th_recv hK hP ha2.1 he9 rfl, (th_pre (av := [.ref a2, .int w4_8]) hK hP hok hnd hWT hE)⟩ rfl rfl hl.1 rfl (lv_room (Nat.le_of_ble_eq_true rfl)) dX2_append_37 ⟨Nat.le_of_ble_eq_true rfl, Nat.le_of_ble_eq_true rfl⟩)) (fun r12 hr12 => ?_)
    refine lv_aload_n hx hb dX2_append_40 rfl (lv_at hl 2 rfl) ?_
    refine lv_iload hx hb dX2_append_41 (lv_at hl 4 rfl) ?_
    refine lv_iconst (v := 1) hx hb dX2_append_43 (by decide) ?_
    refine lv_iadd hx hb dX2_append_44 ?_
    refine lv_topi (fun x13 _ => ?_)
    refine vp_callSi (va_Run.run (va_runV (As := [.int x13]) (rest := [.int r12, .ref a1, .ref a0, .int w3_8]) ⟨hx, hb, hml, hown, noTs⟩ (t_X10_numberAt l dC dI H.size G cs tt mm a2 ha2 x13) ⟨cbE 1 (wd_717 hE) (wd_120 hE) (wd_843 hE) rfl rfl (by decide +kernel) ⟨Nat.le_of_ble_eq_true rfl, Nat.le_of_ble_eq_true rfl⟩, (wd_715 hE), (wd_716 hE)⟩ ⟨PT.blind, th_recv hK hP ha2.1 he9 rfl, (th_pre (av := [.ref a2, .int x13]) hK hP hok hnd hWT hE)⟩ rfl rfl hl.1 rfl (lv_room (Nat.le_of_ble_eq_true rfl)) dX2_append_45 ⟨Nat.le_of_ble_eq_true rfl, Nat.le_of_ble_eq_true rfl⟩)) (fun r14 hr14 => ?_)
    refine tc_i hAL hS hA (va_runS (As := [.ref a0, .ref a1, .int r12, .int r14]) (rest := [.int w3_8]) ⟨hx, hb, hml, hown, noTs⟩ (t_X2_takeStep l dC dI H.size G cs tt mm a0 ha0 a1 ha1 r12 r14) ⟨cbE 4 (wd_850 hE) (wd_134 hE) (wd_848 hE) rfl rfl (by decide +kernel) ⟨Nat.le_of_ble_eq_true rfl, Nat.le_of_ble_eq_true rfl⟩, (wd_849 hE)⟩ ⟨PT.blind, (th_pre (av := [.ref a0, .ref a1, .int r12, .int r14]) hK hP hok hnd hWT hE)⟩ rfl rfl hl.1 rfl (lv_room (Nat.le_of_ble_eq_true rfl)) dX2_append_48 ⟨Nat.le_of_ble_eq_true rfl, Nat.le_of_ble_eq_true rfl⟩) (fun r15 f15 H locs hr15 hok hP hS => ?_)
    refine vp_callSi (va_Run.run (va_runSN (As := [.int r15]) (rest := [.int w3_8]) ⟨hx, hb, hml, hown, noTs⟩ (t_X11_bit l dC dI H.size G cs tt mm r15) ⟨cnE 1 (wd_669 hE) (wd_115 hE) (wd_873 hE) rfl rfl (by decide +kernel) ⟨Nat.le_of_ble_eq_true rfl, Nat.le_of_ble_eq_true rfl⟩, (wd_668 hE), trivial⟩ ⟨PT.blind, (th_pre (av := [.int r15]) hK hP hok hnd hWT hE)⟩ rfl rfl hl.1 rfl (lv_room (Nat.le_of_ble_eq_true rfl)) dX2_append_51 ⟨Nat.le_of_ble_eq_true rfl, Nat.le_of_ble_eq_true rfl⟩)) (fun r16 hr16 => ?_)
    refine lv_iadd hx hb dX2_append_54 ?_
    refine lv_topi (fun x17 _ => ?_)
    refine lv_istore_n (lv' := [(3, .int x17), (0, .ref a0), (1, .ref a1), (2, .ref a2), (4, .int w4_8)]) hx hb dX2_append_55 rfl hl (by decide) rfl (fun ls hl => ?_)
    obtain ⟨z18, ez18⟩ : ∃ z : Int32, z = w4_8 + 1 := ⟨_, rfl⟩
    refine lv_iinc (v := z18) (lv' := [(4, .int z18), (3, .int x17), (0, .ref a0), (1, .ref a1), (2, .ref a2)]) hx hb dX2_append_56 hl (k := 4) rfl (by rw [ez18]; rfl) (by decide) rfl (fun ls hl => ?_)
    have ic18 : z18.toInt = w4_8.toInt + 1 := by rw [ez18]; exact ic_up (by have := i_rng r10; have := i_rng w4_8; simp only [i_lt, i_le, i_eq, ti_m9, ti_m1, ti_0, ti_1, ti_2, ti_3, ti_4, ti_5, ti_6, ti_7, ti_9, ti_12, ti_20, ti_99, ti_700, ti_24, ti_72] at hlo8 hra10 hrb10 c11 ⊢; omega)
    refine lv_goto (tgt := 22) hx hb dX2_append_59 (by decide) ?_
    exact ih8 _ f15 _ _ _ (by first | omega | (simp only [i_lt, i_le, i_eq, ti_m9, ti_m1, ti_0, ti_1, ti_2, ti_3, ti_4, ti_5, ti_6, ti_7, ti_9, ti_12, ti_20, ti_99, ti_700, ti_24, ti_72, ic18] at hlo8 hra10 hrb10 c11 ic18 ⊢; omega)) ⟨hok, hP, hS, x17, z18, rfl, (by first | omega | (simp only [i_lt, i_le, i_eq, ti_m9, ti_m1, ti_0, ti_1, ti_2, ti_3, ti_4, ti_5, ti_6, ti_7, ti_9, ti_12, ti_20, ti_99, ti_700, ti_24, ti_72, ic18] at hlo8 hra10 hrb10 c11 ⊢; omega)), lv_sub hl [2, 3, 4, 1, 0] rfl⟩

set_option maxHeartbeats 4000000 in
set_option maxRecDepth 100000 in
theorem t_X2_appendTurned (l : Launch) (dC : Nat → ClassId) (dI : Nat → Nat → Nat) (sz : Nat) (G : GT) (cs : Nat → ClassId) (tt mm : Nat) (a0 : Nat) (ha0 : Ty G a0 7) (a1 : Nat) (ha1 : Ty G a1 10) (a2 : Nat) (ha2 : Ty G a2 10) : Met l yX2_appendTurned [.code yX2_appendTurned cX2_appendTurned 4 none] ({ frames := 3, cells := 0, slots := 0, locals := 120 }) (PT [.ref a0, .ref a1, .ref a2] sz dC dI G cs tt mm) (va_Qv (fun (u : Nat → va_E) => True) (BT dC dI G cs tt mm) (AT G sz)) 0 0 (AT G sz) := by
  refine Met.ofW (cc := cX2_appendTurned) (maxL := 4) (ret := none) (by decide) rfl ?_
  intro p e s m args below meth c s₁ B hml hv
  obtain ⟨rfl, hsz, ⟨f0, hok, hP⟩, hK, hnd, hWT, hE⟩ := hv
  have hx := B.exec
  have hb := B.bytes
  have hr := B.returns
  have hown : s.vm.findClass RX2 = some m.cls := findClass_of_methodNamed B.named
  have hlocks := B.notSynchronized
  subst hsz
  have hAL : ∀ a, a ∈ gL G → AT G s.heap.size a := fun a h => Or.inl h
  have hA : ∀ q : Nat, s.heap.size ≤ q → AT G s.heap.size q := fun q h => Or.inr h
  have hS : va_S (AT G s.heap.size) s.heap s.heap [] := va_S.rf
  have hl := lv_entry ([.ref a0, .ref a1, .ref a2]) (n := 4) (Nat.le_of_ble_eq_true rfl)
  rw [lg_entry_eq]
  generalize (lg_sl ([.ref a0, .ref a1, .ref a2]) ++ List.replicate (4 - (lg_sl ([.ref a0, .ref a1, .ref a2])).length) Slot.unset).toArray = ls at hl ⊢
  have hl : lv_has ls 4 [(0, .ref a0), (1, .ref a1), (2, .ref a2)] := hl
  refine lv_aload_n hx hb dX2_appendTurned_0 rfl (lv_at hl 1 rfl) ?_
  refine lv_aload_n hx hb dX2_appendTurned_1 rfl (lv_at hl 2 rfl) ?_
  obtain ⟨y2_1, y3_1, hy3_1, he1⟩ := ok_X10 hok ha2
  refine vp_callSi (va_Run.run (va_runV (As := []) (rest := [.ref a1]) ⟨hx, hb, hml, hown, noTs⟩ (t_X10_lastNumber l dC dI s.heap.size G cs tt mm a2 ha2) ⟨cbE 0 (wd_649 hE) (wd_120 hE) (wd_851 hE) rfl rfl (by decide +kernel) ⟨Nat.le_of_ble_eq_true rfl, Nat.le_of_ble_eq_true rfl⟩, (wd_647 hE), (wd_648 hE)⟩ ⟨PT.blind, th_recv hK hP ha2.1 he1 rfl, (th_pre (av := [.ref a2]) hK hP hok hnd hWT hE)⟩ rfl rfl hl.1 rfl (lv_room (Nat.le_of_ble_eq_true rfl)) dX2_appendTurned_2 ⟨Nat.le_of_ble_eq_true rfl, Nat.le_of_ble_eq_true rfl⟩)) (fun r2 hr2 => ?_)
  refine lv_ineg hx hb dX2_appendTurned_5 ?_
  refine lv_topi (fun x3 _ => ?_)
  refine lv_aload_n hx hb dX2_appendTurned_6 rfl (lv_at hl 0 rfl) ?_
  refine lv_aload_n hx hb dX2_appendTurned_7 rfl (lv_at hl 0 rfl) ?_
  refine lv_aload_n hx hb dX2_appendTurned_8 rfl (lv_at hl 2 rfl) ?_
  have he4 := ok_X7 hok ha0
  refine vp_callSi (va_Run.run (va_runV (As := [.ref a2]) (rest := [.ref a0, .int x3, .ref a1]) ⟨hx, hb, hml, hown, noTs⟩ (t_X7_endOf l dC dI s.heap.size G cs tt mm a0 ha0 a2 ha2) ⟨cbE 1 (wd_828 hE) (wd_116 hE) (wd_930 hE) rfl rfl (by decide +kernel) ⟨Nat.le_of_ble_eq_true rfl, Nat.le_of_ble_eq_true rfl⟩, (wd_826 hE), (wd_827 hE)⟩ ⟨PT.blind, th_recv hK hP ha0.1 he4 rfl, (th_pre (av := [.ref a0, .ref a2]) hK hP hok hnd hWT hE)⟩ rfl rfl hl.1 rfl (lv_room (Nat.le_of_ble_eq_true rfl)) dX2_appendTurned_9 ⟨Nat.le_of_ble_eq_true rfl, Nat.le_of_ble_eq_true rfl⟩)) (fun r5 hr5 => ?_)
  refine vp_callSi (va_Run.run (va_runV (As := [.int r5]) (rest := [.int x3, .ref a1]) ⟨hx, hb, hml, hown, noTs⟩ (t_X7_orderAt l dC dI s.heap.size G cs tt mm a0 ha0 r5) ⟨cbE 1 (wd_614 hE) (wd_116 hE) (wd_844 hE) rfl rfl (by decide +kernel) ⟨Nat.le_of_ble_eq_true rfl, Nat.le_of_ble_eq_true rfl⟩, (wd_612 hE), (wd_613 hE)⟩ ⟨PT.blind, th_recv hK hP ha0.1 he4 rfl, (th_pre (av := [.ref a0, .int r5]) hK hP hok hnd hWT hE)⟩ rfl rfl hl.1 rfl (lv_room (Nat.le_of_ble_eq_true rfl)) dX2_appendTurned_12 ⟨Nat.le_of_ble_eq_true rfl, Nat.le_of_ble_eq_true rfl⟩)) (fun r6 hr6 => ?_)
  obtain ⟨y2_7, y3_7, hy3_7, he7⟩ := ok_X10 hok ha1
  refine tc_v hAL hS hA (va_runV (As := [.int x3, .int r6]) (rest := []) ⟨hx, hb, hml, hown, noTs⟩ (t_X10_addLast l dC dI s.heap.size G cs tt mm a1 ha1 x3 r6) ⟨cbE 2 (wd_645 hE) (wd_120 hE) (wd_845 hE) rfl rfl (by decide +kernel) ⟨Nat.le_of_ble_eq_true rfl, Nat.le_of_ble_eq_true rfl⟩, (wd_643 hE), (wd_644 hE)⟩ ⟨PT.blind, th_recv hK hP ha1.1 he7 rfl, (th_pre (av := [.ref a1, .int x3, .int r6]) hK hP hok hnd hWT hE)⟩ rfl rfl hl.1 rfl (lv_room (Nat.le_of_ble_eq_true rfl)) dX2_appendTurned_15 ⟨Nat.le_of_ble_eq_true rfl, Nat.le_of_ble_eq_true rfl⟩) (fun f8 H locs hr8 hok hP hS => ?_)
  refine lv_aload_n hx hb dX2_appendTurned_18 rfl (lv_at hl 2 rfl) ?_
  obtain ⟨y2_9, y3_9, hy3_9, he9⟩ := ok_X10 hok ha2
  refine vp_callSi (va_Run.run (va_runV (As := []) (rest := []) ⟨hx, hb, hml, hown, noTs⟩ (t_X10_size l dC dI H.size G cs tt mm a2 ha2) ⟨cbE 0 (wd_666 hE) (wd_120 hE) (wd_846 hE) rfl rfl (by decide +kernel) ⟨Nat.le_of_ble_eq_true rfl, Nat.le_of_ble_eq_true rfl⟩, (wd_664 hE), (wd_665 hE)⟩ ⟨PT.blind, th_recv hK hP ha2.1 he9 rfl, (th_pre (av := [.ref a2]) hK hP hok hnd hWT hE)⟩ rfl rfl hl.1 rfl (lv_room (Nat.le_of_ble_eq_true rfl)) dX2_appendTurned_19 ⟨Nat.le_of_ble_eq_true rfl, Nat.le_of_ble_eq_true rfl⟩)) (fun r10 hr10 => ?_)
  obtain ⟨hra10, hrb10⟩ := hr10
  refine lv_iconst (v := 1) hx hb dX2_appendTurned_22 (by decide) ?_
  refine lv_isub hx hb dX2_appendTurned_23 ?_
  refine lv_topi (fun x11 _ => ?_)
  refine lv_istore_n (lv' := [(3, .int x11), (0, .ref a0), (1, .ref a1), (2, .ref a2)]) hx hb dX2_appendTurned_24 rfl hl (by decide) rfl (fun ls hl => ?_)
  refine w_ind (I := fun n f H locs ls => OKT G cs tt mm f ∧ va_P (dC, dI) vwCl (va_pl (gL G) f) H ∧ va_S (AT G s.heap.size) s.heap H locs ∧ ∃ (w3_12 : Int32), n = (w3_12.toInt + 2147483648).toNat ∧ lv_has ls 4 [(0, .ref a0), (1, .ref a1), (2, .ref a2), (3, .int w3_12)]) (fun n f12 H locs ls hI ih12 => ?_) _ f8 _ _ _ ⟨hok, hP, hS, x11, rfl, lv_sub hl [1, 2, 3, 0] rfl⟩
  obtain ⟨hok, hP, hS, w3_12, hmu12, hl⟩ := hI
  subst hmu12
  refine lv_iload_n hx hb dX2_appendTurned_25 rfl (lv_at hl 3 rfl) ?_
  refine lv_if_lt (tgt := 55) hx hb dX2_appendTurned_26 (by decide) (fun c13 => ?_) (fun c13 => ?_)
  · exact W.vret hx hb hr (fun t ht hW => ⟨⟨f12, rfl, trivial, hok, by rw [ht]; exact hP⟩, hS.F ht⟩) hS.2.2 dX2_appendTurned_55
  · refine lv_aload_n hx hb dX2_appendTurned_29 rfl (lv_at hl 0 rfl) ?_
    refine lv_aload_n hx hb dX2_appendTurned_30 rfl (lv_at hl 1 rfl) ?_
    refine lv_aload_n hx hb dX2_appendTurned_31 rfl (lv_at hl 2 rfl) ?_
    refine lv_iload_n hx hb dX2_appendTurned_32 rfl (lv_at hl 3 rfl) ?_
    obtain ⟨y2_14, y3_14, hy3_14, he14⟩ := ok_X10 hok ha2
    refine vp_callSi (va_Run.run (va_runV (As := [.int w3_12]) (rest := [.ref a1, .ref a0]) ⟨hx, hb, hml, hown, noTs⟩ (t_X10_stepAt l dC dI H.size G cs tt mm a2 ha2 w3_12) ⟨cbE 1 (wd_721 hE) (wd_120 hE) (wd_847 hE) rfl rfl (by decide +kernel) ⟨Nat.le_of_ble_eq_true rfl, Nat.le_of_ble_eq_true rfl⟩, (wd_719 hE), (wd_720 hE)⟩ ⟨PT.blind, th_recv hK hP ha2.1 he14 rfl, (th_pre (av := [.ref a2, .int w3_12]) hK hP hok hnd hWT hE)⟩ rfl rfl hl.1 rfl (lv_room (Nat.le_of_ble_eq_true rfl)) dX2_appendTurned_33 ⟨Nat.le_of_ble_eq_true rfl, Nat.le_of_ble_eq_true rfl⟩)) (fun r15 hr15 => ?_)
    refine vp_callSi (va_Run.run (va_runSN (As := [.int r15]) (rest := [.ref a1, .ref a0]) ⟨hx, hb, hml, hown, noTs⟩ (t_X11_opposite l dC dI H.size G cs tt mm r15) ⟨cnE 1 (wd_865 hE) (wd_115 hE) (wd_863 hE) rfl rfl (by decide +kernel) ⟨Nat.le_of_ble_eq_true rfl, Nat.le_of_ble_eq_true rfl⟩, (wd_864 hE), trivial⟩ ⟨PT.blind, (th_pre (av := [.int r15]) hK hP hok hnd hWT hE)⟩ rfl rfl hl.1 rfl (lv_room (Nat.le_of_ble_eq_true rfl)) dX2_appendTurned_36 ⟨Nat.le_of_ble_eq_true rfl, Nat.le_of_ble_eq_true rfl⟩)) (fun r16 hr16 => ?_)
    refine lv_aload_n hx hb dX2_appendTurned_39 rfl (lv_at hl 2 rfl) ?_
    refine lv_iload_n hx hb dX2_appendTurned_40 rfl (lv_at hl 3 rfl) ?_
    refine vp_callSi (va_Run.run (va_runV (As := [.int w3_12]) (rest := [.int r16, .ref a1, .ref a0]) ⟨hx, hb, hml, hown, noTs⟩ (t_X10_numberAt l dC dI H.size G cs tt mm a2 ha2 w3_12) ⟨cbE 1 (wd_717 hE) (wd_120 hE) (wd_843 hE) rfl rfl (by decide +kernel) ⟨Nat.le_of_ble_eq_true rfl, Nat.le_of_ble_eq_true rfl⟩, (wd_715 hE), (wd_716 hE)⟩ ⟨PT.blind, th_recv hK hP ha2.1 he14 rfl, (th_pre (av := [.ref a2, .int w3_12]) hK hP hok hnd hWT hE)⟩ rfl rfl hl.1 rfl (lv_room (Nat.le_of_ble_eq_true rfl)) dX2_appendTurned_41 ⟨Nat.le_of_ble_eq_true rfl, Nat.le_of_ble_eq_true rfl⟩)) (fun r17 hr17 => ?_)
    refine lv_ineg hx hb dX2_appendTurned_44 ?_
    refine lv_topi (fun x18 _ => ?_)
    refine tc_i hAL hS hA (va_runS (As := [.ref a0, .ref a1, .int r16, .int x18]) (rest := []) ⟨hx, hb, hml, hown, noTs⟩ (t_X2_takeStep l dC dI H.size G cs tt mm a0 ha0 a1 ha1 r16 x18) ⟨cbE 4 (wd_850 hE) (wd_134 hE) (wd_848 hE) rfl rfl (by decide +kernel) ⟨Nat.le_of_ble_eq_true rfl, Nat.le_of_ble_eq_true rfl⟩, (wd_849 hE)⟩ ⟨PT.blind, (th_pre (av := [.ref a0, .ref a1, .int r16, .int x18]) hK hP hok hnd hWT hE)⟩ rfl rfl hl.1 rfl (lv_room (Nat.le_of_ble_eq_true rfl)) dX2_appendTurned_45 ⟨Nat.le_of_ble_eq_true rfl, Nat.le_of_ble_eq_true rfl⟩) (fun r19 f19 H locs hr19 hok hP hS => ?_)
    refine lv_pop hx hb dX2_appendTurned_48 rfl ?_
    obtain ⟨z20, ez20⟩ : ∃ z : Int32, z = w3_12 + (-1) := ⟨_, rfl⟩
    refine lv_iinc (v := z20) (lv' := [(3, .int z20), (0, .ref a0), (1, .ref a1), (2, .ref a2)]) hx hb dX2_appendTurned_49 hl (k := 3) rfl (by rw [ez20]; rfl) (by decide) rfl (fun ls hl => ?_)
    have ic20 : z20.toInt = w3_12.toInt - 1 := by rw [ez20]; exact ic_dn (by have := i_rng r10; have := i_rng w3_12; simp only [i_lt, i_le, i_eq, ti_m9, ti_m1, ti_0, ti_1, ti_2, ti_3, ti_4, ti_5, ti_6, ti_7, ti_9, ti_12, ti_20, ti_99, ti_700, ti_24, ti_72] at hra10 hrb10 c13 ⊢; omega)
    refine lv_goto (tgt := 25) hx hb dX2_appendTurned_52 (by decide) ?_
    exact ih12 _ f19 _ _ _ (by first | omega | (simp only [i_lt, i_le, i_eq, ti_m9, ti_m1, ti_0, ti_1, ti_2, ti_3, ti_4, ti_5, ti_6, ti_7, ti_9, ti_12, ti_20, ti_99, ti_700, ti_24, ti_72, ic20] at hra10 hrb10 c13 ic20 ⊢; omega)) ⟨hok, hP, hS, z20, rfl, lv_sub hl [1, 2, 3, 0] rfl⟩

set_option maxHeartbeats 4000000 in
set_option maxRecDepth 100000 in
theorem t_X2_reduce (l : Launch) (dC : Nat → ClassId) (dI : Nat → Nat → Nat) (sz : Nat) (G : GT) (cs : Nat → ClassId) (tt mm : Nat) (a0 : Nat) (ha0 : Ty G a0 7) (a1 : Nat) (ha1 : Ty G a1 10) (a2 : Nat) (ha2 : Ty G a2 10) : Met l yX2_reduce [.code yX2_reduce cX2_reduce 3 (some .int)] ({ frames := 4, cells := 0, slots := 0, locals := 160 }) (PT [.ref a0, .ref a1, .ref a2] sz dC dI G cs tt mm) (va_Qi (fun (r : Int32) (u : Nat → va_E) => True) (BT dC dI G cs tt mm) (AT G sz)) 0 0 (AT G sz) := by
  refine Met.ofW (cc := cX2_reduce) (maxL := 3) (ret := (some .int)) (by decide) rfl ?_
  intro p e s m args below meth c s₁ B hml hv
  obtain ⟨rfl, hsz, ⟨f0, hok, hP⟩, hK, hnd, hWT, hE⟩ := hv
  have hx := B.exec
  have hb := B.bytes
  have hr := B.returns
  have hown : s.vm.findClass RX2 = some m.cls := findClass_of_methodNamed B.named
  have hlocks := B.notSynchronized
  subst hsz
  have hAL : ∀ a, a ∈ gL G → AT G s.heap.size a := fun a h => Or.inl h
  have hA : ∀ q : Nat, s.heap.size ≤ q → AT G s.heap.size q := fun q h => Or.inr h
  have hS : va_S (AT G s.heap.size) s.heap s.heap [] := va_S.rf
  have hl := lv_entry ([.ref a0, .ref a1, .ref a2]) (n := 3) (Nat.le_of_ble_eq_true rfl)
  rw [lg_entry_eq]
  generalize (lg_sl ([.ref a0, .ref a1, .ref a2]) ++ List.replicate (3 - (lg_sl ([.ref a0, .ref a1, .ref a2])).length) Slot.unset).toArray = ls at hl ⊢
  have hl : lv_has ls 3 [(0, .ref a0), (1, .ref a1), (2, .ref a2)] := hl
  refine lv_aload_n hx hb dX2_reduce_0 rfl (lv_at hl 2 rfl) ?_
  refine lv_aload_n hx hb dX2_reduce_1 rfl (lv_at hl 1 rfl) ?_
  obtain ⟨y2_1, y3_1, hy3_1, he1⟩ := ok_X10 hok ha1
  refine vp_callSi (va_Run.run (va_runV (As := []) (rest := [.ref a2]) ⟨hx, hb, hml, hown, noTs⟩ (t_X10_begin l dC dI s.heap.size G cs tt mm a1 ha1) ⟨cbE 0 (wd_713 hE) (wd_120 hE) (wd_838 hE) rfl rfl (by decide +kernel) ⟨Nat.le_of_ble_eq_true rfl, Nat.le_of_ble_eq_true rfl⟩, (wd_711 hE), (wd_712 hE)⟩ ⟨PT.blind, th_recv hK hP ha1.1 he1 rfl, (th_pre (av := [.ref a1]) hK hP hok hnd hWT hE)⟩ rfl rfl hl.1 rfl (lv_room (Nat.le_of_ble_eq_true rfl)) dX2_reduce_2 ⟨Nat.le_of_ble_eq_true rfl, Nat.le_of_ble_eq_true rfl⟩)) (fun r2 hr2 => ?_)
  refine lv_iconst (v := 0) hx hb dX2_reduce_5 (by decide) ?_
  obtain ⟨y2_3, y3_3, hy3_3, he3⟩ := ok_X10 hok ha2
  refine tc_v hAL hS hA (va_runV (As := [.int r2, .int 0]) (rest := []) ⟨hx, hb, hml, hown, noTs⟩ (t_X10_start l dC dI s.heap.size G cs tt mm a2 ha2 r2 0) ⟨cbE 2 (wd_637 hE) (wd_120 hE) (wd_839 hE) rfl rfl (by decide +kernel) ⟨Nat.le_of_ble_eq_true rfl, Nat.le_of_ble_eq_true rfl⟩, (wd_635 hE), (wd_636 hE)⟩ ⟨PT.blind, th_recv hK hP ha2.1 he3 rfl, (th_pre (av := [.ref a2, .int r2, .int 0]) hK hP hok hnd hWT hE)⟩ rfl rfl hl.1 rfl (lv_room (Nat.le_of_ble_eq_true rfl)) dX2_reduce_6 ⟨Nat.le_of_ble_eq_true rfl, Nat.le_of_ble_eq_true rfl⟩) (fun f4 H locs hr4 hok hP hS => ?_)
  refine lv_aload_n hx hb dX2_reduce_9 rfl (lv_at hl 0 rfl) ?_
  refine lv_aload_n hx hb dX2_reduce_10 rfl (lv_at hl 2 rfl) ?_
  refine lv_aload_n hx hb dX2_reduce_11 rfl (lv_at hl 1 rfl) ?_
  refine tc_i hAL hS hA (va_runS (As := [.ref a0, .ref a2, .ref a1]) (rest := []) ⟨hx, hb, hml, hown, noTs⟩ (t_X2_append l dC dI H.size G cs tt mm a0 ha0 a2 ha2 a1 ha1) ⟨cbE 3 (wd_842 hE) (wd_134 hE) (wd_840 hE) rfl rfl (by decide +kernel) ⟨Nat.le_of_ble_eq_true rfl, Nat.le_of_ble_eq_true rfl⟩, (wd_841 hE)⟩ ⟨PT.blind, (th_pre (av := [.ref a0, .ref a2, .ref a1]) hK hP hok hnd hWT hE)⟩ rfl rfl hl.1 rfl (lv_room (Nat.le_of_ble_eq_true rfl)) dX2_reduce_12 ⟨Nat.le_of_ble_eq_true rfl, Nat.le_of_ble_eq_true rfl⟩) (fun r5 f5 H locs hr5 hok hP hS => ?_)
  exact W.iret (v := r5) hx hb hr (fun t ht hW => ⟨⟨r5, f5, rfl, trivial, hok, by rw [ht]; exact hP⟩, hS.F ht⟩) hS.2.2 dX2_reduce_15

set_option maxHeartbeats 4000000 in
set_option maxRecDepth 100000 in
theorem t_X2_turn (l : Launch) (dC : Nat → ClassId) (dI : Nat → Nat → Nat) (sz : Nat) (G : GT) (cs : Nat → ClassId) (tt mm : Nat) (a0 : Nat) (ha0 : Ty G a0 7) (a1 : Nat) (ha1 : Ty G a1 10) (a2 : Nat) (ha2 : Ty G a2 10) : Met l yX2_turn [.code yX2_turn cX2_turn 3 none] ({ frames := 4, cells := 0, slots := 0, locals := 160 }) (PT [.ref a0, .ref a1, .ref a2] sz dC dI G cs tt mm) (va_Qv (fun (u : Nat → va_E) => True) (BT dC dI G cs tt mm) (AT G sz)) 0 0 (AT G sz) := by
  refine Met.ofW (cc := cX2_turn) (maxL := 3) (ret := none) (by decide) rfl ?_
  intro p e s m args below meth c s₁ B hml hv
  obtain ⟨rfl, hsz, ⟨f0, hok, hP⟩, hK, hnd, hWT, hE⟩ := hv
  have hx := B.exec
  have hb := B.bytes
  have hr := B.returns
  have hown : s.vm.findClass RX2 = some m.cls := findClass_of_methodNamed B.named
  have hlocks := B.notSynchronized
  subst hsz
  have hAL : ∀ a, a ∈ gL G → AT G s.heap.size a := fun a h => Or.inl h
  have hA : ∀ q : Nat, s.heap.size ≤ q → AT G s.heap.size q := fun q h => Or.inr h
  have hS : va_S (AT G s.heap.size) s.heap s.heap [] := va_S.rf
  have hl := lv_entry ([.ref a0, .ref a1, .ref a2]) (n := 3) (Nat.le_of_ble_eq_true rfl)
  rw [lg_entry_eq]
  generalize (lg_sl ([.ref a0, .ref a1, .ref a2]) ++ List.replicate (3 - (lg_sl ([.ref a0, .ref a1, .ref a2])).length) Slot.unset).toArray = ls at hl ⊢
  have hl : lv_has ls 3 [(0, .ref a0), (1, .ref a1), (2, .ref a2)] := hl
  refine lv_aload_n hx hb dX2_turn_0 rfl (lv_at hl 2 rfl) ?_
  refine lv_aload_n hx hb dX2_turn_1 rfl (lv_at hl 0 rfl) ?_
  refine lv_aload_n hx hb dX2_turn_2 rfl (lv_at hl 1 rfl) ?_
  have he1 := ok_X7 hok ha0
  refine vp_callSi (va_Run.run (va_runV (As := [.ref a1]) (rest := [.ref a2]) ⟨hx, hb, hml, hown, noTs⟩ (t_X7_endOf l dC dI s.heap.size G cs tt mm a0 ha0 a1 ha1) ⟨cbE 1 (wd_828 hE) (wd_116 hE) (wd_930 hE) rfl rfl (by decide +kernel) ⟨Nat.le_of_ble_eq_true rfl, Nat.le_of_ble_eq_true rfl⟩, (wd_826 hE), (wd_827 hE)⟩ ⟨PT.blind, th_recv hK hP ha0.1 he1 rfl, (th_pre (av := [.ref a0, .ref a1]) hK hP hok hnd hWT hE)⟩ rfl rfl hl.1 rfl (lv_room (Nat.le_of_ble_eq_true rfl)) dX2_turn_3 ⟨Nat.le_of_ble_eq_true rfl, Nat.le_of_ble_eq_true rfl⟩)) (fun r2 hr2 => ?_)
  refine lv_iconst (v := 0) hx hb dX2_turn_6 (by decide) ?_
  obtain ⟨y2_3, y3_3, hy3_3, he3⟩ := ok_X10 hok ha2
  refine tc_v hAL hS hA (va_runV (As := [.int r2, .int 0]) (rest := []) ⟨hx, hb, hml, hown, noTs⟩ (t_X10_start l dC dI s.heap.size G cs tt mm a2 ha2 r2 0) ⟨cbE 2 (wd_637 hE) (wd_120 hE) (wd_839 hE) rfl rfl (by decide +kernel) ⟨Nat.le_of_ble_eq_true rfl, Nat.le_of_ble_eq_true rfl⟩, (wd_635 hE), (wd_636 hE)⟩ ⟨PT.blind, th_recv hK hP ha2.1 he3 rfl, (th_pre (av := [.ref a2, .int r2, .int 0]) hK hP hok hnd hWT hE)⟩ rfl rfl hl.1 rfl (lv_room (Nat.le_of_ble_eq_true rfl)) dX2_turn_7 ⟨Nat.le_of_ble_eq_true rfl, Nat.le_of_ble_eq_true rfl⟩) (fun f4 H locs hr4 hok hP hS => ?_)
  refine lv_aload_n hx hb dX2_turn_10 rfl (lv_at hl 0 rfl) ?_
  refine lv_aload_n hx hb dX2_turn_11 rfl (lv_at hl 2 rfl) ?_
  refine lv_aload_n hx hb dX2_turn_12 rfl (lv_at hl 1 rfl) ?_
  refine tc_v hAL hS hA (va_runS (As := [.ref a0, .ref a2, .ref a1]) (rest := []) ⟨hx, hb, hml, hown, noTs⟩ (t_X2_appendTurned l dC dI H.size G cs tt mm a0 ha0 a2 ha2 a1 ha1) ⟨cbE 3 (wd_933 hE) (wd_134 hE) (wd_931 hE) rfl rfl (by decide +kernel) ⟨Nat.le_of_ble_eq_true rfl, Nat.le_of_ble_eq_true rfl⟩, (wd_932 hE)⟩ ⟨PT.blind, (th_pre (av := [.ref a0, .ref a2, .ref a1]) hK hP hok hnd hWT hE)⟩ rfl rfl hl.1 rfl (lv_room (Nat.le_of_ble_eq_true rfl)) dX2_turn_13 ⟨Nat.le_of_ble_eq_true rfl, Nat.le_of_ble_eq_true rfl⟩) (fun f5 H locs hr5 hok hP hS => ?_)
  exact W.vret hx hb hr (fun t ht hW => ⟨⟨f5, rfl, trivial, hok, by rw [ht]; exact hP⟩, hS.F ht⟩) hS.2.2 dX2_turn_16

set_option maxHeartbeats 4000000 in
set_option maxRecDepth 100000 in
theorem t_X2_product (l : Launch) (dC : Nat → ClassId) (dI : Nat → Nat → Nat) (sz : Nat) (G : GT) (cs : Nat → ClassId) (tt mm : Nat) (a0 : Nat) (ha0 : Ty G a0 7) (a1 : Nat) (ha1 : Ty G a1 10) (a2 : Nat) (ha2 : Ty G a2 10) (a3 : Nat) (ha3 : Ty G a3 10) : Met l yX2_product [.code yX2_product cX2_product 4 none] ({ frames := 4, cells := 0, slots := 0, locals := 160 }) (PT [.ref a0, .ref a1, .ref a2, .ref a3] sz dC dI G cs tt mm) (va_Qv (fun (u : Nat → va_E) => True) (BT dC dI G cs tt mm) (AT G sz)) 0 0 (AT G sz) := by
  refine Met.ofW (cc := cX2_product) (maxL := 4) (ret := none) (by decide) rfl ?_
  intro p e s m args below meth c s₁ B hml hv
  obtain ⟨rfl, hsz, ⟨f0, hok, hP⟩, hK, hnd, hWT, hE⟩ := hv
  have hx := B.exec
  have hb := B.bytes
  have hr := B.returns
  have hown : s.vm.findClass RX2 = some m.cls := findClass_of_methodNamed B.named
  have hlocks := B.notSynchronized
  subst hsz
  have hAL : ∀ a, a ∈ gL G → AT G s.heap.size a := fun a h => Or.inl h
  have hA : ∀ q : Nat, s.heap.size ≤ q → AT G s.heap.size q := fun q h => Or.inr h
  have hS : va_S (AT G s.heap.size) s.heap s.heap [] := va_S.rf
  have hl := lv_entry ([.ref a0, .ref a1, .ref a2, .ref a3]) (n := 4) (Nat.le_of_ble_eq_true rfl)
  rw [lg_entry_eq]
  generalize (lg_sl ([.ref a0, .ref a1, .ref a2, .ref a3]) ++ List.replicate (4 - (lg_sl ([.ref a0, .ref a1, .ref a2, .ref a3])).length) Slot.unset).toArray = ls at hl ⊢
  have hl : lv_has ls 4 [(0, .ref a0), (1, .ref a1), (2, .ref a2), (3, .ref a3)] := hl
  refine lv_aload_n hx hb dX2_product_0 rfl (lv_at hl 3 rfl) ?_
  refine lv_aload_n hx hb dX2_product_1 rfl (lv_at hl 1 rfl) ?_
  obtain ⟨y2_1, y3_1, hy3_1, he1⟩ := ok_X10 hok ha1
  refine vp_callSi (va_Run.run (va_runV (As := []) (rest := [.ref a3]) ⟨hx, hb, hml, hown, noTs⟩ (t_X10_begin l dC dI s.heap.size G cs tt mm a1 ha1) ⟨cbE 0 (wd_713 hE) (wd_120 hE) (wd_838 hE) rfl rfl (by decide +kernel) ⟨Nat.le_of_ble_eq_true rfl, Nat.le_of_ble_eq_true rfl⟩, (wd_711 hE), (wd_712 hE)⟩ ⟨PT.blind, th_recv hK hP ha1.1 he1 rfl, (th_pre (av := [.ref a1]) hK hP hok hnd hWT hE)⟩ rfl rfl hl.1 rfl (lv_room (Nat.le_of_ble_eq_true rfl)) dX2_product_2 ⟨Nat.le_of_ble_eq_true rfl, Nat.le_of_ble_eq_true rfl⟩)) (fun r2 hr2 => ?_)
  refine lv_iconst (v := 0) hx hb dX2_product_5 (by decide) ?_
  obtain ⟨y2_3, y3_3, hy3_3, he3⟩ := ok_X10 hok ha3
  refine tc_v hAL hS hA (va_runV (As := [.int r2, .int 0]) (rest := []) ⟨hx, hb, hml, hown, noTs⟩ (t_X10_start l dC dI s.heap.size G cs tt mm a3 ha3 r2 0) ⟨cbE 2 (wd_637 hE) (wd_120 hE) (wd_839 hE) rfl rfl (by decide +kernel) ⟨Nat.le_of_ble_eq_true rfl, Nat.le_of_ble_eq_true rfl⟩, (wd_635 hE), (wd_636 hE)⟩ ⟨PT.blind, th_recv hK hP ha3.1 he3 rfl, (th_pre (av := [.ref a3, .int r2, .int 0]) hK hP hok hnd hWT hE)⟩ rfl rfl hl.1 rfl (lv_room (Nat.le_of_ble_eq_true rfl)) dX2_product_6 ⟨Nat.le_of_ble_eq_true rfl, Nat.le_of_ble_eq_true rfl⟩) (fun f4 H locs hr4 hok hP hS => ?_)
  refine lv_aload_n hx hb dX2_product_9 rfl (lv_at hl 0 rfl) ?_
  refine lv_aload_n hx hb dX2_product_10 rfl (lv_at hl 3 rfl) ?_
  refine lv_aload_n hx hb dX2_product_11 rfl (lv_at hl 1 rfl) ?_
  refine tc_i hAL hS hA (va_runS (As := [.ref a0, .ref a3, .ref a1]) (rest := []) ⟨hx, hb, hml, hown, noTs⟩ (t_X2_append l dC dI H.size G cs tt mm a0 ha0 a3 ha3 a1 ha1) ⟨cbE 3 (wd_842 hE) (wd_134 hE) (wd_840 hE) rfl rfl (by decide +kernel) ⟨Nat.le_of_ble_eq_true rfl, Nat.le_of_ble_eq_true rfl⟩, (wd_841 hE)⟩ ⟨PT.blind, (th_pre (av := [.ref a0, .ref a3, .ref a1]) hK hP hok hnd hWT hE)⟩ rfl rfl hl.1 rfl (lv_room (Nat.le_of_ble_eq_true rfl)) dX2_product_12 ⟨Nat.le_of_ble_eq_true rfl, Nat.le_of_ble_eq_true rfl⟩) (fun r5 f5 H locs hr5 hok hP hS => ?_)
  refine lv_pop hx hb dX2_product_15 rfl ?_
  refine lv_aload_n hx hb dX2_product_16 rfl (lv_at hl 0 rfl) ?_
  refine lv_aload_n hx hb dX2_product_17 rfl (lv_at hl 3 rfl) ?_
  refine lv_aload_n hx hb dX2_product_18 rfl (lv_at hl 2 rfl) ?_
  refine tc_i hAL hS hA (va_runS (As := [.ref a0, .ref a3, .ref a2]) (rest := []) ⟨hx, hb, hml, hown, noTs⟩ (t_X2_append l dC dI H.size G cs tt mm a0 ha0 a3 ha3 a2 ha2) ⟨cbE 3 (wd_842 hE) (wd_134 hE) (wd_840 hE) rfl rfl (by decide +kernel) ⟨Nat.le_of_ble_eq_true rfl, Nat.le_of_ble_eq_true rfl⟩, (wd_841 hE)⟩ ⟨PT.blind, (th_pre (av := [.ref a0, .ref a3, .ref a2]) hK hP hok hnd hWT hE)⟩ rfl rfl hl.1 rfl (lv_room (Nat.le_of_ble_eq_true rfl)) dX2_product_19 ⟨Nat.le_of_ble_eq_true rfl, Nat.le_of_ble_eq_true rfl⟩) (fun r6 f6 H locs hr6 hok hP hS => ?_)
  refine lv_pop hx hb dX2_product_22 rfl ?_
  exact W.vret hx hb hr (fun t ht hW => ⟨⟨f6, rfl, trivial, hok, by rw [ht]; exact hP⟩, hS.F ht⟩) hS.2.2 dX2_product_23

set_option maxHeartbeats 4000000 in
set_option maxRecDepth 100000 in
theorem t_X2_seam (l : Launch) (dC : Nat → ClassId) (dI : Nat → Nat → Nat) (sz : Nat) (G : GT) (cs : Nat → ClassId) (tt mm : Nat) (a0 : Nat) (ha0 : Ty G a0 7) (a1 : Nat) (ha1 : Ty G a1 10) : Met l yX2_seam [.code yX2_seam cX2_seam 2 (some .int)] ({ frames := 1, cells := 0, slots := 0, locals := 40 }) (PT [.ref a0, .ref a1] sz dC dI G cs tt mm) (vp_Si (fun (r : Int32) => True)) 0 0 (fun _ => False) := by
  refine Met.ofW (cc := cX2_seam) (maxL := 2) (ret := (some .int)) (by decide) rfl ?_
  intro p e s m args below meth c s₁ B hml hv
  obtain ⟨rfl, hsz, ⟨f0, hok, hP⟩, hK, hnd, hWT, hE⟩ := hv
  have hx := B.exec
  have hb := B.bytes
  have hr := B.returns
  have hown : s.vm.findClass RX2 = some m.cls := findClass_of_methodNamed B.named
  have hlocks := B.notSynchronized
  subst hsz
  have hl := lv_entry ([.ref a0, .ref a1]) (n := 2) (Nat.le_of_ble_eq_true rfl)
  rw [lg_entry_eq]
  generalize (lg_sl ([.ref a0, .ref a1]) ++ List.replicate (2 - (lg_sl ([.ref a0, .ref a1])).length) Slot.unset).toArray = ls at hl ⊢
  have hl : lv_has ls 2 [(0, .ref a0), (1, .ref a1)] := hl
  refine lv_aload_n hx hb dX2_seam_0 rfl (lv_at hl 1 rfl) ?_
  obtain ⟨y2_1, y3_1, hy3_1, he1⟩ := ok_X10 hok ha1
  refine vp_callSi (va_Run.run (va_runV (As := []) (rest := []) ⟨hx, hb, hml, hown, noTs⟩ (t_X10_lastNumber l dC dI s.heap.size G cs tt mm a1 ha1) ⟨cbE 0 (wd_649 hE) (wd_120 hE) (wd_851 hE) rfl rfl (by decide +kernel) ⟨Nat.le_of_ble_eq_true rfl, Nat.le_of_ble_eq_true rfl⟩, (wd_647 hE), (wd_648 hE)⟩ ⟨PT.blind, th_recv hK hP ha1.1 he1 rfl, (th_pre (av := [.ref a1]) hK hP hok hnd hWT hE)⟩ rfl rfl hl.1 rfl (lv_room (Nat.le_of_ble_eq_true rfl)) dX2_seam_1 ⟨Nat.le_of_ble_eq_true rfl, Nat.le_of_ble_eq_true rfl⟩)) (fun r2 hr2 => ?_)
  refine lv_aload_n hx hb dX2_seam_4 rfl (lv_at hl 1 rfl) ?_
  refine lv_iconst (v := 0) hx hb dX2_seam_5 (by decide) ?_
  refine vp_callSi (va_Run.run (va_runV (As := [.int 0]) (rest := [.int r2]) ⟨hx, hb, hml, hown, noTs⟩ (t_X10_numberAt l dC dI s.heap.size G cs tt mm a1 ha1 0) ⟨cbE 1 (wd_717 hE) (wd_120 hE) (wd_843 hE) rfl rfl (by decide +kernel) ⟨Nat.le_of_ble_eq_true rfl, Nat.le_of_ble_eq_true rfl⟩, (wd_715 hE), (wd_716 hE)⟩ ⟨PT.blind, th_recv hK hP ha1.1 he1 rfl, (th_pre (av := [.ref a1, .int 0]) hK hP hok hnd hWT hE)⟩ rfl rfl hl.1 rfl (lv_room (Nat.le_of_ble_eq_true rfl)) dX2_seam_6 ⟨Nat.le_of_ble_eq_true rfl, Nat.le_of_ble_eq_true rfl⟩)) (fun r3 hr3 => ?_)
  refine lv_iadd hx hb dX2_seam_9 ?_
  refine lv_topi (fun x4 _ => ?_)
  refine lv_aload_n hx hb dX2_seam_10 rfl (lv_at hl 0 rfl) ?_
  refine lv_aload_n hx hb dX2_seam_11 rfl (lv_at hl 1 rfl) ?_
  refine vp_callSi (va_Run.run (va_runV (As := []) (rest := [.ref a0, .int x4]) ⟨hx, hb, hml, hown, noTs⟩ (t_X10_begin l dC dI s.heap.size G cs tt mm a1 ha1) ⟨cbE 0 (wd_713 hE) (wd_120 hE) (wd_838 hE) rfl rfl (by decide +kernel) ⟨Nat.le_of_ble_eq_true rfl, Nat.le_of_ble_eq_true rfl⟩, (wd_711 hE), (wd_712 hE)⟩ ⟨PT.blind, th_recv hK hP ha1.1 he1 rfl, (th_pre (av := [.ref a1]) hK hP hok hnd hWT hE)⟩ rfl rfl hl.1 rfl (lv_room (Nat.le_of_ble_eq_true rfl)) dX2_seam_12 ⟨Nat.le_of_ble_eq_true rfl, Nat.le_of_ble_eq_true rfl⟩)) (fun r5 hr5 => ?_)
  have he6 := ok_X7 hok ha0
  refine vp_callSi (va_Run.run (va_runV (As := [.int r5]) (rest := [.int x4]) ⟨hx, hb, hml, hown, noTs⟩ (t_X7_orderAt l dC dI s.heap.size G cs tt mm a0 ha0 r5) ⟨cbE 1 (wd_614 hE) (wd_116 hE) (wd_844 hE) rfl rfl (by decide +kernel) ⟨Nat.le_of_ble_eq_true rfl, Nat.le_of_ble_eq_true rfl⟩, (wd_612 hE), (wd_613 hE)⟩ ⟨PT.blind, th_recv hK hP ha0.1 he6 rfl, (th_pre (av := [.ref a0, .int r5]) hK hP hok hnd hWT hE)⟩ rfl rfl hl.1 rfl (lv_room (Nat.le_of_ble_eq_true rfl)) dX2_seam_15 ⟨Nat.le_of_ble_eq_true rfl, Nat.le_of_ble_eq_true rfl⟩)) (fun r7 hr7 => ?_)
  refine vp_callSi (va_Run.run (va_runSN (As := [.int x4, .int r7]) (rest := []) ⟨hx, hb, hml, hown, noTs⟩ (t_X11_rest l dC dI s.heap.size G cs tt mm x4 r7) ⟨cnE 2 (wd_617 hE) (wd_115 hE) (wd_866 hE) rfl rfl (by decide +kernel) ⟨Nat.le_of_ble_eq_true rfl, Nat.le_of_ble_eq_true rfl⟩, (wd_616 hE), trivial⟩ ⟨PT.blind, (th_pre (av := [.int x4, .int r7]) hK hP hok hnd hWT hE)⟩ rfl rfl hl.1 rfl (lv_room (Nat.le_of_ble_eq_true rfl)) dX2_seam_18 ⟨Nat.le_of_ble_eq_true rfl, Nat.le_of_ble_eq_true rfl⟩)) (fun r8 hr8 => ?_)
  exact W.iret (v := r8) hx hb hr (fun t ht hW => ⟨r8, rfl, trivial, ht⟩) (fun _ h => absurd h List.not_mem_nil) dX2_seam_21

set_option maxHeartbeats 4000000 in
set_option maxRecDepth 100000 in
theorem t_X2_canShrink (l : Launch) (dC : Nat → ClassId) (dI : Nat → Nat → Nat) (sz : Nat) (G : GT) (cs : Nat → ClassId) (tt mm : Nat) (a0 : Nat) (ha0 : Ty G a0 7) (a1 : Nat) (ha1 : Ty G a1 10) : Met l yX2_canShrink [.code yX2_canShrink cX2_canShrink 3 (some .boolean)] ({ frames := 2, cells := 0, slots := 0, locals := 80 }) (PT [.ref a0, .ref a1] sz dC dI G cs tt mm) (vp_Si (fun (r : Int32) => r = 0 ∨ r = 1)) 0 0 (fun _ => False) := by
  refine Met.ofW (cc := cX2_canShrink) (maxL := 3) (ret := (some .boolean)) (by decide) rfl ?_
  intro p e s m args below meth c s₁ B hml hv
  obtain ⟨rfl, hsz, ⟨f0, hok, hP⟩, hK, hnd, hWT, hE⟩ := hv
  have hx := B.exec
  have hb := B.bytes
  have hr := B.returns
  have hown : s.vm.findClass RX2 = some m.cls := findClass_of_methodNamed B.named
  have hlocks := B.notSynchronized
  subst hsz
  have hl := lv_entry ([.ref a0, .ref a1]) (n := 3) (Nat.le_of_ble_eq_true rfl)
  rw [lg_entry_eq]
  generalize (lg_sl ([.ref a0, .ref a1]) ++ List.replicate (3 - (lg_sl ([.ref a0, .ref a1])).length) Slot.unset).toArray = ls at hl ⊢
  have hl : lv_has ls 3 [(0, .ref a0), (1, .ref a1)] := hl
  refine lv_aload_n hx hb dX2_canShrink_0 rfl (lv_at hl 1 rfl) ?_
  refine lv_iconst (v := 0) hx hb dX2_canShrink_1 (by decide) ?_
  obtain ⟨y2_1, y3_1, hy3_1, he1⟩ := ok_X10 hok ha1
  refine vp_callSi (va_Run.run (va_runV (As := [.int 0]) (rest := []) ⟨hx, hb, hml, hown, noTs⟩ (t_X10_stepAt l dC dI s.heap.size G cs tt mm a1 ha1 0) ⟨cbE 1 (wd_721 hE) (wd_120 hE) (wd_847 hE) rfl rfl (by decide +kernel) ⟨Nat.le_of_ble_eq_true rfl, Nat.le_of_ble_eq_true rfl⟩, (wd_719 hE), (wd_720 hE)⟩ ⟨PT.blind, th_recv hK hP ha1.1 he1 rfl, (th_pre (av := [.ref a1, .int 0]) hK hP hok hnd hWT hE)⟩ rfl rfl hl.1 rfl (lv_room (Nat.le_of_ble_eq_true rfl)) dX2_canShrink_2 ⟨Nat.le_of_ble_eq_true rfl, Nat.le_of_ble_eq_true rfl⟩)) (fun r2 hr2 => ?_)
  refine lv_istore_n (lv' := [(2, .int r2), (0, .ref a0), (1, .ref a1)]) hx hb dX2_canShrink_5 rfl hl (by decide) rfl (fun ls hl => ?_)
  refine lv_aload_n hx hb dX2_canShrink_6 rfl (lv_at hl 2 rfl) ?_
  refine vp_callSi (va_Run.run (va_runV (As := []) (rest := []) ⟨hx, hb, hml, hown, noTs⟩ (t_X10_size l dC dI s.heap.size G cs tt mm a1 ha1) ⟨cbE 0 (wd_666 hE) (wd_120 hE) (wd_846 hE) rfl rfl (by decide +kernel) ⟨Nat.le_of_ble_eq_true rfl, Nat.le_of_ble_eq_true rfl⟩, (wd_664 hE), (wd_665 hE)⟩ ⟨PT.blind, th_recv hK hP ha1.1 he1 rfl, (th_pre (av := [.ref a1]) hK hP hok hnd hWT hE)⟩ rfl rfl hl.1 rfl (lv_room (Nat.le_of_ble_eq_true rfl)) dX2_canShrink_7 ⟨Nat.le_of_ble_eq_true rfl, Nat.le_of_ble_eq_true rfl⟩)) (fun r3 hr3 => ?_)
  obtain ⟨hra3, hrb3⟩ := hr3
  refine lv_iconst (v := 1) hx hb dX2_canShrink_10 (by decide) ?_
  refine lv_icmp_le (tgt := 45) hx hb dX2_canShrink_11 (by decide) (fun c4 => ?_) (fun c4 => ?_)
  · refine lv_iconst (v := 0) hx hb dX2_canShrink_45 (by decide) ?_
    exact W.zret (v := 0) hx hb hr rfl (fun t ht hW => ⟨0, rfl, Or.inl rfl, ht⟩) (fun _ h => absurd h List.not_mem_nil) dX2_canShrink_46
  · refine lv_aload_n hx hb dX2_canShrink_14 rfl (lv_at hl 2 rfl) ?_
    refine vp_callSi (va_Run.run (va_runV (As := []) (rest := []) ⟨hx, hb, hml, hown, noTs⟩ (t_X10_lastStep l dC dI s.heap.size G cs tt mm a1 ha1) ⟨cbE 0 (wd_832 hE) (wd_120 hE) (wd_862 hE) rfl rfl (by decide +kernel) ⟨Nat.le_of_ble_eq_true rfl, Nat.le_of_ble_eq_true rfl⟩, (wd_830 hE), (wd_831 hE)⟩ ⟨PT.blind, th_recv hK hP ha1.1 he1 rfl, (th_pre (av := [.ref a1]) hK hP hok hnd hWT hE)⟩ rfl rfl hl.1 rfl (lv_room (Nat.le_of_ble_eq_true rfl)) dX2_canShrink_15 ⟨Nat.le_of_ble_eq_true rfl, Nat.le_of_ble_eq_true rfl⟩)) (fun r5 hr5 => ?_)
    refine lv_iload_n hx hb dX2_canShrink_18 rfl (lv_at hl 0 rfl) ?_
    refine vp_callSi (va_Run.run (va_runSN (As := [.int r2]) (rest := [.int r5]) ⟨hx, hb, hml, hown, noTs⟩ (t_X11_opposite l dC dI s.heap.size G cs tt mm r2) ⟨cnE 1 (wd_865 hE) (wd_115 hE) (wd_863 hE) rfl rfl (by decide +kernel) ⟨Nat.le_of_ble_eq_true rfl, Nat.le_of_ble_eq_true rfl⟩, (wd_864 hE), trivial⟩ ⟨PT.blind, (th_pre (av := [.int r2]) hK hP hok hnd hWT hE)⟩ rfl rfl hl.1 rfl (lv_room (Nat.le_of_ble_eq_true rfl)) dX2_canShrink_19 ⟨Nat.le_of_ble_eq_true rfl, Nat.le_of_ble_eq_true rfl⟩)) (fun r6 hr6 => ?_)
    refine lv_icmp_ne (tgt := 45) hx hb dX2_canShrink_22 (by decide) (fun c7 => ?_) (fun c7 => ?_)
    · refine lv_iconst (v := 0) hx hb dX2_canShrink_45 (by decide) ?_
      exact W.zret (v := 0) hx hb hr rfl (fun t ht hW => ⟨0, rfl, Or.inl rfl, ht⟩) (fun _ h => absurd h List.not_mem_nil) dX2_canShrink_46
    · refine lv_aload_n hx hb dX2_canShrink_25 rfl (lv_at hl 1 rfl) ?_
      refine lv_aload_n hx hb dX2_canShrink_26 rfl (lv_at hl 2 rfl) ?_
      refine vp_callSi (va_Run.run (va_runS (As := [.ref a0, .ref a1]) (rest := []) ⟨hx, hb, hml, hown, noTs⟩ (t_X2_seam l dC dI s.heap.size G cs tt mm a0 ha0 a1 ha1) ⟨cbE 2 (wd_968 hE) (wd_134 hE) (wd_966 hE) rfl rfl (by decide +kernel) ⟨Nat.le_of_ble_eq_true rfl, Nat.le_of_ble_eq_true rfl⟩, (wd_967 hE)⟩ ⟨PT.blind, (th_pre (av := [.ref a0, .ref a1]) hK hP hok hnd hWT hE)⟩ rfl rfl hl.1 rfl (lv_room (Nat.le_of_ble_eq_true rfl)) dX2_canShrink_27 ⟨Nat.le_of_ble_eq_true rfl, Nat.le_of_ble_eq_true rfl⟩)) (fun r8 hr8 => ?_)
      refine lv_aload_n hx hb dX2_canShrink_30 rfl (lv_at hl 1 rfl) ?_
      refine lv_iload_n hx hb dX2_canShrink_31 rfl (lv_at hl 0 rfl) ?_
      have he9 := ok_X7 hok ha0
      refine vp_callSi (va_Run.run (va_runV (As := [.int r2]) (rest := [.int r8]) ⟨hx, hb, hml, hown, noTs⟩ (t_X7_fromIndex l dC dI s.heap.size G cs tt mm a0 ha0 r2) ⟨cbE 1 (wd_855 hE) (wd_116 hE) (wd_852 hE) rfl rfl (by decide +kernel) ⟨Nat.le_of_ble_eq_true rfl, Nat.le_of_ble_eq_true rfl⟩, (wd_853 hE), (wd_854 hE)⟩ ⟨PT.blind, th_recv hK hP ha0.1 he9 rfl, (th_pre (av := [.ref a0, .int r2]) hK hP hok hnd hWT hE)⟩ rfl rfl hl.1 rfl (lv_room (Nat.le_of_ble_eq_true rfl)) dX2_canShrink_32 ⟨Nat.le_of_ble_eq_true rfl, Nat.le_of_ble_eq_true rfl⟩)) (fun r10 hr10 => ?_)
      refine vp_callSi (va_Run.run (va_runSN (As := [.int r8, .int r10]) (rest := []) ⟨hx, hb, hml, hown, noTs⟩ (t_X11_rest l dC dI s.heap.size G cs tt mm r8 r10) ⟨cnE 2 (wd_617 hE) (wd_115 hE) (wd_866 hE) rfl rfl (by decide +kernel) ⟨Nat.le_of_ble_eq_true rfl, Nat.le_of_ble_eq_true rfl⟩, (wd_616 hE), trivial⟩ ⟨PT.blind, (th_pre (av := [.int r8, .int r10]) hK hP hok hnd hWT hE)⟩ rfl rfl hl.1 rfl (lv_room (Nat.le_of_ble_eq_true rfl)) dX2_canShrink_35 ⟨Nat.le_of_ble_eq_true rfl, Nat.le_of_ble_eq_true rfl⟩)) (fun r11 hr11 => ?_)
      refine lv_if_ne (tgt := 45) hx hb dX2_canShrink_38 (by decide) (fun c12 => ?_) (fun c12 => ?_)
      · refine lv_iconst (v := 0) hx hb dX2_canShrink_45 (by decide) ?_
        exact W.zret (v := 0) hx hb hr rfl (fun t ht hW => ⟨0, rfl, Or.inl rfl, ht⟩) (fun _ h => absurd h List.not_mem_nil) dX2_canShrink_46
      · refine lv_iconst (v := 1) hx hb dX2_canShrink_41 (by decide) ?_
        refine lv_goto (tgt := 46) hx hb dX2_canShrink_42 (by decide) ?_
        exact W.zret (v := 1) hx hb hr rfl (fun t ht hW => ⟨1, rfl, Or.inr rfl, ht⟩) (fun _ h => absurd h List.not_mem_nil) dX2_canShrink_46

set_option maxHeartbeats 4000000 in
set_option maxRecDepth 100000 in
theorem t_X2_cutEnds (l : Launch) (dC : Nat → ClassId) (dI : Nat → Nat → Nat) (sz : Nat) (G : GT) (cs : Nat → ClassId) (tt mm : Nat) (a0 : Nat) (ha0 : Ty G a0 7) (a1 : Nat) (ha1 : Ty G a1 10) (a2 : Nat) (ha2 : Ty G a2 10) : Met l yX2_cutEnds [.code yX2_cutEnds cX2_cutEnds 7 none] ({ frames := 2, cells := 0, slots := 0, locals := 80 }) (PT [.ref a0, .ref a1, .ref a2] sz dC dI G cs tt mm) (va_Qv (fun (u : Nat → va_E) => True) (BT dC dI G cs tt mm) (AT G sz)) 0 0 (AT G sz) := by
  refine Met.ofW (cc := cX2_cutEnds) (maxL := 7) (ret := none) (by decide) rfl ?_
  intro p e s m args below meth c s₁ B hml hv
  obtain ⟨rfl, hsz, ⟨f0, hok, hP⟩, hK, hnd, hWT, hE⟩ := hv
  have hx := B.exec
  have hb := B.bytes
  have hr := B.returns
  have hown : s.vm.findClass RX2 = some m.cls := findClass_of_methodNamed B.named
  have hlocks := B.notSynchronized
  subst hsz
  have hAL : ∀ a, a ∈ gL G → AT G s.heap.size a := fun a h => Or.inl h
  have hA : ∀ q : Nat, s.heap.size ≤ q → AT G s.heap.size q := fun q h => Or.inr h
  have hS : va_S (AT G s.heap.size) s.heap s.heap [] := va_S.rf
  have hl := lv_entry ([.ref a0, .ref a1, .ref a2]) (n := 7) (Nat.le_of_ble_eq_true rfl)
  rw [lg_entry_eq]
  generalize (lg_sl ([.ref a0, .ref a1, .ref a2]) ++ List.replicate (7 - (lg_sl ([.ref a0, .ref a1, .ref a2])).length) Slot.unset).toArray = ls at hl ⊢
  have hl : lv_has ls 7 [(0, .ref a0), (1, .ref a1), (2, .ref a2)] := hl
  refine lv_aload_n hx hb dX2_cutEnds_0 rfl (lv_at hl 1 rfl) ?_
  refine lv_iconst (v := 0) hx hb dX2_cutEnds_1 (by decide) ?_
  obtain ⟨y2_1, y3_1, hy3_1, he1⟩ := ok_X10 hok ha1
  refine vp_callSi (va_Run.run (va_runV (As := [.int 0]) (rest := []) ⟨hx, hb, hml, hown, noTs⟩ (t_X10_stepAt l dC dI s.heap.size G cs tt mm a1 ha1 0) ⟨cbE 1 (wd_721 hE) (wd_120 hE) (wd_847 hE) rfl rfl (by decide +kernel) ⟨Nat.le_of_ble_eq_true rfl, Nat.le_of_ble_eq_true rfl⟩, (wd_719 hE), (wd_720 hE)⟩ ⟨PT.blind, th_recv hK hP ha1.1 he1 rfl, (th_pre (av := [.ref a1, .int 0]) hK hP hok hnd hWT hE)⟩ rfl rfl hl.1 rfl (lv_room (Nat.le_of_ble_eq_true rfl)) dX2_cutEnds_2 ⟨Nat.le_of_ble_eq_true rfl, Nat.le_of_ble_eq_true rfl⟩)) (fun r2 hr2 => ?_)
  refine lv_istore_n (lv' := [(3, .int r2), (0, .ref a0), (1, .ref a1), (2, .ref a2)]) hx hb dX2_cutEnds_5 rfl hl (by decide) rfl (fun ls hl => ?_)
  refine lv_aload_n hx hb dX2_cutEnds_6 rfl (lv_at hl 1 rfl) ?_
  refine lv_iload_n hx hb dX2_cutEnds_7 rfl (lv_at hl 0 rfl) ?_
  have he3 := ok_X7 hok ha0
  refine vp_callSi (va_Run.run (va_runV (As := [.int r2]) (rest := []) ⟨hx, hb, hml, hown, noTs⟩ (t_X7_toVertex l dC dI s.heap.size G cs tt mm a0 ha0 r2) ⟨cbE 1 (wd_692 hE) (wd_116 hE) (wd_856 hE) rfl rfl (by decide +kernel) ⟨Nat.le_of_ble_eq_true rfl, Nat.le_of_ble_eq_true rfl⟩, (wd_690 hE), (wd_691 hE)⟩ ⟨PT.blind, th_recv hK hP ha0.1 he3 rfl, (th_pre (av := [.ref a0, .int r2]) hK hP hok hnd hWT hE)⟩ rfl rfl hl.1 rfl (lv_room (Nat.le_of_ble_eq_true rfl)) dX2_cutEnds_8 ⟨Nat.le_of_ble_eq_true rfl, Nat.le_of_ble_eq_true rfl⟩)) (fun r4 hr4 => ?_)
  refine lv_istore (lv' := [(4, .int r4), (3, .int r2), (0, .ref a0), (1, .ref a1), (2, .ref a2)]) hx hb dX2_cutEnds_11 hl (by decide) rfl (fun ls hl => ?_)
  refine lv_aload_n hx hb dX2_cutEnds_13 rfl (lv_at hl 2 rfl) ?_
  refine lv_aload_n hx hb dX2_cutEnds_14 rfl (lv_at hl 3 rfl) ?_
  refine vp_callSi (va_Run.run (va_runS (As := [.ref a0, .ref a1]) (rest := []) ⟨hx, hb, hml, hown, noTs⟩ (t_X2_seam l dC dI s.heap.size G cs tt mm a0 ha0 a1 ha1) ⟨cbE 2 (wd_968 hE) (wd_134 hE) (wd_966 hE) rfl rfl (by decide +kernel) ⟨Nat.le_of_ble_eq_true rfl, Nat.le_of_ble_eq_true rfl⟩, (wd_967 hE)⟩ ⟨PT.blind, (th_pre (av := [.ref a0, .ref a1]) hK hP hok hnd hWT hE)⟩ rfl rfl hl.1 rfl (lv_room (Nat.le_of_ble_eq_true rfl)) dX2_cutEnds_15 ⟨Nat.le_of_ble_eq_true rfl, Nat.le_of_ble_eq_true rfl⟩)) (fun r5 hr5 => ?_)
  refine lv_aload_n hx hb dX2_cutEnds_18 rfl (lv_at hl 2 rfl) ?_
  refine lv_iload_n hx hb dX2_cutEnds_19 rfl (lv_at hl 1 rfl) ?_
  refine vp_callSi (va_Run.run (va_runV (As := [.int r2]) (rest := [.int r5]) ⟨hx, hb, hml, hown, noTs⟩ (t_X7_fromIndex l dC dI s.heap.size G cs tt mm a0 ha0 r2) ⟨cbE 1 (wd_855 hE) (wd_116 hE) (wd_852 hE) rfl rfl (by decide +kernel) ⟨Nat.le_of_ble_eq_true rfl, Nat.le_of_ble_eq_true rfl⟩, (wd_853 hE), (wd_854 hE)⟩ ⟨PT.blind, th_recv hK hP ha0.1 he3 rfl, (th_pre (av := [.ref a0, .int r2]) hK hP hok hnd hWT hE)⟩ rfl rfl hl.1 rfl (lv_room (Nat.le_of_ble_eq_true rfl)) dX2_cutEnds_20 ⟨Nat.le_of_ble_eq_true rfl, Nat.le_of_ble_eq_true rfl⟩)) (fun r6 hr6 => ?_)
  refine vp_callSi (va_Run.run (va_runSN (As := [.int r5, .int r6]) (rest := []) ⟨hx, hb, hml, hown, noTs⟩ (t_X11_share l dC dI s.heap.size G cs tt mm r5 r6) ⟨cnE 2 (wd_620 hE) (wd_115 hE) (wd_857 hE) rfl rfl (by decide +kernel) ⟨Nat.le_of_ble_eq_true rfl, Nat.le_of_ble_eq_true rfl⟩, (wd_619 hE), trivial⟩ ⟨PT.blind, (th_pre (av := [.int r5, .int r6]) hK hP hok hnd hWT hE)⟩ rfl rfl hl.1 rfl (lv_room (Nat.le_of_ble_eq_true rfl)) dX2_cutEnds_23 ⟨Nat.le_of_ble_eq_true rfl, Nat.le_of_ble_eq_true rfl⟩)) (fun r7 hr7 => ?_)
  refine lv_aload_n hx hb dX2_cutEnds_26 rfl (lv_at hl 2 rfl) ?_
  refine lv_iload_n hx hb dX2_cutEnds_27 rfl (lv_at hl 1 rfl) ?_
  refine vp_callSi (va_Run.run (va_runV (As := [.int r2]) (rest := [.int r7]) ⟨hx, hb, hml, hown, noTs⟩ (t_X7_toIndex l dC dI s.heap.size G cs tt mm a0 ha0 r2) ⟨cbE 1 (wd_861 hE) (wd_116 hE) (wd_858 hE) rfl rfl (by decide +kernel) ⟨Nat.le_of_ble_eq_true rfl, Nat.le_of_ble_eq_true rfl⟩, (wd_859 hE), (wd_860 hE)⟩ ⟨PT.blind, th_recv hK hP ha0.1 he3 rfl, (th_pre (av := [.ref a0, .int r2]) hK hP hok hnd hWT hE)⟩ rfl rfl hl.1 rfl (lv_room (Nat.le_of_ble_eq_true rfl)) dX2_cutEnds_28 ⟨Nat.le_of_ble_eq_true rfl, Nat.le_of_ble_eq_true rfl⟩)) (fun r8 hr8 => ?_)
  refine lv_imul hx hb dX2_cutEnds_31 ?_
  refine lv_topi (fun x9 _ => ?_)
  refine lv_istore (lv' := [(5, .int x9), (4, .int r4), (3, .int r2), (0, .ref a0), (1, .ref a1), (2, .ref a2)]) hx hb dX2_cutEnds_32 hl (by decide) rfl (fun ls hl => ?_)
  refine lv_aload_n hx hb dX2_cutEnds_34 rfl (lv_at hl 5 rfl) ?_
  refine lv_iload hx hb dX2_cutEnds_35 (lv_at hl 1 rfl) ?_
  refine lv_aload_n hx hb dX2_cutEnds_37 rfl (lv_at hl 4 rfl) ?_
  refine lv_iconst (v := 1) hx hb dX2_cutEnds_38 (by decide) ?_
  refine vp_callSi (va_Run.run (va_runV (As := [.int 1]) (rest := [.int r4, .ref a2]) ⟨hx, hb, hml, hown, noTs⟩ (t_X10_numberAt l dC dI s.heap.size G cs tt mm a1 ha1 1) ⟨cbE 1 (wd_717 hE) (wd_120 hE) (wd_843 hE) rfl rfl (by decide +kernel) ⟨Nat.le_of_ble_eq_true rfl, Nat.le_of_ble_eq_true rfl⟩, (wd_715 hE), (wd_716 hE)⟩ ⟨PT.blind, th_recv hK hP ha1.1 he1 rfl, (th_pre (av := [.ref a1, .int 1]) hK hP hok hnd hWT hE)⟩ rfl rfl hl.1 rfl (lv_room (Nat.le_of_ble_eq_true rfl)) dX2_cutEnds_39 ⟨Nat.le_of_ble_eq_true rfl, Nat.le_of_ble_eq_true rfl⟩)) (fun r10 hr10 => ?_)
  obtain ⟨y2_11, y3_11, hy3_11, he11⟩ := ok_X10 hok ha2
  refine tc_v hAL hS hA (va_runV (As := [.int r4, .int r10]) (rest := []) ⟨hx, hb, hml, hown, noTs⟩ (t_X10_start l dC dI s.heap.size G cs tt mm a2 ha2 r4 r10) ⟨cbE 2 (wd_637 hE) (wd_120 hE) (wd_839 hE) rfl rfl (by decide +kernel) ⟨Nat.le_of_ble_eq_true rfl, Nat.le_of_ble_eq_true rfl⟩, (wd_635 hE), (wd_636 hE)⟩ ⟨PT.blind, th_recv hK hP ha2.1 he11 rfl, (th_pre (av := [.ref a2, .int r4, .int r10]) hK hP hok hnd hWT hE)⟩ rfl rfl hl.1 rfl (lv_room (Nat.le_of_ble_eq_true rfl)) dX2_cutEnds_42 ⟨Nat.le_of_ble_eq_true rfl, Nat.le_of_ble_eq_true rfl⟩) (fun f12 H locs hr12 hok hP hS => ?_)
  refine lv_iconst (v := 1) hx hb dX2_cutEnds_45 (by decide) ?_
  refine lv_istore (lv' := [(6, .int 1), (5, .int x9), (4, .int r4), (3, .int r2), (0, .ref a0), (1, .ref a1), (2, .ref a2)]) hx hb dX2_cutEnds_46 hl (by decide) rfl (fun ls hl => ?_)
  refine w_ind (I := fun n f H locs ls => OKT G cs tt mm f ∧ va_P (dC, dI) vwCl (va_pl (gL G) f) H ∧ va_S (AT G s.heap.size) s.heap H locs ∧ ∃ (w6_13 : Int32), n = (2147483647 - w6_13.toInt).toNat ∧ 1 ≤ w6_13 ∧ lv_has ls 7 [(0, .ref a0), (1, .ref a1), (2, .ref a2), (3, .int r2), (4, .int r4), (5, .int x9), (6, .int w6_13)]) (fun n f13 H locs ls hI ih13 => ?_) _ f12 _ _ _ ⟨hok, hP, hS, 1, rfl, (by first | omega | (simp only [i_lt, i_le, i_eq, ti_m9, ti_m1, ti_0, ti_1, ti_2, ti_3, ti_4, ti_5, ti_6, ti_7, ti_9, ti_12, ti_20, ti_99, ti_700, ti_24, ti_72]; omega)), lv_sub hl [4, 5, 6, 3, 2, 1, 0] rfl⟩
  obtain ⟨hok, hP, hS, w6_13, hmu13, hlo13, hl⟩ := hI
  subst hmu13
  refine lv_iload hx hb dX2_cutEnds_48 (lv_at hl 6 rfl) ?_
  refine lv_aload_n hx hb dX2_cutEnds_50 rfl (lv_at hl 1 rfl) ?_
  obtain ⟨y2_14, y3_14, hy3_14, he14⟩ := ok_X10 hok ha1
  refine vp_callSi (va_Run.run (va_runV (As := []) (rest := [.int w6_13]) ⟨hx, hb, hml, hown, noTs⟩ (t_X10_size l dC dI H.size G cs tt mm a1 ha1) ⟨cbE 0 (wd_666 hE) (wd_120 hE) (wd_846 hE) rfl rfl (by decide +kernel) ⟨Nat.le_of_ble_eq_true rfl, Nat.le_of_ble_eq_true rfl⟩, (wd_664 hE), (wd_665 hE)⟩ ⟨PT.blind, th_recv hK hP ha1.1 he14 rfl, (th_pre (av := [.ref a1]) hK hP hok hnd hWT hE)⟩ rfl rfl hl.1 rfl (lv_room (Nat.le_of_ble_eq_true rfl)) dX2_cutEnds_51 ⟨Nat.le_of_ble_eq_true rfl, Nat.le_of_ble_eq_true rfl⟩)) (fun r15 hr15 => ?_)
  obtain ⟨hra15, hrb15⟩ := hr15
  refine lv_iconst (v := 1) hx hb dX2_cutEnds_54 (by decide) ?_
  refine lv_isub hx hb dX2_cutEnds_55 ?_
  refine lv_topi (fun x16 _ => ?_)
  refine lv_icmp_ge (tgt := 83) hx hb dX2_cutEnds_56 (by decide) (fun c17 => ?_) (fun c17 => ?_)
  · refine lv_aload_n hx hb dX2_cutEnds_83 rfl (lv_at hl 2 rfl) ?_
    refine lv_iload hx hb dX2_cutEnds_84 (lv_at hl 5 rfl) ?_
    refine lv_aload_n hx hb dX2_cutEnds_86 rfl (lv_at hl 0 rfl) ?_
    refine lv_iload hx hb dX2_cutEnds_87 (lv_at hl 4 rfl) ?_
    have he18 := ok_X7 hok ha0
    refine vp_callSi (va_Run.run (va_runV (As := [.int r4]) (rest := [.int x9, .ref a2]) ⟨hx, hb, hml, hown, noTs⟩ (t_X7_orderAt l dC dI H.size G cs tt mm a0 ha0 r4) ⟨cbE 1 (wd_614 hE) (wd_116 hE) (wd_844 hE) rfl rfl (by decide +kernel) ⟨Nat.le_of_ble_eq_true rfl, Nat.le_of_ble_eq_true rfl⟩, (wd_612 hE), (wd_613 hE)⟩ ⟨PT.blind, th_recv hK hP ha0.1 he18 rfl, (th_pre (av := [.ref a0, .int r4]) hK hP hok hnd hWT hE)⟩ rfl rfl hl.1 rfl (lv_room (Nat.le_of_ble_eq_true rfl)) dX2_cutEnds_89 ⟨Nat.le_of_ble_eq_true rfl, Nat.le_of_ble_eq_true rfl⟩)) (fun r19 hr19 => ?_)
    obtain ⟨y2_20, y3_20, hy3_20, he20⟩ := ok_X10 hok ha2
    refine tc_v hAL hS hA (va_runV (As := [.int x9, .int r19]) (rest := []) ⟨hx, hb, hml, hown, noTs⟩ (t_X10_addLast l dC dI H.size G cs tt mm a2 ha2 x9 r19) ⟨cbE 2 (wd_645 hE) (wd_120 hE) (wd_845 hE) rfl rfl (by decide +kernel) ⟨Nat.le_of_ble_eq_true rfl, Nat.le_of_ble_eq_true rfl⟩, (wd_643 hE), (wd_644 hE)⟩ ⟨PT.blind, th_recv hK hP ha2.1 he20 rfl, (th_pre (av := [.ref a2, .int x9, .int r19]) hK hP hok hnd hWT hE)⟩ rfl rfl hl.1 rfl (lv_room (Nat.le_of_ble_eq_true rfl)) dX2_cutEnds_92 ⟨Nat.le_of_ble_eq_true rfl, Nat.le_of_ble_eq_true rfl⟩) (fun f21 H locs hr21 hok hP hS => ?_)
    exact W.vret hx hb hr (fun t ht hW => ⟨⟨f21, rfl, trivial, hok, by rw [ht]; exact hP⟩, hS.F ht⟩) hS.2.2 dX2_cutEnds_95
  · refine lv_aload_n hx hb dX2_cutEnds_59 rfl (lv_at hl 2 rfl) ?_
    refine lv_aload_n hx hb dX2_cutEnds_60 rfl (lv_at hl 1 rfl) ?_
    refine lv_iload hx hb dX2_cutEnds_61 (lv_at hl 6 rfl) ?_
    refine vp_callSi (va_Run.run (va_runV (As := [.int w6_13]) (rest := [.ref a2]) ⟨hx, hb, hml, hown, noTs⟩ (t_X10_stepAt l dC dI H.size G cs tt mm a1 ha1 w6_13) ⟨cbE 1 (wd_721 hE) (wd_120 hE) (wd_847 hE) rfl rfl (by decide +kernel) ⟨Nat.le_of_ble_eq_true rfl, Nat.le_of_ble_eq_true rfl⟩, (wd_719 hE), (wd_720 hE)⟩ ⟨PT.blind, th_recv hK hP ha1.1 he14 rfl, (th_pre (av := [.ref a1, .int w6_13]) hK hP hok hnd hWT hE)⟩ rfl rfl hl.1 rfl (lv_room (Nat.le_of_ble_eq_true rfl)) dX2_cutEnds_63 ⟨Nat.le_of_ble_eq_true rfl, Nat.le_of_ble_eq_true rfl⟩)) (fun r22 hr22 => ?_)
    refine lv_aload_n hx hb dX2_cutEnds_66 rfl (lv_at hl 1 rfl) ?_
    refine lv_iload hx hb dX2_cutEnds_67 (lv_at hl 6 rfl) ?_
    refine lv_iconst (v := 1) hx hb dX2_cutEnds_69 (by decide) ?_
    refine lv_iadd hx hb dX2_cutEnds_70 ?_
    refine lv_topi (fun x23 _ => ?_)
    refine vp_callSi (va_Run.run (va_runV (As := [.int x23]) (rest := [.int r22, .ref a2]) ⟨hx, hb, hml, hown, noTs⟩ (t_X10_numberAt l dC dI H.size G cs tt mm a1 ha1 x23) ⟨cbE 1 (wd_717 hE) (wd_120 hE) (wd_843 hE) rfl rfl (by decide +kernel) ⟨Nat.le_of_ble_eq_true rfl, Nat.le_of_ble_eq_true rfl⟩, (wd_715 hE), (wd_716 hE)⟩ ⟨PT.blind, th_recv hK hP ha1.1 he14 rfl, (th_pre (av := [.ref a1, .int x23]) hK hP hok hnd hWT hE)⟩ rfl rfl hl.1 rfl (lv_room (Nat.le_of_ble_eq_true rfl)) dX2_cutEnds_71 ⟨Nat.le_of_ble_eq_true rfl, Nat.le_of_ble_eq_true rfl⟩)) (fun r24 hr24 => ?_)
    obtain ⟨y2_25, y3_25, hy3_25, he25⟩ := ok_X10 hok ha2
    refine tc_v hAL hS hA (va_runV (As := [.int r22, .int r24]) (rest := []) ⟨hx, hb, hml, hown, noTs⟩ (t_X10_push l dC dI H.size G cs tt mm a2 ha2 r22 r24) ⟨cbE 2 (wd_688 hE) (wd_120 hE) (wd_872 hE) rfl rfl (by decide +kernel) ⟨Nat.le_of_ble_eq_true rfl, Nat.le_of_ble_eq_true rfl⟩, (wd_686 hE), (wd_687 hE)⟩ ⟨PT.blind, th_recv hK hP ha2.1 he25 rfl, (th_pre (av := [.ref a2, .int r22, .int r24]) hK hP hok hnd hWT hE)⟩ rfl rfl hl.1 rfl (lv_room (Nat.le_of_ble_eq_true rfl)) dX2_cutEnds_74 ⟨Nat.le_of_ble_eq_true rfl, Nat.le_of_ble_eq_true rfl⟩) (fun f26 H locs hr26 hok hP hS => ?_)
    obtain ⟨z27, ez27⟩ : ∃ z : Int32, z = w6_13 + 1 := ⟨_, rfl⟩
    refine lv_iinc (v := z27) (lv' := [(6, .int z27), (0, .ref a0), (1, .ref a1), (2, .ref a2), (3, .int r2), (4, .int r4), (5, .int x9)]) hx hb dX2_cutEnds_77 hl (k := 6) rfl (by rw [ez27]; rfl) (by decide) rfl (fun ls hl => ?_)
    have ic27 : z27.toInt = w6_13.toInt + 1 := by rw [ez27]; exact ic_up (by have := i_rng r15; have := i_rng w6_13; have := i_rng x16; simp only [i_lt, i_le, i_eq, ti_m9, ti_m1, ti_0, ti_1, ti_2, ti_3, ti_4, ti_5, ti_6, ti_7, ti_9, ti_12, ti_20, ti_99, ti_700, ti_24, ti_72] at hlo13 hra15 hrb15 c17 ⊢; omega)
    refine lv_goto (tgt := 48) hx hb dX2_cutEnds_80 (by decide) ?_
    exact ih13 _ f26 _ _ _ (by first | omega | (simp only [i_lt, i_le, i_eq, ti_m9, ti_m1, ti_0, ti_1, ti_2, ti_3, ti_4, ti_5, ti_6, ti_7, ti_9, ti_12, ti_20, ti_99, ti_700, ti_24, ti_72, ic27] at hlo13 hra15 hrb15 c17 ic27 ⊢; omega)) ⟨hok, hP, hS, z27, rfl, (by first | omega | (simp only [i_lt, i_le, i_eq, ti_m9, ti_m1, ti_0, ti_1, ti_2, ti_3, ti_4, ti_5, ti_6, ti_7, ti_9, ti_12, ti_20, ti_99, ti_700, ti_24, ti_72, ic27] at hlo13 hra15 hrb15 c17 ⊢; omega)), lv_sub hl [1, 2, 3, 4, 5, 6, 0] rfl⟩

set_option maxHeartbeats 4000000 in
set_option maxRecDepth 100000 in
theorem t_X2_shrink (l : Launch) (dC : Nat → ClassId) (dI : Nat → Nat → Nat) (sz : Nat) (G : GT) (cs : Nat → ClassId) (tt mm : Nat) (a0 : Nat) (ha0 : Ty G a0 7) (a1 : Nat) (ha1 : Ty G a1 10) (a2 : Nat) (ha2 : Ty G a2 10) (a3 : Nat) (ha3 : Ty G a3 10) : Met l yX2_shrink [.code yX2_shrink cX2_shrink 5 none] ({ frames := 4, cells := 0, slots := 0, locals := 160 }) (PT [.ref a0, .ref a1, .ref a2, .ref a3] sz dC dI G cs tt mm) (va_Qv (fun (u : Nat → va_E) => True) (BT dC dI G cs tt mm) (AT G sz)) 0 0 (AT G sz) := by
  refine Met.ofW (cc := cX2_shrink) (maxL := 5) (ret := none) (by decide) rfl ?_
  intro p e s m args below meth c s₁ B hml hv
  obtain ⟨rfl, hsz, ⟨f0, hok, hP⟩, hK, hnd, hWT, hE⟩ := hv
  have hx := B.exec
  have hb := B.bytes
  have hr := B.returns
  have hown : s.vm.findClass RX2 = some m.cls := findClass_of_methodNamed B.named
  have hlocks := B.notSynchronized
  subst hsz
  have hAL : ∀ a, a ∈ gL G → AT G s.heap.size a := fun a h => Or.inl h
  have hA : ∀ q : Nat, s.heap.size ≤ q → AT G s.heap.size q := fun q h => Or.inr h
  have hS : va_S (AT G s.heap.size) s.heap s.heap [] := va_S.rf
  have hl := lv_entry ([.ref a0, .ref a1, .ref a2, .ref a3]) (n := 5) (Nat.le_of_ble_eq_true rfl)
  rw [lg_entry_eq]
  generalize (lg_sl ([.ref a0, .ref a1, .ref a2, .ref a3]) ++ List.replicate (5 - (lg_sl ([.ref a0, .ref a1, .ref a2, .ref a3])).length) Slot.unset).toArray = ls at hl ⊢
  have hl : lv_has ls 5 [(0, .ref a0), (1, .ref a1), (2, .ref a2), (3, .ref a3)] := hl
  refine lv_aload_n hx hb dX2_shrink_0 rfl (lv_at hl 2 rfl) ?_
  refine lv_aload_n hx hb dX2_shrink_1 rfl (lv_at hl 1 rfl) ?_
  obtain ⟨y2_1, y3_1, hy3_1, he1⟩ := ok_X10 hok ha1
  refine vp_callSi (va_Run.run (va_runV (As := []) (rest := [.ref a2]) ⟨hx, hb, hml, hown, noTs⟩ (t_X10_begin l dC dI s.heap.size G cs tt mm a1 ha1) ⟨cbE 0 (wd_713 hE) (wd_120 hE) (wd_838 hE) rfl rfl (by decide +kernel) ⟨Nat.le_of_ble_eq_true rfl, Nat.le_of_ble_eq_true rfl⟩, (wd_711 hE), (wd_712 hE)⟩ ⟨PT.blind, th_recv hK hP ha1.1 he1 rfl, (th_pre (av := [.ref a1]) hK hP hok hnd hWT hE)⟩ rfl rfl hl.1 rfl (lv_room (Nat.le_of_ble_eq_true rfl)) dX2_shrink_2 ⟨Nat.le_of_ble_eq_true rfl, Nat.le_of_ble_eq_true rfl⟩)) (fun r2 hr2 => ?_)
  refine lv_iconst (v := 0) hx hb dX2_shrink_5 (by decide) ?_
  obtain ⟨y2_3, y3_3, hy3_3, he3⟩ := ok_X10 hok ha2
  refine tc_v hAL hS hA (va_runV (As := [.int r2, .int 0]) (rest := []) ⟨hx, hb, hml, hown, noTs⟩ (t_X10_start l dC dI s.heap.size G cs tt mm a2 ha2 r2 0) ⟨cbE 2 (wd_637 hE) (wd_120 hE) (wd_839 hE) rfl rfl (by decide +kernel) ⟨Nat.le_of_ble_eq_true rfl, Nat.le_of_ble_eq_true rfl⟩, (wd_635 hE), (wd_636 hE)⟩ ⟨PT.blind, th_recv hK hP ha2.1 he3 rfl, (th_pre (av := [.ref a2, .int r2, .int 0]) hK hP hok hnd hWT hE)⟩ rfl rfl hl.1 rfl (lv_room (Nat.le_of_ble_eq_true rfl)) dX2_shrink_6 ⟨Nat.le_of_ble_eq_true rfl, Nat.le_of_ble_eq_true rfl⟩) (fun f4 H locs hr4 hok hP hS => ?_)
  refine lv_aload_n hx hb dX2_shrink_9 rfl (lv_at hl 0 rfl) ?_
  refine lv_aload_n hx hb dX2_shrink_10 rfl (lv_at hl 2 rfl) ?_
  refine lv_aload_n hx hb dX2_shrink_11 rfl (lv_at hl 1 rfl) ?_
  refine tc_i hAL hS hA (va_runS (As := [.ref a0, .ref a2, .ref a1]) (rest := []) ⟨hx, hb, hml, hown, noTs⟩ (t_X2_append l dC dI H.size G cs tt mm a0 ha0 a2 ha2 a1 ha1) ⟨cbE 3 (wd_842 hE) (wd_134 hE) (wd_840 hE) rfl rfl (by decide +kernel) ⟨Nat.le_of_ble_eq_true rfl, Nat.le_of_ble_eq_true rfl⟩, (wd_841 hE)⟩ ⟨PT.blind, (th_pre (av := [.ref a0, .ref a2, .ref a1]) hK hP hok hnd hWT hE)⟩ rfl rfl hl.1 rfl (lv_room (Nat.le_of_ble_eq_true rfl)) dX2_shrink_12 ⟨Nat.le_of_ble_eq_true rfl, Nat.le_of_ble_eq_true rfl⟩) (fun r5 f5 H locs hr5 hok hP hS => ?_)
  refine lv_pop hx hb dX2_shrink_15 rfl ?_
  refine lv_iconst (v := 0) hx hb dX2_shrink_16 (by decide) ?_
  refine lv_istore (lv' := [(4, .int 0), (0, .ref a0), (1, .ref a1), (2, .ref a2), (3, .ref a3)]) hx hb dX2_shrink_17 hl (by decide) rfl (fun ls hl => ?_)
  refine w_ind (I := fun n f H locs ls => OKT G cs tt mm f ∧ va_P (dC, dI) vwCl (va_pl (gL G) f) H ∧ va_S (AT G s.heap.size) s.heap H locs ∧ ∃ (w4_6 : Int32), n = (2147483647 - w4_6.toInt).toNat ∧ 0 ≤ w4_6 ∧ lv_has ls 5 [(0, .ref a0), (1, .ref a1), (2, .ref a2), (3, .ref a3), (4, .int w4_6)]) (fun n f6 H locs ls hI ih6 => ?_) _ f5 _ _ _ ⟨hok, hP, hS, 0, rfl, (by first | omega | (simp only [i_lt, i_le, i_eq, ti_m9, ti_m1, ti_0, ti_1, ti_2, ti_3, ti_4, ti_5, ti_6, ti_7, ti_9, ti_12, ti_20, ti_99, ti_700, ti_24, ti_72]; omega)), lv_sub hl [1, 2, 3, 4, 0] rfl⟩
  obtain ⟨hok, hP, hS, w4_6, hmu6, hlo6, hl⟩ := hI
  subst hmu6
  refine lv_iload hx hb dX2_shrink_19 (lv_at hl 4 rfl) ?_
  refine lv_bipush (v := 72) hx hb dX2_shrink_21 (by decide) ?_
  refine lv_icmp_ge (tgt := 62) hx hb dX2_shrink_23 (by decide) (fun c7 => ?_) (fun c7 => ?_)
  · exact W.vret hx hb hr (fun t ht hW => ⟨⟨f6, rfl, trivial, hok, by rw [ht]; exact hP⟩, hS.F ht⟩) hS.2.2 dX2_shrink_62
  · refine lv_aload_n hx hb dX2_shrink_26 rfl (lv_at hl 0 rfl) ?_
    refine lv_aload_n hx hb dX2_shrink_27 rfl (lv_at hl 2 rfl) ?_
    refine vp_callSi (va_Run.run (va_runS (As := [.ref a0, .ref a2]) (rest := []) ⟨hx, hb, hml, hown, noTs⟩ (t_X2_canShrink l dC dI H.size G cs tt mm a0 ha0 a2 ha2) ⟨cbE 2 (wd_965 hE) (wd_134 hE) (wd_963 hE) rfl rfl (by decide +kernel) ⟨Nat.le_of_ble_eq_true rfl, Nat.le_of_ble_eq_true rfl⟩, (wd_964 hE)⟩ ⟨PT.blind, (th_pre (av := [.ref a0, .ref a2]) hK hP hok hnd hWT hE)⟩ rfl rfl hl.1 rfl (lv_room (Nat.le_of_ble_eq_true rfl)) dX2_shrink_28 ⟨Nat.le_of_ble_eq_true rfl, Nat.le_of_ble_eq_true rfl⟩)) (fun r8 hr8 => ?_)
    refine lv_if_eq (tgt := 62) hx hb dX2_shrink_31 (by decide) (fun c9 => ?_) (fun c9 => ?_)
    · exact W.vret hx hb hr (fun t ht hW => ⟨⟨f6, rfl, trivial, hok, by rw [ht]; exact hP⟩, hS.F ht⟩) hS.2.2 dX2_shrink_62
    · refine lv_aload_n hx hb dX2_shrink_34 rfl (lv_at hl 0 rfl) ?_
      refine lv_aload_n hx hb dX2_shrink_35 rfl (lv_at hl 2 rfl) ?_
      refine lv_aload_n hx hb dX2_shrink_36 rfl (lv_at hl 3 rfl) ?_
      refine tc_v hAL hS hA (va_runS (As := [.ref a0, .ref a2, .ref a3]) (rest := []) ⟨hx, hb, hml, hown, noTs⟩ (t_X2_cutEnds l dC dI H.size G cs tt mm a0 ha0 a2 ha2 a3 ha3) ⟨cbE 3 (wd_971 hE) (wd_134 hE) (wd_969 hE) rfl rfl (by decide +kernel) ⟨Nat.le_of_ble_eq_true rfl, Nat.le_of_ble_eq_true rfl⟩, (wd_970 hE)⟩ ⟨PT.blind, (th_pre (av := [.ref a0, .ref a2, .ref a3]) hK hP hok hnd hWT hE)⟩ rfl rfl hl.1 rfl (lv_room (Nat.le_of_ble_eq_true rfl)) dX2_shrink_37 ⟨Nat.le_of_ble_eq_true rfl, Nat.le_of_ble_eq_true rfl⟩) (fun f10 H locs hr10 hok hP hS => ?_)
      refine lv_aload_n hx hb dX2_shrink_40 rfl (lv_at hl 2 rfl) ?_
      refine lv_aload_n hx hb dX2_shrink_41 rfl (lv_at hl 3 rfl) ?_
      obtain ⟨y2_11, y3_11, hy3_11, he11⟩ := ok_X10 hok ha3
      refine vp_callSi (va_Run.run (va_runV (As := []) (rest := [.ref a2]) ⟨hx, hb, hml, hown, noTs⟩ (t_X10_begin l dC dI H.size G cs tt mm a3 ha3) ⟨cbE 0 (wd_713 hE) (wd_120 hE) (wd_838 hE) rfl rfl (by decide +kernel) ⟨Nat.le_of_ble_eq_true rfl, Nat.le_of_ble_eq_true rfl⟩, (wd_711 hE), (wd_712 hE)⟩ ⟨PT.blind, th_recv hK hP ha3.1 he11 rfl, (th_pre (av := [.ref a3]) hK hP hok hnd hWT hE)⟩ rfl rfl hl.1 rfl (lv_room (Nat.le_of_ble_eq_true rfl)) dX2_shrink_42 ⟨Nat.le_of_ble_eq_true rfl, Nat.le_of_ble_eq_true rfl⟩)) (fun r12 hr12 => ?_)
      refine lv_iconst (v := 0) hx hb dX2_shrink_45 (by decide) ?_
      obtain ⟨y2_13, y3_13, hy3_13, he13⟩ := ok_X10 hok ha2
      refine tc_v hAL hS hA (va_runV (As := [.int r12, .int 0]) (rest := []) ⟨hx, hb, hml, hown, noTs⟩ (t_X10_start l dC dI H.size G cs tt mm a2 ha2 r12 0) ⟨cbE 2 (wd_637 hE) (wd_120 hE) (wd_839 hE) rfl rfl (by decide +kernel) ⟨Nat.le_of_ble_eq_true rfl, Nat.le_of_ble_eq_true rfl⟩, (wd_635 hE), (wd_636 hE)⟩ ⟨PT.blind, th_recv hK hP ha2.1 he13 rfl, (th_pre (av := [.ref a2, .int r12, .int 0]) hK hP hok hnd hWT hE)⟩ rfl rfl hl.1 rfl (lv_room (Nat.le_of_ble_eq_true rfl)) dX2_shrink_46 ⟨Nat.le_of_ble_eq_true rfl, Nat.le_of_ble_eq_true rfl⟩) (fun f14 H locs hr14 hok hP hS => ?_)
      refine lv_aload_n hx hb dX2_shrink_49 rfl (lv_at hl 0 rfl) ?_
      refine lv_aload_n hx hb dX2_shrink_50 rfl (lv_at hl 2 rfl) ?_
      refine lv_aload_n hx hb dX2_shrink_51 rfl (lv_at hl 3 rfl) ?_
      refine tc_i hAL hS hA (va_runS (As := [.ref a0, .ref a2, .ref a3]) (rest := []) ⟨hx, hb, hml, hown, noTs⟩ (t_X2_append l dC dI H.size G cs tt mm a0 ha0 a2 ha2 a3 ha3) ⟨cbE 3 (wd_842 hE) (wd_134 hE) (wd_840 hE) rfl rfl (by decide +kernel) ⟨Nat.le_of_ble_eq_true rfl, Nat.le_of_ble_eq_true rfl⟩, (wd_841 hE)⟩ ⟨PT.blind, (th_pre (av := [.ref a0, .ref a2, .ref a3]) hK hP hok hnd hWT hE)⟩ rfl rfl hl.1 rfl (lv_room (Nat.le_of_ble_eq_true rfl)) dX2_shrink_52 ⟨Nat.le_of_ble_eq_true rfl, Nat.le_of_ble_eq_true rfl⟩) (fun r15 f15 H locs hr15 hok hP hS => ?_)
      refine lv_pop hx hb dX2_shrink_55 rfl ?_
      obtain ⟨z16, ez16⟩ : ∃ z : Int32, z = w4_6 + 1 := ⟨_, rfl⟩
      refine lv_iinc (v := z16) (lv' := [(4, .int z16), (0, .ref a0), (1, .ref a1), (2, .ref a2), (3, .ref a3)]) hx hb dX2_shrink_56 hl (k := 4) rfl (by rw [ez16]; rfl) (by decide) rfl (fun ls hl => ?_)
      have ic16 : z16.toInt = w4_6.toInt + 1 := by rw [ez16]; exact ic_up (by have := i_rng w4_6; have := i_rng r8; simp only [i_lt, i_le, i_eq, ti_m9, ti_m1, ti_0, ti_1, ti_2, ti_3, ti_4, ti_5, ti_6, ti_7, ti_9, ti_12, ti_20, ti_99, ti_700, ti_24, ti_72] at hlo6 c7 c9 ⊢; omega)
      refine lv_goto (tgt := 19) hx hb dX2_shrink_59 (by decide) ?_
      exact ih6 _ f15 _ _ _ (by first | omega | (simp only [i_lt, i_le, i_eq, ti_m9, ti_m1, ti_0, ti_1, ti_2, ti_3, ti_4, ti_5, ti_6, ti_7, ti_9, ti_12, ti_20, ti_99, ti_700, ti_24, ti_72, ic16] at hlo6 c7 c9 ic16 ⊢; omega)) ⟨hok, hP, hS, z16, rfl, (by first | omega | (simp only [i_lt, i_le, i_eq, ti_m9, ti_m1, ti_0, ti_1, ti_2, ti_3, ti_4, ti_5, ti_6, ti_7, ti_9, ti_12, ti_20, ti_99, ti_700, ti_24, ti_72, ic16] at hlo6 c7 c9 ⊢; omega)), lv_sub hl [1, 2, 3, 4, 0] rfl⟩

set_option maxHeartbeats 4000000 in
set_option maxRecDepth 100000 in
theorem t_X2_beginBehind (l : Launch) (dC : Nat → ClassId) (dI : Nat → Nat → Nat) (sz : Nat) (G : GT) (cs : Nat → ClassId) (tt mm : Nat) (a0 : Nat) (ha0 : Ty G a0 7) (a1 : Nat) (ha1 : Ty G a1 10) (v2 : Int32) (a3 : Nat) (ha3 : Ty G a3 10) : Met l yX2_beginBehind [.code yX2_beginBehind cX2_beginBehind 5 none] ({ frames := 2, cells := 0, slots := 0, locals := 80 }) (PT [.ref a0, .ref a1, .int v2, .ref a3] sz dC dI G cs tt mm) (va_Qv (fun (u : Nat → va_E) => True) (BT dC dI G cs tt mm) (AT G sz)) 0 0 (AT G sz) := by
  refine Met.ofW (cc := cX2_beginBehind) (maxL := 5) (ret := none) (by decide) rfl ?_
  intro p e s m args below meth c s₁ B hml hv
  obtain ⟨rfl, hsz, ⟨f0, hok, hP⟩, hK, hnd, hWT, hE⟩ := hv
  have hx := B.exec
  have hb := B.bytes
  have hr := B.returns
  have hown : s.vm.findClass RX2 = some m.cls := findClass_of_methodNamed B.named
  have hlocks := B.notSynchronized
  subst hsz
  have hAL : ∀ a, a ∈ gL G → AT G s.heap.size a := fun a h => Or.inl h
  have hA : ∀ q : Nat, s.heap.size ≤ q → AT G s.heap.size q := fun q h => Or.inr h
  have hS : va_S (AT G s.heap.size) s.heap s.heap [] := va_S.rf
  have hl := lv_entry ([.ref a0, .ref a1, .int v2, .ref a3]) (n := 5) (Nat.le_of_ble_eq_true rfl)
  rw [lg_entry_eq]
  generalize (lg_sl ([.ref a0, .ref a1, .int v2, .ref a3]) ++ List.replicate (5 - (lg_sl ([.ref a0, .ref a1, .int v2, .ref a3])).length) Slot.unset).toArray = ls at hl ⊢
  have hl : lv_has ls 5 [(0, .ref a0), (1, .ref a1), (2, .int v2), (3, .ref a3)] := hl
  refine lv_iload_n hx hb dX2_beginBehind_0 rfl (lv_at hl 2 rfl) ?_
  refine lv_iconst (v := 1) hx hb dX2_beginBehind_1 (by decide) ?_
  refine lv_icmp_ge (tgt := 21) hx hb dX2_beginBehind_2 (by decide) (fun c1 => ?_) (fun c1 => ?_)
  · refine lv_aload_n hx hb dX2_beginBehind_21 rfl (lv_at hl 3 rfl) ?_
    refine lv_aload_n hx hb dX2_beginBehind_22 rfl (lv_at hl 0 rfl) ?_
    refine lv_aload_n hx hb dX2_beginBehind_23 rfl (lv_at hl 1 rfl) ?_
    refine lv_iload_n hx hb dX2_beginBehind_24 rfl (lv_at hl 2 rfl) ?_
    refine lv_iconst (v := 1) hx hb dX2_beginBehind_25 (by decide) ?_
    refine lv_isub hx hb dX2_beginBehind_26 ?_
    refine lv_topi (fun x2 _ => ?_)
    obtain ⟨y2_3, y3_3, hy3_3, he3⟩ := ok_X10 hok ha1
    refine vp_callSi (va_Run.run (va_runV (As := [.int x2]) (rest := [.ref a0, .ref a3]) ⟨hx, hb, hml, hown, noTs⟩ (t_X10_stepAt l dC dI s.heap.size G cs tt mm a1 ha1 x2) ⟨cbE 1 (wd_721 hE) (wd_120 hE) (wd_847 hE) rfl rfl (by decide +kernel) ⟨Nat.le_of_ble_eq_true rfl, Nat.le_of_ble_eq_true rfl⟩, (wd_719 hE), (wd_720 hE)⟩ ⟨PT.blind, th_recv hK hP ha1.1 he3 rfl, (th_pre (av := [.ref a1, .int x2]) hK hP hok hnd hWT hE)⟩ rfl rfl hl.1 rfl (lv_room (Nat.le_of_ble_eq_true rfl)) dX2_beginBehind_27 ⟨Nat.le_of_ble_eq_true rfl, Nat.le_of_ble_eq_true rfl⟩)) (fun r4 hr4 => ?_)
    have he5 := ok_X7 hok ha0
    refine vp_callSi (va_Run.run (va_runV (As := [.int r4]) (rest := [.ref a3]) ⟨hx, hb, hml, hown, noTs⟩ (t_X7_toVertex l dC dI s.heap.size G cs tt mm a0 ha0 r4) ⟨cbE 1 (wd_692 hE) (wd_116 hE) (wd_856 hE) rfl rfl (by decide +kernel) ⟨Nat.le_of_ble_eq_true rfl, Nat.le_of_ble_eq_true rfl⟩, (wd_690 hE), (wd_691 hE)⟩ ⟨PT.blind, th_recv hK hP ha0.1 he5 rfl, (th_pre (av := [.ref a0, .int r4]) hK hP hok hnd hWT hE)⟩ rfl rfl hl.1 rfl (lv_room (Nat.le_of_ble_eq_true rfl)) dX2_beginBehind_30 ⟨Nat.le_of_ble_eq_true rfl, Nat.le_of_ble_eq_true rfl⟩)) (fun r6 hr6 => ?_)
    refine lv_aload_n hx hb dX2_beginBehind_33 rfl (lv_at hl 1 rfl) ?_
    refine lv_iload_n hx hb dX2_beginBehind_34 rfl (lv_at hl 2 rfl) ?_
    refine vp_callSi (va_Run.run (va_runV (As := [.int v2]) (rest := [.int r6, .ref a3]) ⟨hx, hb, hml, hown, noTs⟩ (t_X10_numberAt l dC dI s.heap.size G cs tt mm a1 ha1 v2) ⟨cbE 1 (wd_717 hE) (wd_120 hE) (wd_843 hE) rfl rfl (by decide +kernel) ⟨Nat.le_of_ble_eq_true rfl, Nat.le_of_ble_eq_true rfl⟩, (wd_715 hE), (wd_716 hE)⟩ ⟨PT.blind, th_recv hK hP ha1.1 he3 rfl, (th_pre (av := [.ref a1, .int v2]) hK hP hok hnd hWT hE)⟩ rfl rfl hl.1 rfl (lv_room (Nat.le_of_ble_eq_true rfl)) dX2_beginBehind_35 ⟨Nat.le_of_ble_eq_true rfl, Nat.le_of_ble_eq_true rfl⟩)) (fun r7 hr7 => ?_)
    obtain ⟨y2_8, y3_8, hy3_8, he8⟩ := ok_X10 hok ha3
    refine tc_v hAL hS hA (va_runV (As := [.int r6, .int r7]) (rest := []) ⟨hx, hb, hml, hown, noTs⟩ (t_X10_start l dC dI s.heap.size G cs tt mm a3 ha3 r6 r7) ⟨cbE 2 (wd_637 hE) (wd_120 hE) (wd_839 hE) rfl rfl (by decide +kernel) ⟨Nat.le_of_ble_eq_true rfl, Nat.le_of_ble_eq_true rfl⟩, (wd_635 hE), (wd_636 hE)⟩ ⟨PT.blind, th_recv hK hP ha3.1 he8 rfl, (th_pre (av := [.ref a3, .int r6, .int r7]) hK hP hok hnd hWT hE)⟩ rfl rfl hl.1 rfl (lv_room (Nat.le_of_ble_eq_true rfl)) dX2_beginBehind_38 ⟨Nat.le_of_ble_eq_true rfl, Nat.le_of_ble_eq_true rfl⟩) (fun f9 H locs hr9 hok hP hS => ?_)
    refine lv_iload_n hx hb dX2_beginBehind_41 rfl (lv_at hl 2 rfl) ?_
    refine lv_istore (lv' := [(4, .int v2), (0, .ref a0), (1, .ref a1), (2, .int v2), (3, .ref a3)]) hx hb dX2_beginBehind_42 hl (by decide) rfl (fun ls hl => ?_)
    refine w_ind (I := fun n f H locs ls => OKT G cs tt mm f ∧ va_P (dC, dI) vwCl (va_pl (gL G) f) H ∧ va_S (AT G s.heap.size) s.heap H locs ∧ ∃ (w4_10 : Int32), n = (2147483647 - w4_10.toInt).toNat ∧ 1 ≤ w4_10 ∧ lv_has ls 5 [(0, .ref a0), (1, .ref a1), (2, .int v2), (3, .ref a3), (4, .int w4_10)]) (fun n f10 H locs ls hI ih10 => ?_) _ f9 _ _ _ ⟨hok, hP, hS, v2, rfl, (by first | omega | (simp only [i_lt, i_le, i_eq, ti_m9, ti_m1, ti_0, ti_1, ti_2, ti_3, ti_4, ti_5, ti_6, ti_7, ti_9, ti_12, ti_20, ti_99, ti_700, ti_24, ti_72] at c1 ⊢; omega)), lv_sub hl [1, 2, 3, 4, 0] rfl⟩
    obtain ⟨hok, hP, hS, w4_10, hmu10, hlo10, hl⟩ := hI
    subst hmu10
    refine lv_iload hx hb dX2_beginBehind_44 (lv_at hl 4 rfl) ?_
    refine lv_aload_n hx hb dX2_beginBehind_46 rfl (lv_at hl 1 rfl) ?_
    obtain ⟨y2_11, y3_11, hy3_11, he11⟩ := ok_X10 hok ha1
    refine vp_callSi (va_Run.run (va_runV (As := []) (rest := [.int w4_10]) ⟨hx, hb, hml, hown, noTs⟩ (t_X10_size l dC dI H.size G cs tt mm a1 ha1) ⟨cbE 0 (wd_666 hE) (wd_120 hE) (wd_846 hE) rfl rfl (by decide +kernel) ⟨Nat.le_of_ble_eq_true rfl, Nat.le_of_ble_eq_true rfl⟩, (wd_664 hE), (wd_665 hE)⟩ ⟨PT.blind, th_recv hK hP ha1.1 he11 rfl, (th_pre (av := [.ref a1]) hK hP hok hnd hWT hE)⟩ rfl rfl hl.1 rfl (lv_room (Nat.le_of_ble_eq_true rfl)) dX2_beginBehind_47 ⟨Nat.le_of_ble_eq_true rfl, Nat.le_of_ble_eq_true rfl⟩)) (fun r12 hr12 => ?_)
    obtain ⟨hra12, hrb12⟩ := hr12
    refine lv_icmp_ge (tgt := 77) hx hb dX2_beginBehind_50 (by decide) (fun c13 => ?_) (fun c13 => ?_)
    · refine lv_iload_n hx hb dX2_beginBehind_77 rfl (lv_at hl 2 rfl) ?_
      refine lv_if_le (tgt := 98) hx hb dX2_beginBehind_78 (by decide) (fun c14 => False.elim (by simp only [i_lt, i_le, i_eq, ti_m9, ti_m1, ti_0, ti_1, ti_2, ti_3, ti_4, ti_5, ti_6, ti_7, ti_9, ti_12, ti_20, ti_99, ti_700, ti_24, ti_72] at c1 hlo10 hra12 hrb12 c13 c14; omega)) (fun c14 => ?_)
      refine lv_aload_n hx hb dX2_beginBehind_81 rfl (lv_at hl 3 rfl) ?_
      refine lv_aload_n hx hb dX2_beginBehind_82 rfl (lv_at hl 1 rfl) ?_
      refine lv_iconst (v := 0) hx hb dX2_beginBehind_83 (by decide) ?_
      refine vp_callSi (va_Run.run (va_runV (As := [.int 0]) (rest := [.ref a3]) ⟨hx, hb, hml, hown, noTs⟩ (t_X10_numberAt l dC dI H.size G cs tt mm a1 ha1 0) ⟨cbE 1 (wd_717 hE) (wd_120 hE) (wd_843 hE) rfl rfl (by decide +kernel) ⟨Nat.le_of_ble_eq_true rfl, Nat.le_of_ble_eq_true rfl⟩, (wd_715 hE), (wd_716 hE)⟩ ⟨PT.blind, th_recv hK hP ha1.1 he11 rfl, (th_pre (av := [.ref a1, .int 0]) hK hP hok hnd hWT hE)⟩ rfl rfl hl.1 rfl (lv_room (Nat.le_of_ble_eq_true rfl)) dX2_beginBehind_84 ⟨Nat.le_of_ble_eq_true rfl, Nat.le_of_ble_eq_true rfl⟩)) (fun r15 hr15 => ?_)
      refine lv_aload_n hx hb dX2_beginBehind_87 rfl (lv_at hl 0 rfl) ?_
      refine lv_aload_n hx hb dX2_beginBehind_88 rfl (lv_at hl 1 rfl) ?_
      refine vp_callSi (va_Run.run (va_runV (As := []) (rest := [.ref a0, .int r15, .ref a3]) ⟨hx, hb, hml, hown, noTs⟩ (t_X10_begin l dC dI H.size G cs tt mm a1 ha1) ⟨cbE 0 (wd_713 hE) (wd_120 hE) (wd_838 hE) rfl rfl (by decide +kernel) ⟨Nat.le_of_ble_eq_true rfl, Nat.le_of_ble_eq_true rfl⟩, (wd_711 hE), (wd_712 hE)⟩ ⟨PT.blind, th_recv hK hP ha1.1 he11 rfl, (th_pre (av := [.ref a1]) hK hP hok hnd hWT hE)⟩ rfl rfl hl.1 rfl (lv_room (Nat.le_of_ble_eq_true rfl)) dX2_beginBehind_89 ⟨Nat.le_of_ble_eq_true rfl, Nat.le_of_ble_eq_true rfl⟩)) (fun r16 hr16 => ?_)
      have he17 := ok_X7 hok ha0
      refine vp_callSi (va_Run.run (va_runV (As := [.int r16]) (rest := [.int r15, .ref a3]) ⟨hx, hb, hml, hown, noTs⟩ (t_X7_orderAt l dC dI H.size G cs tt mm a0 ha0 r16) ⟨cbE 1 (wd_614 hE) (wd_116 hE) (wd_844 hE) rfl rfl (by decide +kernel) ⟨Nat.le_of_ble_eq_true rfl, Nat.le_of_ble_eq_true rfl⟩, (wd_612 hE), (wd_613 hE)⟩ ⟨PT.blind, th_recv hK hP ha0.1 he17 rfl, (th_pre (av := [.ref a0, .int r16]) hK hP hok hnd hWT hE)⟩ rfl rfl hl.1 rfl (lv_room (Nat.le_of_ble_eq_true rfl)) dX2_beginBehind_92 ⟨Nat.le_of_ble_eq_true rfl, Nat.le_of_ble_eq_true rfl⟩)) (fun r18 hr18 => ?_)
      obtain ⟨y2_19, y3_19, hy3_19, he19⟩ := ok_X10 hok ha3
      refine tc_v hAL hS hA (va_runV (As := [.int r15, .int r18]) (rest := []) ⟨hx, hb, hml, hown, noTs⟩ (t_X10_addLast l dC dI H.size G cs tt mm a3 ha3 r15 r18) ⟨cbE 2 (wd_645 hE) (wd_120 hE) (wd_845 hE) rfl rfl (by decide +kernel) ⟨Nat.le_of_ble_eq_true rfl, Nat.le_of_ble_eq_true rfl⟩, (wd_643 hE), (wd_644 hE)⟩ ⟨PT.blind, th_recv hK hP ha3.1 he19 rfl, (th_pre (av := [.ref a3, .int r15, .int r18]) hK hP hok hnd hWT hE)⟩ rfl rfl hl.1 rfl (lv_room (Nat.le_of_ble_eq_true rfl)) dX2_beginBehind_95 ⟨Nat.le_of_ble_eq_true rfl, Nat.le_of_ble_eq_true rfl⟩) (fun f20 H locs hr20 hok hP hS => ?_)
      refine lv_iconst (v := 0) hx hb dX2_beginBehind_98 (by decide) ?_
      refine lv_istore (lv' := [(4, .int 0), (0, .ref a0), (1, .ref a1), (2, .int v2), (3, .ref a3)]) hx hb dX2_beginBehind_99 hl (by decide) rfl (fun ls hl => ?_)
      refine w_ind (I := fun n f H locs ls => OKT G cs tt mm f ∧ va_P (dC, dI) vwCl (va_pl (gL G) f) H ∧ va_S (AT G s.heap.size) s.heap H locs ∧ ∃ (w4_21 : Int32), n = (2147483647 - w4_21.toInt).toNat ∧ 0 ≤ w4_21 ∧ lv_has ls 5 [(0, .ref a0), (1, .ref a1), (2, .int v2), (3, .ref a3), (4, .int w4_21)]) (fun n f21 H locs ls hI ih21 => ?_) _ f20 _ _ _ ⟨hok, hP, hS, 0, rfl, (by first | omega | (simp only [i_lt, i_le, i_eq, ti_m9, ti_m1, ti_0, ti_1, ti_2, ti_3, ti_4, ti_5, ti_6, ti_7, ti_9, ti_12, ti_20, ti_99, ti_700, ti_24, ti_72] at c1 hlo10 hra12 hrb12 c13 c14 ⊢; omega)), lv_sub hl [1, 2, 3, 4, 0] rfl⟩
      obtain ⟨hok, hP, hS, w4_21, hmu21, hlo21, hl⟩ := hI
      subst hmu21
      refine lv_iload hx hb dX2_beginBehind_101 (lv_at hl 4 rfl) ?_
      refine lv_iload_n hx hb dX2_beginBehind_103 rfl (lv_at hl 2 rfl) ?_
      refine lv_icmp_ge (tgt := 143) hx hb dX2_beginBehind_104 (by decide) (fun c22 => ?_) (fun c22 => ?_)
      · exact W.vret hx hb hr (fun t ht hW => ⟨⟨f21, rfl, trivial, hok, by rw [ht]; exact hP⟩, hS.F ht⟩) hS.2.2 dX2_beginBehind_143
      · refine lv_aload_n hx hb dX2_beginBehind_107 rfl (lv_at hl 3 rfl) ?_
        refine lv_aload_n hx hb dX2_beginBehind_108 rfl (lv_at hl 1 rfl) ?_
        refine lv_iload hx hb dX2_beginBehind_109 (lv_at hl 4 rfl) ?_
        obtain ⟨y2_23, y3_23, hy3_23, he23⟩ := ok_X10 hok ha1
        refine vp_callSi (va_Run.run (va_runV (As := [.int w4_21]) (rest := [.ref a3]) ⟨hx, hb, hml, hown, noTs⟩ (t_X10_stepAt l dC dI H.size G cs tt mm a1 ha1 w4_21) ⟨cbE 1 (wd_721 hE) (wd_120 hE) (wd_847 hE) rfl rfl (by decide +kernel) ⟨Nat.le_of_ble_eq_true rfl, Nat.le_of_ble_eq_true rfl⟩, (wd_719 hE), (wd_720 hE)⟩ ⟨PT.blind, th_recv hK hP ha1.1 he23 rfl, (th_pre (av := [.ref a1, .int w4_21]) hK hP hok hnd hWT hE)⟩ rfl rfl hl.1 rfl (lv_room (Nat.le_of_ble_eq_true rfl)) dX2_beginBehind_111 ⟨Nat.le_of_ble_eq_true rfl, Nat.le_of_ble_eq_true rfl⟩)) (fun r24 hr24 => ?_)
        refine lv_iload hx hb dX2_beginBehind_114 (lv_at hl 4 rfl) ?_
        refine lv_iconst (v := 1) hx hb dX2_beginBehind_116 (by decide) ?_
        refine lv_iadd hx hb dX2_beginBehind_117 ?_
        refine lv_topi (fun x25 _ => ?_)
        refine lv_iload_n hx hb dX2_beginBehind_118 rfl (lv_at hl 2 rfl) ?_
        refine lv_icmp_ge (tgt := 133) hx hb dX2_beginBehind_119 (by decide) (fun c26 => ?_) (fun c26 => ?_)
        · refine lv_iconst (v := 0) hx hb dX2_beginBehind_133 (by decide) ?_
          obtain ⟨y2_27, y3_27, hy3_27, he27⟩ := ok_X10 hok ha3
          refine tc_v hAL hS hA (va_runV (As := [.int r24, .int 0]) (rest := []) ⟨hx, hb, hml, hown, noTs⟩ (t_X10_push l dC dI H.size G cs tt mm a3 ha3 r24 0) ⟨cbE 2 (wd_688 hE) (wd_120 hE) (wd_872 hE) rfl rfl (by decide +kernel) ⟨Nat.le_of_ble_eq_true rfl, Nat.le_of_ble_eq_true rfl⟩, (wd_686 hE), (wd_687 hE)⟩ ⟨PT.blind, th_recv hK hP ha3.1 he27 rfl, (th_pre (av := [.ref a3, .int r24, .int 0]) hK hP hok hnd hWT hE)⟩ rfl rfl hl.1 rfl (lv_room (Nat.le_of_ble_eq_true rfl)) dX2_beginBehind_134 ⟨Nat.le_of_ble_eq_true rfl, Nat.le_of_ble_eq_true rfl⟩) (fun f28 H locs hr28 hok hP hS => ?_)
          obtain ⟨z29, ez29⟩ : ∃ z : Int32, z = w4_21 + 1 := ⟨_, rfl⟩
          refine lv_iinc (v := z29) (lv' := [(4, .int z29), (0, .ref a0), (1, .ref a1), (2, .int v2), (3, .ref a3)]) hx hb dX2_beginBehind_137 hl (k := 4) rfl (by rw [ez29]; rfl) (by decide) rfl (fun ls hl => ?_)
          have ic29 : z29.toInt = w4_21.toInt + 1 := by rw [ez29]; exact ic_up (by have := i_rng v2; have := i_rng r12; have := i_rng w4_10; have := i_rng w4_21; have := i_rng x25; simp only [i_lt, i_le, i_eq, ti_m9, ti_m1, ti_0, ti_1, ti_2, ti_3, ti_4, ti_5, ti_6, ti_7, ti_9, ti_12, ti_20, ti_99, ti_700, ti_24, ti_72] at c1 hlo10 hra12 hrb12 c13 c14 hlo21 c22 c26 ⊢; omega)
          refine lv_goto (tgt := 101) hx hb dX2_beginBehind_140 (by decide) ?_
          exact ih21 _ f28 _ _ _ (by first | omega | (simp only [i_lt, i_le, i_eq, ti_m9, ti_m1, ti_0, ti_1, ti_2, ti_3, ti_4, ti_5, ti_6, ti_7, ti_9, ti_12, ti_20, ti_99, ti_700, ti_24, ti_72, ic29] at c1 hlo10 hra12 hrb12 c13 c14 hlo21 c22 c26 ic29 ⊢; omega)) ⟨hok, hP, hS, z29, rfl, (by first | omega | (simp only [i_lt, i_le, i_eq, ti_m9, ti_m1, ti_0, ti_1, ti_2, ti_3, ti_4, ti_5, ti_6, ti_7, ti_9, ti_12, ti_20, ti_99, ti_700, ti_24, ti_72, ic29] at c1 hlo10 hra12 hrb12 c13 c14 hlo21 c22 c26 ⊢; omega)), lv_sub hl [1, 2, 3, 4, 0] rfl⟩
        · refine lv_aload_n hx hb dX2_beginBehind_122 rfl (lv_at hl 1 rfl) ?_
          refine lv_iload hx hb dX2_beginBehind_123 (lv_at hl 4 rfl) ?_
          refine lv_iconst (v := 1) hx hb dX2_beginBehind_125 (by decide) ?_
          refine lv_iadd hx hb dX2_beginBehind_126 ?_
          refine lv_topi (fun x30 _ => ?_)
          refine vp_callSi (va_Run.run (va_runV (As := [.int x30]) (rest := [.int r24, .ref a3]) ⟨hx, hb, hml, hown, noTs⟩ (t_X10_numberAt l dC dI H.size G cs tt mm a1 ha1 x30) ⟨cbE 1 (wd_717 hE) (wd_120 hE) (wd_843 hE) rfl rfl (by decide +kernel) ⟨Nat.le_of_ble_eq_true rfl, Nat.le_of_ble_eq_true rfl⟩, (wd_715 hE), (wd_716 hE)⟩ ⟨PT.blind, th_recv hK hP ha1.1 he23 rfl, (th_pre (av := [.ref a1, .int x30]) hK hP hok hnd hWT hE)⟩ rfl rfl hl.1 rfl (lv_room (Nat.le_of_ble_eq_true rfl)) dX2_beginBehind_127 ⟨Nat.le_of_ble_eq_true rfl, Nat.le_of_ble_eq_true rfl⟩)) (fun r31 hr31 => ?_)
          refine lv_goto (tgt := 134) hx hb dX2_beginBehind_130 (by decide) ?_
          obtain ⟨y2_32, y3_32, hy3_32, he32⟩ := ok_X10 hok ha3
          refine tc_v hAL hS hA (va_runV (As := [.int r24, .int r31]) (rest := []) ⟨hx, hb, hml, hown, noTs⟩ (t_X10_push l dC dI H.size G cs tt mm a3 ha3 r24 r31) ⟨cbE 2 (wd_688 hE) (wd_120 hE) (wd_872 hE) rfl rfl (by decide +kernel) ⟨Nat.le_of_ble_eq_true rfl, Nat.le_of_ble_eq_true rfl⟩, (wd_686 hE), (wd_687 hE)⟩ ⟨PT.blind, th_recv hK hP ha3.1 he32 rfl, (th_pre (av := [.ref a3, .int r24, .int r31]) hK hP hok hnd hWT hE)⟩ rfl rfl hl.1 rfl (lv_room (Nat.le_of_ble_eq_true rfl)) dX2_beginBehind_134 ⟨Nat.le_of_ble_eq_true rfl, Nat.le_of_ble_eq_true rfl⟩) (fun f33 H locs hr33 hok hP hS => ?_)
          obtain ⟨z34, ez34⟩ : ∃ z : Int32, z = w4_21 + 1 := ⟨_, rfl⟩
          refine lv_iinc (v := z34) (lv' := [(4, .int z34), (0, .ref a0), (1, .ref a1), (2, .int v2), (3, .ref a3)]) hx hb dX2_beginBehind_137 hl (k := 4) rfl (by rw [ez34]; rfl) (by decide) rfl (fun ls hl => ?_)
          have ic34 : z34.toInt = w4_21.toInt + 1 := by rw [ez34]; exact ic_up (by have := i_rng v2; have := i_rng r12; have := i_rng w4_10; have := i_rng w4_21; have := i_rng x25; simp only [i_lt, i_le, i_eq, ti_m9, ti_m1, ti_0, ti_1, ti_2, ti_3, ti_4, ti_5, ti_6, ti_7, ti_9, ti_12, ti_20, ti_99, ti_700, ti_24, ti_72] at c1 hlo10 hra12 hrb12 c13 c14 hlo21 c22 c26 ⊢; omega)
          refine lv_goto (tgt := 101) hx hb dX2_beginBehind_140 (by decide) ?_
          exact ih21 _ f33 _ _ _ (by first | omega | (simp only [i_lt, i_le, i_eq, ti_m9, ti_m1, ti_0, ti_1, ti_2, ti_3, ti_4, ti_5, ti_6, ti_7, ti_9, ti_12, ti_20, ti_99, ti_700, ti_24, ti_72, ic34] at c1 hlo10 hra12 hrb12 c13 c14 hlo21 c22 c26 ic34 ⊢; omega)) ⟨hok, hP, hS, z34, rfl, (by first | omega | (simp only [i_lt, i_le, i_eq, ti_m9, ti_m1, ti_0, ti_1, ti_2, ti_3, ti_4, ti_5, ti_6, ti_7, ti_9, ti_12, ti_20, ti_99, ti_700, ti_24, ti_72, ic34] at c1 hlo10 hra12 hrb12 c13 c14 hlo21 c22 c26 ⊢; omega)), lv_sub hl [1, 2, 3, 4, 0] rfl⟩
    · refine lv_aload_n hx hb dX2_beginBehind_53 rfl (lv_at hl 3 rfl) ?_
      refine lv_aload_n hx hb dX2_beginBehind_54 rfl (lv_at hl 1 rfl) ?_
      refine lv_iload hx hb dX2_beginBehind_55 (lv_at hl 4 rfl) ?_
      refine vp_callSi (va_Run.run (va_runV (As := [.int w4_10]) (rest := [.ref a3]) ⟨hx, hb, hml, hown, noTs⟩ (t_X10_stepAt l dC dI H.size G cs tt mm a1 ha1 w4_10) ⟨cbE 1 (wd_721 hE) (wd_120 hE) (wd_847 hE) rfl rfl (by decide +kernel) ⟨Nat.le_of_ble_eq_true rfl, Nat.le_of_ble_eq_true rfl⟩, (wd_719 hE), (wd_720 hE)⟩ ⟨PT.blind, th_recv hK hP ha1.1 he11 rfl, (th_pre (av := [.ref a1, .int w4_10]) hK hP hok hnd hWT hE)⟩ rfl rfl hl.1 rfl (lv_room (Nat.le_of_ble_eq_true rfl)) dX2_beginBehind_57 ⟨Nat.le_of_ble_eq_true rfl, Nat.le_of_ble_eq_true rfl⟩)) (fun r35 hr35 => ?_)
      refine lv_aload_n hx hb dX2_beginBehind_60 rfl (lv_at hl 1 rfl) ?_
      refine lv_iload hx hb dX2_beginBehind_61 (lv_at hl 4 rfl) ?_
      refine lv_iconst (v := 1) hx hb dX2_beginBehind_63 (by decide) ?_
      refine lv_iadd hx hb dX2_beginBehind_64 ?_
      refine lv_topi (fun x36 _ => ?_)
      refine vp_callSi (va_Run.run (va_runV (As := [.int x36]) (rest := [.int r35, .ref a3]) ⟨hx, hb, hml, hown, noTs⟩ (t_X10_numberAt l dC dI H.size G cs tt mm a1 ha1 x36) ⟨cbE 1 (wd_717 hE) (wd_120 hE) (wd_843 hE) rfl rfl (by decide +kernel) ⟨Nat.le_of_ble_eq_true rfl, Nat.le_of_ble_eq_true rfl⟩, (wd_715 hE), (wd_716 hE)⟩ ⟨PT.blind, th_recv hK hP ha1.1 he11 rfl, (th_pre (av := [.ref a1, .int x36]) hK hP hok hnd hWT hE)⟩ rfl rfl hl.1 rfl (lv_room (Nat.le_of_ble_eq_true rfl)) dX2_beginBehind_65 ⟨Nat.le_of_ble_eq_true rfl, Nat.le_of_ble_eq_true rfl⟩)) (fun r37 hr37 => ?_)
      obtain ⟨y2_38, y3_38, hy3_38, he38⟩ := ok_X10 hok ha3
      refine tc_v hAL hS hA (va_runV (As := [.int r35, .int r37]) (rest := []) ⟨hx, hb, hml, hown, noTs⟩ (t_X10_push l dC dI H.size G cs tt mm a3 ha3 r35 r37) ⟨cbE 2 (wd_688 hE) (wd_120 hE) (wd_872 hE) rfl rfl (by decide +kernel) ⟨Nat.le_of_ble_eq_true rfl, Nat.le_of_ble_eq_true rfl⟩, (wd_686 hE), (wd_687 hE)⟩ ⟨PT.blind, th_recv hK hP ha3.1 he38 rfl, (th_pre (av := [.ref a3, .int r35, .int r37]) hK hP hok hnd hWT hE)⟩ rfl rfl hl.1 rfl (lv_room (Nat.le_of_ble_eq_true rfl)) dX2_beginBehind_68 ⟨Nat.le_of_ble_eq_true rfl, Nat.le_of_ble_eq_true rfl⟩) (fun f39 H locs hr39 hok hP hS => ?_)
      obtain ⟨z40, ez40⟩ : ∃ z : Int32, z = w4_10 + 1 := ⟨_, rfl⟩
      refine lv_iinc (v := z40) (lv' := [(4, .int z40), (0, .ref a0), (1, .ref a1), (2, .int v2), (3, .ref a3)]) hx hb dX2_beginBehind_71 hl (k := 4) rfl (by rw [ez40]; rfl) (by decide) rfl (fun ls hl => ?_)
      have ic40 : z40.toInt = w4_10.toInt + 1 := by rw [ez40]; exact ic_up (by have := i_rng v2; have := i_rng r12; have := i_rng w4_10; simp only [i_lt, i_le, i_eq, ti_m9, ti_m1, ti_0, ti_1, ti_2, ti_3, ti_4, ti_5, ti_6, ti_7, ti_9, ti_12, ti_20, ti_99, ti_700, ti_24, ti_72] at c1 hlo10 hra12 hrb12 c13 ⊢; omega)
      refine lv_goto (tgt := 44) hx hb dX2_beginBehind_74 (by decide) ?_
      exact ih10 _ f39 _ _ _ (by first | omega | (simp only [i_lt, i_le, i_eq, ti_m9, ti_m1, ti_0, ti_1, ti_2, ti_3, ti_4, ti_5, ti_6, ti_7, ti_9, ti_12, ti_20, ti_99, ti_700, ti_24, ti_72, ic40] at c1 hlo10 hra12 hrb12 c13 ic40 ⊢; omega)) ⟨hok, hP, hS, z40, rfl, (by first | omega | (simp only [i_lt, i_le, i_eq, ti_m9, ti_m1, ti_0, ti_1, ti_2, ti_3, ti_4, ti_5, ti_6, ti_7, ti_9, ti_12, ti_20, ti_99, ti_700, ti_24, ti_72, ic40] at c1 hlo10 hra12 hrb12 c13 ⊢; omega)), lv_sub hl [1, 2, 3, 4, 0] rfl⟩
  · refine lv_aload_n hx hb dX2_beginBehind_5 rfl (lv_at hl 3 rfl) ?_
    refine lv_aload_n hx hb dX2_beginBehind_6 rfl (lv_at hl 1 rfl) ?_
    obtain ⟨y2_41, y3_41, hy3_41, he41⟩ := ok_X10 hok ha1
    refine vp_callSi (va_Run.run (va_runV (As := []) (rest := [.ref a3]) ⟨hx, hb, hml, hown, noTs⟩ (t_X10_begin l dC dI s.heap.size G cs tt mm a1 ha1) ⟨cbE 0 (wd_713 hE) (wd_120 hE) (wd_838 hE) rfl rfl (by decide +kernel) ⟨Nat.le_of_ble_eq_true rfl, Nat.le_of_ble_eq_true rfl⟩, (wd_711 hE), (wd_712 hE)⟩ ⟨PT.blind, th_recv hK hP ha1.1 he41 rfl, (th_pre (av := [.ref a1]) hK hP hok hnd hWT hE)⟩ rfl rfl hl.1 rfl (lv_room (Nat.le_of_ble_eq_true rfl)) dX2_beginBehind_7 ⟨Nat.le_of_ble_eq_true rfl, Nat.le_of_ble_eq_true rfl⟩)) (fun r42 hr42 => ?_)
    refine lv_aload_n hx hb dX2_beginBehind_10 rfl (lv_at hl 1 rfl) ?_
    refine lv_iconst (v := 0) hx hb dX2_beginBehind_11 (by decide) ?_
    refine vp_callSi (va_Run.run (va_runV (As := [.int 0]) (rest := [.int r42, .ref a3]) ⟨hx, hb, hml, hown, noTs⟩ (t_X10_numberAt l dC dI s.heap.size G cs tt mm a1 ha1 0) ⟨cbE 1 (wd_717 hE) (wd_120 hE) (wd_843 hE) rfl rfl (by decide +kernel) ⟨Nat.le_of_ble_eq_true rfl, Nat.le_of_ble_eq_true rfl⟩, (wd_715 hE), (wd_716 hE)⟩ ⟨PT.blind, th_recv hK hP ha1.1 he41 rfl, (th_pre (av := [.ref a1, .int 0]) hK hP hok hnd hWT hE)⟩ rfl rfl hl.1 rfl (lv_room (Nat.le_of_ble_eq_true rfl)) dX2_beginBehind_12 ⟨Nat.le_of_ble_eq_true rfl, Nat.le_of_ble_eq_true rfl⟩)) (fun r43 hr43 => ?_)
    obtain ⟨y2_44, y3_44, hy3_44, he44⟩ := ok_X10 hok ha3
    refine tc_v hAL hS hA (va_runV (As := [.int r42, .int r43]) (rest := []) ⟨hx, hb, hml, hown, noTs⟩ (t_X10_start l dC dI s.heap.size G cs tt mm a3 ha3 r42 r43) ⟨cbE 2 (wd_637 hE) (wd_120 hE) (wd_839 hE) rfl rfl (by decide +kernel) ⟨Nat.le_of_ble_eq_true rfl, Nat.le_of_ble_eq_true rfl⟩, (wd_635 hE), (wd_636 hE)⟩ ⟨PT.blind, th_recv hK hP ha3.1 he44 rfl, (th_pre (av := [.ref a3, .int r42, .int r43]) hK hP hok hnd hWT hE)⟩ rfl rfl hl.1 rfl (lv_room (Nat.le_of_ble_eq_true rfl)) dX2_beginBehind_15 ⟨Nat.le_of_ble_eq_true rfl, Nat.le_of_ble_eq_true rfl⟩) (fun f45 H locs hr45 hok hP hS => ?_)
    refine lv_goto (tgt := 41) hx hb dX2_beginBehind_18 (by decide) ?_
    refine lv_iload_n hx hb dX2_beginBehind_41 rfl (lv_at hl 2 rfl) ?_
    refine lv_istore (lv' := [(4, .int v2), (0, .ref a0), (1, .ref a1), (2, .int v2), (3, .ref a3)]) hx hb dX2_beginBehind_42 hl (by decide) rfl (fun ls hl => ?_)
    refine w_ind (I := fun n f H locs ls => OKT G cs tt mm f ∧ va_P (dC, dI) vwCl (va_pl (gL G) f) H ∧ va_S (AT G s.heap.size) s.heap H locs ∧ ∃ (w4_46 : Int32), n = (2147483647 - w4_46.toInt).toNat ∧ lv_has ls 5 [(0, .ref a0), (1, .ref a1), (2, .int v2), (3, .ref a3), (4, .int w4_46)]) (fun n f46 H locs ls hI ih46 => ?_) _ f45 _ _ _ ⟨hok, hP, hS, v2, rfl, lv_sub hl [1, 2, 3, 4, 0] rfl⟩
    obtain ⟨hok, hP, hS, w4_46, hmu46, hl⟩ := hI
    subst hmu46
    refine lv_iload hx hb dX2_beginBehind_44 (lv_at hl 4 rfl) ?_
    refine lv_aload_n hx hb dX2_beginBehind_46 rfl (lv_at hl 1 rfl) ?_
    obtain ⟨y2_47, y3_47, hy3_47, he47⟩ := ok_X10 hok ha1
    refine vp_callSi (va_Run.run (va_runV (As := []) (rest := [.int w4_46]) ⟨hx, hb, hml, hown, noTs⟩ (t_X10_size l dC dI H.size G cs tt mm a1 ha1) ⟨cbE 0 (wd_666 hE) (wd_120 hE) (wd_846 hE) rfl rfl (by decide +kernel) ⟨Nat.le_of_ble_eq_true rfl, Nat.le_of_ble_eq_true rfl⟩, (wd_664 hE), (wd_665 hE)⟩ ⟨PT.blind, th_recv hK hP ha1.1 he47 rfl, (th_pre (av := [.ref a1]) hK hP hok hnd hWT hE)⟩ rfl rfl hl.1 rfl (lv_room (Nat.le_of_ble_eq_true rfl)) dX2_beginBehind_47 ⟨Nat.le_of_ble_eq_true rfl, Nat.le_of_ble_eq_true rfl⟩)) (fun r48 hr48 => ?_)
    obtain ⟨hra48, hrb48⟩ := hr48
    refine lv_icmp_ge (tgt := 77) hx hb dX2_beginBehind_50 (by decide) (fun c49 => ?_) (fun c49 => ?_)
    · refine lv_iload_n hx hb dX2_beginBehind_77 rfl (lv_at hl 2 rfl) ?_
      refine lv_if_le (tgt := 98) hx hb dX2_beginBehind_78 (by decide) (fun c50 => ?_) (fun c50 => False.elim (by simp only [i_lt, i_le, i_eq, ti_m9, ti_m1, ti_0, ti_1, ti_2, ti_3, ti_4, ti_5, ti_6, ti_7, ti_9, ti_12, ti_20, ti_99, ti_700, ti_24, ti_72] at c1 hra48 hrb48 c49 c50; omega))
      refine lv_iconst (v := 0) hx hb dX2_beginBehind_98 (by decide) ?_
      refine lv_istore (lv' := [(4, .int 0), (0, .ref a0), (1, .ref a1), (2, .int v2), (3, .ref a3)]) hx hb dX2_beginBehind_99 hl (by decide) rfl (fun ls hl => ?_)
      refine w_ind (I := fun n f H locs ls => OKT G cs tt mm f ∧ va_P (dC, dI) vwCl (va_pl (gL G) f) H ∧ va_S (AT G s.heap.size) s.heap H locs ∧ ∃ (w4_51 : Int32), n = (2147483647 - w4_51.toInt).toNat ∧ 0 ≤ w4_51 ∧ lv_has ls 5 [(0, .ref a0), (1, .ref a1), (2, .int v2), (3, .ref a3), (4, .int w4_51)]) (fun n f51 H locs ls hI ih51 => ?_) _ f46 _ _ _ ⟨hok, hP, hS, 0, rfl, (by first | omega | (simp only [i_lt, i_le, i_eq, ti_m9, ti_m1, ti_0, ti_1, ti_2, ti_3, ti_4, ti_5, ti_6, ti_7, ti_9, ti_12, ti_20, ti_99, ti_700, ti_24, ti_72] at c1 hra48 hrb48 c49 c50 ⊢; omega)), lv_sub hl [1, 2, 3, 4, 0] rfl⟩
      obtain ⟨hok, hP, hS, w4_51, hmu51, hlo51, hl⟩ := hI
      subst hmu51
      refine lv_iload hx hb dX2_beginBehind_101 (lv_at hl 4 rfl) ?_
      refine lv_iload_n hx hb dX2_beginBehind_103 rfl (lv_at hl 2 rfl) ?_
      refine lv_icmp_ge (tgt := 143) hx hb dX2_beginBehind_104 (by decide) (fun c52 => ?_) (fun c52 => False.elim (by simp only [i_lt, i_le, i_eq, ti_m9, ti_m1, ti_0, ti_1, ti_2, ti_3, ti_4, ti_5, ti_6, ti_7, ti_9, ti_12, ti_20, ti_99, ti_700, ti_24, ti_72] at c1 hra48 hrb48 c49 c50 hlo51 c52; omega))
      exact W.vret hx hb hr (fun t ht hW => ⟨⟨f51, rfl, trivial, hok, by rw [ht]; exact hP⟩, hS.F ht⟩) hS.2.2 dX2_beginBehind_143
    · refine lv_aload_n hx hb dX2_beginBehind_53 rfl (lv_at hl 3 rfl) ?_
      refine lv_aload_n hx hb dX2_beginBehind_54 rfl (lv_at hl 1 rfl) ?_
      refine lv_iload hx hb dX2_beginBehind_55 (lv_at hl 4 rfl) ?_
      refine vp_callSi (va_Run.run (va_runV (As := [.int w4_46]) (rest := [.ref a3]) ⟨hx, hb, hml, hown, noTs⟩ (t_X10_stepAt l dC dI H.size G cs tt mm a1 ha1 w4_46) ⟨cbE 1 (wd_721 hE) (wd_120 hE) (wd_847 hE) rfl rfl (by decide +kernel) ⟨Nat.le_of_ble_eq_true rfl, Nat.le_of_ble_eq_true rfl⟩, (wd_719 hE), (wd_720 hE)⟩ ⟨PT.blind, th_recv hK hP ha1.1 he47 rfl, (th_pre (av := [.ref a1, .int w4_46]) hK hP hok hnd hWT hE)⟩ rfl rfl hl.1 rfl (lv_room (Nat.le_of_ble_eq_true rfl)) dX2_beginBehind_57 ⟨Nat.le_of_ble_eq_true rfl, Nat.le_of_ble_eq_true rfl⟩)) (fun r53 hr53 => ?_)
      refine lv_aload_n hx hb dX2_beginBehind_60 rfl (lv_at hl 1 rfl) ?_
      refine lv_iload hx hb dX2_beginBehind_61 (lv_at hl 4 rfl) ?_
      refine lv_iconst (v := 1) hx hb dX2_beginBehind_63 (by decide) ?_
      refine lv_iadd hx hb dX2_beginBehind_64 ?_
      refine lv_topi (fun x54 _ => ?_)
      refine vp_callSi (va_Run.run (va_runV (As := [.int x54]) (rest := [.int r53, .ref a3]) ⟨hx, hb, hml, hown, noTs⟩ (t_X10_numberAt l dC dI H.size G cs tt mm a1 ha1 x54) ⟨cbE 1 (wd_717 hE) (wd_120 hE) (wd_843 hE) rfl rfl (by decide +kernel) ⟨Nat.le_of_ble_eq_true rfl, Nat.le_of_ble_eq_true rfl⟩, (wd_715 hE), (wd_716 hE)⟩ ⟨PT.blind, th_recv hK hP ha1.1 he47 rfl, (th_pre (av := [.ref a1, .int x54]) hK hP hok hnd hWT hE)⟩ rfl rfl hl.1 rfl (lv_room (Nat.le_of_ble_eq_true rfl)) dX2_beginBehind_65 ⟨Nat.le_of_ble_eq_true rfl, Nat.le_of_ble_eq_true rfl⟩)) (fun r55 hr55 => ?_)
      obtain ⟨y2_56, y3_56, hy3_56, he56⟩ := ok_X10 hok ha3
      refine tc_v hAL hS hA (va_runV (As := [.int r53, .int r55]) (rest := []) ⟨hx, hb, hml, hown, noTs⟩ (t_X10_push l dC dI H.size G cs tt mm a3 ha3 r53 r55) ⟨cbE 2 (wd_688 hE) (wd_120 hE) (wd_872 hE) rfl rfl (by decide +kernel) ⟨Nat.le_of_ble_eq_true rfl, Nat.le_of_ble_eq_true rfl⟩, (wd_686 hE), (wd_687 hE)⟩ ⟨PT.blind, th_recv hK hP ha3.1 he56 rfl, (th_pre (av := [.ref a3, .int r53, .int r55]) hK hP hok hnd hWT hE)⟩ rfl rfl hl.1 rfl (lv_room (Nat.le_of_ble_eq_true rfl)) dX2_beginBehind_68 ⟨Nat.le_of_ble_eq_true rfl, Nat.le_of_ble_eq_true rfl⟩) (fun f57 H locs hr57 hok hP hS => ?_)
      obtain ⟨z58, ez58⟩ : ∃ z : Int32, z = w4_46 + 1 := ⟨_, rfl⟩
      refine lv_iinc (v := z58) (lv' := [(4, .int z58), (0, .ref a0), (1, .ref a1), (2, .int v2), (3, .ref a3)]) hx hb dX2_beginBehind_71 hl (k := 4) rfl (by rw [ez58]; rfl) (by decide) rfl (fun ls hl => ?_)
      have ic58 : z58.toInt = w4_46.toInt + 1 := by rw [ez58]; exact ic_up (by have := i_rng v2; have := i_rng r48; have := i_rng w4_46; simp only [i_lt, i_le, i_eq, ti_m9, ti_m1, ti_0, ti_1, ti_2, ti_3, ti_4, ti_5, ti_6, ti_7, ti_9, ti_12, ti_20, ti_99, ti_700, ti_24, ti_72] at c1 hra48 hrb48 c49 ⊢; omega)
      refine lv_goto (tgt := 44) hx hb dX2_beginBehind_74 (by decide) ?_
      exact ih46 _ f57 _ _ _ (by first | omega | (simp only [i_lt, i_le, i_eq, ti_m9, ti_m1, ti_0, ti_1, ti_2, ti_3, ti_4, ti_5, ti_6, ti_7, ti_9, ti_12, ti_20, ti_99, ti_700, ti_24, ti_72, ic58] at c1 hra48 hrb48 c49 ic58 ⊢; omega)) ⟨hok, hP, hS, z58, rfl, lv_sub hl [1, 2, 3, 4, 0] rfl⟩

set_option maxHeartbeats 4000000 in
set_option maxRecDepth 100000 in
theorem t_X4_setFar (l : Launch) (dC : Nat → ClassId) (dI : Nat → Nat → Nat) (sz : Nat) (G : GT) (cs : Nat → ClassId) (tt mm : Nat) (a0 : Nat) (ha0 : Ty G a0 4) (v1 : Int32) (v2 : Int32) : Met l yX4_setFar [.code yX4_setFar cX4_setFar 3 none] ({ frames := 0, cells := 0, slots := 0, locals := 0 }) (PT [.ref a0, .int v1, .int v2] sz dC dI G cs tt mm) (va_Qv (fun (u : Nat → va_E) => True) (BT dC dI G cs tt mm) (AT G sz)) 0 0 (AT G sz) := by
  refine Met.ofW (cc := cX4_setFar) (maxL := 3) (ret := none) (by decide) rfl ?_
  intro p e s m args below meth c s₁ B hml hv
  obtain ⟨rfl, hsz, ⟨f0, hok, hP⟩, hK, hnd, hWT, hE⟩ := hv
  have hx := B.exec
  have hb := B.bytes
  have hr := B.returns
  have hown : s.vm.findClass RX4 = some m.cls := findClass_of_methodNamed B.named
  have hlocks := B.notSynchronized
  subst hsz
  have hAL : ∀ a, a ∈ gL G → AT G s.heap.size a := fun a h => Or.inl h
  have hA : ∀ q : Nat, s.heap.size ≤ q → AT G s.heap.size q := fun q h => Or.inr h
  have hS : va_S (AT G s.heap.size) s.heap s.heap [] := va_S.rf
  have hl := lv_entry ([.ref a0, .int v1, .int v2]) (n := 3) (Nat.le_of_ble_eq_true rfl)
  rw [lg_entry_eq]
  generalize (lg_sl ([.ref a0, .int v1, .int v2]) ++ List.replicate (3 - (lg_sl ([.ref a0, .int v1, .int v2])).length) Slot.unset).toArray = ls at hl ⊢
  have hl : lv_has ls 3 [(0, .ref a0), (1, .int v1), (2, .int v2)] := hl
  refine lv_iload_n hx hb dX4_setFar_0 rfl (lv_at hl 1 rfl) ?_
  refine lv_if_lt (tgt := 20) hx hb dX4_setFar_1 (by decide) (fun c1 => ?_) (fun c1 => ?_)
  · exact W.vret hx hb hr (fun t ht hW => ⟨⟨f0, rfl, trivial, hok, by rw [ht]; exact hP⟩, hS.F ht⟩) hS.2.2 dX4_setFar_20
  · refine lv_iload_n hx hb dX4_setFar_4 rfl (lv_at hl 1 rfl) ?_
    refine lv_aload_n hx hb dX4_setFar_5 rfl (lv_at hl 0 rfl) ?_
    obtain ⟨y6_2, y7_2, he2⟩ := ok_X4 hok ha0
    refine th_get hx hb (ly_X4 hE) hown hK hP ha0.1 he2 rfl 5 (by decide) (wd_310 hE) (fun _ h9 => h9) rfl dX4_setFar_6 ?_
    refine th_len1 hx hb hK hP hok (n := 6) (wl_X4_5 hWT ha0) (Or.inl (wt_X4_5 hWT ha0)) dX4_setFar_9 ?_
    refine W.eq (g2 := F0 m 10 ls [.int 6, .int v1]) rfl ?_
    refine lv_icmp_ge (tgt := 20) hx hb dX4_setFar_10 (by decide) (fun c3 => ?_) (fun c3 => ?_)
    · exact W.vret hx hb hr (fun t ht hW => ⟨⟨f0, rfl, trivial, hok, by rw [ht]; exact hP⟩, hS.F ht⟩) hS.2.2 dX4_setFar_20
    · refine lv_aload_n hx hb dX4_setFar_13 rfl (lv_at hl 0 rfl) ?_
      refine th_get hx hb (ly_X4 hE) hown hK hP ha0.1 he2 rfl 5 (by decide) (wd_310 hE) (fun _ h9 => h9) rfl dX4_setFar_14 ?_
      refine lv_iload_n hx hb dX4_setFar_17 rfl (lv_at hl 1 rfl) ?_
      refine lv_iload_n hx hb dX4_setFar_18 rfl (lv_at hl 2 rfl) ?_
      refine th_iast hx hb hK hP hok hnd hAL hS (wt_X4_5 hWT ha0) (n := 6) (wl_X4_5 hWT ha0) (vp_in_iff.mpr (by first | omega | (simp only [i_lt, i_le, i_eq, ti_m9, ti_m1, ti_0, ti_1, ti_2, ti_3, ti_4, ti_5, ti_6, ti_7, ti_9, ti_12, ti_20, ti_99, ti_700, ti_24, ti_72, ti_8, ti_128] at c1 c3 ⊢; omega))) dX4_setFar_19 (fun f4 H locs hfo4 hok hP hS => ?_)
      have he5 := (hfo4 a0 (Ty.ne ha0 (wt_X4_5 hWT ha0) (by decide))).trans he2
      exact W.vret hx hb hr (fun t ht hW => ⟨⟨f4, rfl, trivial, hok, by rw [ht]; exact hP⟩, hS.F ht⟩) hS.2.2 dX4_setFar_20

set_option maxHeartbeats 4000000 in
set_option maxRecDepth 100000 in
theorem t_X4_farOf (l : Launch) (dC : Nat → ClassId) (dI : Nat → Nat → Nat) (sz : Nat) (G : GT) (cs : Nat → ClassId) (tt mm : Nat) (a0 : Nat) (ha0 : Ty G a0 4) (v1 : Int32) : Met l yX4_farOf [.code yX4_farOf cX4_farOf 2 (some .int)] ({ frames := 0, cells := 0, slots := 0, locals := 0 }) (PT [.ref a0, .int v1] sz dC dI G cs tt mm) (vp_Si (fun (r : Int32) => True)) 0 0 (fun _ => False) := by
  refine Met.ofW (cc := cX4_farOf) (maxL := 2) (ret := (some .int)) (by decide) rfl ?_
  intro p e s m args below meth c s₁ B hml hv
  obtain ⟨rfl, hsz, ⟨f0, hok, hP⟩, hK, hnd, hWT, hE⟩ := hv
  have hx := B.exec
  have hb := B.bytes
  have hr := B.returns
  have hown : s.vm.findClass RX4 = some m.cls := findClass_of_methodNamed B.named
  have hlocks := B.notSynchronized
  subst hsz
  have hl := lv_entry ([.ref a0, .int v1]) (n := 2) (Nat.le_of_ble_eq_true rfl)
  rw [lg_entry_eq]
  generalize (lg_sl ([.ref a0, .int v1]) ++ List.replicate (2 - (lg_sl ([.ref a0, .int v1])).length) Slot.unset).toArray = ls at hl ⊢
  have hl : lv_has ls 2 [(0, .ref a0), (1, .int v1)] := hl
  refine lv_iload_n hx hb dX4_farOf_0 rfl (lv_at hl 1 rfl) ?_
  refine lv_if_lt (tgt := 13) hx hb dX4_farOf_1 (by decide) (fun c1 => ?_) (fun c1 => ?_)
  · refine lv_iconst (v := -1) hx hb dX4_farOf_13 (by decide) ?_
    refine lv_goto (tgt := 23) hx hb dX4_farOf_14 (by decide) ?_
    exact W.iret (v := -1) hx hb hr (fun t ht hW => ⟨-1, rfl, trivial, ht⟩) (fun _ h => absurd h List.not_mem_nil) dX4_farOf_23
  · refine lv_iload_n hx hb dX4_farOf_4 rfl (lv_at hl 1 rfl) ?_
    refine lv_aload_n hx hb dX4_farOf_5 rfl (lv_at hl 0 rfl) ?_
    obtain ⟨y6_2, y7_2, he2⟩ := ok_X4 hok ha0
    refine th_get hx hb (ly_X4 hE) hown hK hP ha0.1 he2 rfl 5 (by decide) (wd_310 hE) (fun _ h9 => h9) rfl dX4_farOf_6 ?_
    refine th_len1 hx hb hK hP hok (n := 6) (wl_X4_5 hWT ha0) (Or.inl (wt_X4_5 hWT ha0)) dX4_farOf_9 ?_
    refine W.eq (g2 := F0 m 10 ls [.int 6, .int v1]) rfl ?_
    refine lv_icmp_lt (tgt := 17) hx hb dX4_farOf_10 (by decide) (fun c3 => ?_) (fun c3 => ?_)
    · refine lv_aload_n hx hb dX4_farOf_17 rfl (lv_at hl 0 rfl) ?_
      refine th_get hx hb (ly_X4 hE) hown hK hP ha0.1 he2 rfl 5 (by decide) (wd_310 hE) (fun _ h9 => h9) rfl dX4_farOf_18 ?_
      refine lv_iload_n hx hb dX4_farOf_21 rfl (lv_at hl 1 rfl) ?_
      refine th_iald hx hb hK hP hok (wt_X4_5 hWT ha0) (n := 6) (wl_X4_5 hWT ha0) (vp_in_iff.mpr (by first | omega | (simp only [i_lt, i_le, i_eq, ti_m9, ti_m1, ti_0, ti_1, ti_2, ti_3, ti_4, ti_5, ti_6, ti_7, ti_9, ti_12, ti_20, ti_99, ti_700, ti_24, ti_72, ti_8, ti_128] at c1 c3 ⊢; omega))) dX4_farOf_22 (fun x4 => ?_)
      exact W.iret (v := x4) hx hb hr (fun t ht hW => ⟨x4, rfl, trivial, ht⟩) (fun _ h => absurd h List.not_mem_nil) dX4_farOf_23
    · refine lv_iconst (v := -1) hx hb dX4_farOf_13 (by decide) ?_
      refine lv_goto (tgt := 23) hx hb dX4_farOf_14 (by decide) ?_
      exact W.iret (v := -1) hx hb hr (fun t ht hW => ⟨-1, rfl, trivial, ht⟩) (fun _ h => absurd h List.not_mem_nil) dX4_farOf_23

set_option maxHeartbeats 4000000 in
set_option maxRecDepth 100000 in
theorem t_X4_begunBehind (l : Launch) (dC : Nat → ClassId) (dI : Nat → Nat → Nat) (sz : Nat) (G : GT) (cs : Nat → ClassId) (tt mm : Nat) (a0 : Nat) (ha0 : Ty G a0 4) : Met l yX4_begunBehind [.code yX4_begunBehind cX4_begunBehind 1 (some .int)] ({ frames := 0, cells := 0, slots := 0, locals := 0 }) (PT [.ref a0] sz dC dI G cs tt mm) (vp_Si (fun (r : Int32) => True)) 0 0 (fun _ => False) := by
  refine Met.ofW (cc := cX4_begunBehind) (maxL := 1) (ret := (some .int)) (by decide) rfl ?_
  intro p e s m args below meth c s₁ B hml hv
  obtain ⟨rfl, hsz, ⟨f0, hok, hP⟩, hK, hnd, hWT, hE⟩ := hv
  have hx := B.exec
  have hb := B.bytes
  have hr := B.returns
  have hown : s.vm.findClass RX4 = some m.cls := findClass_of_methodNamed B.named
  have hlocks := B.notSynchronized
  subst hsz
  have hl := lv_entry ([.ref a0]) (n := 1) (Nat.le_of_ble_eq_true rfl)
  rw [lg_entry_eq]
  generalize (lg_sl ([.ref a0]) ++ List.replicate (1 - (lg_sl ([.ref a0])).length) Slot.unset).toArray = ls at hl ⊢
  have hl : lv_has ls 1 [(0, .ref a0)] := hl
  refine lv_aload_n hx hb dX4_begunBehind_0 rfl (lv_at hl 0 rfl) ?_
  obtain ⟨y6_1, y7_1, he1⟩ := ok_X4 hok ha0
  refine th_get hx hb (ly_X4 hE) hown hK hP ha0.1 he1 rfl 6 (by decide) (wd_311 hE) (fun _ h9 => h9) rfl dX4_begunBehind_1 ?_
  exact W.iret (v := y6_1) hx hb hr (fun t ht hW => ⟨y6_1, rfl, trivial, ht⟩) (fun _ h => absurd h List.not_mem_nil) dX4_begunBehind_4

set_option maxHeartbeats 4000000 in
set_option maxRecDepth 100000 in
theorem t_X4_numberTaken (l : Launch) (dC : Nat → ClassId) (dI : Nat → Nat → Nat) (sz : Nat) (G : GT) (cs : Nat → ClassId) (tt mm : Nat) (a0 : Nat) (ha0 : Ty G a0 4) : Met l yX4_numberTaken [.code yX4_numberTaken cX4_numberTaken 1 (some .int)] ({ frames := 0, cells := 0, slots := 0, locals := 0 }) (PT [.ref a0] sz dC dI G cs tt mm) (vp_Si (fun (r : Int32) => True)) 0 0 (fun _ => False) := by
  refine Met.ofW (cc := cX4_numberTaken) (maxL := 1) (ret := (some .int)) (by decide) rfl ?_
  intro p e s m args below meth c s₁ B hml hv
  obtain ⟨rfl, hsz, ⟨f0, hok, hP⟩, hK, hnd, hWT, hE⟩ := hv
  have hx := B.exec
  have hb := B.bytes
  have hr := B.returns
  have hown : s.vm.findClass RX4 = some m.cls := findClass_of_methodNamed B.named
  have hlocks := B.notSynchronized
  subst hsz
  have hl := lv_entry ([.ref a0]) (n := 1) (Nat.le_of_ble_eq_true rfl)
  rw [lg_entry_eq]
  generalize (lg_sl ([.ref a0]) ++ List.replicate (1 - (lg_sl ([.ref a0])).length) Slot.unset).toArray = ls at hl ⊢
  have hl : lv_has ls 1 [(0, .ref a0)] := hl
  refine lv_aload_n hx hb dX4_numberTaken_0 rfl (lv_at hl 0 rfl) ?_
  obtain ⟨y6_1, y7_1, he1⟩ := ok_X4 hok ha0
  refine th_get hx hb (ly_X4 hE) hown hK hP ha0.1 he1 rfl 7 (by decide) (wd_312 hE) (fun _ h9 => h9) rfl dX4_numberTaken_1 ?_
  exact W.iret (v := y7_1) hx hb hr (fun t ht hW => ⟨y7_1, rfl, trivial, ht⟩) (fun _ h => absurd h List.not_mem_nil) dX4_numberTaken_4

set_option maxHeartbeats 4000000 in
set_option maxRecDepth 100000 in
theorem t_X4_reachesNumber (l : Launch) (dC : Nat → ClassId) (dI : Nat → Nat → Nat) (sz : Nat) (G : GT) (cs : Nat → ClassId) (tt mm : Nat) (a0 : Nat) (ha0 : Ty G a0 4) (a1 : Nat) (ha1 : Ty G a1 7) : Met l yX4_reachesNumber [.code yX4_reachesNumber cX4_reachesNumber 4 (some .boolean)] ({ frames := 1, cells := 0, slots := 0, locals := 40 }) (PT [.ref a0, .ref a1] sz dC dI G cs tt mm) (va_Qi (fun (r : Int32) (u : Nat → va_E) => r = 0 ∨ r = 1) (BT dC dI G cs tt mm) (AT G sz)) 0 0 (AT G sz) := by
  refine Met.ofW (cc := cX4_reachesNumber) (maxL := 4) (ret := (some .boolean)) (by decide) rfl ?_
  intro p e s m args below meth c s₁ B hml hv
  obtain ⟨rfl, hsz, ⟨f0, hok, hP⟩, hK, hnd, hWT, hE⟩ := hv
  have hx := B.exec
  have hb := B.bytes
  have hr := B.returns
  have hown : s.vm.findClass RX4 = some m.cls := findClass_of_methodNamed B.named
  have hlocks := B.notSynchronized
  subst hsz
  have hAL : ∀ a, a ∈ gL G → AT G s.heap.size a := fun a h => Or.inl h
  have hA : ∀ q : Nat, s.heap.size ≤ q → AT G s.heap.size q := fun q h => Or.inr h
  have hS : va_S (AT G s.heap.size) s.heap s.heap [] := va_S.rf
  have hl := lv_entry ([.ref a0, .ref a1]) (n := 4) (Nat.le_of_ble_eq_true rfl)
  rw [lg_entry_eq]
  generalize (lg_sl ([.ref a0, .ref a1]) ++ List.replicate (4 - (lg_sl ([.ref a0, .ref a1])).length) Slot.unset).toArray = ls at hl ⊢
  have hl : lv_has ls 4 [(0, .ref a0), (1, .ref a1)] := hl
  refine lv_aload_n hx hb dX4_reachesNumber_0 rfl (lv_at hl 0 rfl) ?_
  obtain ⟨y6_1, y7_1, he1⟩ := ok_X4 hok ha0
  refine th_get hx hb (ly_X4 hE) hown hK hP ha0.1 he1 rfl 1 (by decide) (wd_306 hE) (fun _ h9 => h9) rfl dX4_reachesNumber_1 ?_
  refine lv_iconst (v := 0) hx hb dX4_reachesNumber_4 (by decide) ?_
  obtain ⟨y2_2, y3_2, hy3_2, he2⟩ := ok_X10 hok (wt_X4_1 hWT ha0)
  refine vp_callSi (va_Run.run (va_runV (As := [.int 0]) (rest := []) ⟨hx, hb, hml, hown, noTs⟩ (t_X10_numberAt l dC dI s.heap.size G cs tt mm (gR G a0 1) ((wt_X4_1 hWT ha0)) 0) ⟨cbE 1 (wd_717 hE) (wd_120 hE) (wd_1112 hE) rfl rfl (by decide +kernel) ⟨Nat.le_of_ble_eq_true rfl, Nat.le_of_ble_eq_true rfl⟩, (wd_715 hE), (wd_716 hE)⟩ ⟨PT.blind, th_recv hK hP (wt_X4_1 hWT ha0).1 he2 rfl, (th_pre (av := [.ref (gR G a0 1), .int 0]) hK hP hok hnd hWT hE)⟩ rfl rfl hl.1 rfl (lv_room (Nat.le_of_ble_eq_true rfl)) dX4_reachesNumber_5 ⟨Nat.le_of_ble_eq_true rfl, Nat.le_of_ble_eq_true rfl⟩)) (fun r3 hr3 => ?_)
  refine lv_aload_n hx hb dX4_reachesNumber_8 rfl (lv_at hl 1 rfl) ?_
  refine lv_aload_n hx hb dX4_reachesNumber_9 rfl (lv_at hl 0 rfl) ?_
  refine th_get hx hb (ly_X4 hE) hown hK hP ha0.1 he1 rfl 0 (by decide) (wd_305 hE) (fun _ h9 => h9) rfl dX4_reachesNumber_10 ?_
  obtain ⟨y2_4, y3_4, hy3_4, he4⟩ := ok_X10 hok (wt_X4_0 hWT ha0)
  refine vp_callSi (va_Run.run (va_runV (As := []) (rest := [.ref a1, .int r3]) ⟨hx, hb, hml, hown, noTs⟩ (t_X10_begin l dC dI s.heap.size G cs tt mm (gR G a0 0) ((wt_X4_0 hWT ha0))) ⟨cbE 0 (wd_713 hE) (wd_120 hE) (wd_1113 hE) rfl rfl (by decide +kernel) ⟨Nat.le_of_ble_eq_true rfl, Nat.le_of_ble_eq_true rfl⟩, (wd_711 hE), (wd_712 hE)⟩ ⟨PT.blind, th_recv hK hP (wt_X4_0 hWT ha0).1 he4 rfl, (th_pre (av := [.ref (gR G a0 0)]) hK hP hok hnd hWT hE)⟩ rfl rfl hl.1 rfl (lv_room (Nat.le_of_ble_eq_true rfl)) dX4_reachesNumber_13 ⟨Nat.le_of_ble_eq_true rfl, Nat.le_of_ble_eq_true rfl⟩)) (fun r5 hr5 => ?_)
  have he6 := ok_X7 hok ha1
  refine vp_callSi (va_Run.run (va_runV (As := [.int r5]) (rest := [.int r3]) ⟨hx, hb, hml, hown, noTs⟩ (t_X7_orderAt l dC dI s.heap.size G cs tt mm a1 ha1 r5) ⟨cbE 1 (wd_614 hE) (wd_116 hE) (wd_1114 hE) rfl rfl (by decide +kernel) ⟨Nat.le_of_ble_eq_true rfl, Nat.le_of_ble_eq_true rfl⟩, (wd_612 hE), (wd_613 hE)⟩ ⟨PT.blind, th_recv hK hP ha1.1 he6 rfl, (th_pre (av := [.ref a1, .int r5]) hK hP hok hnd hWT hE)⟩ rfl rfl hl.1 rfl (lv_room (Nat.le_of_ble_eq_true rfl)) dX4_reachesNumber_16 ⟨Nat.le_of_ble_eq_true rfl, Nat.le_of_ble_eq_true rfl⟩)) (fun r7 hr7 => ?_)
  refine lv_imul hx hb dX4_reachesNumber_19 ?_
  refine lv_topi (fun x8 _ => ?_)
  refine lv_istore_n (lv' := [(2, .int x8), (0, .ref a0), (1, .ref a1)]) hx hb dX4_reachesNumber_20 rfl hl (by decide) rfl (fun ls hl => ?_)
  refine lv_aload_n hx hb dX4_reachesNumber_21 rfl (lv_at hl 1 rfl) ?_
  refine th_get hx hb (ly_X4 hE) hown hK hP ha0.1 he1 rfl 0 (by decide) (wd_305 hE) (fun _ h9 => h9) rfl dX4_reachesNumber_22 ?_
  refine lv_iconst (v := 0) hx hb dX4_reachesNumber_25 (by decide) ?_
  refine vp_callSi (va_Run.run (va_runV (As := [.int 0]) (rest := []) ⟨hx, hb, hml, hown, noTs⟩ (t_X10_numberAt l dC dI s.heap.size G cs tt mm (gR G a0 0) ((wt_X4_0 hWT ha0)) 0) ⟨cbE 1 (wd_717 hE) (wd_120 hE) (wd_1112 hE) rfl rfl (by decide +kernel) ⟨Nat.le_of_ble_eq_true rfl, Nat.le_of_ble_eq_true rfl⟩, (wd_715 hE), (wd_716 hE)⟩ ⟨PT.blind, th_recv hK hP (wt_X4_0 hWT ha0).1 he4 rfl, (th_pre (av := [.ref (gR G a0 0), .int 0]) hK hP hok hnd hWT hE)⟩ rfl rfl hl.1 rfl (lv_room (Nat.le_of_ble_eq_true rfl)) dX4_reachesNumber_26 ⟨Nat.le_of_ble_eq_true rfl, Nat.le_of_ble_eq_true rfl⟩)) (fun r9 hr9 => ?_)
  refine lv_aload_n hx hb dX4_reachesNumber_29 rfl (lv_at hl 2 rfl) ?_
  refine lv_aload_n hx hb dX4_reachesNumber_30 rfl (lv_at hl 1 rfl) ?_
  refine th_get hx hb (ly_X4 hE) hown hK hP ha0.1 he1 rfl 1 (by decide) (wd_306 hE) (fun _ h9 => h9) rfl dX4_reachesNumber_31 ?_
  refine vp_callSi (va_Run.run (va_runV (As := []) (rest := [.ref a1, .int r9]) ⟨hx, hb, hml, hown, noTs⟩ (t_X10_begin l dC dI s.heap.size G cs tt mm (gR G a0 1) ((wt_X4_1 hWT ha0))) ⟨cbE 0 (wd_713 hE) (wd_120 hE) (wd_1113 hE) rfl rfl (by decide +kernel) ⟨Nat.le_of_ble_eq_true rfl, Nat.le_of_ble_eq_true rfl⟩, (wd_711 hE), (wd_712 hE)⟩ ⟨PT.blind, th_recv hK hP (wt_X4_1 hWT ha0).1 he2 rfl, (th_pre (av := [.ref (gR G a0 1)]) hK hP hok hnd hWT hE)⟩ rfl rfl hl.1 rfl (lv_room (Nat.le_of_ble_eq_true rfl)) dX4_reachesNumber_34 ⟨Nat.le_of_ble_eq_true rfl, Nat.le_of_ble_eq_true rfl⟩)) (fun r10 hr10 => ?_)
  refine vp_callSi (va_Run.run (va_runV (As := [.int r10]) (rest := [.int r9]) ⟨hx, hb, hml, hown, noTs⟩ (t_X7_orderAt l dC dI s.heap.size G cs tt mm a1 ha1 r10) ⟨cbE 1 (wd_614 hE) (wd_116 hE) (wd_1114 hE) rfl rfl (by decide +kernel) ⟨Nat.le_of_ble_eq_true rfl, Nat.le_of_ble_eq_true rfl⟩, (wd_612 hE), (wd_613 hE)⟩ ⟨PT.blind, th_recv hK hP ha1.1 he6 rfl, (th_pre (av := [.ref a1, .int r10]) hK hP hok hnd hWT hE)⟩ rfl rfl hl.1 rfl (lv_room (Nat.le_of_ble_eq_true rfl)) dX4_reachesNumber_37 ⟨Nat.le_of_ble_eq_true rfl, Nat.le_of_ble_eq_true rfl⟩)) (fun r11 hr11 => ?_)
  refine lv_imul hx hb dX4_reachesNumber_40 ?_
  refine lv_topi (fun x12 _ => ?_)
  refine lv_istore_n (lv' := [(3, .int x12), (2, .int x8), (0, .ref a0), (1, .ref a1)]) hx hb dX4_reachesNumber_41 rfl hl (by decide) rfl (fun ls hl => ?_)
  refine lv_aload_n hx hb dX4_reachesNumber_42 rfl (lv_at hl 2 rfl) ?_
  refine lv_aload_n hx hb dX4_reachesNumber_43 rfl (lv_at hl 2 rfl) ?_
  refine lv_aload_n hx hb dX4_reachesNumber_44 rfl (lv_at hl 2 rfl) ?_
  refine th_get hx hb (ly_X4 hE) hown hK hP ha0.1 he1 rfl 1 (by decide) (wd_306 hE) (fun _ h9 => h9) rfl dX4_reachesNumber_45 ?_
  refine vp_callSi (va_Run.run (va_runV (As := []) (rest := [.ref a0, .ref a0]) ⟨hx, hb, hml, hown, noTs⟩ (t_X10_begin l dC dI s.heap.size G cs tt mm (gR G a0 1) ((wt_X4_1 hWT ha0))) ⟨cbE 0 (wd_713 hE) (wd_120 hE) (wd_1113 hE) rfl rfl (by decide +kernel) ⟨Nat.le_of_ble_eq_true rfl, Nat.le_of_ble_eq_true rfl⟩, (wd_711 hE), (wd_712 hE)⟩ ⟨PT.blind, th_recv hK hP (wt_X4_1 hWT ha0).1 he2 rfl, (th_pre (av := [.ref (gR G a0 1)]) hK hP hok hnd hWT hE)⟩ rfl rfl hl.1 rfl (lv_room (Nat.le_of_ble_eq_true rfl)) dX4_reachesNumber_48 ⟨Nat.le_of_ble_eq_true rfl, Nat.le_of_ble_eq_true rfl⟩)) (fun r13 hr13 => ?_)
  refine vp_callSi (va_Run.run (va_runV (As := [.int r13]) (rest := [.ref a0]) ⟨hx, hb, hml, hown, noTs⟩ (t_X4_farOf l dC dI s.heap.size G cs tt mm a0 ha0 r13) ⟨cbE 1 (wd_1126 hE) (wd_122 hE) (wd_1123 hE) rfl rfl (by decide +kernel) ⟨Nat.le_of_ble_eq_true rfl, Nat.le_of_ble_eq_true rfl⟩, (wd_1125 hE), (wd_42 hE)⟩ ⟨PT.blind, th_recv hK hP ha0.1 he1 rfl, (th_pre (av := [.ref a0, .int r13]) hK hP hok hnd hWT hE)⟩ rfl rfl hl.1 rfl (lv_room (Nat.le_of_ble_eq_true rfl)) dX4_reachesNumber_51 ⟨Nat.le_of_ble_eq_true rfl, Nat.le_of_ble_eq_true rfl⟩)) (fun r14 hr14 => ?_)
  refine th_put (v := .int r14) (ty := .int) hx hb (ly_X4 hE) tyX4 tyX4_ok nmX4 hown hK hP hnd hAL hS ha0.1 he1 rfl 6 (by decide) (wd_311 hE) (fun _ h9 => h9) rfl (by decide +kernel) rfl rfl (Nat.le_of_ble_eq_true rfl) (up_X4 hok ha0 ⟨r14, y7_1, rfl⟩) dX4_reachesNumber_54 (fun f15 H locs hfa15 hfo15 hok hP hS => ?_)
  have he16 := (hfo15 (gR G a0 1) (Ty.ne (wt_X4_1 hWT ha0) ha0 (by decide))).trans he2
  have he17 := (hfo15 (gR G a0 0) (Ty.ne (wt_X4_0 hWT ha0) ha0 (by decide))).trans he4
  have he18 := (hfo15 a1 (Ty.ne ha1 ha0 (by decide))).trans he6
  refine lv_aload_n hx hb dX4_reachesNumber_57 rfl (lv_at hl 2 rfl) ?_
  refine lv_iconst (v := 0) hx hb dX4_reachesNumber_58 (by decide) ?_
  refine th_put (v := .int 0) (ty := .int) hx hb (ly_X4 hE) tyX4 tyX4_ok nmX4 hown hK hP hnd hAL hS ha0.1 hfa15 rfl 7 (by decide) (wd_312 hE) (fun _ h9 => h9) rfl (by decide +kernel) rfl rfl (Nat.le_of_ble_eq_true rfl) (up_X4 hok ha0 ⟨r14, 0, rfl⟩) dX4_reachesNumber_59 (fun f19 H locs hfa19 hfo19 hok hP hS => ?_)
  have he20 := (hfo19 (gR G a0 1) (Ty.ne (wt_X4_1 hWT ha0) ha0 (by decide))).trans he16
  have he21 := (hfo19 (gR G a0 0) (Ty.ne (wt_X4_0 hWT ha0) ha0 (by decide))).trans he17
  have he22 := (hfo19 a1 (Ty.ne ha1 ha0 (by decide))).trans he18
  refine lv_aload_n hx hb dX4_reachesNumber_62 rfl (lv_at hl 2 rfl) ?_
  refine th_get hx hb (ly_X4 hE) hown hK hP ha0.1 hfa19 rfl 6 (by decide) (wd_311 hE) (fun _ h9 => h9) rfl dX4_reachesNumber_63 ?_
  refine lv_if_lt (tgt := 78) hx hb dX4_reachesNumber_66 (by decide) (fun c23 => ?_) (fun c23 => ?_)
  · refine lv_iconst (v := 0) hx hb dX4_reachesNumber_78 (by decide) ?_
    exact W.zret (v := 0) hx hb hr rfl (fun t ht hW => ⟨⟨0, f19, rfl, Or.inl rfl, hok, by rw [ht]; exact hP⟩, hS.F ht⟩) hS.2.2 dX4_reachesNumber_79
  · refine lv_iload_n hx hb dX4_reachesNumber_69 rfl (lv_at hl 1 rfl) ?_
    refine lv_iload_n hx hb dX4_reachesNumber_70 rfl (lv_at hl 0 rfl) ?_
    refine lv_icmp_ne (tgt := 78) hx hb dX4_reachesNumber_71 (by decide) (fun c24 => ?_) (fun c24 => ?_)
    · refine lv_iconst (v := 0) hx hb dX4_reachesNumber_78 (by decide) ?_
      exact W.zret (v := 0) hx hb hr rfl (fun t ht hW => ⟨⟨0, f19, rfl, Or.inl rfl, hok, by rw [ht]; exact hP⟩, hS.F ht⟩) hS.2.2 dX4_reachesNumber_79
    · refine lv_iconst (v := 1) hx hb dX4_reachesNumber_74 (by decide) ?_
      refine lv_goto (tgt := 79) hx hb dX4_reachesNumber_75 (by decide) ?_
      exact W.zret (v := 1) hx hb hr rfl (fun t ht hW => ⟨⟨1, f19, rfl, Or.inr rfl, hok, by rw [ht]; exact hP⟩, hS.F ht⟩) hS.2.2 dX4_reachesNumber_79

set_option maxHeartbeats 4000000 in
set_option maxRecDepth 100000 in
theorem t_X4_findNumber (l : Launch) (dC : Nat → ClassId) (dI : Nat → Nat → Nat) (sz : Nat) (G : GT) (cs : Nat → ClassId) (tt mm : Nat) (a0 : Nat) (ha0 : Ty G a0 4) (a1 : Nat) (ha1 : Ty G a1 7) : Met l yX4_findNumber [.code yX4_findNumber cX4_findNumber 6 (some .boolean)] ({ frames := 2, cells := 0, slots := 0, locals := 80 }) (PT [.ref a0, .ref a1] sz dC dI G cs tt mm) (va_Qi (fun (r : Int32) (u : Nat → va_E) => r = 0 ∨ r = 1) (BT dC dI G cs tt mm) (AT G sz)) 0 0 (AT G sz) := by
  refine Met.ofW (cc := cX4_findNumber) (maxL := 6) (ret := (some .boolean)) (by decide) rfl ?_
  intro p e s m args below meth c s₁ B hml hv
  obtain ⟨rfl, hsz, ⟨f0, hok, hP⟩, hK, hnd, hWT, hE⟩ := hv
  have hx := B.exec
  have hb := B.bytes
  have hr := B.returns
  have hown : s.vm.findClass RX4 = some m.cls := findClass_of_methodNamed B.named
  have hlocks := B.notSynchronized
  subst hsz
  have hAL : ∀ a, a ∈ gL G → AT G s.heap.size a := fun a h => Or.inl h
  have hA : ∀ q : Nat, s.heap.size ≤ q → AT G s.heap.size q := fun q h => Or.inr h
  have hS : va_S (AT G s.heap.size) s.heap s.heap [] := va_S.rf
  have hl := lv_entry ([.ref a0, .ref a1]) (n := 6) (Nat.le_of_ble_eq_true rfl)
  rw [lg_entry_eq]
  generalize (lg_sl ([.ref a0, .ref a1]) ++ List.replicate (6 - (lg_sl ([.ref a0, .ref a1])).length) Slot.unset).toArray = ls at hl ⊢
  have hl : lv_has ls 6 [(0, .ref a0), (1, .ref a1)] := hl
  refine lv_aload_n hx hb dX4_findNumber_0 rfl (lv_at hl 1 rfl) ?_
  refine lv_aload_n hx hb dX4_findNumber_1 rfl (lv_at hl 0 rfl) ?_
  obtain ⟨y6_1, y7_1, he1⟩ := ok_X4 hok ha0
  refine th_get hx hb (ly_X4 hE) hown hK hP ha0.1 he1 rfl 2 (by decide) (wd_307 hE) (fun _ h9 => h9) rfl dX4_findNumber_2 ?_
  obtain ⟨y2_2, y3_2, hy3_2, he2⟩ := ok_X10 hok (wt_X4_2 hWT ha0)
  refine vp_callSi (va_Run.run (va_runV (As := []) (rest := [.ref a1]) ⟨hx, hb, hml, hown, noTs⟩ (t_X10_begin l dC dI s.heap.size G cs tt mm (gR G a0 2) ((wt_X4_2 hWT ha0))) ⟨cbE 0 (wd_713 hE) (wd_120 hE) (wd_1113 hE) rfl rfl (by decide +kernel) ⟨Nat.le_of_ble_eq_true rfl, Nat.le_of_ble_eq_true rfl⟩, (wd_711 hE), (wd_712 hE)⟩ ⟨PT.blind, th_recv hK hP (wt_X4_2 hWT ha0).1 he2 rfl, (th_pre (av := [.ref (gR G a0 2)]) hK hP hok hnd hWT hE)⟩ rfl rfl hl.1 rfl (lv_room (Nat.le_of_ble_eq_true rfl)) dX4_findNumber_5 ⟨Nat.le_of_ble_eq_true rfl, Nat.le_of_ble_eq_true rfl⟩)) (fun r3 hr3 => ?_)
  have he4 := ok_X7 hok ha1
  refine vp_callSi (va_Run.run (va_runV (As := [.int r3]) (rest := []) ⟨hx, hb, hml, hown, noTs⟩ (t_X7_orderAt l dC dI s.heap.size G cs tt mm a1 ha1 r3) ⟨cbE 1 (wd_614 hE) (wd_116 hE) (wd_1114 hE) rfl rfl (by decide +kernel) ⟨Nat.le_of_ble_eq_true rfl, Nat.le_of_ble_eq_true rfl⟩, (wd_612 hE), (wd_613 hE)⟩ ⟨PT.blind, th_recv hK hP ha1.1 he4 rfl, (th_pre (av := [.ref a1, .int r3]) hK hP hok hnd hWT hE)⟩ rfl rfl hl.1 rfl (lv_room (Nat.le_of_ble_eq_true rfl)) dX4_findNumber_8 ⟨Nat.le_of_ble_eq_true rfl, Nat.le_of_ble_eq_true rfl⟩)) (fun r5 hr5 => ?_)
  refine lv_istore_n (lv' := [(2, .int r5), (0, .ref a0), (1, .ref a1)]) hx hb dX4_findNumber_11 rfl hl (by decide) rfl (fun ls hl => ?_)
  refine lv_aload_n hx hb dX4_findNumber_12 rfl (lv_at hl 1 rfl) ?_
  refine th_get hx hb (ly_X4 hE) hown hK hP ha0.1 he1 rfl 2 (by decide) (wd_307 hE) (fun _ h9 => h9) rfl dX4_findNumber_13 ?_
  refine lv_iconst (v := 0) hx hb dX4_findNumber_16 (by decide) ?_
  refine vp_callSi (va_Run.run (va_runV (As := [.int 0]) (rest := []) ⟨hx, hb, hml, hown, noTs⟩ (t_X10_numberAt l dC dI s.heap.size G cs tt mm (gR G a0 2) ((wt_X4_2 hWT ha0)) 0) ⟨cbE 1 (wd_717 hE) (wd_120 hE) (wd_1112 hE) rfl rfl (by decide +kernel) ⟨Nat.le_of_ble_eq_true rfl, Nat.le_of_ble_eq_true rfl⟩, (wd_715 hE), (wd_716 hE)⟩ ⟨PT.blind, th_recv hK hP (wt_X4_2 hWT ha0).1 he2 rfl, (th_pre (av := [.ref (gR G a0 2), .int 0]) hK hP hok hnd hWT hE)⟩ rfl rfl hl.1 rfl (lv_room (Nat.le_of_ble_eq_true rfl)) dX4_findNumber_17 ⟨Nat.le_of_ble_eq_true rfl, Nat.le_of_ble_eq_true rfl⟩)) (fun r6 hr6 => ?_)
  refine lv_istore_n (lv' := [(3, .int r6), (2, .int r5), (0, .ref a0), (1, .ref a1)]) hx hb dX4_findNumber_20 rfl hl (by decide) rfl (fun ls hl => ?_)
  refine lv_aload_n hx hb dX4_findNumber_21 rfl (lv_at hl 2 rfl) ?_
  refine th_get hx hb (ly_X4 hE) hown hK hP ha0.1 he1 rfl 2 (by decide) (wd_307 hE) (fun _ h9 => h9) rfl dX4_findNumber_22 ?_
  refine vp_callSi (va_Run.run (va_runV (As := []) (rest := []) ⟨hx, hb, hml, hown, noTs⟩ (t_X10_lastNumber l dC dI s.heap.size G cs tt mm (gR G a0 2) ((wt_X4_2 hWT ha0))) ⟨cbE 0 (wd_649 hE) (wd_120 hE) (wd_1160 hE) rfl rfl (by decide +kernel) ⟨Nat.le_of_ble_eq_true rfl, Nat.le_of_ble_eq_true rfl⟩, (wd_647 hE), (wd_648 hE)⟩ ⟨PT.blind, th_recv hK hP (wt_X4_2 hWT ha0).1 he2 rfl, (th_pre (av := [.ref (gR G a0 2)]) hK hP hok hnd hWT hE)⟩ rfl rfl hl.1 rfl (lv_room (Nat.le_of_ble_eq_true rfl)) dX4_findNumber_25 ⟨Nat.le_of_ble_eq_true rfl, Nat.le_of_ble_eq_true rfl⟩)) (fun r7 hr7 => ?_)
  refine lv_istore (lv' := [(4, .int r7), (3, .int r6), (2, .int r5), (0, .ref a0), (1, .ref a1)]) hx hb dX4_findNumber_28 hl (by decide) rfl (fun ls hl => ?_)
  refine lv_iconst (v := 0) hx hb dX4_findNumber_30 (by decide) ?_
  refine lv_istore (lv' := [(5, .int 0), (4, .int r7), (3, .int r6), (2, .int r5), (0, .ref a0), (1, .ref a1)]) hx hb dX4_findNumber_31 hl (by decide) rfl (fun ls hl => ?_)
  refine w_ind (I := fun n f H locs ls => OKT G cs tt mm f ∧ va_P (dC, dI) vwCl (va_pl (gL G) f) H ∧ va_S (AT G s.heap.size) s.heap H locs ∧ ∃ (w5_8 : Int32), n = (2147483647 - w5_8.toInt).toNat ∧ 0 ≤ w5_8 ∧ lv_has ls 6 [(0, .ref a0), (1, .ref a1), (2, .int r5), (3, .int r6), (4, .int r7), (5, .int w5_8)]) (fun n f8 H locs ls hI ih8 => ?_) _ f0 _ _ _ ⟨hok, hP, hS, 0, rfl, (by first | omega | (simp only [i_lt, i_le, i_eq, ti_m9, ti_m1, ti_0, ti_1, ti_2, ti_3, ti_4, ti_5, ti_6, ti_7, ti_9, ti_12, ti_20, ti_99, ti_700, ti_24, ti_72, ti_8, ti_128]; omega)), lv_sub hl [4, 5, 3, 2, 1, 0] rfl⟩
  obtain ⟨hok, hP, hS, w5_8, hmu8, hlo8, hl⟩ := hI
  subst hmu8
  refine lv_iload hx hb dX4_findNumber_33 (lv_at hl 5 rfl) ?_
  refine lv_iload_n hx hb dX4_findNumber_35 rfl (lv_at hl 2 rfl) ?_
  refine lv_icmp_ge (tgt := 106) hx hb dX4_findNumber_36 (by decide) (fun c9 => ?_) (fun c9 => ?_)
  · refine lv_iconst (v := 0) hx hb dX4_findNumber_106 (by decide) ?_
    exact W.zret (v := 0) hx hb hr rfl (fun t ht hW => ⟨⟨0, f8, rfl, Or.inl rfl, hok, by rw [ht]; exact hP⟩, hS.F ht⟩) hS.2.2 dX4_findNumber_107
  · refine lv_aload_n hx hb dX4_findNumber_39 rfl (lv_at hl 0 rfl) ?_
    obtain ⟨y6_10, y7_10, he10⟩ := ok_X4 hok ha0
    refine th_get hx hb (ly_X4 hE) hown hK hP ha0.1 he10 rfl 2 (by decide) (wd_307 hE) (fun _ h9 => h9) rfl dX4_findNumber_40 ?_
    refine lv_iconst (v := 0) hx hb dX4_findNumber_43 (by decide) ?_
    refine lv_iload_n hx hb dX4_findNumber_44 rfl (lv_at hl 3 rfl) ?_
    refine lv_iload hx hb dX4_findNumber_45 (lv_at hl 5 rfl) ?_
    refine lv_isub hx hb dX4_findNumber_47 ?_
    refine lv_topi (fun x11 _ => ?_)
    refine lv_iload_n hx hb dX4_findNumber_48 rfl (lv_at hl 2 rfl) ?_
    refine vp_callSi (va_Run.run (va_runSN (As := [.int x11, .int r5]) (rest := [.int 0, .ref (gR G a0 2)]) ⟨hx, hb, hml, hown, noTs⟩ (t_X11_rest l dC dI H.size G cs tt mm x11 r5) ⟨cnE 2 (wd_617 hE) (wd_115 hE) (wd_1129 hE) rfl rfl (by decide +kernel) ⟨Nat.le_of_ble_eq_true rfl, Nat.le_of_ble_eq_true rfl⟩, (wd_616 hE), trivial⟩ ⟨PT.blind, (th_pre (av := [.int x11, .int r5]) hK hP hok hnd hWT hE)⟩ rfl rfl hl.1 rfl (lv_room (Nat.le_of_ble_eq_true rfl)) dX4_findNumber_49 ⟨Nat.le_of_ble_eq_true rfl, Nat.le_of_ble_eq_true rfl⟩)) (fun r12 hr12 => ?_)
    obtain ⟨y2_13, y3_13, hy3_13, he13⟩ := ok_X10 hok (wt_X4_2 hWT ha0)
    refine tc_v hAL hS hA (va_runV (As := [.int 0, .int r12]) (rest := []) ⟨hx, hb, hml, hown, noTs⟩ (t_X10_putNumber l dC dI H.size G cs tt mm (gR G a0 2) ((wt_X4_2 hWT ha0)) 0 r12) ⟨cbE 2 (wd_654 hE) (wd_120 hE) (wd_1161 hE) rfl rfl (by decide +kernel) ⟨Nat.le_of_ble_eq_true rfl, Nat.le_of_ble_eq_true rfl⟩, (wd_652 hE), (wd_653 hE)⟩ ⟨PT.blind, th_recv hK hP (wt_X4_2 hWT ha0).1 he13 rfl, (th_pre (av := [.ref (gR G a0 2), .int 0, .int r12]) hK hP hok hnd hWT hE)⟩ rfl rfl hl.1 rfl (lv_room (Nat.le_of_ble_eq_true rfl)) dX4_findNumber_52 ⟨Nat.le_of_ble_eq_true rfl, Nat.le_of_ble_eq_true rfl⟩) (fun f14 H locs hr14 hok hP hS => ?_)
    refine lv_aload_n hx hb dX4_findNumber_55 rfl (lv_at hl 0 rfl) ?_
    obtain ⟨y6_15, y7_15, he15⟩ := ok_X4 hok ha0
    refine th_get hx hb (ly_X4 hE) hown hK hP ha0.1 he15 rfl 2 (by decide) (wd_307 hE) (fun _ h9 => h9) rfl dX4_findNumber_56 ?_
    refine lv_aload_n hx hb dX4_findNumber_59 rfl (lv_at hl 0 rfl) ?_
    refine th_get hx hb (ly_X4 hE) hown hK hP ha0.1 he15 rfl 2 (by decide) (wd_307 hE) (fun _ h9 => h9) rfl dX4_findNumber_60 ?_
    obtain ⟨y2_16, y3_16, hy3_16, he16⟩ := ok_X10 hok (wt_X4_2 hWT ha0)
    refine vp_callSi (va_Run.run (va_runV (As := []) (rest := [.ref (gR G a0 2)]) ⟨hx, hb, hml, hown, noTs⟩ (t_X10_size l dC dI H.size G cs tt mm (gR G a0 2) ((wt_X4_2 hWT ha0))) ⟨cbE 0 (wd_666 hE) (wd_120 hE) (wd_1107 hE) rfl rfl (by decide +kernel) ⟨Nat.le_of_ble_eq_true rfl, Nat.le_of_ble_eq_true rfl⟩, (wd_664 hE), (wd_665 hE)⟩ ⟨PT.blind, th_recv hK hP (wt_X4_2 hWT ha0).1 he16 rfl, (th_pre (av := [.ref (gR G a0 2)]) hK hP hok hnd hWT hE)⟩ rfl rfl hl.1 rfl (lv_room (Nat.le_of_ble_eq_true rfl)) dX4_findNumber_63 ⟨Nat.le_of_ble_eq_true rfl, Nat.le_of_ble_eq_true rfl⟩)) (fun r17 hr17 => ?_)
    obtain ⟨hra17, hrb17⟩ := hr17
    refine lv_iload hx hb dX4_findNumber_66 (lv_at hl 4 rfl) ?_
    refine lv_iload hx hb dX4_findNumber_68 (lv_at hl 5 rfl) ?_
    refine lv_iadd hx hb dX4_findNumber_70 ?_
    refine lv_topi (fun x18 _ => ?_)
    refine lv_iload_n hx hb dX4_findNumber_71 rfl (lv_at hl 2 rfl) ?_
    refine vp_callSi (va_Run.run (va_runSN (As := [.int x18, .int r5]) (rest := [.int r17, .ref (gR G a0 2)]) ⟨hx, hb, hml, hown, noTs⟩ (t_X11_rest l dC dI H.size G cs tt mm x18 r5) ⟨cnE 2 (wd_617 hE) (wd_115 hE) (wd_1129 hE) rfl rfl (by decide +kernel) ⟨Nat.le_of_ble_eq_true rfl, Nat.le_of_ble_eq_true rfl⟩, (wd_616 hE), trivial⟩ ⟨PT.blind, (th_pre (av := [.int x18, .int r5]) hK hP hok hnd hWT hE)⟩ rfl rfl hl.1 rfl (lv_room (Nat.le_of_ble_eq_true rfl)) dX4_findNumber_72 ⟨Nat.le_of_ble_eq_true rfl, Nat.le_of_ble_eq_true rfl⟩)) (fun r19 hr19 => ?_)
    refine tc_v hAL hS hA (va_runV (As := [.int r17, .int r19]) (rest := []) ⟨hx, hb, hml, hown, noTs⟩ (t_X10_putNumber l dC dI H.size G cs tt mm (gR G a0 2) ((wt_X4_2 hWT ha0)) r17 r19) ⟨cbE 2 (wd_654 hE) (wd_120 hE) (wd_1161 hE) rfl rfl (by decide +kernel) ⟨Nat.le_of_ble_eq_true rfl, Nat.le_of_ble_eq_true rfl⟩, (wd_652 hE), (wd_653 hE)⟩ ⟨PT.blind, th_recv hK hP (wt_X4_2 hWT ha0).1 he16 rfl, (th_pre (av := [.ref (gR G a0 2), .int r17, .int r19]) hK hP hok hnd hWT hE)⟩ rfl rfl hl.1 rfl (lv_room (Nat.le_of_ble_eq_true rfl)) dX4_findNumber_75 ⟨Nat.le_of_ble_eq_true rfl, Nat.le_of_ble_eq_true rfl⟩) (fun f20 H locs hr20 hok hP hS => ?_)
    refine lv_aload_n hx hb dX4_findNumber_78 rfl (lv_at hl 0 rfl) ?_
    obtain ⟨y6_21, y7_21, he21⟩ := ok_X4 hok ha0
    refine th_get hx hb (ly_X4 hE) hown hK hP ha0.1 he21 rfl 4 (by decide) (wd_309 hE) (fun _ h9 => h9) rfl dX4_findNumber_79 ?_
    refine lv_aload_n hx hb dX4_findNumber_82 rfl (lv_at hl 0 rfl) ?_
    refine th_get hx hb (ly_X4 hE) hown hK hP ha0.1 he21 rfl 2 (by decide) (wd_307 hE) (fun _ h9 => h9) rfl dX4_findNumber_83 ?_
    obtain ⟨y4_22, hy4_22, he22⟩ := ok_X0 hok (wt_X4_4 hWT ha0)
    refine vp_callSi (va_Run.run (va_runV (As := [.ref (gR G a0 2)]) (rest := []) ⟨hx, hb, hml, hown, noTs⟩ (t_X0_hits l dC dI H.size G cs tt mm (gR G a0 4) ((wt_X4_4 hWT ha0)) (gR G a0 2) ((wt_X4_2 hWT ha0))) ⟨cbE 1 (wd_1165 hE) (wd_123 hE) (wd_1162 hE) rfl rfl (by decide +kernel) ⟨Nat.le_of_ble_eq_true rfl, Nat.le_of_ble_eq_true rfl⟩, (wd_1163 hE), (wd_1164 hE)⟩ ⟨PT.blind, th_recv hK hP (wt_X4_4 hWT ha0).1 he22 rfl, (th_pre (av := [.ref (gR G a0 4), .ref (gR G a0 2)]) hK hP hok hnd hWT hE)⟩ rfl rfl hl.1 rfl (lv_room (Nat.le_of_ble_eq_true rfl)) dX4_findNumber_86 ⟨Nat.le_of_ble_eq_true rfl, Nat.le_of_ble_eq_true rfl⟩)) (fun r23 hr23 => ?_)
    refine lv_if_eq (tgt := 100) hx hb dX4_findNumber_89 (by decide) (fun c24 => ?_) (fun c24 => ?_)
    · obtain ⟨z25, ez25⟩ : ∃ z : Int32, z = w5_8 + 1 := ⟨_, rfl⟩
      refine lv_iinc (v := z25) (lv' := [(5, .int z25), (0, .ref a0), (1, .ref a1), (2, .int r5), (3, .int r6), (4, .int r7)]) hx hb dX4_findNumber_100 hl (k := 5) rfl (by rw [ez25]; rfl) (by decide) rfl (fun ls hl => ?_)
      have ic25 : z25.toInt = w5_8.toInt + 1 := by rw [ez25]; exact ic_up (by have := i_rng w5_8; have := i_rng r5; have := i_rng r17; have := i_rng r23; simp only [i_lt, i_le, i_eq, ti_m9, ti_m1, ti_0, ti_1, ti_2, ti_3, ti_4, ti_5, ti_6, ti_7, ti_9, ti_12, ti_20, ti_99, ti_700, ti_24, ti_72, ti_8, ti_128] at hlo8 c9 hra17 hrb17 c24 ⊢; omega)
      refine lv_goto (tgt := 33) hx hb dX4_findNumber_103 (by decide) ?_
      exact ih8 _ f20 _ _ _ (by first | omega | (simp only [i_lt, i_le, i_eq, ti_m9, ti_m1, ti_0, ti_1, ti_2, ti_3, ti_4, ti_5, ti_6, ti_7, ti_9, ti_12, ti_20, ti_99, ti_700, ti_24, ti_72, ti_8, ti_128, ic25] at hlo8 c9 hra17 hrb17 c24 ic25 ⊢; omega)) ⟨hok, hP, hS, z25, rfl, (by first | omega | (simp only [i_lt, i_le, i_eq, ti_m9, ti_m1, ti_0, ti_1, ti_2, ti_3, ti_4, ti_5, ti_6, ti_7, ti_9, ti_12, ti_20, ti_99, ti_700, ti_24, ti_72, ti_8, ti_128, ic25] at hlo8 c9 hra17 hrb17 c24 ⊢; omega)), lv_sub hl [1, 2, 3, 4, 5, 0] rfl⟩
    · refine lv_aload_n hx hb dX4_findNumber_92 rfl (lv_at hl 0 rfl) ?_
      refine lv_iload hx hb dX4_findNumber_93 (lv_at hl 5 rfl) ?_
      refine th_put (v := .int w5_8) (ty := .int) hx hb (ly_X4 hE) tyX4 tyX4_ok nmX4 hown hK hP hnd hAL hS ha0.1 he21 rfl 7 (by decide) (wd_312 hE) (fun _ h9 => h9) rfl (by decide +kernel) rfl rfl (Nat.le_of_ble_eq_true rfl) (up_X4 hok ha0 ⟨y6_21, w5_8, rfl⟩) dX4_findNumber_95 (fun f26 H locs hfa26 hfo26 hok hP hS => ?_)
      have he27 := (hfo26 (gR G a0 4) (Ty.ne (wt_X4_4 hWT ha0) ha0 (by decide))).trans he22
      refine lv_iconst (v := 1) hx hb dX4_findNumber_98 (by decide) ?_
      exact W.zret (v := 1) hx hb hr rfl (fun t ht hW => ⟨⟨1, f26, rfl, Or.inr rfl, hok, by rw [ht]; exact hP⟩, hS.F ht⟩) hS.2.2 dX4_findNumber_99

set_option maxHeartbeats 4000000 in
set_option maxRecDepth 100000 in
theorem t_X4_reachesSteps (l : Launch) (dC : Nat → ClassId) (dI : Nat → Nat → Nat) (sz : Nat) (G : GT) (cs : Nat → ClassId) (tt mm : Nat) (a0 : Nat) (ha0 : Ty G a0 4) (a1 : Nat) (ha1 : Ty G a1 7) : Met l yX4_reachesSteps [.code yX4_reachesSteps cX4_reachesSteps 3 (some .boolean)] ({ frames := 3, cells := 0, slots := 0, locals := 120 }) (PT [.ref a0, .ref a1] sz dC dI G cs tt mm) (va_Qi (fun (r : Int32) (u : Nat → va_E) => r = 0 ∨ r = 1) (BT dC dI G cs tt mm) (AT G sz)) 0 0 (AT G sz) := by
  refine Met.ofW (cc := cX4_reachesSteps) (maxL := 3) (ret := (some .boolean)) (by decide) rfl ?_
  intro p e s m args below meth c s₁ B hml hv
  obtain ⟨rfl, hsz, ⟨f0, hok, hP⟩, hK, hnd, hWT, hE⟩ := hv
  have hx := B.exec
  have hb := B.bytes
  have hr := B.returns
  have hown : s.vm.findClass RX4 = some m.cls := findClass_of_methodNamed B.named
  have hlocks := B.notSynchronized
  subst hsz
  have hAL : ∀ a, a ∈ gL G → AT G s.heap.size a := fun a h => Or.inl h
  have hA : ∀ q : Nat, s.heap.size ≤ q → AT G s.heap.size q := fun q h => Or.inr h
  have hS : va_S (AT G s.heap.size) s.heap s.heap [] := va_S.rf
  have hl := lv_entry ([.ref a0, .ref a1]) (n := 3) (Nat.le_of_ble_eq_true rfl)
  rw [lg_entry_eq]
  generalize (lg_sl ([.ref a0, .ref a1]) ++ List.replicate (3 - (lg_sl ([.ref a0, .ref a1])).length) Slot.unset).toArray = ls at hl ⊢
  have hl : lv_has ls 3 [(0, .ref a0), (1, .ref a1)] := hl
  refine lv_aload_n hx hb dX4_reachesSteps_0 rfl (lv_at hl 0 rfl) ?_
  obtain ⟨y6_1, y7_1, he1⟩ := ok_X4 hok ha0
  refine th_get hx hb (ly_X4 hE) hown hK hP ha0.1 he1 rfl 4 (by decide) (wd_309 hE) (fun _ h9 => h9) rfl dX4_reachesSteps_1 ?_
  refine lv_aload_n hx hb dX4_reachesSteps_4 rfl (lv_at hl 1 rfl) ?_
  refine lv_aload_n hx hb dX4_reachesSteps_5 rfl (lv_at hl 0 rfl) ?_
  refine th_get hx hb (ly_X4 hE) hown hK hP ha0.1 he1 rfl 1 (by decide) (wd_306 hE) (fun _ h9 => h9) rfl dX4_reachesSteps_6 ?_
  obtain ⟨y4_2, hy4_2, he2⟩ := ok_X0 hok (wt_X4_4 hWT ha0)
  refine tc_v hAL hS hA (va_runV (As := [.ref a1, .ref (gR G a0 1)]) (rest := []) ⟨hx, hb, hml, hown, noTs⟩ (t_X0_aim l dC dI s.heap.size G cs tt mm (gR G a0 4) ((wt_X4_4 hWT ha0)) a1 ha1 (gR G a0 1) ((wt_X4_1 hWT ha0))) ⟨cbE 2 (wd_1145 hE) (wd_123 hE) (wd_1142 hE) rfl rfl (by decide +kernel) ⟨Nat.le_of_ble_eq_true rfl, Nat.le_of_ble_eq_true rfl⟩, (wd_1143 hE), (wd_1144 hE)⟩ ⟨PT.blind, th_recv hK hP (wt_X4_4 hWT ha0).1 he2 rfl, (th_pre (av := [.ref (gR G a0 4), .ref a1, .ref (gR G a0 1)]) hK hP hok hnd hWT hE)⟩ rfl rfl hl.1 rfl (lv_room (Nat.le_of_ble_eq_true rfl)) dX4_reachesSteps_9 ⟨Nat.le_of_ble_eq_true rfl, Nat.le_of_ble_eq_true rfl⟩) (fun f3 H locs hr3 hok hP hS => ?_)
  refine lv_iconst (v := 0) hx hb dX4_reachesSteps_12 (by decide) ?_
  refine lv_istore_n (lv' := [(2, .int 0), (0, .ref a0), (1, .ref a1)]) hx hb dX4_reachesSteps_13 rfl hl (by decide) rfl (fun ls hl => ?_)
  refine w_ind (I := fun n f H locs ls => OKT G cs tt mm f ∧ va_P (dC, dI) vwCl (va_pl (gL G) f) H ∧ va_S (AT G s.heap.size) s.heap H locs ∧ ∃ (w2_4 : Int32), n = (2147483647 - w2_4.toInt).toNat ∧ 0 ≤ w2_4 ∧ lv_has ls 3 [(0, .ref a0), (1, .ref a1), (2, .int w2_4)]) (fun n f4 H locs ls hI ih4 => ?_) _ f3 _ _ _ ⟨hok, hP, hS, 0, rfl, (by first | omega | (simp only [i_lt, i_le, i_eq, ti_m9, ti_m1, ti_0, ti_1, ti_2, ti_3, ti_4, ti_5, ti_6, ti_7, ti_9, ti_12, ti_20, ti_99, ti_700, ti_24, ti_72, ti_8, ti_128]; omega)), lv_sub hl [1, 2, 0] rfl⟩
  obtain ⟨hok, hP, hS, w2_4, hmu4, hlo4, hl⟩ := hI
  subst hmu4
  refine lv_iload_n hx hb dX4_reachesSteps_14 rfl (lv_at hl 2 rfl) ?_
  refine lv_aload_n hx hb dX4_reachesSteps_15 rfl (lv_at hl 0 rfl) ?_
  obtain ⟨y6_5, y7_5, he5⟩ := ok_X4 hok ha0
  refine th_get hx hb (ly_X4 hE) hown hK hP ha0.1 he5 rfl 0 (by decide) (wd_305 hE) (fun _ h9 => h9) rfl dX4_reachesSteps_16 ?_
  obtain ⟨y2_6, y3_6, hy3_6, he6⟩ := ok_X10 hok (wt_X4_0 hWT ha0)
  refine vp_callSi (va_Run.run (va_runV (As := []) (rest := [.int w2_4]) ⟨hx, hb, hml, hown, noTs⟩ (t_X10_size l dC dI H.size G cs tt mm (gR G a0 0) ((wt_X4_0 hWT ha0))) ⟨cbE 0 (wd_666 hE) (wd_120 hE) (wd_1107 hE) rfl rfl (by decide +kernel) ⟨Nat.le_of_ble_eq_true rfl, Nat.le_of_ble_eq_true rfl⟩, (wd_664 hE), (wd_665 hE)⟩ ⟨PT.blind, th_recv hK hP (wt_X4_0 hWT ha0).1 he6 rfl, (th_pre (av := [.ref (gR G a0 0)]) hK hP hok hnd hWT hE)⟩ rfl rfl hl.1 rfl (lv_room (Nat.le_of_ble_eq_true rfl)) dX4_reachesSteps_19 ⟨Nat.le_of_ble_eq_true rfl, Nat.le_of_ble_eq_true rfl⟩)) (fun r7 hr7 => ?_)
  obtain ⟨hra7, hrb7⟩ := hr7
  refine lv_icmp_ge (tgt := 73) hx hb dX4_reachesSteps_22 (by decide) (fun c8 => ?_) (fun c8 => ?_)
  · refine lv_iconst (v := 0) hx hb dX4_reachesSteps_73 (by decide) ?_
    exact W.zret (v := 0) hx hb hr rfl (fun t ht hW => ⟨⟨0, f4, rfl, Or.inl rfl, hok, by rw [ht]; exact hP⟩, hS.F ht⟩) hS.2.2 dX4_reachesSteps_74
  · refine lv_aload_n hx hb dX4_reachesSteps_25 rfl (lv_at hl 1 rfl) ?_
    refine lv_aload_n hx hb dX4_reachesSteps_26 rfl (lv_at hl 0 rfl) ?_
    refine th_get hx hb (ly_X4 hE) hown hK hP ha0.1 he5 rfl 0 (by decide) (wd_305 hE) (fun _ h9 => h9) rfl dX4_reachesSteps_27 ?_
    refine lv_iload_n hx hb dX4_reachesSteps_30 rfl (lv_at hl 2 rfl) ?_
    refine lv_aload_n hx hb dX4_reachesSteps_31 rfl (lv_at hl 0 rfl) ?_
    refine th_get hx hb (ly_X4 hE) hown hK hP ha0.1 he5 rfl 2 (by decide) (wd_307 hE) (fun _ h9 => h9) rfl dX4_reachesSteps_32 ?_
    refine tc_v hAL hS hA (va_runS (As := [.ref a1, .ref (gR G a0 0), .int w2_4, .ref (gR G a0 2)]) (rest := []) ⟨hx, hb, hml, hown, noTs⟩ (t_X2_beginBehind l dC dI H.size G cs tt mm a1 ha1 (gR G a0 0) ((wt_X4_0 hWT ha0)) w2_4 (gR G a0 2) ((wt_X4_2 hWT ha0))) ⟨cbE 4 (wd_1154 hE) (wd_134 hE) (wd_1152 hE) rfl rfl (by decide +kernel) ⟨Nat.le_of_ble_eq_true rfl, Nat.le_of_ble_eq_true rfl⟩, (wd_1153 hE)⟩ ⟨PT.blind, (th_pre (av := [.ref a1, .ref (gR G a0 0), .int w2_4, .ref (gR G a0 2)]) hK hP hok hnd hWT hE)⟩ rfl rfl hl.1 rfl (lv_room (Nat.le_of_ble_eq_true rfl)) dX4_reachesSteps_35 ⟨Nat.le_of_ble_eq_true rfl, Nat.le_of_ble_eq_true rfl⟩) (fun f9 H locs hr9 hok hP hS => ?_)
    refine lv_aload_n hx hb dX4_reachesSteps_38 rfl (lv_at hl 0 rfl) ?_
    obtain ⟨y6_10, y7_10, he10⟩ := ok_X4 hok ha0
    refine th_get hx hb (ly_X4 hE) hown hK hP ha0.1 he10 rfl 2 (by decide) (wd_307 hE) (fun _ h9 => h9) rfl dX4_reachesSteps_39 ?_
    refine lv_aload_n hx hb dX4_reachesSteps_42 rfl (lv_at hl 0 rfl) ?_
    refine th_get hx hb (ly_X4 hE) hown hK hP ha0.1 he10 rfl 1 (by decide) (wd_306 hE) (fun _ h9 => h9) rfl dX4_reachesSteps_43 ?_
    obtain ⟨y2_11, y3_11, hy3_11, he11⟩ := ok_X10 hok (wt_X4_2 hWT ha0)
    refine vp_callSi (va_Run.run (va_runV (As := [.ref (gR G a0 1)]) (rest := []) ⟨hx, hb, hml, hown, noTs⟩ (t_X10_sameSteps l dC dI H.size G cs tt mm (gR G a0 2) ((wt_X4_2 hWT ha0)) (gR G a0 1) ((wt_X4_1 hWT ha0))) ⟨cbE 1 (wd_881 hE) (wd_120 hE) (wd_1155 hE) rfl rfl (by decide +kernel) ⟨Nat.le_of_ble_eq_true rfl, Nat.le_of_ble_eq_true rfl⟩, (wd_879 hE), (wd_880 hE)⟩ ⟨PT.blind, th_recv hK hP (wt_X4_2 hWT ha0).1 he11 rfl, (th_pre (av := [.ref (gR G a0 2), .ref (gR G a0 1)]) hK hP hok hnd hWT hE)⟩ rfl rfl hl.1 rfl (lv_room (Nat.le_of_ble_eq_true rfl)) dX4_reachesSteps_46 ⟨Nat.le_of_ble_eq_true rfl, Nat.le_of_ble_eq_true rfl⟩)) (fun r12 hr12 => ?_)
    refine lv_if_eq (tgt := 67) hx hb dX4_reachesSteps_49 (by decide) (fun c13 => ?_) (fun c13 => ?_)
    · obtain ⟨z14, ez14⟩ : ∃ z : Int32, z = w2_4 + 1 := ⟨_, rfl⟩
      refine lv_iinc (v := z14) (lv' := [(2, .int z14), (0, .ref a0), (1, .ref a1)]) hx hb dX4_reachesSteps_67 hl (k := 2) rfl (by rw [ez14]; rfl) (by decide) rfl (fun ls hl => ?_)
      have ic14 : z14.toInt = w2_4.toInt + 1 := by rw [ez14]; exact ic_up (by have := i_rng r7; have := i_rng w2_4; have := i_rng r12; simp only [i_lt, i_le, i_eq, ti_m9, ti_m1, ti_0, ti_1, ti_2, ti_3, ti_4, ti_5, ti_6, ti_7, ti_9, ti_12, ti_20, ti_99, ti_700, ti_24, ti_72, ti_8, ti_128] at hlo4 hra7 hrb7 c8 c13 ⊢; omega)
      refine lv_goto (tgt := 14) hx hb dX4_reachesSteps_70 (by decide) ?_
      exact ih4 _ f9 _ _ _ (by first | omega | (simp only [i_lt, i_le, i_eq, ti_m9, ti_m1, ti_0, ti_1, ti_2, ti_3, ti_4, ti_5, ti_6, ti_7, ti_9, ti_12, ti_20, ti_99, ti_700, ti_24, ti_72, ti_8, ti_128, ic14] at hlo4 hra7 hrb7 c8 c13 ic14 ⊢; omega)) ⟨hok, hP, hS, z14, rfl, (by first | omega | (simp only [i_lt, i_le, i_eq, ti_m9, ti_m1, ti_0, ti_1, ti_2, ti_3, ti_4, ti_5, ti_6, ti_7, ti_9, ti_12, ti_20, ti_99, ti_700, ti_24, ti_72, ti_8, ti_128, ic14] at hlo4 hra7 hrb7 c8 c13 ⊢; omega)), lv_sub hl [1, 2, 0] rfl⟩
    · refine lv_aload_n hx hb dX4_reachesSteps_52 rfl (lv_at hl 0 rfl) ?_
      refine lv_aload_n hx hb dX4_reachesSteps_53 rfl (lv_at hl 1 rfl) ?_
      refine tc_i hAL hS hA (va_runV (As := [.ref a1]) (rest := []) ⟨hx, hb, hml, hown, noTs⟩ (t_X4_findNumber l dC dI H.size G cs tt mm a0 ha0 a1 ha1) ⟨cbE 1 (wd_1159 hE) (wd_122 hE) (wd_1156 hE) rfl rfl (by decide +kernel) ⟨Nat.le_of_ble_eq_true rfl, Nat.le_of_ble_eq_true rfl⟩, (wd_1158 hE), (wd_45 hE)⟩ ⟨PT.blind, th_recv hK hP ha0.1 he10 rfl, (th_pre (av := [.ref a0, .ref a1]) hK hP hok hnd hWT hE)⟩ rfl rfl hl.1 rfl (lv_room (Nat.le_of_ble_eq_true rfl)) dX4_reachesSteps_54 ⟨Nat.le_of_ble_eq_true rfl, Nat.le_of_ble_eq_true rfl⟩) (fun r15 f15 H locs hr15 hok hP hS => ?_)
      refine lv_if_eq (tgt := 67) hx hb dX4_reachesSteps_57 (by decide) (fun c16 => ?_) (fun c16 => ?_)
      · obtain ⟨z17, ez17⟩ : ∃ z : Int32, z = w2_4 + 1 := ⟨_, rfl⟩
        refine lv_iinc (v := z17) (lv' := [(2, .int z17), (0, .ref a0), (1, .ref a1)]) hx hb dX4_reachesSteps_67 hl (k := 2) rfl (by rw [ez17]; rfl) (by decide) rfl (fun ls hl => ?_)
        have ic17 : z17.toInt = w2_4.toInt + 1 := by rw [ez17]; exact ic_up (by have := i_rng r7; have := i_rng w2_4; have := i_rng r12; have := i_rng r15; simp only [i_lt, i_le, i_eq, ti_m9, ti_m1, ti_0, ti_1, ti_2, ti_3, ti_4, ti_5, ti_6, ti_7, ti_9, ti_12, ti_20, ti_99, ti_700, ti_24, ti_72, ti_8, ti_128] at hlo4 hra7 hrb7 c8 c13 c16 ⊢; omega)
        refine lv_goto (tgt := 14) hx hb dX4_reachesSteps_70 (by decide) ?_
        exact ih4 _ f15 _ _ _ (by first | omega | (simp only [i_lt, i_le, i_eq, ti_m9, ti_m1, ti_0, ti_1, ti_2, ti_3, ti_4, ti_5, ti_6, ti_7, ti_9, ti_12, ti_20, ti_99, ti_700, ti_24, ti_72, ti_8, ti_128, ic17] at hlo4 hra7 hrb7 c8 c13 c16 ic17 ⊢; omega)) ⟨hok, hP, hS, z17, rfl, (by first | omega | (simp only [i_lt, i_le, i_eq, ti_m9, ti_m1, ti_0, ti_1, ti_2, ti_3, ti_4, ti_5, ti_6, ti_7, ti_9, ti_12, ti_20, ti_99, ti_700, ti_24, ti_72, ti_8, ti_128, ic17] at hlo4 hra7 hrb7 c8 c13 c16 ⊢; omega)), lv_sub hl [1, 2, 0] rfl⟩
      · refine lv_aload_n hx hb dX4_reachesSteps_60 rfl (lv_at hl 0 rfl) ?_
        refine lv_iload_n hx hb dX4_reachesSteps_61 rfl (lv_at hl 2 rfl) ?_
        obtain ⟨y6_18, y7_18, he18⟩ := ok_X4 hok ha0
        refine th_put (v := .int w2_4) (ty := .int) hx hb (ly_X4 hE) tyX4 tyX4_ok nmX4 hown hK hP hnd hAL hS ha0.1 he18 rfl 6 (by decide) (wd_311 hE) (fun _ h9 => h9) rfl (by decide +kernel) rfl rfl (Nat.le_of_ble_eq_true rfl) (up_X4 hok ha0 ⟨w2_4, y7_18, rfl⟩) dX4_reachesSteps_62 (fun f19 H locs hfa19 hfo19 hok hP hS => ?_)
        refine lv_iconst (v := 1) hx hb dX4_reachesSteps_65 (by decide) ?_
        exact W.zret (v := 1) hx hb hr rfl (fun t ht hW => ⟨⟨1, f19, rfl, Or.inr rfl, hok, by rw [ht]; exact hP⟩, hS.F ht⟩) hS.2.2 dX4_reachesSteps_66

set_option maxHeartbeats 4000000 in
set_option maxRecDepth 100000 in
theorem t_X9_byteAt (l : Launch) (dC : Nat → ClassId) (dI : Nat → Nat → Nat) (sz : Nat) (G : GT) (cs : Nat → ClassId) (tt mm : Nat) (a0 : Nat) (ha0 : Ty G a0 9) (v1 : Int32) : Met l yX9_byteAt [.code yX9_byteAt cX9_byteAt 2 (some .int)] ({ frames := 0, cells := 0, slots := 0, locals := 0 }) (PT [.ref a0, .int v1] sz dC dI G cs tt mm) (vp_Si (fun (r : Int32) => True)) 0 0 (fun _ => False) := by
  refine Met.ofW (cc := cX9_byteAt) (maxL := 2) (ret := (some .int)) (by decide) rfl ?_
  intro p e s m args below meth c s₁ B hml hv
  obtain ⟨rfl, hsz, ⟨f0, hok, hP⟩, hK, hnd, hWT, hE⟩ := hv
  have hx := B.exec
  have hb := B.bytes
  have hr := B.returns
  have hown : s.vm.findClass RX9 = some m.cls := findClass_of_methodNamed B.named
  have hlocks := B.notSynchronized
  subst hsz
  have hl := lv_entry ([.ref a0, .int v1]) (n := 2) (Nat.le_of_ble_eq_true rfl)
  rw [lg_entry_eq]
  generalize (lg_sl ([.ref a0, .int v1]) ++ List.replicate (2 - (lg_sl ([.ref a0, .int v1])).length) Slot.unset).toArray = ls at hl ⊢
  have hl : lv_has ls 2 [(0, .ref a0), (1, .int v1)] := hl
  refine lv_iload_n hx hb dX9_byteAt_0 rfl (lv_at hl 1 rfl) ?_
  refine lv_if_lt (tgt := 21) hx hb dX9_byteAt_1 (by decide) (fun c1 => ?_) (fun c1 => ?_)
  · refine lv_iconst (v := -1) hx hb dX9_byteAt_21 (by decide) ?_
    refine lv_goto (tgt := 31) hx hb dX9_byteAt_22 (by decide) ?_
    exact W.iret (v := -1) hx hb hr (fun t ht hW => ⟨-1, rfl, trivial, ht⟩) (fun _ h => absurd h List.not_mem_nil) dX9_byteAt_31
  · refine lv_iload_n hx hb dX9_byteAt_4 rfl (lv_at hl 1 rfl) ?_
    refine lv_aload_n hx hb dX9_byteAt_5 rfl (lv_at hl 0 rfl) ?_
    obtain ⟨y3_2, y4_2, y5_2, hy4_2, he2⟩ := ok_X9 hok ha0
    refine th_get hx hb (ly_X9 hE) hown hK hP ha0.1 he2 rfl 5 (by decide) (wd_191 hE) (fun _ h9 => h9) rfl dX9_byteAt_6 ?_
    refine lv_icmp_ge (tgt := 21) hx hb dX9_byteAt_9 (by decide) (fun c3 => ?_) (fun c3 => ?_)
    · refine lv_iconst (v := -1) hx hb dX9_byteAt_21 (by decide) ?_
      refine lv_goto (tgt := 31) hx hb dX9_byteAt_22 (by decide) ?_
      exact W.iret (v := -1) hx hb hr (fun t ht hW => ⟨-1, rfl, trivial, ht⟩) (fun _ h => absurd h List.not_mem_nil) dX9_byteAt_31
    · refine lv_iload_n hx hb dX9_byteAt_12 rfl (lv_at hl 1 rfl) ?_
      refine lv_aload_n hx hb dX9_byteAt_13 rfl (lv_at hl 0 rfl) ?_
      refine th_get hx hb (ly_X9 hE) hown hK hP ha0.1 he2 rfl 4 (by decide) (wd_190 hE) (fun _ h9 => h9) rfl dX9_byteAt_14 ?_
      refine th_len1 hx hb hK hP hok (n := gN G y4_2) rfl (Or.inr (Or.inl hy4_2)) dX9_byteAt_17 ?_
      have := wt_bytes hWT hy4_2
      have nt4 : (nI (gN G y4_2)).toInt = ((gN G y4_2 : Nat) : Int) := nI_toInt (by omega)
      refine lv_icmp_lt (tgt := 25) hx hb dX9_byteAt_18 (by decide) (fun c5 => ?_) (fun c5 => ?_)
      · refine lv_aload_n hx hb dX9_byteAt_25 rfl (lv_at hl 0 rfl) ?_
        refine th_get hx hb (ly_X9 hE) hown hK hP ha0.1 he2 rfl 4 (by decide) (wd_190 hE) (fun _ h9 => h9) rfl dX9_byteAt_26 ?_
        refine lv_iload_n hx hb dX9_byteAt_29 rfl (lv_at hl 1 rfl) ?_
        refine th_bald hx hb hK hP hok hy4_2 (n := gN G y4_2) rfl (vp_in_iff.mpr (by first | omega | (simp only [i_lt, i_le, i_eq, ti_m9, ti_m1, ti_0, ti_1, ti_2, ti_3, ti_4, ti_5, ti_6, ti_7, ti_9, ti_12, ti_20, ti_99, ti_700, ti_24, ti_72, ti_8, ti_128, nt4] at c1 c3 c5 ⊢; omega))) dX9_byteAt_30 (fun x6 => ?_)
        exact W.iret (v := x6) hx hb hr (fun t ht hW => ⟨x6, rfl, trivial, ht⟩) (fun _ h => absurd h List.not_mem_nil) dX9_byteAt_31
      · refine lv_iconst (v := -1) hx hb dX9_byteAt_21 (by decide) ?_
        refine lv_goto (tgt := 31) hx hb dX9_byteAt_22 (by decide) ?_
        exact W.iret (v := -1) hx hb hr (fun t ht hW => ⟨-1, rfl, trivial, ht⟩) (fun _ h => absurd h List.not_mem_nil) dX9_byteAt_31

set_option maxHeartbeats 4000000 in
set_option maxRecDepth 100000 in
theorem t_X9_isLetter (l : Launch) (dC : Nat → ClassId) (dI : Nat → Nat → Nat) (sz : Nat) (G : GT) (cs : Nat → ClassId) (tt mm : Nat) (v0 : Int32) : Met l yX9_isLetter [.code yX9_isLetter cX9_isLetter 1 (some .boolean)] ({ frames := 0, cells := 0, slots := 0, locals := 0 }) (PT [.int v0] sz dC dI G cs tt mm) (vp_Si (fun (r : Int32) => r = 0 ∨ r = 1)) 0 0 (fun _ => False) := by
  refine Met.ofW (cc := cX9_isLetter) (maxL := 1) (ret := (some .boolean)) (by decide) rfl ?_
  intro p e s m args below meth c s₁ B hml hv
  obtain ⟨rfl, hsz, ⟨f0, hok, hP⟩, hK, hnd, hWT, hE⟩ := hv
  have hx := B.exec
  have hb := B.bytes
  have hr := B.returns
  have hown : s.vm.findClass RX9 = some m.cls := findClass_of_methodNamed B.named
  have hlocks := B.notSynchronized
  subst hsz
  have hl := lv_entry ([.int v0]) (n := 1) (Nat.le_of_ble_eq_true rfl)
  rw [lg_entry_eq]
  generalize (lg_sl ([.int v0]) ++ List.replicate (1 - (lg_sl ([.int v0])).length) Slot.unset).toArray = ls at hl ⊢
  have hl : lv_has ls 1 [(0, .int v0)] := hl
  refine lv_iload_n hx hb dX9_isLetter_0 rfl (lv_at hl 0 rfl) ?_
  refine lv_bipush (v := 97) hx hb dX9_isLetter_1 (by decide) ?_
  refine lv_icmp_lt (tgt := 16) hx hb dX9_isLetter_3 (by decide) (fun c1 => ?_) (fun c1 => ?_)
  · refine lv_iconst (v := 0) hx hb dX9_isLetter_16 (by decide) ?_
    exact W.zret (v := 0) hx hb hr rfl (fun t ht hW => ⟨0, rfl, Or.inl rfl, ht⟩) (fun _ h => absurd h List.not_mem_nil) dX9_isLetter_17
  · refine lv_iload_n hx hb dX9_isLetter_6 rfl (lv_at hl 0 rfl) ?_
    refine lv_bipush (v := 122) hx hb dX9_isLetter_7 (by decide) ?_
    refine lv_icmp_gt (tgt := 16) hx hb dX9_isLetter_9 (by decide) (fun c2 => ?_) (fun c2 => ?_)
    · refine lv_iconst (v := 0) hx hb dX9_isLetter_16 (by decide) ?_
      exact W.zret (v := 0) hx hb hr rfl (fun t ht hW => ⟨0, rfl, Or.inl rfl, ht⟩) (fun _ h => absurd h List.not_mem_nil) dX9_isLetter_17
    · refine lv_iconst (v := 1) hx hb dX9_isLetter_12 (by decide) ?_
      refine lv_goto (tgt := 17) hx hb dX9_isLetter_13 (by decide) ?_
      exact W.zret (v := 1) hx hb hr rfl (fun t ht hW => ⟨1, rfl, Or.inr rfl, ht⟩) (fun _ h => absurd h List.not_mem_nil) dX9_isLetter_17

set_option maxHeartbeats 4000000 in
set_option maxRecDepth 100000 in
theorem t_X9_isDigit (l : Launch) (dC : Nat → ClassId) (dI : Nat → Nat → Nat) (sz : Nat) (G : GT) (cs : Nat → ClassId) (tt mm : Nat) (v0 : Int32) : Met l yX9_isDigit [.code yX9_isDigit cX9_isDigit 1 (some .boolean)] ({ frames := 0, cells := 0, slots := 0, locals := 0 }) (PT [.int v0] sz dC dI G cs tt mm) (vp_Si (fun (r : Int32) => r = 0 ∨ r = 1)) 0 0 (fun _ => False) := by
  refine Met.ofW (cc := cX9_isDigit) (maxL := 1) (ret := (some .boolean)) (by decide) rfl ?_
  intro p e s m args below meth c s₁ B hml hv
  obtain ⟨rfl, hsz, ⟨f0, hok, hP⟩, hK, hnd, hWT, hE⟩ := hv
  have hx := B.exec
  have hb := B.bytes
  have hr := B.returns
  have hown : s.vm.findClass RX9 = some m.cls := findClass_of_methodNamed B.named
  have hlocks := B.notSynchronized
  subst hsz
  have hl := lv_entry ([.int v0]) (n := 1) (Nat.le_of_ble_eq_true rfl)
  rw [lg_entry_eq]
  generalize (lg_sl ([.int v0]) ++ List.replicate (1 - (lg_sl ([.int v0])).length) Slot.unset).toArray = ls at hl ⊢
  have hl : lv_has ls 1 [(0, .int v0)] := hl
  refine lv_iload_n hx hb dX9_isDigit_0 rfl (lv_at hl 0 rfl) ?_
  refine lv_bipush (v := 48) hx hb dX9_isDigit_1 (by decide) ?_
  refine lv_icmp_lt (tgt := 16) hx hb dX9_isDigit_3 (by decide) (fun c1 => ?_) (fun c1 => ?_)
  · refine lv_iconst (v := 0) hx hb dX9_isDigit_16 (by decide) ?_
    exact W.zret (v := 0) hx hb hr rfl (fun t ht hW => ⟨0, rfl, Or.inl rfl, ht⟩) (fun _ h => absurd h List.not_mem_nil) dX9_isDigit_17
  · refine lv_iload_n hx hb dX9_isDigit_6 rfl (lv_at hl 0 rfl) ?_
    refine lv_bipush (v := 57) hx hb dX9_isDigit_7 (by decide) ?_
    refine lv_icmp_gt (tgt := 16) hx hb dX9_isDigit_9 (by decide) (fun c2 => ?_) (fun c2 => ?_)
    · refine lv_iconst (v := 0) hx hb dX9_isDigit_16 (by decide) ?_
      exact W.zret (v := 0) hx hb hr rfl (fun t ht hW => ⟨0, rfl, Or.inl rfl, ht⟩) (fun _ h => absurd h List.not_mem_nil) dX9_isDigit_17
    · refine lv_iconst (v := 1) hx hb dX9_isDigit_12 (by decide) ?_
      refine lv_goto (tgt := 17) hx hb dX9_isDigit_13 (by decide) ?_
      exact W.zret (v := 1) hx hb hr rfl (fun t ht hW => ⟨1, rfl, Or.inr rfl, ht⟩) (fun _ h => absurd h List.not_mem_nil) dX9_isDigit_17

set_option maxHeartbeats 4000000 in
set_option maxRecDepth 100000 in
theorem t_X9_endOfToken (l : Launch) (dC : Nat → ClassId) (dI : Nat → Nat → Nat) (sz : Nat) (G : GT) (cs : Nat → ClassId) (tt mm : Nat) (a0 : Nat) (ha0 : Ty G a0 9) (v1 : Int32) : Met l yX9_endOfToken [.code yX9_endOfToken cX9_endOfToken 3 (some .int)] ({ frames := 1, cells := 0, slots := 0, locals := 40 }) (PT [.ref a0, .int v1] sz dC dI G cs tt mm) (vp_Si (fun (r : Int32) => True)) 0 0 (fun _ => False) := by
  refine Met.ofW (cc := cX9_endOfToken) (maxL := 3) (ret := (some .int)) (by decide) rfl ?_
  intro p e s m args below meth c s₁ B hml hv
  obtain ⟨rfl, hsz, ⟨f0, hok, hP⟩, hK, hnd, hWT, hE⟩ := hv
  have hx := B.exec
  have hb := B.bytes
  have hr := B.returns
  have hown : s.vm.findClass RX9 = some m.cls := findClass_of_methodNamed B.named
  have hlocks := B.notSynchronized
  subst hsz
  have hl := lv_entry ([.ref a0, .int v1]) (n := 3) (Nat.le_of_ble_eq_true rfl)
  rw [lg_entry_eq]
  generalize (lg_sl ([.ref a0, .int v1]) ++ List.replicate (3 - (lg_sl ([.ref a0, .int v1])).length) Slot.unset).toArray = ls at hl ⊢
  have hl : lv_has ls 3 [(0, .ref a0), (1, .int v1)] := hl
  refine lv_iload_n hx hb dX9_endOfToken_0 rfl (lv_at hl 1 rfl) ?_
  refine lv_iconst (v := 1) hx hb dX9_endOfToken_1 (by decide) ?_
  refine lv_iadd hx hb dX9_endOfToken_2 ?_
  refine lv_topi (fun x1 _ => ?_)
  refine lv_istore_n (lv' := [(2, .int x1), (0, .ref a0), (1, .int v1)]) hx hb dX9_endOfToken_3 rfl hl (by decide) rfl (fun ls hl => ?_)
  refine lv_aload_n hx hb dX9_endOfToken_4 rfl (lv_at hl 1 rfl) ?_
  refine lv_iload_n hx hb dX9_endOfToken_5 rfl (lv_at hl 2 rfl) ?_
  obtain ⟨y3_2, y4_2, y5_2, hy4_2, he2⟩ := ok_X9 hok ha0
  refine vp_callSi (va_Run.run (va_runV (As := [.int v1]) (rest := []) ⟨hx, hb, hml, hown, noTs⟩ (t_X9_byteAt l dC dI s.heap.size G cs tt mm a0 ha0 v1) ⟨cbE 1 (wd_458 hE) (wd_119 hE) (wd_455 hE) rfl rfl (by decide +kernel) ⟨Nat.le_of_ble_eq_true rfl, Nat.le_of_ble_eq_true rfl⟩, (wd_457 hE), (wd_2 hE)⟩ ⟨PT.blind, th_recv hK hP ha0.1 he2 rfl, (th_pre (av := [.ref a0, .int v1]) hK hP hok hnd hWT hE)⟩ rfl rfl hl.1 rfl (lv_room (Nat.le_of_ble_eq_true rfl)) dX9_endOfToken_6 ⟨Nat.le_of_ble_eq_true rfl, Nat.le_of_ble_eq_true rfl⟩)) (fun r3 hr3 => ?_)
  refine vp_callSi (va_Run.run (va_runS (As := [.int r3]) (rest := []) ⟨hx, hb, hml, hown, noTs⟩ (t_X9_isLetter l dC dI s.heap.size G cs tt mm r3) ⟨cbE 1 (wd_465 hE) (wd_119 hE) (wd_463 hE) rfl rfl (by decide +kernel) ⟨Nat.le_of_ble_eq_true rfl, Nat.le_of_ble_eq_true rfl⟩, (wd_464 hE)⟩ ⟨PT.blind, (th_pre (av := [.int r3]) hK hP hok hnd hWT hE)⟩ rfl rfl hl.1 rfl (lv_room (Nat.le_of_ble_eq_true rfl)) dX9_endOfToken_9 ⟨Nat.le_of_ble_eq_true rfl, Nat.le_of_ble_eq_true rfl⟩)) (fun r4 hr4 => ?_)
  refine lv_if_eq (tgt := 40) hx hb dX9_endOfToken_12 (by decide) (fun c5 => ?_) (fun c5 => ?_)
  · refine lv_aload_n hx hb dX9_endOfToken_40 rfl (lv_at hl 1 rfl) ?_
    refine lv_iload_n hx hb dX9_endOfToken_41 rfl (lv_at hl 2 rfl) ?_
    refine vp_callSi (va_Run.run (va_runV (As := [.int v1]) (rest := []) ⟨hx, hb, hml, hown, noTs⟩ (t_X9_byteAt l dC dI s.heap.size G cs tt mm a0 ha0 v1) ⟨cbE 1 (wd_458 hE) (wd_119 hE) (wd_455 hE) rfl rfl (by decide +kernel) ⟨Nat.le_of_ble_eq_true rfl, Nat.le_of_ble_eq_true rfl⟩, (wd_457 hE), (wd_2 hE)⟩ ⟨PT.blind, th_recv hK hP ha0.1 he2 rfl, (th_pre (av := [.ref a0, .int v1]) hK hP hok hnd hWT hE)⟩ rfl rfl hl.1 rfl (lv_room (Nat.le_of_ble_eq_true rfl)) dX9_endOfToken_42 ⟨Nat.le_of_ble_eq_true rfl, Nat.le_of_ble_eq_true rfl⟩)) (fun r6 hr6 => ?_)
    refine vp_callSi (va_Run.run (va_runS (As := [.int r6]) (rest := []) ⟨hx, hb, hml, hown, noTs⟩ (t_X9_isDigit l dC dI s.heap.size G cs tt mm r6) ⟨cbE 1 (wd_468 hE) (wd_119 hE) (wd_466 hE) rfl rfl (by decide +kernel) ⟨Nat.le_of_ble_eq_true rfl, Nat.le_of_ble_eq_true rfl⟩, (wd_467 hE)⟩ ⟨PT.blind, (th_pre (av := [.int r6]) hK hP hok hnd hWT hE)⟩ rfl rfl hl.1 rfl (lv_room (Nat.le_of_ble_eq_true rfl)) dX9_endOfToken_45 ⟨Nat.le_of_ble_eq_true rfl, Nat.le_of_ble_eq_true rfl⟩)) (fun r7 hr7 => ?_)
    refine lv_if_eq (tgt := 76) hx hb dX9_endOfToken_48 (by decide) (fun c8 => ?_) (fun c8 => ?_)
    · refine lv_iload_n hx hb dX9_endOfToken_76 rfl (lv_at hl 0 rfl) ?_
      exact W.iret (v := x1) hx hb hr (fun t ht hW => ⟨x1, rfl, trivial, ht⟩) (fun _ h => absurd h List.not_mem_nil) dX9_endOfToken_77
    · refine w_indP (I := fun n ls => ∃ (w2_9 : Int32), n = (2147483647 - w2_9.toInt).toNat ∧ lv_has ls 3 [(0, .ref a0), (1, .int v1), (2, .int w2_9)]) (fun n ls hI ih9 => ?_) _ _ ⟨x1, rfl, lv_sub hl [1, 2, 0] rfl⟩
      obtain ⟨w2_9, hmu9, hl⟩ := hI
      subst hmu9
      refine lv_iload_n hx hb dX9_endOfToken_51 rfl (lv_at hl 2 rfl) ?_
      refine lv_aload_n hx hb dX9_endOfToken_52 rfl (lv_at hl 0 rfl) ?_
      refine th_get hx hb (ly_X9 hE) hown hK hP ha0.1 he2 rfl 5 (by decide) (wd_191 hE) (fun _ h9 => h9) rfl dX9_endOfToken_53 ?_
      refine lv_icmp_ge (tgt := 76) hx hb dX9_endOfToken_56 (by decide) (fun c10 => ?_) (fun c10 => ?_)
      · refine lv_iload_n hx hb dX9_endOfToken_76 rfl (lv_at hl 2 rfl) ?_
        exact W.iret (v := w2_9) hx hb hr (fun t ht hW => ⟨w2_9, rfl, trivial, ht⟩) (fun _ h => absurd h List.not_mem_nil) dX9_endOfToken_77
      · refine lv_aload_n hx hb dX9_endOfToken_59 rfl (lv_at hl 0 rfl) ?_
        refine lv_iload_n hx hb dX9_endOfToken_60 rfl (lv_at hl 2 rfl) ?_
        refine vp_callSi (va_Run.run (va_runV (As := [.int w2_9]) (rest := []) ⟨hx, hb, hml, hown, noTs⟩ (t_X9_byteAt l dC dI s.heap.size G cs tt mm a0 ha0 w2_9) ⟨cbE 1 (wd_458 hE) (wd_119 hE) (wd_455 hE) rfl rfl (by decide +kernel) ⟨Nat.le_of_ble_eq_true rfl, Nat.le_of_ble_eq_true rfl⟩, (wd_457 hE), (wd_2 hE)⟩ ⟨PT.blind, th_recv hK hP ha0.1 he2 rfl, (th_pre (av := [.ref a0, .int w2_9]) hK hP hok hnd hWT hE)⟩ rfl rfl hl.1 rfl (lv_room (Nat.le_of_ble_eq_true rfl)) dX9_endOfToken_61 ⟨Nat.le_of_ble_eq_true rfl, Nat.le_of_ble_eq_true rfl⟩)) (fun r11 hr11 => ?_)
        refine vp_callSi (va_Run.run (va_runS (As := [.int r11]) (rest := []) ⟨hx, hb, hml, hown, noTs⟩ (t_X9_isDigit l dC dI s.heap.size G cs tt mm r11) ⟨cbE 1 (wd_468 hE) (wd_119 hE) (wd_466 hE) rfl rfl (by decide +kernel) ⟨Nat.le_of_ble_eq_true rfl, Nat.le_of_ble_eq_true rfl⟩, (wd_467 hE)⟩ ⟨PT.blind, (th_pre (av := [.int r11]) hK hP hok hnd hWT hE)⟩ rfl rfl hl.1 rfl (lv_room (Nat.le_of_ble_eq_true rfl)) dX9_endOfToken_64 ⟨Nat.le_of_ble_eq_true rfl, Nat.le_of_ble_eq_true rfl⟩)) (fun r12 hr12 => ?_)
        refine lv_if_eq (tgt := 76) hx hb dX9_endOfToken_67 (by decide) (fun c13 => ?_) (fun c13 => ?_)
        · refine lv_iload_n hx hb dX9_endOfToken_76 rfl (lv_at hl 2 rfl) ?_
          exact W.iret (v := w2_9) hx hb hr (fun t ht hW => ⟨w2_9, rfl, trivial, ht⟩) (fun _ h => absurd h List.not_mem_nil) dX9_endOfToken_77
        · obtain ⟨z14, ez14⟩ : ∃ z : Int32, z = w2_9 + 1 := ⟨_, rfl⟩
          refine lv_iinc (v := z14) (lv' := [(2, .int z14), (0, .ref a0), (1, .int v1)]) hx hb dX9_endOfToken_70 hl (k := 2) rfl (by rw [ez14]; rfl) (by decide) rfl (fun ls hl => ?_)
          have ic14 : z14.toInt = w2_9.toInt + 1 := by rw [ez14]; exact ic_up (by have := i_rng r4; have := i_rng r7; have := i_rng w2_9; have := i_rng y5_2; have := i_rng r12; simp only [i_lt, i_le, i_eq, ti_m9, ti_m1, ti_0, ti_1, ti_2, ti_3, ti_4, ti_5, ti_6, ti_7, ti_9, ti_12, ti_20, ti_99, ti_700, ti_24, ti_72, ti_8, ti_128, ti_97, ti_122, ti_48, ti_57] at c5 c8 c10 c13 ⊢; omega)
          refine lv_goto (tgt := 51) hx hb dX9_endOfToken_73 (by decide) ?_
          exact ih9 _ _ (by first | omega | (simp only [i_lt, i_le, i_eq, ti_m9, ti_m1, ti_0, ti_1, ti_2, ti_3, ti_4, ti_5, ti_6, ti_7, ti_9, ti_12, ti_20, ti_99, ti_700, ti_24, ti_72, ti_8, ti_128, ti_97, ti_122, ti_48, ti_57, ic14] at c5 c8 c10 c13 ic14 ⊢; omega)) ⟨z14, rfl, lv_sub hl [1, 2, 0] rfl⟩
  · refine w_indP (I := fun n ls => ∃ (w2_15 : Int32), n = (2147483647 - w2_15.toInt).toNat ∧ lv_has ls 3 [(0, .ref a0), (1, .int v1), (2, .int w2_15)]) (fun n ls hI ih15 => ?_) _ _ ⟨x1, rfl, lv_sub hl [1, 2, 0] rfl⟩
    obtain ⟨w2_15, hmu15, hl⟩ := hI
    subst hmu15
    refine lv_iload_n hx hb dX9_endOfToken_15 rfl (lv_at hl 2 rfl) ?_
    refine lv_aload_n hx hb dX9_endOfToken_16 rfl (lv_at hl 0 rfl) ?_
    refine th_get hx hb (ly_X9 hE) hown hK hP ha0.1 he2 rfl 5 (by decide) (wd_191 hE) (fun _ h9 => h9) rfl dX9_endOfToken_17 ?_
    refine lv_icmp_ge (tgt := 76) hx hb dX9_endOfToken_20 (by decide) (fun c16 => ?_) (fun c16 => ?_)
    · refine lv_iload_n hx hb dX9_endOfToken_76 rfl (lv_at hl 2 rfl) ?_
      exact W.iret (v := w2_15) hx hb hr (fun t ht hW => ⟨w2_15, rfl, trivial, ht⟩) (fun _ h => absurd h List.not_mem_nil) dX9_endOfToken_77
    · refine lv_aload_n hx hb dX9_endOfToken_23 rfl (lv_at hl 0 rfl) ?_
      refine lv_iload_n hx hb dX9_endOfToken_24 rfl (lv_at hl 2 rfl) ?_
      refine vp_callSi (va_Run.run (va_runV (As := [.int w2_15]) (rest := []) ⟨hx, hb, hml, hown, noTs⟩ (t_X9_byteAt l dC dI s.heap.size G cs tt mm a0 ha0 w2_15) ⟨cbE 1 (wd_458 hE) (wd_119 hE) (wd_455 hE) rfl rfl (by decide +kernel) ⟨Nat.le_of_ble_eq_true rfl, Nat.le_of_ble_eq_true rfl⟩, (wd_457 hE), (wd_2 hE)⟩ ⟨PT.blind, th_recv hK hP ha0.1 he2 rfl, (th_pre (av := [.ref a0, .int w2_15]) hK hP hok hnd hWT hE)⟩ rfl rfl hl.1 rfl (lv_room (Nat.le_of_ble_eq_true rfl)) dX9_endOfToken_25 ⟨Nat.le_of_ble_eq_true rfl, Nat.le_of_ble_eq_true rfl⟩)) (fun r17 hr17 => ?_)
      refine vp_callSi (va_Run.run (va_runS (As := [.int r17]) (rest := []) ⟨hx, hb, hml, hown, noTs⟩ (t_X9_isLetter l dC dI s.heap.size G cs tt mm r17) ⟨cbE 1 (wd_465 hE) (wd_119 hE) (wd_463 hE) rfl rfl (by decide +kernel) ⟨Nat.le_of_ble_eq_true rfl, Nat.le_of_ble_eq_true rfl⟩, (wd_464 hE)⟩ ⟨PT.blind, (th_pre (av := [.int r17]) hK hP hok hnd hWT hE)⟩ rfl rfl hl.1 rfl (lv_room (Nat.le_of_ble_eq_true rfl)) dX9_endOfToken_28 ⟨Nat.le_of_ble_eq_true rfl, Nat.le_of_ble_eq_true rfl⟩)) (fun r18 hr18 => ?_)
      refine lv_if_eq (tgt := 76) hx hb dX9_endOfToken_31 (by decide) (fun c19 => ?_) (fun c19 => ?_)
      · refine lv_iload_n hx hb dX9_endOfToken_76 rfl (lv_at hl 2 rfl) ?_
        exact W.iret (v := w2_15) hx hb hr (fun t ht hW => ⟨w2_15, rfl, trivial, ht⟩) (fun _ h => absurd h List.not_mem_nil) dX9_endOfToken_77
      · obtain ⟨z20, ez20⟩ : ∃ z : Int32, z = w2_15 + 1 := ⟨_, rfl⟩
        refine lv_iinc (v := z20) (lv' := [(2, .int z20), (0, .ref a0), (1, .int v1)]) hx hb dX9_endOfToken_34 hl (k := 2) rfl (by rw [ez20]; rfl) (by decide) rfl (fun ls hl => ?_)
        have ic20 : z20.toInt = w2_15.toInt + 1 := by rw [ez20]; exact ic_up (by have := i_rng r4; have := i_rng w2_15; have := i_rng y5_2; have := i_rng r18; simp only [i_lt, i_le, i_eq, ti_m9, ti_m1, ti_0, ti_1, ti_2, ti_3, ti_4, ti_5, ti_6, ti_7, ti_9, ti_12, ti_20, ti_99, ti_700, ti_24, ti_72, ti_8, ti_128, ti_97, ti_122, ti_48, ti_57] at c5 c16 c19 ⊢; omega)
        refine lv_goto (tgt := 15) hx hb dX9_endOfToken_37 (by decide) ?_
        exact ih15 _ _ (by first | omega | (simp only [i_lt, i_le, i_eq, ti_m9, ti_m1, ti_0, ti_1, ti_2, ti_3, ti_4, ti_5, ti_6, ti_7, ti_9, ti_12, ti_20, ti_99, ti_700, ti_24, ti_72, ti_8, ti_128, ti_97, ti_122, ti_48, ti_57, ic20] at c5 c16 c19 ic20 ⊢; omega)) ⟨z20, rfl, lv_sub hl [1, 2, 0] rfl⟩

set_option maxHeartbeats 4000000 in
set_option maxRecDepth 100000 in
theorem t_X9_signOf (l : Launch) (dC : Nat → ClassId) (dI : Nat → Nat → Nat) (sz : Nat) (G : GT) (cs : Nat → ClassId) (tt mm : Nat) (v0 : Int32) : Met l yX9_signOf [.code yX9_signOf cX9_signOf 1 (some .int)] ({ frames := 0, cells := 0, slots := 0, locals := 0 }) (PT [.int v0] sz dC dI G cs tt mm) (vp_Si (fun (r : Int32) => True)) 0 0 (fun _ => False) := by
  refine Met.ofW (cc := cX9_signOf) (maxL := 1) (ret := (some .int)) (by decide) rfl ?_
  intro p e s m args below meth c s₁ B hml hv
  obtain ⟨rfl, hsz, ⟨f0, hok, hP⟩, hK, hnd, hWT, hE⟩ := hv
  have hx := B.exec
  have hb := B.bytes
  have hr := B.returns
  have hown : s.vm.findClass RX9 = some m.cls := findClass_of_methodNamed B.named
  have hlocks := B.notSynchronized
  subst hsz
  have hl := lv_entry ([.int v0]) (n := 1) (Nat.le_of_ble_eq_true rfl)
  rw [lg_entry_eq]
  generalize (lg_sl ([.int v0]) ++ List.replicate (1 - (lg_sl ([.int v0])).length) Slot.unset).toArray = ls at hl ⊢
  have hl : lv_has ls 1 [(0, .int v0)] := hl
  refine lv_iload_n hx hb dX9_signOf_0 rfl (lv_at hl 0 rfl) ?_
  by_cases t1 : v0 = 59
  · refine lv_tableIn (tgt := 38) hx hb dX9_signOf_1 (by rw [t1]; decide) (by rw [t1]; decide) (by rw [t1]; rfl) (by decide) ?_
    refine lv_bipush (v := 9) hx hb dX9_signOf_38 (by decide) ?_
    exact W.iret (v := 9) hx hb hr (fun t ht hW => ⟨9, rfl, trivial, ht⟩) (fun _ h => absurd h List.not_mem_nil) dX9_signOf_40
  by_cases t2 : v0 = 60
  · refine lv_tableIn (tgt := 35) hx hb dX9_signOf_1 (by rw [t2]; decide) (by rw [t2]; decide) (by rw [t2]; rfl) (by decide) ?_
    refine lv_bipush (v := 8) hx hb dX9_signOf_35 (by decide) ?_
    exact W.iret (v := 8) hx hb hr (fun t ht hW => ⟨8, rfl, trivial, ht⟩) (fun _ h => absurd h List.not_mem_nil) dX9_signOf_37
  by_cases t3 : v0 = 61
  · refine lv_tableIn (tgt := 41) hx hb dX9_signOf_1 (by rw [t3]; decide) (by rw [t3]; decide) (by rw [t3]; rfl) (by decide) ?_
    refine lv_iconst (v := 1) hx hb dX9_signOf_41 (by decide) ?_
    exact W.iret (v := 1) hx hb hr (fun t ht hW => ⟨1, rfl, trivial, ht⟩) (fun _ h => absurd h List.not_mem_nil) dX9_signOf_42
  by_cases t4 : v0 = 62
  · refine lv_tableIn (tgt := 32) hx hb dX9_signOf_1 (by rw [t4]; decide) (by rw [t4]; decide) (by rw [t4]; rfl) (by decide) ?_
    refine lv_bipush (v := 7) hx hb dX9_signOf_32 (by decide) ?_
    exact W.iret (v := 7) hx hb hr (fun t ht hW => ⟨7, rfl, trivial, ht⟩) (fun _ h => absurd h List.not_mem_nil) dX9_signOf_34
  have hT5 : v0.toInt < 59 ∨ 62 < v0.toInt := by simp only [i_eq, ti_m9, ti_m1, ti_0, ti_1, ti_2, ti_3, ti_4, ti_5, ti_6, ti_7, ti_9, ti_12, ti_20, ti_99, ti_700] at t1 t2 t3 t4; omega
  refine lv_tableOut (tgt := 41) hx hb dX9_signOf_1 hT5 (by decide) ?_
  refine lv_iconst (v := 1) hx hb dX9_signOf_41 (by decide) ?_
  exact W.iret (v := 1) hx hb hr (fun t ht hW => ⟨1, rfl, trivial, ht⟩) (fun _ h => absurd h List.not_mem_nil) dX9_signOf_42

set_option maxHeartbeats 4000000 in
set_option maxRecDepth 100000 in
theorem t_X9_numberIn (l : Launch) (dC : Nat → ClassId) (dI : Nat → Nat → Nat) (sz : Nat) (G : GT) (cs : Nat → ClassId) (tt mm : Nat) (a0 : Nat) (ha0 : Ty G a0 9) (v1 : Int32) (v2 : Int32) : Met l yX9_numberIn [.code yX9_numberIn cX9_numberIn 5 (some .int)] ({ frames := 1, cells := 0, slots := 0, locals := 40 }) (PT [.ref a0, .int v1, .int v2] sz dC dI G cs tt mm) (vp_Si (fun (r : Int32) => True)) 0 0 (fun _ => False) := by
  refine Met.ofW (cc := cX9_numberIn) (maxL := 5) (ret := (some .int)) (by decide) rfl ?_
  intro p e s m args below meth c s₁ B hml hv
  obtain ⟨rfl, hsz, ⟨f0, hok, hP⟩, hK, hnd, hWT, hE⟩ := hv
  have hx := B.exec
  have hb := B.bytes
  have hr := B.returns
  have hown : s.vm.findClass RX9 = some m.cls := findClass_of_methodNamed B.named
  have hlocks := B.notSynchronized
  subst hsz
  have hl := lv_entry ([.ref a0, .int v1, .int v2]) (n := 5) (Nat.le_of_ble_eq_true rfl)
  rw [lg_entry_eq]
  generalize (lg_sl ([.ref a0, .int v1, .int v2]) ++ List.replicate (5 - (lg_sl ([.ref a0, .int v1, .int v2])).length) Slot.unset).toArray = ls at hl ⊢
  have hl : lv_has ls 5 [(0, .ref a0), (1, .int v1), (2, .int v2)] := hl
  refine lv_iconst (v := 0) hx hb dX9_numberIn_0 (by decide) ?_
  refine lv_istore_n (lv' := [(3, .int 0), (0, .ref a0), (1, .int v1), (2, .int v2)]) hx hb dX9_numberIn_1 rfl hl (by decide) rfl (fun ls hl => ?_)
  refine lv_iload_n hx hb dX9_numberIn_2 rfl (lv_at hl 2 rfl) ?_
  refine lv_istore (lv' := [(4, .int v1), (3, .int 0), (0, .ref a0), (1, .int v1), (2, .int v2)]) hx hb dX9_numberIn_3 hl (by decide) rfl (fun ls hl => ?_)
  refine w_indP (I := fun n ls => ∃ (w3_1 : Int32) (w4_1 : Int32), n = (2147483647 - w4_1.toInt).toNat ∧ lv_has ls 5 [(0, .ref a0), (1, .int v1), (2, .int v2), (3, .int w3_1), (4, .int w4_1)]) (fun n ls hI ih1 => ?_) _ _ ⟨0, v1, rfl, lv_sub hl [2, 3, 4, 1, 0] rfl⟩
  obtain ⟨w3_1, w4_1, hmu1, hl⟩ := hI
  subst hmu1
  refine lv_iload hx hb dX9_numberIn_5 (lv_at hl 4 rfl) ?_
  refine lv_iload_n hx hb dX9_numberIn_7 rfl (lv_at hl 2 rfl) ?_
  refine lv_icmp_ge (tgt := 32) hx hb dX9_numberIn_8 (by decide) (fun c2 => ?_) (fun c2 => ?_)
  · refine lv_iload_n hx hb dX9_numberIn_32 rfl (lv_at hl 3 rfl) ?_
    exact W.iret (v := w3_1) hx hb hr (fun t ht hW => ⟨w3_1, rfl, trivial, ht⟩) (fun _ h => absurd h List.not_mem_nil) dX9_numberIn_33
  · refine lv_bipush (v := 10) hx hb dX9_numberIn_11 (by decide) ?_
    refine lv_iload_n hx hb dX9_numberIn_13 rfl (lv_at hl 3 rfl) ?_
    refine lv_imul hx hb dX9_numberIn_14 ?_
    refine lv_topi (fun x3 _ => ?_)
    refine lv_aload_n hx hb dX9_numberIn_15 rfl (lv_at hl 0 rfl) ?_
    refine lv_iload hx hb dX9_numberIn_16 (lv_at hl 4 rfl) ?_
    obtain ⟨y3_4, y4_4, y5_4, hy4_4, he4⟩ := ok_X9 hok ha0
    refine vp_callSi (va_Run.run (va_runV (As := [.int w4_1]) (rest := [.int x3]) ⟨hx, hb, hml, hown, noTs⟩ (t_X9_byteAt l dC dI s.heap.size G cs tt mm a0 ha0 w4_1) ⟨cbE 1 (wd_458 hE) (wd_119 hE) (wd_455 hE) rfl rfl (by decide +kernel) ⟨Nat.le_of_ble_eq_true rfl, Nat.le_of_ble_eq_true rfl⟩, (wd_457 hE), (wd_2 hE)⟩ ⟨PT.blind, th_recv hK hP ha0.1 he4 rfl, (th_pre (av := [.ref a0, .int w4_1]) hK hP hok hnd hWT hE)⟩ rfl rfl hl.1 rfl (lv_room (Nat.le_of_ble_eq_true rfl)) dX9_numberIn_18 ⟨Nat.le_of_ble_eq_true rfl, Nat.le_of_ble_eq_true rfl⟩)) (fun r5 hr5 => ?_)
    refine lv_iadd hx hb dX9_numberIn_21 ?_
    refine lv_topi (fun x6 _ => ?_)
    refine lv_bipush (v := 48) hx hb dX9_numberIn_22 (by decide) ?_
    refine lv_isub hx hb dX9_numberIn_24 ?_
    refine lv_topi (fun x7 _ => ?_)
    refine lv_istore_n (lv' := [(3, .int x7), (0, .ref a0), (1, .int v1), (2, .int v2), (4, .int w4_1)]) hx hb dX9_numberIn_25 rfl hl (by decide) rfl (fun ls hl => ?_)
    obtain ⟨z8, ez8⟩ : ∃ z : Int32, z = w4_1 + 1 := ⟨_, rfl⟩
    refine lv_iinc (v := z8) (lv' := [(4, .int z8), (3, .int x7), (0, .ref a0), (1, .int v1), (2, .int v2)]) hx hb dX9_numberIn_26 hl (k := 4) rfl (by rw [ez8]; rfl) (by decide) rfl (fun ls hl => ?_)
    have ic8 : z8.toInt = w4_1.toInt + 1 := by rw [ez8]; exact ic_up (by have := i_rng w4_1; have := i_rng v2; simp only [i_lt, i_le, i_eq, ti_m9, ti_m1, ti_0, ti_1, ti_2, ti_3, ti_4, ti_5, ti_6, ti_7, ti_9, ti_12, ti_20, ti_99, ti_700, ti_24, ti_72, ti_8, ti_128, ti_97, ti_122, ti_48, ti_57, ti_59, ti_60, ti_61, ti_62, ti_10] at c2 ⊢; omega)
    refine lv_goto (tgt := 5) hx hb dX9_numberIn_29 (by decide) ?_
    exact ih1 _ _ (by first | omega | (simp only [i_lt, i_le, i_eq, ti_m9, ti_m1, ti_0, ti_1, ti_2, ti_3, ti_4, ti_5, ti_6, ti_7, ti_9, ti_12, ti_20, ti_99, ti_700, ti_24, ti_72, ti_8, ti_128, ti_97, ti_122, ti_48, ti_57, ti_59, ti_60, ti_61, ti_62, ti_10, ic8] at c2 ic8 ⊢; omega)) ⟨x7, z8, rfl, lv_sub hl [2, 3, 4, 1, 0] rfl⟩

set_option maxHeartbeats 4000000 in
set_option maxRecDepth 100000 in
theorem t_X9_kindAt (l : Launch) (dC : Nat → ClassId) (dI : Nat → Nat → Nat) (sz : Nat) (G : GT) (cs : Nat → ClassId) (tt mm : Nat) (a0 : Nat) (ha0 : Ty G a0 9) (v1 : Int32) : Met l yX9_kindAt [.code yX9_kindAt cX9_kindAt 2 (some .int)] ({ frames := 0, cells := 0, slots := 0, locals := 0 }) (PT [.ref a0, .int v1] sz dC dI G cs tt mm) (vp_Si (fun (r : Int32) => True)) 0 0 (fun _ => False) := by
  refine Met.ofW (cc := cX9_kindAt) (maxL := 2) (ret := (some .int)) (by decide) rfl ?_
  intro p e s m args below meth c s₁ B hml hv
  obtain ⟨rfl, hsz, ⟨f0, hok, hP⟩, hK, hnd, hWT, hE⟩ := hv
  have hx := B.exec
  have hb := B.bytes
  have hr := B.returns
  have hown : s.vm.findClass RX9 = some m.cls := findClass_of_methodNamed B.named
  have hlocks := B.notSynchronized
  subst hsz
  have hl := lv_entry ([.ref a0, .int v1]) (n := 2) (Nat.le_of_ble_eq_true rfl)
  rw [lg_entry_eq]
  generalize (lg_sl ([.ref a0, .int v1]) ++ List.replicate (2 - (lg_sl ([.ref a0, .int v1])).length) Slot.unset).toArray = ls at hl ⊢
  have hl : lv_has ls 2 [(0, .ref a0), (1, .int v1)] := hl
  refine lv_iload_n hx hb dX9_kindAt_0 rfl (lv_at hl 1 rfl) ?_
  refine lv_if_lt (tgt := 21) hx hb dX9_kindAt_1 (by decide) (fun c1 => ?_) (fun c1 => ?_)
  · refine lv_iconst (v := 0) hx hb dX9_kindAt_21 (by decide) ?_
    refine lv_goto (tgt := 31) hx hb dX9_kindAt_22 (by decide) ?_
    exact W.iret (v := 0) hx hb hr (fun t ht hW => ⟨0, rfl, trivial, ht⟩) (fun _ h => absurd h List.not_mem_nil) dX9_kindAt_31
  · refine lv_iload_n hx hb dX9_kindAt_4 rfl (lv_at hl 1 rfl) ?_
    refine lv_aload_n hx hb dX9_kindAt_5 rfl (lv_at hl 0 rfl) ?_
    obtain ⟨y3_2, y4_2, y5_2, hy4_2, he2⟩ := ok_X9 hok ha0
    refine th_get hx hb (ly_X9 hE) hown hK hP ha0.1 he2 rfl 3 (by decide) (wd_189 hE) (fun _ h9 => h9) rfl dX9_kindAt_6 ?_
    refine lv_icmp_ge (tgt := 21) hx hb dX9_kindAt_9 (by decide) (fun c3 => ?_) (fun c3 => ?_)
    · refine lv_iconst (v := 0) hx hb dX9_kindAt_21 (by decide) ?_
      refine lv_goto (tgt := 31) hx hb dX9_kindAt_22 (by decide) ?_
      exact W.iret (v := 0) hx hb hr (fun t ht hW => ⟨0, rfl, trivial, ht⟩) (fun _ h => absurd h List.not_mem_nil) dX9_kindAt_31
    · refine lv_iload_n hx hb dX9_kindAt_12 rfl (lv_at hl 1 rfl) ?_
      refine lv_aload_n hx hb dX9_kindAt_13 rfl (lv_at hl 0 rfl) ?_
      refine th_get hx hb (ly_X9 hE) hown hK hP ha0.1 he2 rfl 0 (by decide) (wd_186 hE) (fun _ h9 => h9) rfl dX9_kindAt_14 ?_
      refine th_len1 hx hb hK hP hok (n := 701) (wl_X9_0 hWT ha0) (Or.inl (wt_X9_0 hWT ha0)) dX9_kindAt_17 ?_
      refine W.eq (g2 := F0 m 18 ls [.int 701, .int v1]) rfl ?_
      refine lv_icmp_lt (tgt := 25) hx hb dX9_kindAt_18 (by decide) (fun c4 => ?_) (fun c4 => ?_)
      · refine lv_aload_n hx hb dX9_kindAt_25 rfl (lv_at hl 0 rfl) ?_
        refine th_get hx hb (ly_X9 hE) hown hK hP ha0.1 he2 rfl 0 (by decide) (wd_186 hE) (fun _ h9 => h9) rfl dX9_kindAt_26 ?_
        refine lv_iload_n hx hb dX9_kindAt_29 rfl (lv_at hl 1 rfl) ?_
        refine th_iald hx hb hK hP hok (wt_X9_0 hWT ha0) (n := 701) (wl_X9_0 hWT ha0) (vp_in_iff.mpr (by first | omega | (simp only [i_lt, i_le, i_eq, ti_m9, ti_m1, ti_0, ti_1, ti_2, ti_3, ti_4, ti_5, ti_6, ti_7, ti_9, ti_12, ti_20, ti_99, ti_700, ti_24, ti_72, ti_8, ti_128, ti_97, ti_122, ti_48, ti_57, ti_59, ti_60, ti_61, ti_62, ti_10] at c1 c3 c4 ⊢; omega))) dX9_kindAt_30 (fun x5 => ?_)
        exact W.iret (v := x5) hx hb hr (fun t ht hW => ⟨x5, rfl, trivial, ht⟩) (fun _ h => absurd h List.not_mem_nil) dX9_kindAt_31
      · refine lv_iconst (v := 0) hx hb dX9_kindAt_21 (by decide) ?_
        refine lv_goto (tgt := 31) hx hb dX9_kindAt_22 (by decide) ?_
        exact W.iret (v := 0) hx hb hr (fun t ht hW => ⟨0, rfl, trivial, ht⟩) (fun _ h => absurd h List.not_mem_nil) dX9_kindAt_31

set_option maxHeartbeats 4000000 in
set_option maxRecDepth 100000 in
theorem t_X5_kind (l : Launch) (dC : Nat → ClassId) (dI : Nat → Nat → Nat) (sz : Nat) (G : GT) (cs : Nat → ClassId) (tt mm : Nat) (a0 : Nat) (ha0 : Ty G a0 5) : Met l yX5_kind [.code yX5_kind cX5_kind 1 (some .int)] ({ frames := 1, cells := 0, slots := 0, locals := 40 }) (PT [.ref a0] sz dC dI G cs tt mm) (vp_Si (fun (r : Int32) => True)) 0 0 (fun _ => False) := by
  refine Met.ofW (cc := cX5_kind) (maxL := 1) (ret := (some .int)) (by decide) rfl ?_
  intro p e s m args below meth c s₁ B hml hv
  obtain ⟨rfl, hsz, ⟨f0, hok, hP⟩, hK, hnd, hWT, hE⟩ := hv
  have hx := B.exec
  have hb := B.bytes
  have hr := B.returns
  have hown : s.vm.findClass RX5 = some m.cls := findClass_of_methodNamed B.named
  have hlocks := B.notSynchronized
  subst hsz
  have hl := lv_entry ([.ref a0]) (n := 1) (Nat.le_of_ble_eq_true rfl)
  rw [lg_entry_eq]
  generalize (lg_sl ([.ref a0]) ++ List.replicate (1 - (lg_sl ([.ref a0])).length) Slot.unset).toArray = ls at hl ⊢
  have hl : lv_has ls 1 [(0, .ref a0)] := hl
  refine lv_aload_n hx hb dX5_kind_0 rfl (lv_at hl 0 rfl) ?_
  obtain ⟨y3_1, y4_1, y5_1, y6_1, y7_1, y8_1, y9_1, he1⟩ := ok_X5 hok ha0
  refine th_get hx hb (ly_X5 hE) hown hK hP ha0.1 he1 rfl 0 (by decide) (wd_227 hE) (fun _ h9 => h9) rfl dX5_kind_1 ?_
  refine lv_aload_n hx hb dX5_kind_4 rfl (lv_at hl 0 rfl) ?_
  refine th_get hx hb (ly_X5 hE) hown hK hP ha0.1 he1 rfl 4 (by decide) (wd_231 hE) (fun _ h9 => h9) rfl dX5_kind_5 ?_
  obtain ⟨y3_2, y4_2, y5_2, hy4_2, he2⟩ := ok_X9 hok (wt_X5_0 hWT ha0)
  refine vp_callSi (va_Run.run (va_runV (As := [.int y4_1]) (rest := []) ⟨hx, hb, hml, hown, noTs⟩ (t_X9_kindAt l dC dI s.heap.size G cs tt mm (gR G a0 0) ((wt_X5_0 hWT ha0)) y4_1) ⟨cbE 1 (wd_549 hE) (wd_119 hE) (wd_546 hE) rfl rfl (by decide +kernel) ⟨Nat.le_of_ble_eq_true rfl, Nat.le_of_ble_eq_true rfl⟩, (wd_547 hE), (wd_548 hE)⟩ ⟨PT.blind, th_recv hK hP (wt_X5_0 hWT ha0).1 he2 rfl, (th_pre (av := [.ref (gR G a0 0), .int y4_1]) hK hP hok hnd hWT hE)⟩ rfl rfl hl.1 rfl (lv_room (Nat.le_of_ble_eq_true rfl)) dX5_kind_8 ⟨Nat.le_of_ble_eq_true rfl, Nat.le_of_ble_eq_true rfl⟩)) (fun r3 hr3 => ?_)
  exact W.iret (v := r3) hx hb hr (fun t ht hW => ⟨r3, rfl, trivial, ht⟩) (fun _ h => absurd h List.not_mem_nil) dX5_kind_11

set_option maxHeartbeats 4000000 in
set_option maxRecDepth 100000 in
theorem t_X9_placeAt (l : Launch) (dC : Nat → ClassId) (dI : Nat → Nat → Nat) (sz : Nat) (G : GT) (cs : Nat → ClassId) (tt mm : Nat) (a0 : Nat) (ha0 : Ty G a0 9) (v1 : Int32) : Met l yX9_placeAt [.code yX9_placeAt cX9_placeAt 2 (some .int)] ({ frames := 0, cells := 0, slots := 0, locals := 0 }) (PT [.ref a0, .int v1] sz dC dI G cs tt mm) (vp_Si (fun (r : Int32) => True)) 0 0 (fun _ => False) := by
  refine Met.ofW (cc := cX9_placeAt) (maxL := 2) (ret := (some .int)) (by decide) rfl ?_
  intro p e s m args below meth c s₁ B hml hv
  obtain ⟨rfl, hsz, ⟨f0, hok, hP⟩, hK, hnd, hWT, hE⟩ := hv
  have hx := B.exec
  have hb := B.bytes
  have hr := B.returns
  have hown : s.vm.findClass RX9 = some m.cls := findClass_of_methodNamed B.named
  have hlocks := B.notSynchronized
  subst hsz
  have hl := lv_entry ([.ref a0, .int v1]) (n := 2) (Nat.le_of_ble_eq_true rfl)
  rw [lg_entry_eq]
  generalize (lg_sl ([.ref a0, .int v1]) ++ List.replicate (2 - (lg_sl ([.ref a0, .int v1])).length) Slot.unset).toArray = ls at hl ⊢
  have hl : lv_has ls 2 [(0, .ref a0), (1, .int v1)] := hl
  refine lv_iload_n hx hb dX9_placeAt_0 rfl (lv_at hl 1 rfl) ?_
  refine lv_if_lt (tgt := 21) hx hb dX9_placeAt_1 (by decide) (fun c1 => ?_) (fun c1 => ?_)
  · refine lv_aload_n hx hb dX9_placeAt_21 rfl (lv_at hl 0 rfl) ?_
    obtain ⟨y3_2, y4_2, y5_2, hy4_2, he2⟩ := ok_X9 hok ha0
    refine th_get hx hb (ly_X9 hE) hown hK hP ha0.1 he2 rfl 5 (by decide) (wd_191 hE) (fun _ h9 => h9) rfl dX9_placeAt_22 ?_
    refine lv_goto (tgt := 34) hx hb dX9_placeAt_25 (by decide) ?_
    exact W.iret (v := y5_2) hx hb hr (fun t ht hW => ⟨y5_2, rfl, trivial, ht⟩) (fun _ h => absurd h List.not_mem_nil) dX9_placeAt_34
  · refine lv_iload_n hx hb dX9_placeAt_4 rfl (lv_at hl 1 rfl) ?_
    refine lv_aload_n hx hb dX9_placeAt_5 rfl (lv_at hl 0 rfl) ?_
    obtain ⟨y3_3, y4_3, y5_3, hy4_3, he3⟩ := ok_X9 hok ha0
    refine th_get hx hb (ly_X9 hE) hown hK hP ha0.1 he3 rfl 3 (by decide) (wd_189 hE) (fun _ h9 => h9) rfl dX9_placeAt_6 ?_
    refine lv_icmp_ge (tgt := 21) hx hb dX9_placeAt_9 (by decide) (fun c4 => ?_) (fun c4 => ?_)
    · refine lv_aload_n hx hb dX9_placeAt_21 rfl (lv_at hl 0 rfl) ?_
      refine th_get hx hb (ly_X9 hE) hown hK hP ha0.1 he3 rfl 5 (by decide) (wd_191 hE) (fun _ h9 => h9) rfl dX9_placeAt_22 ?_
      refine lv_goto (tgt := 34) hx hb dX9_placeAt_25 (by decide) ?_
      exact W.iret (v := y5_3) hx hb hr (fun t ht hW => ⟨y5_3, rfl, trivial, ht⟩) (fun _ h => absurd h List.not_mem_nil) dX9_placeAt_34
    · refine lv_iload_n hx hb dX9_placeAt_12 rfl (lv_at hl 1 rfl) ?_
      refine lv_aload_n hx hb dX9_placeAt_13 rfl (lv_at hl 0 rfl) ?_
      refine th_get hx hb (ly_X9 hE) hown hK hP ha0.1 he3 rfl 1 (by decide) (wd_187 hE) (fun _ h9 => h9) rfl dX9_placeAt_14 ?_
      refine th_len1 hx hb hK hP hok (n := 701) (wl_X9_1 hWT ha0) (Or.inl (wt_X9_1 hWT ha0)) dX9_placeAt_17 ?_
      refine W.eq (g2 := F0 m 18 ls [.int 701, .int v1]) rfl ?_
      refine lv_icmp_lt (tgt := 28) hx hb dX9_placeAt_18 (by decide) (fun c5 => ?_) (fun c5 => ?_)
      · refine lv_aload_n hx hb dX9_placeAt_28 rfl (lv_at hl 0 rfl) ?_
        refine th_get hx hb (ly_X9 hE) hown hK hP ha0.1 he3 rfl 1 (by decide) (wd_187 hE) (fun _ h9 => h9) rfl dX9_placeAt_29 ?_
        refine lv_iload_n hx hb dX9_placeAt_32 rfl (lv_at hl 1 rfl) ?_
        refine th_iald hx hb hK hP hok (wt_X9_1 hWT ha0) (n := 701) (wl_X9_1 hWT ha0) (vp_in_iff.mpr (by first | omega | (simp only [i_lt, i_le, i_eq, ti_m9, ti_m1, ti_0, ti_1, ti_2, ti_3, ti_4, ti_5, ti_6, ti_7, ti_9, ti_12, ti_20, ti_99, ti_700, ti_24, ti_72, ti_8, ti_128, ti_97, ti_122, ti_48, ti_57, ti_59, ti_60, ti_61, ti_62, ti_10] at c1 c4 c5 ⊢; omega))) dX9_placeAt_33 (fun x6 => ?_)
        exact W.iret (v := x6) hx hb hr (fun t ht hW => ⟨x6, rfl, trivial, ht⟩) (fun _ h => absurd h List.not_mem_nil) dX9_placeAt_34
      · refine lv_aload_n hx hb dX9_placeAt_21 rfl (lv_at hl 0 rfl) ?_
        refine th_get hx hb (ly_X9 hE) hown hK hP ha0.1 he3 rfl 5 (by decide) (wd_191 hE) (fun _ h9 => h9) rfl dX9_placeAt_22 ?_
        refine lv_goto (tgt := 34) hx hb dX9_placeAt_25 (by decide) ?_
        exact W.iret (v := y5_3) hx hb hr (fun t ht hW => ⟨y5_3, rfl, trivial, ht⟩) (fun _ h => absurd h List.not_mem_nil) dX9_placeAt_34

set_option maxHeartbeats 4000000 in
set_option maxRecDepth 100000 in
theorem t_X5_passes (l : Launch) (dC : Nat → ClassId) (dI : Nat → Nat → Nat) (sz : Nat) (G : GT) (cs : Nat → ClassId) (tt mm : Nat) (a0 : Nat) (ha0 : Ty G a0 5) (v1 : Int32) (v2 : Int32) : Met l yX5_passes [.code yX5_passes cX5_passes 3 (some .boolean)] ({ frames := 1, cells := 0, slots := 0, locals := 40 }) (PT [.ref a0, .int v1, .int v2] sz dC dI G cs tt mm) (va_Qi (fun (r : Int32) (u : Nat → va_E) => r = 0 ∨ r = 1) (BT dC dI G cs tt mm) (AT G sz)) 0 0 (AT G sz) := by
  refine Met.ofW (cc := cX5_passes) (maxL := 3) (ret := (some .boolean)) (by decide) rfl ?_
  intro p e s m args below meth c s₁ B hml hv
  obtain ⟨rfl, hsz, ⟨f0, hok, hP⟩, hK, hnd, hWT, hE⟩ := hv
  have hx := B.exec
  have hb := B.bytes
  have hr := B.returns
  have hown : s.vm.findClass RX5 = some m.cls := findClass_of_methodNamed B.named
  have hlocks := B.notSynchronized
  subst hsz
  have hAL : ∀ a, a ∈ gL G → AT G s.heap.size a := fun a h => Or.inl h
  have hA : ∀ q : Nat, s.heap.size ≤ q → AT G s.heap.size q := fun q h => Or.inr h
  have hS : va_S (AT G s.heap.size) s.heap s.heap [] := va_S.rf
  have hl := lv_entry ([.ref a0, .int v1, .int v2]) (n := 3) (Nat.le_of_ble_eq_true rfl)
  rw [lg_entry_eq]
  generalize (lg_sl ([.ref a0, .int v1, .int v2]) ++ List.replicate (3 - (lg_sl ([.ref a0, .int v1, .int v2])).length) Slot.unset).toArray = ls at hl ⊢
  have hl : lv_has ls 3 [(0, .ref a0), (1, .int v1), (2, .int v2)] := hl
  refine lv_iload_n hx hb dX5_passes_0 rfl (lv_at hl 1 rfl) ?_
  refine lv_if_ne (tgt := 39) hx hb dX5_passes_1 (by decide) (fun c1 => ?_) (fun c1 => ?_)
  · refine lv_aload_n hx hb dX5_passes_39 rfl (lv_at hl 0 rfl) ?_
    obtain ⟨y3_2, y4_2, y5_2, y6_2, y7_2, y8_2, y9_2, he2⟩ := ok_X5 hok ha0
    refine th_get hx hb (ly_X5 hE) hown hK hP ha0.1 he2 rfl 7 (by decide) (wd_234 hE) (fun _ h9 => h9) rfl dX5_passes_40 ?_
    refine lv_if_ne (tgt := 50) hx hb dX5_passes_43 (by decide) (fun c3 => ?_) (fun c3 => ?_)
    · refine lv_iconst (v := 0) hx hb dX5_passes_50 (by decide) ?_
      exact W.zret (v := 0) hx hb hr rfl (fun t ht hW => ⟨⟨0, f0, rfl, Or.inl rfl, hok, by rw [ht]; exact hP⟩, hS.F ht⟩) hS.2.2 dX5_passes_51
    · refine lv_iconst (v := 1) hx hb dX5_passes_46 (by decide) ?_
      refine lv_goto (tgt := 51) hx hb dX5_passes_47 (by decide) ?_
      exact W.zret (v := 1) hx hb hr rfl (fun t ht hW => ⟨⟨1, f0, rfl, Or.inr rfl, hok, by rw [ht]; exact hP⟩, hS.F ht⟩) hS.2.2 dX5_passes_51
  · refine lv_aload_n hx hb dX5_passes_4 rfl (lv_at hl 0 rfl) ?_
    obtain ⟨y3_4, y4_4, y5_4, y6_4, y7_4, y8_4, y9_4, he4⟩ := ok_X5 hok ha0
    refine th_get hx hb (ly_X5 hE) hown hK hP ha0.1 he4 rfl 7 (by decide) (wd_234 hE) (fun _ h9 => h9) rfl dX5_passes_5 ?_
    refine lv_if_ne (tgt := 39) hx hb dX5_passes_8 (by decide) (fun c5 => ?_) (fun c5 => ?_)
    · refine lv_aload_n hx hb dX5_passes_39 rfl (lv_at hl 0 rfl) ?_
      refine th_get hx hb (ly_X5 hE) hown hK hP ha0.1 he4 rfl 7 (by decide) (wd_234 hE) (fun _ h9 => h9) rfl dX5_passes_40 ?_
      refine lv_if_ne (tgt := 50) hx hb dX5_passes_43 (by decide) (fun c6 => ?_) (fun c6 => ?_)
      · refine lv_iconst (v := 0) hx hb dX5_passes_50 (by decide) ?_
        exact W.zret (v := 0) hx hb hr rfl (fun t ht hW => ⟨⟨0, f0, rfl, Or.inl rfl, hok, by rw [ht]; exact hP⟩, hS.F ht⟩) hS.2.2 dX5_passes_51
      · refine lv_iconst (v := 1) hx hb dX5_passes_46 (by decide) ?_
        refine lv_goto (tgt := 51) hx hb dX5_passes_47 (by decide) ?_
        exact W.zret (v := 1) hx hb hr rfl (fun t ht hW => ⟨⟨1, f0, rfl, Or.inr rfl, hok, by rw [ht]; exact hP⟩, hS.F ht⟩) hS.2.2 dX5_passes_51
    · refine lv_aload_n hx hb dX5_passes_11 rfl (lv_at hl 0 rfl) ?_
      refine lv_iload_n hx hb dX5_passes_12 rfl (lv_at hl 2 rfl) ?_
      refine th_put (v := .int v2) (ty := .int) hx hb (ly_X5 hE) tyX5 tyX5_ok nmX5 hown hK hP hnd hAL hS ha0.1 he4 rfl 7 (by decide) (wd_234 hE) (fun _ h9 => h9) rfl (by decide +kernel) rfl rfl (Nat.le_of_ble_eq_true rfl) (up_X5 hok ha0 ⟨y3_4, y4_4, y5_4, y6_4, v2, y8_4, y9_4, rfl⟩) dX5_passes_13 (fun f7 H locs hfa7 hfo7 hok hP hS => ?_)
      refine lv_aload_n hx hb dX5_passes_16 rfl (lv_at hl 0 rfl) ?_
      refine lv_aload_n hx hb dX5_passes_17 rfl (lv_at hl 0 rfl) ?_
      refine th_get hx hb (ly_X5 hE) hown hK hP ha0.1 hfa7 rfl 0 (by decide) (wd_227 hE) (fun _ h9 => h9) rfl dX5_passes_18 ?_
      refine lv_aload_n hx hb dX5_passes_21 rfl (lv_at hl 0 rfl) ?_
      refine th_get hx hb (ly_X5 hE) hown hK hP ha0.1 hfa7 rfl 4 (by decide) (wd_231 hE) (fun _ h9 => h9) rfl dX5_passes_22 ?_
      obtain ⟨y3_8, y4_8, y5_8, hy4_8, he8⟩ := ok_X9 hok (wt_X5_0 hWT ha0)
      refine vp_callSi (va_Run.run (va_runV (As := [.int y4_4]) (rest := [.ref a0]) ⟨hx, hb, hml, hown, noTs⟩ (t_X9_placeAt l dC dI H.size G cs tt mm (gR G a0 0) ((wt_X5_0 hWT ha0)) y4_4) ⟨cbE 1 (wd_565 hE) (wd_119 hE) (wd_562 hE) rfl rfl (by decide +kernel) ⟨Nat.le_of_ble_eq_true rfl, Nat.le_of_ble_eq_true rfl⟩, (wd_563 hE), (wd_564 hE)⟩ ⟨PT.blind, th_recv hK hP (wt_X5_0 hWT ha0).1 he8 rfl, (th_pre (av := [.ref (gR G a0 0), .int y4_4]) hK hP hok hnd hWT hE)⟩ rfl rfl hl.1 rfl (lv_room (Nat.le_of_ble_eq_true rfl)) dX5_passes_25 ⟨Nat.le_of_ble_eq_true rfl, Nat.le_of_ble_eq_true rfl⟩)) (fun r9 hr9 => ?_)
      refine th_put (v := .int r9) (ty := .int) hx hb (ly_X5 hE) tyX5 tyX5_ok nmX5 hown hK hP hnd hAL hS ha0.1 hfa7 rfl 8 (by decide) (wd_235 hE) (fun _ h9 => h9) rfl (by decide +kernel) rfl rfl (Nat.le_of_ble_eq_true rfl) (up_X5 hok ha0 ⟨y3_4, y4_4, y5_4, y6_4, v2, r9, y9_4, rfl⟩) dX5_passes_28 (fun f10 H locs hfa10 hfo10 hok hP hS => ?_)
      have he11 := (hfo10 (gR G a0 0) (Ty.ne (wt_X5_0 hWT ha0) ha0 (by decide))).trans he8
      refine lv_aload_n hx hb dX5_passes_31 rfl (lv_at hl 0 rfl) ?_
      refine lv_aload_n hx hb dX5_passes_32 rfl (lv_at hl 0 rfl) ?_
      refine th_get hx hb (ly_X5 hE) hown hK hP ha0.1 hfa10 rfl 6 (by decide) (wd_233 hE) (fun _ h9 => h9) rfl dX5_passes_33 ?_
      refine th_put (v := .int y6_4) (ty := .int) hx hb (ly_X5 hE) tyX5 tyX5_ok nmX5 hown hK hP hnd hAL hS ha0.1 hfa10 rfl 9 (by decide) (wd_236 hE) (fun _ h9 => h9) rfl (by decide +kernel) rfl rfl (Nat.le_of_ble_eq_true rfl) (up_X5 hok ha0 ⟨y3_4, y4_4, y5_4, y6_4, v2, r9, y6_4, rfl⟩) dX5_passes_36 (fun f12 H locs hfa12 hfo12 hok hP hS => ?_)
      have he13 := (hfo12 (gR G a0 0) (Ty.ne (wt_X5_0 hWT ha0) ha0 (by decide))).trans he11
      refine lv_aload_n hx hb dX5_passes_39 rfl (lv_at hl 0 rfl) ?_
      refine th_get hx hb (ly_X5 hE) hown hK hP ha0.1 hfa12 rfl 7 (by decide) (wd_234 hE) (fun _ h9 => h9) rfl dX5_passes_40 ?_
      refine lv_if_ne (tgt := 50) hx hb dX5_passes_43 (by decide) (fun c14 => ?_) (fun c14 => ?_)
      · refine lv_iconst (v := 0) hx hb dX5_passes_50 (by decide) ?_
        exact W.zret (v := 0) hx hb hr rfl (fun t ht hW => ⟨⟨0, f12, rfl, Or.inl rfl, hok, by rw [ht]; exact hP⟩, hS.F ht⟩) hS.2.2 dX5_passes_51
      · refine lv_iconst (v := 1) hx hb dX5_passes_46 (by decide) ?_
        refine lv_goto (tgt := 51) hx hb dX5_passes_47 (by decide) ?_
        exact W.zret (v := 1) hx hb hr rfl (fun t ht hW => ⟨⟨1, f12, rfl, Or.inr rfl, hok, by rw [ht]; exact hP⟩, hS.F ht⟩) hS.2.2 dX5_passes_51

set_option maxHeartbeats 4000000 in
set_option maxRecDepth 100000 in
theorem t_X9_valueAt (l : Launch) (dC : Nat → ClassId) (dI : Nat → Nat → Nat) (sz : Nat) (G : GT) (cs : Nat → ClassId) (tt mm : Nat) (a0 : Nat) (ha0 : Ty G a0 9) (v1 : Int32) : Met l yX9_valueAt [.code yX9_valueAt cX9_valueAt 2 (some .int)] ({ frames := 0, cells := 0, slots := 0, locals := 0 }) (PT [.ref a0, .int v1] sz dC dI G cs tt mm) (vp_Si (fun (r : Int32) => True)) 0 0 (fun _ => False) := by
  refine Met.ofW (cc := cX9_valueAt) (maxL := 2) (ret := (some .int)) (by decide) rfl ?_
  intro p e s m args below meth c s₁ B hml hv
  obtain ⟨rfl, hsz, ⟨f0, hok, hP⟩, hK, hnd, hWT, hE⟩ := hv
  have hx := B.exec
  have hb := B.bytes
  have hr := B.returns
  have hown : s.vm.findClass RX9 = some m.cls := findClass_of_methodNamed B.named
  have hlocks := B.notSynchronized
  subst hsz
  have hl := lv_entry ([.ref a0, .int v1]) (n := 2) (Nat.le_of_ble_eq_true rfl)
  rw [lg_entry_eq]
  generalize (lg_sl ([.ref a0, .int v1]) ++ List.replicate (2 - (lg_sl ([.ref a0, .int v1])).length) Slot.unset).toArray = ls at hl ⊢
  have hl : lv_has ls 2 [(0, .ref a0), (1, .int v1)] := hl
  refine lv_iload_n hx hb dX9_valueAt_0 rfl (lv_at hl 1 rfl) ?_
  refine lv_if_lt (tgt := 21) hx hb dX9_valueAt_1 (by decide) (fun c1 => ?_) (fun c1 => ?_)
  · refine lv_iconst (v := 0) hx hb dX9_valueAt_21 (by decide) ?_
    refine lv_goto (tgt := 31) hx hb dX9_valueAt_22 (by decide) ?_
    exact W.iret (v := 0) hx hb hr (fun t ht hW => ⟨0, rfl, trivial, ht⟩) (fun _ h => absurd h List.not_mem_nil) dX9_valueAt_31
  · refine lv_iload_n hx hb dX9_valueAt_4 rfl (lv_at hl 1 rfl) ?_
    refine lv_aload_n hx hb dX9_valueAt_5 rfl (lv_at hl 0 rfl) ?_
    obtain ⟨y3_2, y4_2, y5_2, hy4_2, he2⟩ := ok_X9 hok ha0
    refine th_get hx hb (ly_X9 hE) hown hK hP ha0.1 he2 rfl 3 (by decide) (wd_189 hE) (fun _ h9 => h9) rfl dX9_valueAt_6 ?_
    refine lv_icmp_ge (tgt := 21) hx hb dX9_valueAt_9 (by decide) (fun c3 => ?_) (fun c3 => ?_)
    · refine lv_iconst (v := 0) hx hb dX9_valueAt_21 (by decide) ?_
      refine lv_goto (tgt := 31) hx hb dX9_valueAt_22 (by decide) ?_
      exact W.iret (v := 0) hx hb hr (fun t ht hW => ⟨0, rfl, trivial, ht⟩) (fun _ h => absurd h List.not_mem_nil) dX9_valueAt_31
    · refine lv_iload_n hx hb dX9_valueAt_12 rfl (lv_at hl 1 rfl) ?_
      refine lv_aload_n hx hb dX9_valueAt_13 rfl (lv_at hl 0 rfl) ?_
      refine th_get hx hb (ly_X9 hE) hown hK hP ha0.1 he2 rfl 2 (by decide) (wd_188 hE) (fun _ h9 => h9) rfl dX9_valueAt_14 ?_
      refine th_len1 hx hb hK hP hok (n := 701) (wl_X9_2 hWT ha0) (Or.inl (wt_X9_2 hWT ha0)) dX9_valueAt_17 ?_
      refine W.eq (g2 := F0 m 18 ls [.int 701, .int v1]) rfl ?_
      refine lv_icmp_lt (tgt := 25) hx hb dX9_valueAt_18 (by decide) (fun c4 => ?_) (fun c4 => ?_)
      · refine lv_aload_n hx hb dX9_valueAt_25 rfl (lv_at hl 0 rfl) ?_
        refine th_get hx hb (ly_X9 hE) hown hK hP ha0.1 he2 rfl 2 (by decide) (wd_188 hE) (fun _ h9 => h9) rfl dX9_valueAt_26 ?_
        refine lv_iload_n hx hb dX9_valueAt_29 rfl (lv_at hl 1 rfl) ?_
        refine th_iald hx hb hK hP hok (wt_X9_2 hWT ha0) (n := 701) (wl_X9_2 hWT ha0) (vp_in_iff.mpr (by first | omega | (simp only [i_lt, i_le, i_eq, ti_m9, ti_m1, ti_0, ti_1, ti_2, ti_3, ti_4, ti_5, ti_6, ti_7, ti_9, ti_12, ti_20, ti_99, ti_700, ti_24, ti_72, ti_8, ti_128, ti_97, ti_122, ti_48, ti_57, ti_59, ti_60, ti_61, ti_62, ti_10] at c1 c3 c4 ⊢; omega))) dX9_valueAt_30 (fun x5 => ?_)
        exact W.iret (v := x5) hx hb hr (fun t ht hW => ⟨x5, rfl, trivial, ht⟩) (fun _ h => absurd h List.not_mem_nil) dX9_valueAt_31
      · refine lv_iconst (v := 0) hx hb dX9_valueAt_21 (by decide) ?_
        refine lv_goto (tgt := 31) hx hb dX9_valueAt_22 (by decide) ?_
        exact W.iret (v := 0) hx hb hr (fun t ht hW => ⟨0, rfl, trivial, ht⟩) (fun _ h => absurd h List.not_mem_nil) dX9_valueAt_31

set_option maxHeartbeats 4000000 in
set_option maxRecDepth 100000 in
theorem t_X5_value (l : Launch) (dC : Nat → ClassId) (dI : Nat → Nat → Nat) (sz : Nat) (G : GT) (cs : Nat → ClassId) (tt mm : Nat) (a0 : Nat) (ha0 : Ty G a0 5) : Met l yX5_value [.code yX5_value cX5_value 1 (some .int)] ({ frames := 1, cells := 0, slots := 0, locals := 40 }) (PT [.ref a0] sz dC dI G cs tt mm) (vp_Si (fun (r : Int32) => True)) 0 0 (fun _ => False) := by
  refine Met.ofW (cc := cX5_value) (maxL := 1) (ret := (some .int)) (by decide) rfl ?_
  intro p e s m args below meth c s₁ B hml hv
  obtain ⟨rfl, hsz, ⟨f0, hok, hP⟩, hK, hnd, hWT, hE⟩ := hv
  have hx := B.exec
  have hb := B.bytes
  have hr := B.returns
  have hown : s.vm.findClass RX5 = some m.cls := findClass_of_methodNamed B.named
  have hlocks := B.notSynchronized
  subst hsz
  have hl := lv_entry ([.ref a0]) (n := 1) (Nat.le_of_ble_eq_true rfl)
  rw [lg_entry_eq]
  generalize (lg_sl ([.ref a0]) ++ List.replicate (1 - (lg_sl ([.ref a0])).length) Slot.unset).toArray = ls at hl ⊢
  have hl : lv_has ls 1 [(0, .ref a0)] := hl
  refine lv_aload_n hx hb dX5_value_0 rfl (lv_at hl 0 rfl) ?_
  obtain ⟨y3_1, y4_1, y5_1, y6_1, y7_1, y8_1, y9_1, he1⟩ := ok_X5 hok ha0
  refine th_get hx hb (ly_X5 hE) hown hK hP ha0.1 he1 rfl 0 (by decide) (wd_227 hE) (fun _ h9 => h9) rfl dX5_value_1 ?_
  refine lv_aload_n hx hb dX5_value_4 rfl (lv_at hl 0 rfl) ?_
  refine th_get hx hb (ly_X5 hE) hown hK hP ha0.1 he1 rfl 4 (by decide) (wd_231 hE) (fun _ h9 => h9) rfl dX5_value_5 ?_
  obtain ⟨y3_2, y4_2, y5_2, hy4_2, he2⟩ := ok_X9 hok (wt_X5_0 hWT ha0)
  refine vp_callSi (va_Run.run (va_runV (As := [.int y4_1]) (rest := []) ⟨hx, hb, hml, hown, noTs⟩ (t_X9_valueAt l dC dI s.heap.size G cs tt mm (gR G a0 0) ((wt_X5_0 hWT ha0)) y4_1) ⟨cbE 1 (wd_573 hE) (wd_119 hE) (wd_570 hE) rfl rfl (by decide +kernel) ⟨Nat.le_of_ble_eq_true rfl, Nat.le_of_ble_eq_true rfl⟩, (wd_571 hE), (wd_572 hE)⟩ ⟨PT.blind, th_recv hK hP (wt_X5_0 hWT ha0).1 he2 rfl, (th_pre (av := [.ref (gR G a0 0), .int y4_1]) hK hP hok hnd hWT hE)⟩ rfl rfl hl.1 rfl (lv_room (Nat.le_of_ble_eq_true rfl)) dX5_value_8 ⟨Nat.le_of_ble_eq_true rfl, Nat.le_of_ble_eq_true rfl⟩)) (fun r3 hr3 => ?_)
  exact W.iret (v := r3) hx hb hr (fun t ht hW => ⟨r3, rfl, trivial, ht⟩) (fun _ h => absurd h List.not_mem_nil) dX5_value_11

set_option maxHeartbeats 4000000 in
set_option maxRecDepth 100000 in
theorem t_X5_readNumber (l : Launch) (dC : Nat → ClassId) (dI : Nat → Nat → Nat) (sz : Nat) (G : GT) (cs : Nat → ClassId) (tt mm : Nat) (a0 : Nat) (ha0 : Ty G a0 5) : Met l yX5_readNumber [.code yX5_readNumber cX5_readNumber 1 none] ({ frames := 2, cells := 0, slots := 0, locals := 80 }) (PT [.ref a0] sz dC dI G cs tt mm) (va_Qv (fun (u : Nat → va_E) => True) (BT dC dI G cs tt mm) (AT G sz)) 0 0 (AT G sz) := by
  refine Met.ofW (cc := cX5_readNumber) (maxL := 1) (ret := none) (by decide) rfl ?_
  intro p e s m args below meth c s₁ B hml hv
  obtain ⟨rfl, hsz, ⟨f0, hok, hP⟩, hK, hnd, hWT, hE⟩ := hv
  have hx := B.exec
  have hb := B.bytes
  have hr := B.returns
  have hown : s.vm.findClass RX5 = some m.cls := findClass_of_methodNamed B.named
  have hlocks := B.notSynchronized
  subst hsz
  have hAL : ∀ a, a ∈ gL G → AT G s.heap.size a := fun a h => Or.inl h
  have hA : ∀ q : Nat, s.heap.size ≤ q → AT G s.heap.size q := fun q h => Or.inr h
  have hS : va_S (AT G s.heap.size) s.heap s.heap [] := va_S.rf
  have hl := lv_entry ([.ref a0]) (n := 1) (Nat.le_of_ble_eq_true rfl)
  rw [lg_entry_eq]
  generalize (lg_sl ([.ref a0]) ++ List.replicate (1 - (lg_sl ([.ref a0])).length) Slot.unset).toArray = ls at hl ⊢
  have hl : lv_has ls 1 [(0, .ref a0)] := hl
  refine lv_aload_n hx hb dX5_readNumber_0 rfl (lv_at hl 0 rfl) ?_
  obtain ⟨y3_1, y4_1, y5_1, y6_1, y7_1, y8_1, y9_1, he1⟩ := ok_X5 hok ha0
  refine th_get hx hb (ly_X5 hE) hown hK hP ha0.1 he1 rfl 7 (by decide) (wd_234 hE) (fun _ h9 => h9) rfl dX5_readNumber_1 ?_
  refine lv_if_ne (tgt := 48) hx hb dX5_readNumber_4 (by decide) (fun c2 => ?_) (fun c2 => ?_)
  · exact W.vret hx hb hr (fun t ht hW => ⟨⟨f0, rfl, trivial, hok, by rw [ht]; exact hP⟩, hS.F ht⟩) hS.2.2 dX5_readNumber_48
  · refine lv_aload_n hx hb dX5_readNumber_7 rfl (lv_at hl 0 rfl) ?_
    refine vp_callSi (va_Run.run (va_runV (As := []) (rest := []) ⟨hx, hb, hml, hown, noTs⟩ (t_X5_kind l dC dI s.heap.size G cs tt mm a0 ha0) ⟨cbE 0 (wd_545 hE) (wd_118 hE) (wd_542 hE) rfl rfl (by decide +kernel) ⟨Nat.le_of_ble_eq_true rfl, Nat.le_of_ble_eq_true rfl⟩, (wd_544 hE), (wd_8 hE)⟩ ⟨PT.blind, th_recv hK hP ha0.1 he1 rfl, (th_pre (av := [.ref a0]) hK hP hok hnd hWT hE)⟩ rfl rfl hl.1 rfl (lv_room (Nat.le_of_ble_eq_true rfl)) dX5_readNumber_8 ⟨Nat.le_of_ble_eq_true rfl, Nat.le_of_ble_eq_true rfl⟩)) (fun r3 hr3 => ?_)
    refine lv_bipush (v := 6) hx hb dX5_readNumber_11 (by decide) ?_
    refine lv_icmp_ne (tgt := 48) hx hb dX5_readNumber_13 (by decide) (fun c4 => ?_) (fun c4 => ?_)
    · exact W.vret hx hb hr (fun t ht hW => ⟨⟨f0, rfl, trivial, hok, by rw [ht]; exact hP⟩, hS.F ht⟩) hS.2.2 dX5_readNumber_48
    · refine lv_aload_n hx hb dX5_readNumber_16 rfl (lv_at hl 0 rfl) ?_
      refine th_get hx hb (ly_X5 hE) hown hK hP ha0.1 he1 rfl 2 (by decide) (wd_229 hE) (fun _ h9 => h9) rfl dX5_readNumber_17 ?_
      refine lv_aload_n hx hb dX5_readNumber_20 rfl (lv_at hl 0 rfl) ?_
      refine vp_callSi (va_Run.run (va_runV (As := []) (rest := [.ref (gR G a0 2)]) ⟨hx, hb, hml, hown, noTs⟩ (t_X5_value l dC dI s.heap.size G cs tt mm a0 ha0) ⟨cbE 0 (wd_569 hE) (wd_118 hE) (wd_566 hE) rfl rfl (by decide +kernel) ⟨Nat.le_of_ble_eq_true rfl, Nat.le_of_ble_eq_true rfl⟩, (wd_568 hE), (wd_11 hE)⟩ ⟨PT.blind, th_recv hK hP ha0.1 he1 rfl, (th_pre (av := [.ref a0]) hK hP hok hnd hWT hE)⟩ rfl rfl hl.1 rfl (lv_room (Nat.le_of_ble_eq_true rfl)) dX5_readNumber_21 ⟨Nat.le_of_ble_eq_true rfl, Nat.le_of_ble_eq_true rfl⟩)) (fun r5 hr5 => ?_)
      refine lv_aload_n hx hb dX5_readNumber_24 rfl (lv_at hl 0 rfl) ?_
      refine th_get hx hb (ly_X5 hE) hown hK hP ha0.1 he1 rfl 1 (by decide) (wd_228 hE) (fun _ h9 => h9) rfl dX5_readNumber_25 ?_
      refine lv_aload_n hx hb dX5_readNumber_28 rfl (lv_at hl 0 rfl) ?_
      refine th_get hx hb (ly_X5 hE) hown hK hP ha0.1 he1 rfl 5 (by decide) (wd_232 hE) (fun _ h9 => h9) rfl dX5_readNumber_29 ?_
      have he6 := ok_X7 hok (wt_X5_1 hWT ha0)
      refine vp_callSi (va_Run.run (va_runV (As := [.int y5_1]) (rest := [.int r5, .ref (gR G a0 2)]) ⟨hx, hb, hml, hown, noTs⟩ (t_X7_orderAt l dC dI s.heap.size G cs tt mm (gR G a0 1) ((wt_X5_1 hWT ha0)) y5_1) ⟨cbE 1 (wd_614 hE) (wd_116 hE) (wd_611 hE) rfl rfl (by decide +kernel) ⟨Nat.le_of_ble_eq_true rfl, Nat.le_of_ble_eq_true rfl⟩, (wd_612 hE), (wd_613 hE)⟩ ⟨PT.blind, th_recv hK hP (wt_X5_1 hWT ha0).1 he6 rfl, (th_pre (av := [.ref (gR G a0 1), .int y5_1]) hK hP hok hnd hWT hE)⟩ rfl rfl hl.1 rfl (lv_room (Nat.le_of_ble_eq_true rfl)) dX5_readNumber_32 ⟨Nat.le_of_ble_eq_true rfl, Nat.le_of_ble_eq_true rfl⟩)) (fun r7 hr7 => ?_)
      obtain ⟨y2_8, y3_8, hy3_8, he8⟩ := ok_X10 hok (wt_X5_2 hWT ha0)
      refine tc_v hAL hS hA (va_runV (As := [.int r5, .int r7]) (rest := []) ⟨hx, hb, hml, hown, noTs⟩ (t_X10_addLast l dC dI s.heap.size G cs tt mm (gR G a0 2) ((wt_X5_2 hWT ha0)) r5 r7) ⟨cbE 2 (wd_645 hE) (wd_120 hE) (wd_642 hE) rfl rfl (by decide +kernel) ⟨Nat.le_of_ble_eq_true rfl, Nat.le_of_ble_eq_true rfl⟩, (wd_643 hE), (wd_644 hE)⟩ ⟨PT.blind, th_recv hK hP (wt_X5_2 hWT ha0).1 he8 rfl, (th_pre (av := [.ref (gR G a0 2), .int r5, .int r7]) hK hP hok hnd hWT hE)⟩ rfl rfl hl.1 rfl (lv_room (Nat.le_of_ble_eq_true rfl)) dX5_readNumber_35 ⟨Nat.le_of_ble_eq_true rfl, Nat.le_of_ble_eq_true rfl⟩) (fun f9 H locs hr9 hok hP hS => ?_)
      refine lv_aload_n hx hb dX5_readNumber_38 rfl (lv_at hl 0 rfl) ?_
      refine lv_dup hx hb dX5_readNumber_39 rfl ?_
      obtain ⟨y3_10, y4_10, y5_10, y6_10, y7_10, y8_10, y9_10, he10⟩ := ok_X5 hok ha0
      refine th_get hx hb (ly_X5 hE) hown hK hP ha0.1 he10 rfl 4 (by decide) (wd_231 hE) (fun _ h9 => h9) rfl dX5_readNumber_40 ?_
      refine lv_iconst (v := 1) hx hb dX5_readNumber_43 (by decide) ?_
      refine lv_iadd hx hb dX5_readNumber_44 ?_
      refine lv_topi (fun x11 _ => ?_)
      refine th_put (v := .int x11) (ty := .int) hx hb (ly_X5 hE) tyX5 tyX5_ok nmX5 hown hK hP hnd hAL hS ha0.1 he10 rfl 4 (by decide) (wd_231 hE) (fun _ h9 => h9) rfl (by decide +kernel) rfl rfl (Nat.le_of_ble_eq_true rfl) (up_X5 hok ha0 ⟨y3_10, x11, y5_10, y6_10, y7_10, y8_10, y9_10, rfl⟩) dX5_readNumber_45 (fun f12 H locs hfa12 hfo12 hok hP hS => ?_)
      exact W.vret hx hb hr (fun t ht hW => ⟨⟨f12, rfl, trivial, hok, by rw [ht]; exact hP⟩, hS.F ht⟩) hS.2.2 dX5_readNumber_48

set_option maxHeartbeats 4000000 in
set_option maxRecDepth 100000 in
theorem t_X5_isSign (l : Launch) (dC : Nat → ClassId) (dI : Nat → Nat → Nat) (sz : Nat) (G : GT) (cs : Nat → ClassId) (tt mm : Nat) (a0 : Nat) (ha0 : Ty G a0 5) : Met l yX5_isSign [.code yX5_isSign cX5_isSign 2 (some .boolean)] ({ frames := 2, cells := 0, slots := 0, locals := 80 }) (PT [.ref a0] sz dC dI G cs tt mm) (vp_Si (fun (r : Int32) => r = 0 ∨ r = 1)) 0 0 (fun _ => False) := by
  refine Met.ofW (cc := cX5_isSign) (maxL := 2) (ret := (some .boolean)) (by decide) rfl ?_
  intro p e s m args below meth c s₁ B hml hv
  obtain ⟨rfl, hsz, ⟨f0, hok, hP⟩, hK, hnd, hWT, hE⟩ := hv
  have hx := B.exec
  have hb := B.bytes
  have hr := B.returns
  have hown : s.vm.findClass RX5 = some m.cls := findClass_of_methodNamed B.named
  have hlocks := B.notSynchronized
  subst hsz
  have hl := lv_entry ([.ref a0]) (n := 2) (Nat.le_of_ble_eq_true rfl)
  rw [lg_entry_eq]
  generalize (lg_sl ([.ref a0]) ++ List.replicate (2 - (lg_sl ([.ref a0])).length) Slot.unset).toArray = ls at hl ⊢
  have hl : lv_has ls 2 [(0, .ref a0)] := hl
  refine lv_aload_n hx hb dX5_isSign_0 rfl (lv_at hl 0 rfl) ?_
  obtain ⟨y3_1, y4_1, y5_1, y6_1, y7_1, y8_1, y9_1, he1⟩ := ok_X5 hok ha0
  refine vp_callSi (va_Run.run (va_runV (As := []) (rest := []) ⟨hx, hb, hml, hown, noTs⟩ (t_X5_kind l dC dI s.heap.size G cs tt mm a0 ha0) ⟨cbE 0 (wd_545 hE) (wd_118 hE) (wd_542 hE) rfl rfl (by decide +kernel) ⟨Nat.le_of_ble_eq_true rfl, Nat.le_of_ble_eq_true rfl⟩, (wd_544 hE), (wd_8 hE)⟩ ⟨PT.blind, th_recv hK hP ha0.1 he1 rfl, (th_pre (av := [.ref a0]) hK hP hok hnd hWT hE)⟩ rfl rfl hl.1 rfl (lv_room (Nat.le_of_ble_eq_true rfl)) dX5_isSign_1 ⟨Nat.le_of_ble_eq_true rfl, Nat.le_of_ble_eq_true rfl⟩)) (fun r2 hr2 => ?_)
  refine lv_istore_n (lv' := [(1, .int r2), (0, .ref a0)]) hx hb dX5_isSign_4 rfl hl (by decide) rfl (fun ls hl => ?_)
  refine lv_aload_n hx hb dX5_isSign_5 rfl (lv_at hl 1 rfl) ?_
  refine th_get hx hb (ly_X5 hE) hown hK hP ha0.1 he1 rfl 7 (by decide) (wd_234 hE) (fun _ h9 => h9) rfl dX5_isSign_6 ?_
  refine lv_if_ne (tgt := 28) hx hb dX5_isSign_9 (by decide) (fun c3 => ?_) (fun c3 => ?_)
  · refine lv_iconst (v := 0) hx hb dX5_isSign_28 (by decide) ?_
    exact W.zret (v := 0) hx hb hr rfl (fun t ht hW => ⟨0, rfl, Or.inl rfl, ht⟩) (fun _ h => absurd h List.not_mem_nil) dX5_isSign_29
  · refine lv_iload_n hx hb dX5_isSign_12 rfl (lv_at hl 0 rfl) ?_
    refine lv_bipush (v := 7) hx hb dX5_isSign_13 (by decide) ?_
    refine lv_icmp_eq (tgt := 24) hx hb dX5_isSign_15 (by decide) (fun c4 => ?_) (fun c4 => ?_)
    · refine lv_iconst (v := 1) hx hb dX5_isSign_24 (by decide) ?_
      refine lv_goto (tgt := 29) hx hb dX5_isSign_25 (by decide) ?_
      exact W.zret (v := 1) hx hb hr rfl (fun t ht hW => ⟨1, rfl, Or.inr rfl, ht⟩) (fun _ h => absurd h List.not_mem_nil) dX5_isSign_29
    · refine lv_iload_n hx hb dX5_isSign_18 rfl (lv_at hl 0 rfl) ?_
      refine lv_bipush (v := 8) hx hb dX5_isSign_19 (by decide) ?_
      refine lv_icmp_ne (tgt := 28) hx hb dX5_isSign_21 (by decide) (fun c5 => ?_) (fun c5 => ?_)
      · refine lv_iconst (v := 0) hx hb dX5_isSign_28 (by decide) ?_
        exact W.zret (v := 0) hx hb hr rfl (fun t ht hW => ⟨0, rfl, Or.inl rfl, ht⟩) (fun _ h => absurd h List.not_mem_nil) dX5_isSign_29
      · refine lv_iconst (v := 1) hx hb dX5_isSign_24 (by decide) ?_
        refine lv_goto (tgt := 29) hx hb dX5_isSign_25 (by decide) ?_
        exact W.zret (v := 1) hx hb hr rfl (fun t ht hW => ⟨1, rfl, Or.inr rfl, ht⟩) (fun _ h => absurd h List.not_mem_nil) dX5_isSign_29

set_option maxHeartbeats 4000000 in
set_option maxRecDepth 100000 in
theorem t_X5_result (l : Launch) (dC : Nat → ClassId) (dI : Nat → Nat → Nat) (sz : Nat) (G : GT) (cs : Nat → ClassId) (tt mm : Nat) (a0 : Nat) (ha0 : Ty G a0 5) : Met l yX5_result [.code yX5_result cX5_result 1 (some (.object "GluedWords$Store"))] ({ frames := 0, cells := 0, slots := 0, locals := 0 }) (PT [.ref a0] sz dC dI G cs tt mm) (va_Sq (fun (r : Option Nat) => True)) 0 0 (fun _ => False) := by
  refine Met.ofW (cc := cX5_result) (maxL := 1) (ret := (some (.object "GluedWords$Store"))) (by decide) rfl ?_
  intro p e s m args below meth c s₁ B hml hv
  obtain ⟨rfl, hsz, ⟨f0, hok, hP⟩, hK, hnd, hWT, hE⟩ := hv
  have hx := B.exec
  have hb := B.bytes
  have hr := B.returns
  have hown : s.vm.findClass RX5 = some m.cls := findClass_of_methodNamed B.named
  have hlocks := B.notSynchronized
  subst hsz
  have hl := lv_entry ([.ref a0]) (n := 1) (Nat.le_of_ble_eq_true rfl)
  rw [lg_entry_eq]
  generalize (lg_sl ([.ref a0]) ++ List.replicate (1 - (lg_sl ([.ref a0])).length) Slot.unset).toArray = ls at hl ⊢
  have hl : lv_has ls 1 [(0, .ref a0)] := hl
  refine lv_aload_n hx hb dX5_result_0 rfl (lv_at hl 0 rfl) ?_
  obtain ⟨y3_1, y4_1, y5_1, y6_1, y7_1, y8_1, y9_1, he1⟩ := ok_X5 hok ha0
  refine th_get hx hb (ly_X5 hE) hown hK hP ha0.1 he1 rfl 1 (by decide) (wd_228 hE) (fun _ h9 => h9) rfl dX5_result_1 ?_
  exact W.aret (v := .ref (gR G a0 1)) hx hb hr (Or.inl ⟨_, rfl⟩) (Or.inr ⟨_, rfl⟩) (fun t ht hW => ⟨some (gR G a0 1), rfl, trivial, ht⟩) (fun _ h => absurd h List.not_mem_nil) dX5_result_4

set_option maxHeartbeats 4000000 in
set_option maxRecDepth 100000 in
theorem t_X5_tellFault (l : Launch) (dC : Nat → ClassId) (dI : Nat → Nat → Nat) (sz : Nat) (G : GT) (cs : Nat → ClassId) (tt mm : Nat) (a0 : Nat) (ha0 : Ty G a0 5) (v1 : Int32) : Met l yX5_tellFault [.code yX5_tellFault cX5_tellFault 2 (some .int)] ({ frames := 0, cells := 0, slots := 0, locals := 0 }) (PT [.ref a0, .int v1] sz dC dI G cs tt mm) (vp_Si (fun (r : Int32) => True)) 0 0 (fun _ => False) := by
  refine Met.ofW (cc := cX5_tellFault) (maxL := 2) (ret := (some .int)) (by decide) rfl ?_
  intro p e s m args below meth c s₁ B hml hv
  obtain ⟨rfl, hsz, ⟨f0, hok, hP⟩, hK, hnd, hWT, hE⟩ := hv
  have hx := B.exec
  have hb := B.bytes
  have hr := B.returns
  have hown : s.vm.findClass RX5 = some m.cls := findClass_of_methodNamed B.named
  have hlocks := B.notSynchronized
  subst hsz
  have hl := lv_entry ([.ref a0, .int v1]) (n := 2) (Nat.le_of_ble_eq_true rfl)
  rw [lg_entry_eq]
  generalize (lg_sl ([.ref a0, .int v1]) ++ List.replicate (2 - (lg_sl ([.ref a0, .int v1])).length) Slot.unset).toArray = ls at hl ⊢
  have hl : lv_has ls 2 [(0, .ref a0), (1, .int v1)] := hl
  refine lv_aload_n hx hb dX5_tellFault_0 rfl (lv_at hl 0 rfl) ?_
  obtain ⟨y3_1, y4_1, y5_1, y6_1, y7_1, y8_1, y9_1, he1⟩ := ok_X5 hok ha0
  refine th_get hx hb (ly_X5 hE) hown hK hP ha0.1 he1 rfl 3 (by decide) (wd_230 hE) (fun _ h9 => h9) rfl dX5_tellFault_1 ?_
  refine lv_if_ne (tgt := 9) hx hb dX5_tellFault_4 (by decide) (fun c2 => ?_) (fun c2 => ?_)
  · refine lv_iload_n hx hb dX5_tellFault_9 rfl (lv_at hl 1 rfl) ?_
    by_cases t3 : v1 = 0
    · refine lv_tableIn (tgt := 36) hx hb dX5_tellFault_10 (by rw [t3]; decide) (by rw [t3]; decide) (by rw [t3]; rfl) (by decide) ?_
      refine lv_aload_n hx hb dX5_tellFault_36 rfl (lv_at hl 0 rfl) ?_
      refine th_get hx hb (ly_X5 hE) hown hK hP ha0.1 he1 rfl 7 (by decide) (wd_234 hE) (fun _ h9 => h9) rfl dX5_tellFault_37 ?_
      exact W.iret (v := y7_1) hx hb hr (fun t ht hW => ⟨y7_1, rfl, trivial, ht⟩) (fun _ h => absurd h List.not_mem_nil) dX5_tellFault_40
    by_cases t4 : v1 = 1
    · refine lv_tableIn (tgt := 41) hx hb dX5_tellFault_10 (by rw [t4]; decide) (by rw [t4]; decide) (by rw [t4]; rfl) (by decide) ?_
      refine lv_aload_n hx hb dX5_tellFault_41 rfl (lv_at hl 0 rfl) ?_
      refine th_get hx hb (ly_X5 hE) hown hK hP ha0.1 he1 rfl 8 (by decide) (wd_235 hE) (fun _ h9 => h9) rfl dX5_tellFault_42 ?_
      exact W.iret (v := y8_1) hx hb hr (fun t ht hW => ⟨y8_1, rfl, trivial, ht⟩) (fun _ h => absurd h List.not_mem_nil) dX5_tellFault_45
    by_cases t5 : v1 = 2
    · refine lv_tableIn (tgt := 46) hx hb dX5_tellFault_10 (by rw [t5]; decide) (by rw [t5]; decide) (by rw [t5]; rfl) (by decide) ?_
      refine lv_aload_n hx hb dX5_tellFault_46 rfl (lv_at hl 0 rfl) ?_
      refine th_get hx hb (ly_X5 hE) hown hK hP ha0.1 he1 rfl 9 (by decide) (wd_236 hE) (fun _ h9 => h9) rfl dX5_tellFault_47 ?_
      exact W.iret (v := y9_1) hx hb hr (fun t ht hW => ⟨y9_1, rfl, trivial, ht⟩) (fun _ h => absurd h List.not_mem_nil) dX5_tellFault_50
    have hT6 : v1.toInt < 0 ∨ 2 < v1.toInt := by simp only [i_eq, ti_m9, ti_m1, ti_0, ti_1, ti_2, ti_3, ti_4, ti_5, ti_6, ti_7, ti_9, ti_12, ti_20, ti_99, ti_700] at t3 t4 t5; omega
    refine lv_tableOut (tgt := 51) hx hb dX5_tellFault_10 hT6 (by decide) ?_
    refine lv_iconst (v := -1) hx hb dX5_tellFault_51 (by decide) ?_
    exact W.iret (v := -1) hx hb hr (fun t ht hW => ⟨-1, rfl, trivial, ht⟩) (fun _ h => absurd h List.not_mem_nil) dX5_tellFault_52
  · refine lv_iconst (v := -1) hx hb dX5_tellFault_7 (by decide) ?_
    exact W.iret (v := -1) hx hb hr (fun t ht hW => ⟨-1, rfl, trivial, ht⟩) (fun _ h => absurd h List.not_mem_nil) dX5_tellFault_8

set_option maxHeartbeats 4000000 in
set_option maxRecDepth 100000 in
theorem t_X6_leastOf (l : Launch) (dC : Nat → ClassId) (dI : Nat → Nat → Nat) (sz : Nat) (G : GT) (cs : Nat → ClassId) (tt mm : Nat) (a0 : Nat) (ha0 : Ty G a0 6) (v1 : Int32) : Met l yX6_leastOf [.code yX6_leastOf cX6_leastOf 2 (some .int)] ({ frames := 0, cells := 0, slots := 0, locals := 0 }) (PT [.ref a0, .int v1] sz dC dI G cs tt mm) (vp_Si (fun (r : Int32) => True)) 0 0 (fun _ => False) := by
  refine Met.ofW (cc := cX6_leastOf) (maxL := 2) (ret := (some .int)) (by decide) rfl ?_
  intro p e s m args below meth c s₁ B hml hv
  obtain ⟨rfl, hsz, ⟨f0, hok, hP⟩, hK, hnd, hWT, hE⟩ := hv
  have hx := B.exec
  have hb := B.bytes
  have hr := B.returns
  have hown : s.vm.findClass RX6 = some m.cls := findClass_of_methodNamed B.named
  have hlocks := B.notSynchronized
  subst hsz
  have hl := lv_entry ([.ref a0, .int v1]) (n := 2) (Nat.le_of_ble_eq_true rfl)
  rw [lg_entry_eq]
  generalize (lg_sl ([.ref a0, .int v1]) ++ List.replicate (2 - (lg_sl ([.ref a0, .int v1])).length) Slot.unset).toArray = ls at hl ⊢
  have hl : lv_has ls 2 [(0, .ref a0), (1, .int v1)] := hl
  refine lv_iload_n hx hb dX6_leastOf_0 rfl (lv_at hl 1 rfl) ?_
  refine lv_if_lt (tgt := 13) hx hb dX6_leastOf_1 (by decide) (fun c1 => ?_) (fun c1 => ?_)
  · refine lv_iconst (v := -1) hx hb dX6_leastOf_13 (by decide) ?_
    refine lv_goto (tgt := 23) hx hb dX6_leastOf_14 (by decide) ?_
    exact W.iret (v := -1) hx hb hr (fun t ht hW => ⟨-1, rfl, trivial, ht⟩) (fun _ h => absurd h List.not_mem_nil) dX6_leastOf_23
  · refine lv_iload_n hx hb dX6_leastOf_4 rfl (lv_at hl 1 rfl) ?_
    refine lv_aload_n hx hb dX6_leastOf_5 rfl (lv_at hl 0 rfl) ?_
    obtain ⟨y1_2, y2_2, he2⟩ := ok_X6 hok ha0
    refine th_get hx hb (ly_X6 hE) hown hK hP ha0.1 he2 rfl 0 (by decide) (wd_338 hE) (fun _ h9 => h9) rfl dX6_leastOf_6 ?_
    refine th_len1 hx hb hK hP hok (n := 6) (wl_X6_0 hWT ha0) (Or.inl (wt_X6_0 hWT ha0)) dX6_leastOf_9 ?_
    refine W.eq (g2 := F0 m 10 ls [.int 6, .int v1]) rfl ?_
    refine lv_icmp_lt (tgt := 17) hx hb dX6_leastOf_10 (by decide) (fun c3 => ?_) (fun c3 => ?_)
    · refine lv_aload_n hx hb dX6_leastOf_17 rfl (lv_at hl 0 rfl) ?_
      refine th_get hx hb (ly_X6 hE) hown hK hP ha0.1 he2 rfl 0 (by decide) (wd_338 hE) (fun _ h9 => h9) rfl dX6_leastOf_18 ?_
      refine lv_iload_n hx hb dX6_leastOf_21 rfl (lv_at hl 1 rfl) ?_
      refine th_iald hx hb hK hP hok (wt_X6_0 hWT ha0) (n := 6) (wl_X6_0 hWT ha0) (vp_in_iff.mpr (by first | omega | (simp only [i_lt, i_le, i_eq, ti_m9, ti_m1, ti_0, ti_1, ti_2, ti_3, ti_4, ti_5, ti_6, ti_7, ti_9, ti_12, ti_20, ti_99, ti_700, ti_24, ti_72, ti_8, ti_128, ti_97, ti_122, ti_48, ti_57, ti_59, ti_60, ti_61, ti_62, ti_10, ti_33, ti_51] at c1 c3 ⊢; omega))) dX6_leastOf_22 (fun x4 => ?_)
      exact W.iret (v := x4) hx hb hr (fun t ht hW => ⟨x4, rfl, trivial, ht⟩) (fun _ h => absurd h List.not_mem_nil) dX6_leastOf_23
    · refine lv_iconst (v := -1) hx hb dX6_leastOf_13 (by decide) ?_
      refine lv_goto (tgt := 23) hx hb dX6_leastOf_14 (by decide) ?_
      exact W.iret (v := -1) hx hb hr (fun t ht hW => ⟨-1, rfl, trivial, ht⟩) (fun _ h => absurd h List.not_mem_nil) dX6_leastOf_23

set_option maxHeartbeats 4000000 in
set_option maxRecDepth 100000 in
theorem t_X6_setLeast (l : Launch) (dC : Nat → ClassId) (dI : Nat → Nat → Nat) (sz : Nat) (G : GT) (cs : Nat → ClassId) (tt mm : Nat) (a0 : Nat) (ha0 : Ty G a0 6) (v1 : Int32) (v2 : Int32) : Met l yX6_setLeast [.code yX6_setLeast cX6_setLeast 3 none] ({ frames := 0, cells := 0, slots := 0, locals := 0 }) (PT [.ref a0, .int v1, .int v2] sz dC dI G cs tt mm) (va_Qv (fun (u : Nat → va_E) => True) (BT dC dI G cs tt mm) (AT G sz)) 0 0 (AT G sz) := by
  refine Met.ofW (cc := cX6_setLeast) (maxL := 3) (ret := none) (by decide) rfl ?_
  intro p e s m args below meth c s₁ B hml hv
  obtain ⟨rfl, hsz, ⟨f0, hok, hP⟩, hK, hnd, hWT, hE⟩ := hv
  have hx := B.exec
  have hb := B.bytes
  have hr := B.returns
  have hown : s.vm.findClass RX6 = some m.cls := findClass_of_methodNamed B.named
  have hlocks := B.notSynchronized
  subst hsz
  have hAL : ∀ a, a ∈ gL G → AT G s.heap.size a := fun a h => Or.inl h
  have hA : ∀ q : Nat, s.heap.size ≤ q → AT G s.heap.size q := fun q h => Or.inr h
  have hS : va_S (AT G s.heap.size) s.heap s.heap [] := va_S.rf
  have hl := lv_entry ([.ref a0, .int v1, .int v2]) (n := 3) (Nat.le_of_ble_eq_true rfl)
  rw [lg_entry_eq]
  generalize (lg_sl ([.ref a0, .int v1, .int v2]) ++ List.replicate (3 - (lg_sl ([.ref a0, .int v1, .int v2])).length) Slot.unset).toArray = ls at hl ⊢
  have hl : lv_has ls 3 [(0, .ref a0), (1, .int v1), (2, .int v2)] := hl
  refine lv_iload_n hx hb dX6_setLeast_0 rfl (lv_at hl 1 rfl) ?_
  refine lv_if_lt (tgt := 20) hx hb dX6_setLeast_1 (by decide) (fun c1 => ?_) (fun c1 => ?_)
  · exact W.vret hx hb hr (fun t ht hW => ⟨⟨f0, rfl, trivial, hok, by rw [ht]; exact hP⟩, hS.F ht⟩) hS.2.2 dX6_setLeast_20
  · refine lv_iload_n hx hb dX6_setLeast_4 rfl (lv_at hl 1 rfl) ?_
    refine lv_aload_n hx hb dX6_setLeast_5 rfl (lv_at hl 0 rfl) ?_
    obtain ⟨y1_2, y2_2, he2⟩ := ok_X6 hok ha0
    refine th_get hx hb (ly_X6 hE) hown hK hP ha0.1 he2 rfl 0 (by decide) (wd_338 hE) (fun _ h9 => h9) rfl dX6_setLeast_6 ?_
    refine th_len1 hx hb hK hP hok (n := 6) (wl_X6_0 hWT ha0) (Or.inl (wt_X6_0 hWT ha0)) dX6_setLeast_9 ?_
    refine W.eq (g2 := F0 m 10 ls [.int 6, .int v1]) rfl ?_
    refine lv_icmp_ge (tgt := 20) hx hb dX6_setLeast_10 (by decide) (fun c3 => ?_) (fun c3 => ?_)
    · exact W.vret hx hb hr (fun t ht hW => ⟨⟨f0, rfl, trivial, hok, by rw [ht]; exact hP⟩, hS.F ht⟩) hS.2.2 dX6_setLeast_20
    · refine lv_aload_n hx hb dX6_setLeast_13 rfl (lv_at hl 0 rfl) ?_
      refine th_get hx hb (ly_X6 hE) hown hK hP ha0.1 he2 rfl 0 (by decide) (wd_338 hE) (fun _ h9 => h9) rfl dX6_setLeast_14 ?_
      refine lv_iload_n hx hb dX6_setLeast_17 rfl (lv_at hl 1 rfl) ?_
      refine lv_iload_n hx hb dX6_setLeast_18 rfl (lv_at hl 2 rfl) ?_
      refine th_iast hx hb hK hP hok hnd hAL hS (wt_X6_0 hWT ha0) (n := 6) (wl_X6_0 hWT ha0) (vp_in_iff.mpr (by first | omega | (simp only [i_lt, i_le, i_eq, ti_m9, ti_m1, ti_0, ti_1, ti_2, ti_3, ti_4, ti_5, ti_6, ti_7, ti_9, ti_12, ti_20, ti_99, ti_700, ti_24, ti_72, ti_8, ti_128, ti_97, ti_122, ti_48, ti_57, ti_59, ti_60, ti_61, ti_62, ti_10, ti_33, ti_51] at c1 c3 ⊢; omega))) dX6_setLeast_19 (fun f4 H locs hfo4 hok hP hS => ?_)
      have he5 := (hfo4 a0 (Ty.ne ha0 (wt_X6_0 hWT ha0) (by decide))).trans he2
      exact W.vret hx hb hr (fun t ht hW => ⟨⟨f4, rfl, trivial, hok, by rw [ht]; exact hP⟩, hS.F ht⟩) hS.2.2 dX6_setLeast_20

set_option maxHeartbeats 4000000 in
set_option maxRecDepth 100000 in
theorem t_X6_join (l : Launch) (dC : Nat → ClassId) (dI : Nat → Nat → Nat) (sz : Nat) (G : GT) (cs : Nat → ClassId) (tt mm : Nat) (a0 : Nat) (ha0 : Ty G a0 6) (a1 : Nat) (ha1 : Ty G a1 7) : Met l yX6_join [.code yX6_join cX6_join 5 none] ({ frames := 2, cells := 0, slots := 0, locals := 80 }) (PT [.ref a0, .ref a1] sz dC dI G cs tt mm) (va_Qv (fun (u : Nat → va_E) => True) (BT dC dI G cs tt mm) (AT G sz)) 0 0 (AT G sz) := by
  refine Met.ofW (cc := cX6_join) (maxL := 5) (ret := none) (by decide) rfl ?_
  intro p e s m args below meth c s₁ B hml hv
  obtain ⟨rfl, hsz, ⟨f0, hok, hP⟩, hK, hnd, hWT, hE⟩ := hv
  have hx := B.exec
  have hb := B.bytes
  have hr := B.returns
  have hown : s.vm.findClass RX6 = some m.cls := findClass_of_methodNamed B.named
  have hlocks := B.notSynchronized
  subst hsz
  have hAL : ∀ a, a ∈ gL G → AT G s.heap.size a := fun a h => Or.inl h
  have hA : ∀ q : Nat, s.heap.size ≤ q → AT G s.heap.size q := fun q h => Or.inr h
  have hS : va_S (AT G s.heap.size) s.heap s.heap [] := va_S.rf
  have hl := lv_entry ([.ref a0, .ref a1]) (n := 5) (Nat.le_of_ble_eq_true rfl)
  rw [lg_entry_eq]
  generalize (lg_sl ([.ref a0, .ref a1]) ++ List.replicate (5 - (lg_sl ([.ref a0, .ref a1])).length) Slot.unset).toArray = ls at hl ⊢
  have hl : lv_has ls 5 [(0, .ref a0), (1, .ref a1)] := hl
  refine lv_iconst (v := 0) hx hb dX6_join_0 (by decide) ?_
  refine lv_istore_n (lv' := [(2, .int 0), (0, .ref a0), (1, .ref a1)]) hx hb dX6_join_1 rfl hl (by decide) rfl (fun ls hl => ?_)
  refine w_ind (I := fun n f H locs ls => OKT G cs tt mm f ∧ va_P (dC, dI) vwCl (va_pl (gL G) f) H ∧ va_S (AT G s.heap.size) s.heap H locs ∧ ∃ (w2_1 : Int32), n = (2147483647 - w2_1.toInt).toNat ∧ 0 ≤ w2_1 ∧ lv_has ls 5 [(0, .ref a0), (1, .ref a1), (2, .int w2_1)]) (fun n f1 H locs ls hI ih1 => ?_) _ f0 _ _ _ ⟨hok, hP, hS, 0, rfl, (by first | omega | (simp only [i_lt, i_le, i_eq, ti_m9, ti_m1, ti_0, ti_1, ti_2, ti_3, ti_4, ti_5, ti_6, ti_7, ti_9, ti_12, ti_20, ti_99, ti_700, ti_24, ti_72, ti_8, ti_128, ti_97, ti_122, ti_48, ti_57, ti_59, ti_60, ti_61, ti_62, ti_10, ti_33, ti_51]; omega)), lv_sub hl [1, 2, 0] rfl⟩
  obtain ⟨hok, hP, hS, w2_1, hmu1, hlo1, hl⟩ := hI
  subst hmu1
  refine lv_iload_n hx hb dX6_join_2 rfl (lv_at hl 2 rfl) ?_
  refine lv_bipush (v := 6) hx hb dX6_join_3 (by decide) ?_
  refine lv_icmp_ge (tgt := 20) hx hb dX6_join_5 (by decide) (fun c2 => ?_) (fun c2 => ?_)
  · refine lv_iconst (v := 1) hx hb dX6_join_20 (by decide) ?_
    refine lv_istore_n (lv' := [(2, .int 1), (0, .ref a0), (1, .ref a1)]) hx hb dX6_join_21 rfl hl (by decide) rfl (fun ls hl => ?_)
    refine w_ind (I := fun n f H locs ls => OKT G cs tt mm f ∧ va_P (dC, dI) vwCl (va_pl (gL G) f) H ∧ va_S (AT G s.heap.size) s.heap H locs ∧ ∃ (w2_3 : Int32), n = (2147483647 - w2_3.toInt).toNat ∧ 1 ≤ w2_3 ∧ lv_has ls 5 [(0, .ref a0), (1, .ref a1), (2, .int w2_3)]) (fun n f3 H locs ls hI ih3 => ?_) _ f1 _ _ _ ⟨hok, hP, hS, 1, rfl, (by first | omega | (simp only [i_lt, i_le, i_eq, ti_m9, ti_m1, ti_0, ti_1, ti_2, ti_3, ti_4, ti_5, ti_6, ti_7, ti_9, ti_12, ti_20, ti_99, ti_700, ti_24, ti_72, ti_8, ti_128, ti_97, ti_122, ti_48, ti_57, ti_59, ti_60, ti_61, ti_62, ti_10, ti_33, ti_51] at hlo1 c2 ⊢; omega)), lv_sub hl [1, 2, 0] rfl⟩
    obtain ⟨hok, hP, hS, w2_3, hmu3, hlo3, hl⟩ := hI
    subst hmu3
    refine lv_iload_n hx hb dX6_join_22 rfl (lv_at hl 2 rfl) ?_
    refine lv_aload_n hx hb dX6_join_23 rfl (lv_at hl 1 rfl) ?_
    have he4 := ok_X7 hok ha1
    refine vp_callSi (va_Run.run (va_runV (As := []) (rest := [.int w2_3]) ⟨hx, hb, hml, hown, noTs⟩ (t_X7_vertices l dC dI H.size G cs tt mm a1 ha1) ⟨cbE 0 (wd_557 hE) (wd_116 hE) (wd_779 hE) rfl rfl (by decide +kernel) ⟨Nat.le_of_ble_eq_true rfl, Nat.le_of_ble_eq_true rfl⟩, (wd_555 hE), (wd_556 hE)⟩ ⟨PT.blind, th_recv hK hP ha1.1 he4 rfl, (th_pre (av := [.ref a1]) hK hP hok hnd hWT hE)⟩ rfl rfl hl.1 rfl (lv_room (Nat.le_of_ble_eq_true rfl)) dX6_join_24 ⟨Nat.le_of_ble_eq_true rfl, Nat.le_of_ble_eq_true rfl⟩)) (fun r5 hr5 => ?_)
    refine lv_icmp_ge (tgt := 83) hx hb dX6_join_27 (by decide) (fun c6 => ?_) (fun c6 => ?_)
    · exact W.vret hx hb hr (fun t ht hW => ⟨⟨f3, rfl, trivial, hok, by rw [ht]; exact hP⟩, hS.F ht⟩) hS.2.2 dX6_join_83
    · refine lv_iconst (v := 0) hx hb dX6_join_30 (by decide) ?_
      refine lv_istore_n (lv' := [(3, .int 0), (0, .ref a0), (1, .ref a1), (2, .int w2_3)]) hx hb dX6_join_31 rfl hl (by decide) rfl (fun ls hl => ?_)
      refine w_ind (I := fun n f H locs ls => OKT G cs tt mm f ∧ va_P (dC, dI) vwCl (va_pl (gL G) f) H ∧ va_S (AT G s.heap.size) s.heap H locs ∧ ∃ (w3_7 : Int32), n = (2147483647 - w3_7.toInt).toNat ∧ 0 ≤ w3_7 ∧ lv_has ls 5 [(0, .ref a0), (1, .ref a1), (2, .int w2_3), (3, .int w3_7)]) (fun n f7 H locs ls hI ih7 => ?_) _ f3 _ _ _ ⟨hok, hP, hS, 0, rfl, (by first | omega | (simp only [i_lt, i_le, i_eq, ti_m9, ti_m1, ti_0, ti_1, ti_2, ti_3, ti_4, ti_5, ti_6, ti_7, ti_9, ti_12, ti_20, ti_99, ti_700, ti_24, ti_72, ti_8, ti_128, ti_97, ti_122, ti_48, ti_57, ti_59, ti_60, ti_61, ti_62, ti_10, ti_33, ti_51] at hlo1 c2 hlo3 c6 ⊢; omega)), lv_sub hl [1, 2, 3, 0] rfl⟩
      obtain ⟨hok, hP, hS, w3_7, hmu7, hlo7, hl⟩ := hI
      subst hmu7
      refine lv_iload_n hx hb dX6_join_32 rfl (lv_at hl 3 rfl) ?_
      refine lv_aload_n hx hb dX6_join_33 rfl (lv_at hl 1 rfl) ?_
      have he8 := ok_X7 hok ha1
      refine vp_callSi (va_Run.run (va_runV (As := []) (rest := [.int w3_7]) ⟨hx, hb, hml, hown, noTs⟩ (t_X7_stepKinds l dC dI H.size G cs tt mm a1 ha1) ⟨cbE 0 (wd_783 hE) (wd_116 hE) (wd_780 hE) rfl rfl (by decide +kernel) ⟨Nat.le_of_ble_eq_true rfl, Nat.le_of_ble_eq_true rfl⟩, (wd_781 hE), (wd_782 hE)⟩ ⟨PT.blind, th_recv hK hP ha1.1 he8 rfl, (th_pre (av := [.ref a1]) hK hP hok hnd hWT hE)⟩ rfl rfl hl.1 rfl (lv_room (Nat.le_of_ble_eq_true rfl)) dX6_join_34 ⟨Nat.le_of_ble_eq_true rfl, Nat.le_of_ble_eq_true rfl⟩)) (fun r9 hr9 => ?_)
      refine lv_icmp_ge (tgt := 77) hx hb dX6_join_37 (by decide) (fun c10 => ?_) (fun c10 => ?_)
      · obtain ⟨z11, ez11⟩ : ∃ z : Int32, z = w2_3 + 1 := ⟨_, rfl⟩
        refine lv_iinc (v := z11) (lv' := [(2, .int z11), (0, .ref a0), (1, .ref a1), (3, .int w3_7)]) hx hb dX6_join_77 hl (k := 2) rfl (by rw [ez11]; rfl) (by decide) rfl (fun ls hl => ?_)
        have ic11 : z11.toInt = w2_3.toInt + 1 := by rw [ez11]; exact ic_up (by have := i_rng w2_1; have := i_rng w2_3; have := i_rng r5; have := i_rng w3_7; have := i_rng r9; simp only [i_lt, i_le, i_eq, ti_m9, ti_m1, ti_0, ti_1, ti_2, ti_3, ti_4, ti_5, ti_6, ti_7, ti_9, ti_12, ti_20, ti_99, ti_700, ti_24, ti_72, ti_8, ti_128, ti_97, ti_122, ti_48, ti_57, ti_59, ti_60, ti_61, ti_62, ti_10, ti_33, ti_51] at hlo1 c2 hlo3 c6 hlo7 c10 ⊢; omega)
        refine lv_goto (tgt := 22) hx hb dX6_join_80 (by decide) ?_
        exact ih3 _ f7 _ _ _ (by first | omega | (simp only [i_lt, i_le, i_eq, ti_m9, ti_m1, ti_0, ti_1, ti_2, ti_3, ti_4, ti_5, ti_6, ti_7, ti_9, ti_12, ti_20, ti_99, ti_700, ti_24, ti_72, ti_8, ti_128, ti_97, ti_122, ti_48, ti_57, ti_59, ti_60, ti_61, ti_62, ti_10, ti_33, ti_51, ic11] at hlo1 c2 hlo3 c6 hlo7 c10 ic11 ⊢; omega)) ⟨hok, hP, hS, z11, rfl, (by first | omega | (simp only [i_lt, i_le, i_eq, ti_m9, ti_m1, ti_0, ti_1, ti_2, ti_3, ti_4, ti_5, ti_6, ti_7, ti_9, ti_12, ti_20, ti_99, ti_700, ti_24, ti_72, ti_8, ti_128, ti_97, ti_122, ti_48, ti_57, ti_59, ti_60, ti_61, ti_62, ti_10, ti_33, ti_51, ic11] at hlo1 c2 hlo3 c6 hlo7 c10 ⊢; omega)), lv_sub hl [1, 2, 0] rfl⟩
      · refine lv_aload_n hx hb dX6_join_40 rfl (lv_at hl 1 rfl) ?_
        refine lv_iload_n hx hb dX6_join_41 rfl (lv_at hl 3 rfl) ?_
        refine vp_callSi (va_Run.run (va_runV (As := [.int w3_7]) (rest := []) ⟨hx, hb, hml, hown, noTs⟩ (t_X7_fromVertex l dC dI H.size G cs tt mm a1 ha1 w3_7) ⟨cbE 1 (wd_677 hE) (wd_116 hE) (wd_784 hE) rfl rfl (by decide +kernel) ⟨Nat.le_of_ble_eq_true rfl, Nat.le_of_ble_eq_true rfl⟩, (wd_675 hE), (wd_676 hE)⟩ ⟨PT.blind, th_recv hK hP ha1.1 he8 rfl, (th_pre (av := [.ref a1, .int w3_7]) hK hP hok hnd hWT hE)⟩ rfl rfl hl.1 rfl (lv_room (Nat.le_of_ble_eq_true rfl)) dX6_join_42 ⟨Nat.le_of_ble_eq_true rfl, Nat.le_of_ble_eq_true rfl⟩)) (fun r12 hr12 => ?_)
        refine lv_istore (lv' := [(4, .int r12), (0, .ref a0), (1, .ref a1), (2, .int w2_3), (3, .int w3_7)]) hx hb dX6_join_45 hl (by decide) rfl (fun ls hl => ?_)
        refine lv_aload_n hx hb dX6_join_47 rfl (lv_at hl 1 rfl) ?_
        refine lv_iload hx hb dX6_join_48 (lv_at hl 0 rfl) ?_
        refine lv_aload_n hx hb dX6_join_50 rfl (lv_at hl 1 rfl) ?_
        refine lv_iload hx hb dX6_join_51 (lv_at hl 0 rfl) ?_
        obtain ⟨y1_13, y2_13, he13⟩ := ok_X6 hok ha0
        refine vp_callSi (va_Run.run (va_runV (As := [.int r12]) (rest := [.int r12, .ref a0]) ⟨hx, hb, hml, hown, noTs⟩ (t_X6_leastOf l dC dI H.size G cs tt mm a0 ha0 r12) ⟨cbE 1 (wd_788 hE) (wd_124 hE) (wd_785 hE) rfl rfl (by decide +kernel) ⟨Nat.le_of_ble_eq_true rfl, Nat.le_of_ble_eq_true rfl⟩, (wd_787 hE), (wd_26 hE)⟩ ⟨PT.blind, th_recv hK hP ha0.1 he13 rfl, (th_pre (av := [.ref a0, .int r12]) hK hP hok hnd hWT hE)⟩ rfl rfl hl.1 rfl (lv_room (Nat.le_of_ble_eq_true rfl)) dX6_join_53 ⟨Nat.le_of_ble_eq_true rfl, Nat.le_of_ble_eq_true rfl⟩)) (fun r14 hr14 => ?_)
        refine lv_aload_n hx hb dX6_join_56 rfl (lv_at hl 1 rfl) ?_
        refine lv_aload_n hx hb dX6_join_57 rfl (lv_at hl 2 rfl) ?_
        refine lv_iload_n hx hb dX6_join_58 rfl (lv_at hl 4 rfl) ?_
        refine vp_callSi (va_Run.run (va_runV (As := [.int w3_7]) (rest := [.ref a0, .int r14, .int r12, .ref a0]) ⟨hx, hb, hml, hown, noTs⟩ (t_X7_toVertex l dC dI H.size G cs tt mm a1 ha1 w3_7) ⟨cbE 1 (wd_692 hE) (wd_116 hE) (wd_789 hE) rfl rfl (by decide +kernel) ⟨Nat.le_of_ble_eq_true rfl, Nat.le_of_ble_eq_true rfl⟩, (wd_690 hE), (wd_691 hE)⟩ ⟨PT.blind, th_recv hK hP ha1.1 he8 rfl, (th_pre (av := [.ref a1, .int w3_7]) hK hP hok hnd hWT hE)⟩ rfl rfl hl.1 rfl (lv_room (Nat.le_of_ble_eq_true rfl)) dX6_join_59 ⟨Nat.le_of_ble_eq_true rfl, Nat.le_of_ble_eq_true rfl⟩)) (fun r15 hr15 => ?_)
        refine vp_callSi (va_Run.run (va_runV (As := [.int r15]) (rest := [.int r14, .int r12, .ref a0]) ⟨hx, hb, hml, hown, noTs⟩ (t_X6_leastOf l dC dI H.size G cs tt mm a0 ha0 r15) ⟨cbE 1 (wd_788 hE) (wd_124 hE) (wd_785 hE) rfl rfl (by decide +kernel) ⟨Nat.le_of_ble_eq_true rfl, Nat.le_of_ble_eq_true rfl⟩, (wd_787 hE), (wd_26 hE)⟩ ⟨PT.blind, th_recv hK hP ha0.1 he13 rfl, (th_pre (av := [.ref a0, .int r15]) hK hP hok hnd hWT hE)⟩ rfl rfl hl.1 rfl (lv_room (Nat.le_of_ble_eq_true rfl)) dX6_join_62 ⟨Nat.le_of_ble_eq_true rfl, Nat.le_of_ble_eq_true rfl⟩)) (fun r16 hr16 => ?_)
        refine va_mmin hx hb (by rw [hml]; exact hl.1.symm) hown (wd_790 hE) (wd_453 hE) (wd_128 hE) (wd_454 hE) (Nat.le_of_ble_eq_true rfl) (Nat.le_of_ble_eq_true rfl) (Nat.le_of_ble_eq_true rfl) (Nat.le_of_ble_eq_true rfl) dX6_join_65 ?_
        refine lv_topi (fun x17 ex17 => ?_)
        have hmn17 : x17 ≤ r14 ∧ x17 ≤ r16 := by rw [ex17]; exact i_min r14 r16
        obtain ⟨hma17, hmb17⟩ := hmn17
        refine tc_v hAL hS hA (va_runV (As := [.int r12, .int x17]) (rest := []) ⟨hx, hb, hml, hown, noTs⟩ (t_X6_setLeast l dC dI H.size G cs tt mm a0 ha0 r12 x17) ⟨cbE 2 (wd_778 hE) (wd_124 hE) (wd_775 hE) rfl rfl (by decide +kernel) ⟨Nat.le_of_ble_eq_true rfl, Nat.le_of_ble_eq_true rfl⟩, (wd_777 hE), (wd_25 hE)⟩ ⟨PT.blind, th_recv hK hP ha0.1 he13 rfl, (th_pre (av := [.ref a0, .int r12, .int x17]) hK hP hok hnd hWT hE)⟩ rfl rfl hl.1 rfl (lv_room (Nat.le_of_ble_eq_true rfl)) dX6_join_68 ⟨Nat.le_of_ble_eq_true rfl, Nat.le_of_ble_eq_true rfl⟩) (fun f18 H locs hr18 hok hP hS => ?_)
        obtain ⟨z19, ez19⟩ : ∃ z : Int32, z = w3_7 + 1 := ⟨_, rfl⟩
        refine lv_iinc (v := z19) (lv' := [(3, .int z19), (4, .int r12), (0, .ref a0), (1, .ref a1), (2, .int w2_3)]) hx hb dX6_join_71 hl (k := 4) rfl (by rw [ez19]; rfl) (by decide) rfl (fun ls hl => ?_)
        have ic19 : z19.toInt = w3_7.toInt + 1 := by rw [ez19]; exact ic_up (by have := i_rng w2_1; have := i_rng w2_3; have := i_rng r5; have := i_rng w3_7; have := i_rng r9; simp only [i_lt, i_le, i_eq, ti_m9, ti_m1, ti_0, ti_1, ti_2, ti_3, ti_4, ti_5, ti_6, ti_7, ti_9, ti_12, ti_20, ti_99, ti_700, ti_24, ti_72, ti_8, ti_128, ti_97, ti_122, ti_48, ti_57, ti_59, ti_60, ti_61, ti_62, ti_10, ti_33, ti_51] at hlo1 c2 hlo3 c6 hlo7 c10 hma17 hmb17 ⊢; omega)
        refine lv_goto (tgt := 32) hx hb dX6_join_74 (by decide) ?_
        exact ih7 _ f18 _ _ _ (by first | omega | (simp only [i_lt, i_le, i_eq, ti_m9, ti_m1, ti_0, ti_1, ti_2, ti_3, ti_4, ti_5, ti_6, ti_7, ti_9, ti_12, ti_20, ti_99, ti_700, ti_24, ti_72, ti_8, ti_128, ti_97, ti_122, ti_48, ti_57, ti_59, ti_60, ti_61, ti_62, ti_10, ti_33, ti_51, ic19] at hlo1 c2 hlo3 c6 hlo7 c10 hma17 hmb17 ic19 ⊢; omega)) ⟨hok, hP, hS, z19, rfl, (by first | omega | (simp only [i_lt, i_le, i_eq, ti_m9, ti_m1, ti_0, ti_1, ti_2, ti_3, ti_4, ti_5, ti_6, ti_7, ti_9, ti_12, ti_20, ti_99, ti_700, ti_24, ti_72, ti_8, ti_128, ti_97, ti_122, ti_48, ti_57, ti_59, ti_60, ti_61, ti_62, ti_10, ti_33, ti_51, ic19] at hlo1 c2 hlo3 c6 hlo7 c10 hma17 hmb17 ⊢; omega)), lv_sub hl [2, 3, 4, 0] rfl⟩
  · refine lv_aload_n hx hb dX6_join_8 rfl (lv_at hl 0 rfl) ?_
    refine lv_iload_n hx hb dX6_join_9 rfl (lv_at hl 2 rfl) ?_
    refine lv_iload_n hx hb dX6_join_10 rfl (lv_at hl 2 rfl) ?_
    obtain ⟨y1_20, y2_20, he20⟩ := ok_X6 hok ha0
    refine tc_v hAL hS hA (va_runV (As := [.int w2_1, .int w2_1]) (rest := []) ⟨hx, hb, hml, hown, noTs⟩ (t_X6_setLeast l dC dI H.size G cs tt mm a0 ha0 w2_1 w2_1) ⟨cbE 2 (wd_778 hE) (wd_124 hE) (wd_775 hE) rfl rfl (by decide +kernel) ⟨Nat.le_of_ble_eq_true rfl, Nat.le_of_ble_eq_true rfl⟩, (wd_777 hE), (wd_25 hE)⟩ ⟨PT.blind, th_recv hK hP ha0.1 he20 rfl, (th_pre (av := [.ref a0, .int w2_1, .int w2_1]) hK hP hok hnd hWT hE)⟩ rfl rfl hl.1 rfl (lv_room (Nat.le_of_ble_eq_true rfl)) dX6_join_11 ⟨Nat.le_of_ble_eq_true rfl, Nat.le_of_ble_eq_true rfl⟩) (fun f21 H locs hr21 hok hP hS => ?_)
    obtain ⟨z22, ez22⟩ : ∃ z : Int32, z = w2_1 + 1 := ⟨_, rfl⟩
    refine lv_iinc (v := z22) (lv' := [(2, .int z22), (0, .ref a0), (1, .ref a1)]) hx hb dX6_join_14 hl (k := 2) rfl (by rw [ez22]; rfl) (by decide) rfl (fun ls hl => ?_)
    have ic22 : z22.toInt = w2_1.toInt + 1 := by rw [ez22]; exact ic_up (by have := i_rng w2_1; simp only [i_lt, i_le, i_eq, ti_m9, ti_m1, ti_0, ti_1, ti_2, ti_3, ti_4, ti_5, ti_6, ti_7, ti_9, ti_12, ti_20, ti_99, ti_700, ti_24, ti_72, ti_8, ti_128, ti_97, ti_122, ti_48, ti_57, ti_59, ti_60, ti_61, ti_62, ti_10, ti_33, ti_51] at hlo1 c2 ⊢; omega)
    refine lv_goto (tgt := 2) hx hb dX6_join_17 (by decide) ?_
    exact ih1 _ f21 _ _ _ (by first | omega | (simp only [i_lt, i_le, i_eq, ti_m9, ti_m1, ti_0, ti_1, ti_2, ti_3, ti_4, ti_5, ti_6, ti_7, ti_9, ti_12, ti_20, ti_99, ti_700, ti_24, ti_72, ti_8, ti_128, ti_97, ti_122, ti_48, ti_57, ti_59, ti_60, ti_61, ti_62, ti_10, ti_33, ti_51, ic22] at hlo1 c2 ic22 ⊢; omega)) ⟨hok, hP, hS, z22, rfl, (by first | omega | (simp only [i_lt, i_le, i_eq, ti_m9, ti_m1, ti_0, ti_1, ti_2, ti_3, ti_4, ti_5, ti_6, ti_7, ti_9, ti_12, ti_20, ti_99, ti_700, ti_24, ti_72, ti_8, ti_128, ti_97, ti_122, ti_48, ti_57, ti_59, ti_60, ti_61, ti_62, ti_10, ti_33, ti_51, ic22] at hlo1 c2 ⊢; omega)), lv_sub hl [1, 2, 0] rfl⟩

set_option maxHeartbeats 4000000 in
set_option maxRecDepth 100000 in
theorem t_X6_parts (l : Launch) (dC : Nat → ClassId) (dI : Nat → Nat → Nat) (sz : Nat) (G : GT) (cs : Nat → ClassId) (tt mm : Nat) (a0 : Nat) (ha0 : Ty G a0 6) (a1 : Nat) (ha1 : Ty G a1 7) : Met l yX6_parts [.code yX6_parts cX6_parts 4 (some .int)] ({ frames := 3, cells := 0, slots := 0, locals := 120 }) (PT [.ref a0, .ref a1] sz dC dI G cs tt mm) (va_Qi (fun (r : Int32) (u : Nat → va_E) => True) (BT dC dI G cs tt mm) (AT G sz)) 0 0 (AT G sz) := by
  refine Met.ofW (cc := cX6_parts) (maxL := 4) (ret := (some .int)) (by decide) rfl ?_
  intro p e s m args below meth c s₁ B hml hv
  obtain ⟨rfl, hsz, ⟨f0, hok, hP⟩, hK, hnd, hWT, hE⟩ := hv
  have hx := B.exec
  have hb := B.bytes
  have hr := B.returns
  have hown : s.vm.findClass RX6 = some m.cls := findClass_of_methodNamed B.named
  have hlocks := B.notSynchronized
  subst hsz
  have hAL : ∀ a, a ∈ gL G → AT G s.heap.size a := fun a h => Or.inl h
  have hA : ∀ q : Nat, s.heap.size ≤ q → AT G s.heap.size q := fun q h => Or.inr h
  have hS : va_S (AT G s.heap.size) s.heap s.heap [] := va_S.rf
  have hl := lv_entry ([.ref a0, .ref a1]) (n := 4) (Nat.le_of_ble_eq_true rfl)
  rw [lg_entry_eq]
  generalize (lg_sl ([.ref a0, .ref a1]) ++ List.replicate (4 - (lg_sl ([.ref a0, .ref a1])).length) Slot.unset).toArray = ls at hl ⊢
  have hl : lv_has ls 4 [(0, .ref a0), (1, .ref a1)] := hl
  refine lv_aload_n hx hb dX6_parts_0 rfl (lv_at hl 0 rfl) ?_
  refine lv_aload_n hx hb dX6_parts_1 rfl (lv_at hl 1 rfl) ?_
  obtain ⟨y1_1, y2_1, he1⟩ := ok_X6 hok ha0
  refine tc_v hAL hS hA (va_runV (As := [.ref a1]) (rest := []) ⟨hx, hb, hml, hown, noTs⟩ (t_X6_join l dC dI s.heap.size G cs tt mm a0 ha0 a1 ha1) ⟨cbE 1 (wd_774 hE) (wd_124 hE) (wd_771 hE) rfl rfl (by decide +kernel) ⟨Nat.le_of_ble_eq_true rfl, Nat.le_of_ble_eq_true rfl⟩, (wd_773 hE), (wd_24 hE)⟩ ⟨PT.blind, th_recv hK hP ha0.1 he1 rfl, (th_pre (av := [.ref a0, .ref a1]) hK hP hok hnd hWT hE)⟩ rfl rfl hl.1 rfl (lv_room (Nat.le_of_ble_eq_true rfl)) dX6_parts_2 ⟨Nat.le_of_ble_eq_true rfl, Nat.le_of_ble_eq_true rfl⟩) (fun f2 H locs hr2 hok hP hS => ?_)
  refine lv_iconst (v := 0) hx hb dX6_parts_5 (by decide) ?_
  refine lv_istore_n (lv' := [(2, .int 0), (0, .ref a0), (1, .ref a1)]) hx hb dX6_parts_6 rfl hl (by decide) rfl (fun ls hl => ?_)
  refine lv_iconst (v := 0) hx hb dX6_parts_7 (by decide) ?_
  refine lv_istore_n (lv' := [(3, .int 0), (2, .int 0), (0, .ref a0), (1, .ref a1)]) hx hb dX6_parts_8 rfl hl (by decide) rfl (fun ls hl => ?_)
  refine w_ind (I := fun n f H locs ls => OKT G cs tt mm f ∧ va_P (dC, dI) vwCl (va_pl (gL G) f) H ∧ va_S (AT G s.heap.size) s.heap H locs ∧ ∃ (w2_3 : Int32) (w3_3 : Int32), n = (2147483647 - w3_3.toInt).toNat ∧ 0 ≤ w3_3 ∧ lv_has ls 4 [(0, .ref a0), (1, .ref a1), (2, .int w2_3), (3, .int w3_3)]) (fun n f3 H locs ls hI ih3 => ?_) _ f2 _ _ _ ⟨hok, hP, hS, 0, 0, rfl, (by first | omega | (simp only [i_lt, i_le, i_eq, ti_m9, ti_m1, ti_0, ti_1, ti_2, ti_3, ti_4, ti_5, ti_6, ti_7, ti_9, ti_12, ti_20, ti_99, ti_700, ti_24, ti_72, ti_8, ti_128, ti_97, ti_122, ti_48, ti_57, ti_59, ti_60, ti_61, ti_62, ti_10, ti_33, ti_51]; omega)), lv_sub hl [2, 3, 1, 0] rfl⟩
  obtain ⟨hok, hP, hS, w2_3, w3_3, hmu3, hlo3, hl⟩ := hI
  subst hmu3
  refine lv_iload_n hx hb dX6_parts_9 rfl (lv_at hl 3 rfl) ?_
  refine lv_aload_n hx hb dX6_parts_10 rfl (lv_at hl 1 rfl) ?_
  have he4 := ok_X7 hok ha1
  refine vp_callSi (va_Run.run (va_runV (As := []) (rest := [.int w3_3]) ⟨hx, hb, hml, hown, noTs⟩ (t_X7_vertices l dC dI H.size G cs tt mm a1 ha1) ⟨cbE 0 (wd_557 hE) (wd_116 hE) (wd_779 hE) rfl rfl (by decide +kernel) ⟨Nat.le_of_ble_eq_true rfl, Nat.le_of_ble_eq_true rfl⟩, (wd_555 hE), (wd_556 hE)⟩ ⟨PT.blind, th_recv hK hP ha1.1 he4 rfl, (th_pre (av := [.ref a1]) hK hP hok hnd hWT hE)⟩ rfl rfl hl.1 rfl (lv_room (Nat.le_of_ble_eq_true rfl)) dX6_parts_11 ⟨Nat.le_of_ble_eq_true rfl, Nat.le_of_ble_eq_true rfl⟩)) (fun r5 hr5 => ?_)
  refine lv_icmp_ge (tgt := 43) hx hb dX6_parts_14 (by decide) (fun c6 => ?_) (fun c6 => ?_)
  · refine lv_iload_n hx hb dX6_parts_43 rfl (lv_at hl 2 rfl) ?_
    exact W.iret (v := w2_3) hx hb hr (fun t ht hW => ⟨⟨w2_3, f3, rfl, trivial, hok, by rw [ht]; exact hP⟩, hS.F ht⟩) hS.2.2 dX6_parts_44
  · refine lv_iload_n hx hb dX6_parts_17 rfl (lv_at hl 2 rfl) ?_
    refine lv_aload_n hx hb dX6_parts_18 rfl (lv_at hl 0 rfl) ?_
    refine lv_iload_n hx hb dX6_parts_19 rfl (lv_at hl 3 rfl) ?_
    obtain ⟨y1_7, y2_7, he7⟩ := ok_X6 hok ha0
    refine vp_callSi (va_Run.run (va_runV (As := [.int w3_3]) (rest := [.int w2_3]) ⟨hx, hb, hml, hown, noTs⟩ (t_X6_leastOf l dC dI H.size G cs tt mm a0 ha0 w3_3) ⟨cbE 1 (wd_788 hE) (wd_124 hE) (wd_785 hE) rfl rfl (by decide +kernel) ⟨Nat.le_of_ble_eq_true rfl, Nat.le_of_ble_eq_true rfl⟩, (wd_787 hE), (wd_26 hE)⟩ ⟨PT.blind, th_recv hK hP ha0.1 he7 rfl, (th_pre (av := [.ref a0, .int w3_3]) hK hP hok hnd hWT hE)⟩ rfl rfl hl.1 rfl (lv_room (Nat.le_of_ble_eq_true rfl)) dX6_parts_20 ⟨Nat.le_of_ble_eq_true rfl, Nat.le_of_ble_eq_true rfl⟩)) (fun r8 hr8 => ?_)
    refine lv_iload_n hx hb dX6_parts_23 rfl (lv_at hl 3 rfl) ?_
    refine lv_icmp_ne (tgt := 31) hx hb dX6_parts_24 (by decide) (fun c9 => ?_) (fun c9 => ?_)
    · refine lv_iconst (v := 0) hx hb dX6_parts_31 (by decide) ?_
      refine vp_callSi (va_Run.run (va_runSN (As := [.int 0]) (rest := [.int w2_3]) ⟨hx, hb, hml, hown, noTs⟩ (t_X11_bit l dC dI H.size G cs tt mm 0) ⟨cnE 1 (wd_669 hE) (wd_115 hE) (wd_791 hE) rfl rfl (by decide +kernel) ⟨Nat.le_of_ble_eq_true rfl, Nat.le_of_ble_eq_true rfl⟩, (wd_668 hE), trivial⟩ ⟨PT.blind, (th_pre (av := [.int 0]) hK hP hok hnd hWT hE)⟩ rfl rfl hl.1 rfl (lv_room (Nat.le_of_ble_eq_true rfl)) dX6_parts_32 ⟨Nat.le_of_ble_eq_true rfl, Nat.le_of_ble_eq_true rfl⟩)) (fun r10 hr10 => ?_)
      refine lv_iadd hx hb dX6_parts_35 ?_
      refine lv_topi (fun x11 _ => ?_)
      refine lv_istore_n (lv' := [(2, .int x11), (0, .ref a0), (1, .ref a1), (3, .int w3_3)]) hx hb dX6_parts_36 rfl hl (by decide) rfl (fun ls hl => ?_)
      obtain ⟨z12, ez12⟩ : ∃ z : Int32, z = w3_3 + 1 := ⟨_, rfl⟩
      refine lv_iinc (v := z12) (lv' := [(3, .int z12), (2, .int x11), (0, .ref a0), (1, .ref a1)]) hx hb dX6_parts_37 hl (k := 3) rfl (by rw [ez12]; rfl) (by decide) rfl (fun ls hl => ?_)
      have ic12 : z12.toInt = w3_3.toInt + 1 := by rw [ez12]; exact ic_up (by have := i_rng w3_3; have := i_rng r5; have := i_rng r8; simp only [i_lt, i_le, i_eq, ti_m9, ti_m1, ti_0, ti_1, ti_2, ti_3, ti_4, ti_5, ti_6, ti_7, ti_9, ti_12, ti_20, ti_99, ti_700, ti_24, ti_72, ti_8, ti_128, ti_97, ti_122, ti_48, ti_57, ti_59, ti_60, ti_61, ti_62, ti_10, ti_33, ti_51] at hlo3 c6 c9 ⊢; omega)
      refine lv_goto (tgt := 9) hx hb dX6_parts_40 (by decide) ?_
      exact ih3 _ f3 _ _ _ (by first | omega | (simp only [i_lt, i_le, i_eq, ti_m9, ti_m1, ti_0, ti_1, ti_2, ti_3, ti_4, ti_5, ti_6, ti_7, ti_9, ti_12, ti_20, ti_99, ti_700, ti_24, ti_72, ti_8, ti_128, ti_97, ti_122, ti_48, ti_57, ti_59, ti_60, ti_61, ti_62, ti_10, ti_33, ti_51, ic12] at hlo3 c6 c9 ic12 ⊢; omega)) ⟨hok, hP, hS, x11, z12, rfl, (by first | omega | (simp only [i_lt, i_le, i_eq, ti_m9, ti_m1, ti_0, ti_1, ti_2, ti_3, ti_4, ti_5, ti_6, ti_7, ti_9, ti_12, ti_20, ti_99, ti_700, ti_24, ti_72, ti_8, ti_128, ti_97, ti_122, ti_48, ti_57, ti_59, ti_60, ti_61, ti_62, ti_10, ti_33, ti_51, ic12] at hlo3 c6 c9 ⊢; omega)), lv_sub hl [2, 3, 1, 0] rfl⟩
    · refine lv_iconst (v := 1) hx hb dX6_parts_27 (by decide) ?_
      refine lv_goto (tgt := 32) hx hb dX6_parts_28 (by decide) ?_
      refine vp_callSi (va_Run.run (va_runSN (As := [.int 1]) (rest := [.int w2_3]) ⟨hx, hb, hml, hown, noTs⟩ (t_X11_bit l dC dI H.size G cs tt mm 1) ⟨cnE 1 (wd_669 hE) (wd_115 hE) (wd_791 hE) rfl rfl (by decide +kernel) ⟨Nat.le_of_ble_eq_true rfl, Nat.le_of_ble_eq_true rfl⟩, (wd_668 hE), trivial⟩ ⟨PT.blind, (th_pre (av := [.int 1]) hK hP hok hnd hWT hE)⟩ rfl rfl hl.1 rfl (lv_room (Nat.le_of_ble_eq_true rfl)) dX6_parts_32 ⟨Nat.le_of_ble_eq_true rfl, Nat.le_of_ble_eq_true rfl⟩)) (fun r13 hr13 => ?_)
      refine lv_iadd hx hb dX6_parts_35 ?_
      refine lv_topi (fun x14 _ => ?_)
      refine lv_istore_n (lv' := [(2, .int x14), (0, .ref a0), (1, .ref a1), (3, .int w3_3)]) hx hb dX6_parts_36 rfl hl (by decide) rfl (fun ls hl => ?_)
      obtain ⟨z15, ez15⟩ : ∃ z : Int32, z = w3_3 + 1 := ⟨_, rfl⟩
      refine lv_iinc (v := z15) (lv' := [(3, .int z15), (2, .int x14), (0, .ref a0), (1, .ref a1)]) hx hb dX6_parts_37 hl (k := 3) rfl (by rw [ez15]; rfl) (by decide) rfl (fun ls hl => ?_)
      have ic15 : z15.toInt = w3_3.toInt + 1 := by rw [ez15]; exact ic_up (by have := i_rng w3_3; have := i_rng r5; have := i_rng r8; simp only [i_lt, i_le, i_eq, ti_m9, ti_m1, ti_0, ti_1, ti_2, ti_3, ti_4, ti_5, ti_6, ti_7, ti_9, ti_12, ti_20, ti_99, ti_700, ti_24, ti_72, ti_8, ti_128, ti_97, ti_122, ti_48, ti_57, ti_59, ti_60, ti_61, ti_62, ti_10, ti_33, ti_51] at hlo3 c6 c9 ⊢; omega)
      refine lv_goto (tgt := 9) hx hb dX6_parts_40 (by decide) ?_
      exact ih3 _ f3 _ _ _ (by first | omega | (simp only [i_lt, i_le, i_eq, ti_m9, ti_m1, ti_0, ti_1, ti_2, ti_3, ti_4, ti_5, ti_6, ti_7, ti_9, ti_12, ti_20, ti_99, ti_700, ti_24, ti_72, ti_8, ti_128, ti_97, ti_122, ti_48, ti_57, ti_59, ti_60, ti_61, ti_62, ti_10, ti_33, ti_51, ic15] at hlo3 c6 c9 ic15 ⊢; omega)) ⟨hok, hP, hS, x14, z15, rfl, (by first | omega | (simp only [i_lt, i_le, i_eq, ti_m9, ti_m1, ti_0, ti_1, ti_2, ti_3, ti_4, ti_5, ti_6, ti_7, ti_9, ti_12, ti_20, ti_99, ti_700, ti_24, ti_72, ti_8, ti_128, ti_97, ti_122, ti_48, ti_57, ti_59, ti_60, ti_61, ti_62, ti_10, ti_33, ti_51, ic15] at hlo3 c6 c9 ⊢; omega)), lv_sub hl [2, 3, 1, 0] rfl⟩

set_option maxHeartbeats 4000000 in
set_option maxRecDepth 100000 in
theorem t_X6_above (l : Launch) (dC : Nat → ClassId) (dI : Nat → Nat → Nat) (sz : Nat) (G : GT) (cs : Nat → ClassId) (tt mm : Nat) (a0 : Nat) (ha0 : Ty G a0 6) : Met l yX6_above [.code yX6_above cX6_above 1 (some .long)] ({ frames := 0, cells := 0, slots := 0, locals := 0 }) (PT [.ref a0] sz dC dI G cs tt mm) (vp_Sl (fun (r : Int64) => True)) 0 0 (fun _ => False) := by
  refine Met.ofW (cc := cX6_above) (maxL := 1) (ret := (some .long)) (by decide) rfl ?_
  intro p e s m args below meth c s₁ B hml hv
  obtain ⟨rfl, hsz, ⟨f0, hok, hP⟩, hK, hnd, hWT, hE⟩ := hv
  have hx := B.exec
  have hb := B.bytes
  have hr := B.returns
  have hown : s.vm.findClass RX6 = some m.cls := findClass_of_methodNamed B.named
  have hlocks := B.notSynchronized
  subst hsz
  have hl := lv_entry ([.ref a0]) (n := 1) (Nat.le_of_ble_eq_true rfl)
  rw [lg_entry_eq]
  generalize (lg_sl ([.ref a0]) ++ List.replicate (1 - (lg_sl ([.ref a0])).length) Slot.unset).toArray = ls at hl ⊢
  have hl : lv_has ls 1 [(0, .ref a0)] := hl
  refine lv_aload_n hx hb dX6_above_0 rfl (lv_at hl 0 rfl) ?_
  obtain ⟨y1_1, y2_1, he1⟩ := ok_X6 hok ha0
  refine th_get hx hb (ly_X6 hE) hown hK hP ha0.1 he1 rfl 1 (by decide) (wd_339 hE) (fun _ h9 => h9) rfl dX6_above_1 ?_
  exact W.lret (v := y1_1) hx hb hr (fun t ht hW => ⟨y1_1, rfl, trivial, ht⟩) (fun _ h => absurd h List.not_mem_nil) dX6_above_4

set_option maxHeartbeats 4000000 in
set_option maxRecDepth 100000 in
theorem t_X6_below (l : Launch) (dC : Nat → ClassId) (dI : Nat → Nat → Nat) (sz : Nat) (G : GT) (cs : Nat → ClassId) (tt mm : Nat) (a0 : Nat) (ha0 : Ty G a0 6) : Met l yX6_below [.code yX6_below cX6_below 1 (some .long)] ({ frames := 0, cells := 0, slots := 0, locals := 0 }) (PT [.ref a0] sz dC dI G cs tt mm) (vp_Sl (fun (r : Int64) => True)) 0 0 (fun _ => False) := by
  refine Met.ofW (cc := cX6_below) (maxL := 1) (ret := (some .long)) (by decide) rfl ?_
  intro p e s m args below meth c s₁ B hml hv
  obtain ⟨rfl, hsz, ⟨f0, hok, hP⟩, hK, hnd, hWT, hE⟩ := hv
  have hx := B.exec
  have hb := B.bytes
  have hr := B.returns
  have hown : s.vm.findClass RX6 = some m.cls := findClass_of_methodNamed B.named
  have hlocks := B.notSynchronized
  subst hsz
  have hl := lv_entry ([.ref a0]) (n := 1) (Nat.le_of_ble_eq_true rfl)
  rw [lg_entry_eq]
  generalize (lg_sl ([.ref a0]) ++ List.replicate (1 - (lg_sl ([.ref a0])).length) Slot.unset).toArray = ls at hl ⊢
  have hl : lv_has ls 1 [(0, .ref a0)] := hl
  refine lv_aload_n hx hb dX6_below_0 rfl (lv_at hl 0 rfl) ?_
  obtain ⟨y1_1, y2_1, he1⟩ := ok_X6 hok ha0
  refine th_get hx hb (ly_X6 hE) hown hK hP ha0.1 he1 rfl 2 (by decide) (wd_340 hE) (fun _ h9 => h9) rfl dX6_below_1 ?_
  exact W.lret (v := y2_1) hx hb hr (fun t ht hW => ⟨y2_1, rfl, trivial, ht⟩) (fun _ h => absurd h List.not_mem_nil) dX6_below_4

set_option maxHeartbeats 4000000 in
set_option maxRecDepth 100000 in
theorem t_X8_size (l : Launch) (dC : Nat → ClassId) (dI : Nat → Nat → Nat) (sz : Nat) (G : GT) (cs : Nat → ClassId) (tt mm : Nat) (a0 : Nat) (ha0 : Ty G a0 8) : Met l yX8_size [.code yX8_size cX8_size 1 (some .int)] ({ frames := 0, cells := 0, slots := 0, locals := 0 }) (PT [.ref a0] sz dC dI G cs tt mm) (vp_Si (fun (r : Int32) => True)) 0 0 (fun _ => False) := by
  refine Met.ofW (cc := cX8_size) (maxL := 1) (ret := (some .int)) (by decide) rfl ?_
  intro p e s m args below meth c s₁ B hml hv
  obtain ⟨rfl, hsz, ⟨f0, hok, hP⟩, hK, hnd, hWT, hE⟩ := hv
  have hx := B.exec
  have hb := B.bytes
  have hr := B.returns
  have hown : s.vm.findClass RX8 = some m.cls := findClass_of_methodNamed B.named
  have hlocks := B.notSynchronized
  subst hsz
  have hl := lv_entry ([.ref a0]) (n := 1) (Nat.le_of_ble_eq_true rfl)
  rw [lg_entry_eq]
  generalize (lg_sl ([.ref a0]) ++ List.replicate (1 - (lg_sl ([.ref a0])).length) Slot.unset).toArray = ls at hl ⊢
  have hl : lv_has ls 1 [(0, .ref a0)] := hl
  refine lv_aload_n hx hb dX8_size_0 rfl (lv_at hl 0 rfl) ?_
  obtain ⟨y1_1, he1⟩ := ok_X8 hok ha0
  refine th_get hx hb (ly_X8 hE) hown hK hP ha0.1 he1 rfl 1 (by decide) (wd_265 hE) (fun _ h9 => h9) rfl dX8_size_1 ?_
  exact W.iret (v := y1_1) hx hb hr (fun t ht hW => ⟨y1_1, rfl, trivial, ht⟩) (fun _ h => absurd h List.not_mem_nil) dX8_size_4

set_option maxHeartbeats 4000000 in
set_option maxRecDepth 100000 in
theorem t_X8_byteAt (l : Launch) (dC : Nat → ClassId) (dI : Nat → Nat → Nat) (sz : Nat) (G : GT) (cs : Nat → ClassId) (tt mm : Nat) (a0 : Nat) (ha0 : Ty G a0 8) (v1 : Int32) : Met l yX8_byteAt [.code yX8_byteAt cX8_byteAt 2 (some .int)] ({ frames := 0, cells := 0, slots := 0, locals := 0 }) (PT [.ref a0, .int v1] sz dC dI G cs tt mm) (vp_Si (fun (r : Int32) => True)) 0 0 (fun _ => False) := by
  refine Met.ofW (cc := cX8_byteAt) (maxL := 2) (ret := (some .int)) (by decide) rfl ?_
  intro p e s m args below meth c s₁ B hml hv
  obtain ⟨rfl, hsz, ⟨f0, hok, hP⟩, hK, hnd, hWT, hE⟩ := hv
  have hx := B.exec
  have hb := B.bytes
  have hr := B.returns
  have hown : s.vm.findClass RX8 = some m.cls := findClass_of_methodNamed B.named
  have hlocks := B.notSynchronized
  subst hsz
  have hl := lv_entry ([.ref a0, .int v1]) (n := 2) (Nat.le_of_ble_eq_true rfl)
  rw [lg_entry_eq]
  generalize (lg_sl ([.ref a0, .int v1]) ++ List.replicate (2 - (lg_sl ([.ref a0, .int v1])).length) Slot.unset).toArray = ls at hl ⊢
  have hl : lv_has ls 2 [(0, .ref a0), (1, .int v1)] := hl
  refine lv_iload_n hx hb dX8_byteAt_0 rfl (lv_at hl 1 rfl) ?_
  refine lv_if_lt (tgt := 21) hx hb dX8_byteAt_1 (by decide) (fun c1 => ?_) (fun c1 => ?_)
  · refine lv_iconst (v := -1) hx hb dX8_byteAt_21 (by decide) ?_
    refine lv_goto (tgt := 31) hx hb dX8_byteAt_22 (by decide) ?_
    exact W.iret (v := -1) hx hb hr (fun t ht hW => ⟨-1, rfl, trivial, ht⟩) (fun _ h => absurd h List.not_mem_nil) dX8_byteAt_31
  · refine lv_iload_n hx hb dX8_byteAt_4 rfl (lv_at hl 1 rfl) ?_
    refine lv_aload_n hx hb dX8_byteAt_5 rfl (lv_at hl 0 rfl) ?_
    obtain ⟨y1_2, he2⟩ := ok_X8 hok ha0
    refine th_get hx hb (ly_X8 hE) hown hK hP ha0.1 he2 rfl 1 (by decide) (wd_265 hE) (fun _ h9 => h9) rfl dX8_byteAt_6 ?_
    refine lv_icmp_ge (tgt := 21) hx hb dX8_byteAt_9 (by decide) (fun c3 => ?_) (fun c3 => ?_)
    · refine lv_iconst (v := -1) hx hb dX8_byteAt_21 (by decide) ?_
      refine lv_goto (tgt := 31) hx hb dX8_byteAt_22 (by decide) ?_
      exact W.iret (v := -1) hx hb hr (fun t ht hW => ⟨-1, rfl, trivial, ht⟩) (fun _ h => absurd h List.not_mem_nil) dX8_byteAt_31
    · refine lv_iload_n hx hb dX8_byteAt_12 rfl (lv_at hl 1 rfl) ?_
      refine lv_aload_n hx hb dX8_byteAt_13 rfl (lv_at hl 0 rfl) ?_
      refine th_get hx hb (ly_X8 hE) hown hK hP ha0.1 he2 rfl 0 (by decide) (wd_264 hE) (fun _ h9 => h9) rfl dX8_byteAt_14 ?_
      refine th_len1 hx hb hK hP hok (n := 178) (wl_X8_0 hWT ha0) (Or.inr (Or.inl (wt_X8_0 hWT ha0))) dX8_byteAt_17 ?_
      refine W.eq (g2 := F0 m 18 ls [.int 178, .int v1]) rfl ?_
      refine lv_icmp_lt (tgt := 25) hx hb dX8_byteAt_18 (by decide) (fun c4 => ?_) (fun c4 => ?_)
      · refine lv_aload_n hx hb dX8_byteAt_25 rfl (lv_at hl 0 rfl) ?_
        refine th_get hx hb (ly_X8 hE) hown hK hP ha0.1 he2 rfl 0 (by decide) (wd_264 hE) (fun _ h9 => h9) rfl dX8_byteAt_26 ?_
        refine lv_iload_n hx hb dX8_byteAt_29 rfl (lv_at hl 1 rfl) ?_
        refine th_bald hx hb hK hP hok (wt_X8_0 hWT ha0) (n := 178) (wl_X8_0 hWT ha0) (vp_in_iff.mpr (by first | omega | (simp only [i_lt, i_le, i_eq, ti_m9, ti_m1, ti_0, ti_1, ti_2, ti_3, ti_4, ti_5, ti_6, ti_7, ti_9, ti_12, ti_20, ti_99, ti_700, ti_24, ti_72, ti_8, ti_128, ti_97, ti_122, ti_48, ti_57, ti_59, ti_60, ti_61, ti_62, ti_10, ti_33, ti_51] at c1 c3 c4 ⊢; omega))) dX8_byteAt_30 (fun x5 => ?_)
        exact W.iret (v := x5) hx hb hr (fun t ht hW => ⟨x5, rfl, trivial, ht⟩) (fun _ h => absurd h List.not_mem_nil) dX8_byteAt_31
      · refine lv_iconst (v := -1) hx hb dX8_byteAt_21 (by decide) ?_
        refine lv_goto (tgt := 31) hx hb dX8_byteAt_22 (by decide) ?_
        exact W.iret (v := -1) hx hb hr (fun t ht hW => ⟨-1, rfl, trivial, ht⟩) (fun _ h => absurd h List.not_mem_nil) dX8_byteAt_31
