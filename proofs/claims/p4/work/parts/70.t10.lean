set_option maxHeartbeats 4000000 in
set_option maxRecDepth 100000 in
theorem t_X11_core (l : Launch) (dC : Nat → ClassId) (dI : Nat → Nat → Nat) (sz : Nat) (G : GT) (cs : Nat → ClassId) (tt mm : Nat) (a0 : Nat) (ha0 : Ty G a0 11) (v1 : Int32) : Met l yX11_core [.code yX11_core cX11_core 3 (some .int)] ({ frames := 6, cells := 0, slots := 0, locals := 240 }) (PT [.ref a0, .int v1] sz dC dI G cs tt mm (fun _ => True)) (va_Qi (fun (r : Int32) (u : Nat → va_E) => True) (BT dC dI G cs tt mm) (AT G sz)) 0 0 (AT G sz) := by
  refine Met.ofW (cc := cX11_core) (maxL := 3) (ret := (some .int)) (by decide) rfl ?_
  intro p e s m args below meth c s₁ B hml hv
  obtain ⟨rfl, hsz, ⟨f0, hok, hP, hX⟩, hK, hnd, hWT, hE⟩ := hv
  have hx := B.exec
  have hb := B.bytes
  have hr := B.returns
  have hown : s.vm.findClass RX11 = some m.cls := findClass_of_methodNamed B.named
  have hlocks := B.notSynchronized
  subst hsz
  have hAL : ∀ a, a ∈ gL G → AT G s.heap.size a := fun a h => Or.inl h
  have hA : ∀ q : Nat, s.heap.size ≤ q → AT G s.heap.size q := fun q h => Or.inr h
  have hS : va_S (AT G s.heap.size) s.heap s.heap [] := va_S.rf
  have hl := lv_entry ([.ref a0, .int v1]) (n := 3) (Nat.le_of_ble_eq_true rfl)
  rw [lg_entry_eq]
  generalize (lg_sl ([.ref a0, .int v1]) ++ List.replicate (3 - (lg_sl ([.ref a0, .int v1])).length) Slot.unset).toArray = ls at hl ⊢
  have hl : lv_has ls 3 [(0, .ref a0), (1, .int v1)] := hl
  refine lv_aload_n hx hb dX11_core_0 rfl (lv_at hl 0 rfl) ?_
  refine lv_iload_n hx hb dX11_core_1 rfl (lv_at hl 1 rfl) ?_
  obtain ⟨y5_1, hy4_1, hy7_1, he1⟩ := ok_X11 hok ha0
  refine tc_i hAL hS hA (va_runV (As := [.int v1]) (rest := []) ⟨hx, hb, hml, hown, noTs⟩ (t_X11_cannotGrowFromLoop l dC dI s.heap.size G cs tt mm a0 ha0 v1) ⟨cbE 1 (wd_941 hE) (wd_115 hE) (wd_938 hE) rfl rfl (by decide +kernel) ⟨Nat.le_of_ble_eq_true rfl, Nat.le_of_ble_eq_true rfl⟩, (wd_940 hE), (wd_30 hE)⟩ ⟨PT.blind, th_recv hK hP ha0.1 he1 rfl, (th_pre (av := [.ref a0, .int v1]) trivial hK hP hok hnd hWT hE)⟩ rfl rfl hl.1 rfl (lv_room (Nat.le_of_ble_eq_true rfl)) dX11_core_2 ⟨Nat.le_of_ble_eq_true rfl, Nat.le_of_ble_eq_true rfl⟩) (fun r2 f2 H locs hr2 hok hP hS => ?_)
  refine lv_istore_n (lv' := [(2, .int r2), (0, .ref a0), (1, .int v1)]) hx hb dX11_core_5 rfl hl (by decide) rfl (fun ls hl => ?_)
  refine lv_iload_n hx hb dX11_core_6 rfl (lv_at hl 0 rfl) ?_
  refine lv_if_eq (tgt := 16) hx hb dX11_core_7 (by decide) (fun c3 => ?_) (fun c3 => ?_)
  · refine lv_aload_n hx hb dX11_core_16 rfl (lv_at hl 1 rfl) ?_
    obtain ⟨y5_4, hy4_4, hy7_4, he4⟩ := ok_X11 hok ha0
    refine th_get hx hb (ly_X11 hE) hown hK hP ha0.1 he4 rfl 0 (by decide) (wd_359 hE) (fun _ h9 => h9) rfl dX11_core_17 ?_
    refine lv_aload_n hx hb dX11_core_20 rfl (lv_at hl 1 rfl) ?_
    refine th_get hx hb (ly_X11 hE) hown hK hP ha0.1 he4 rfl 10 (by decide) (wd_369 hE) (fun _ h9 => h9) rfl dX11_core_21 ?_
    refine lv_aload_n hx hb dX11_core_24 rfl (lv_at hl 1 rfl) ?_
    refine th_get hx hb (ly_X11 hE) hown hK hP ha0.1 he4 rfl 12 (by decide) (wd_371 hE) (fun _ h9 => h9) rfl dX11_core_25 ?_
    refine lv_aload_n hx hb dX11_core_28 rfl (lv_at hl 1 rfl) ?_
    refine th_get hx hb (ly_X11 hE) hown hK hP ha0.1 he4 rfl 14 (by decide) (wd_373 hE) (fun _ h9 => h9) rfl dX11_core_29 ?_
    refine tc_v hAL hS hA (va_runS (As := [.ref (gR G a0 0), .ref (gR G a0 10), .ref (gR G a0 12), .ref (gR G a0 14)]) (rest := []) ⟨hx, hb, hml, hown, noTs⟩ (t_X2_shrink l dC dI H.size G cs tt mm (gR G a0 0) ((wt_X11_0 hWT ha0)) (gR G a0 10) ((wt_X11_10 hWT ha0)) (gR G a0 12) ((wt_X11_12 hWT ha0)) (gR G a0 14) ((wt_X11_14 hWT ha0))) ⟨cbE 4 (wd_962 hE) (wd_134 hE) (wd_960 hE) rfl rfl (by decide +kernel) ⟨Nat.le_of_ble_eq_true rfl, Nat.le_of_ble_eq_true rfl⟩, (wd_961 hE)⟩ ⟨PT.blind, (th_pre (av := [.ref (gR G a0 0), .ref (gR G a0 10), .ref (gR G a0 12), .ref (gR G a0 14)]) trivial hK hP hok hnd hWT hE)⟩ rfl rfl hl.1 rfl (lv_room (Nat.le_of_ble_eq_true rfl)) dX11_core_32 ⟨Nat.le_of_ble_eq_true rfl, Nat.le_of_ble_eq_true rfl⟩) (fun f5 H locs hr5 hok hP hS => ?_)
    refine lv_aload_n hx hb dX11_core_35 rfl (lv_at hl 1 rfl) ?_
    refine lv_aload_n hx hb dX11_core_36 rfl (lv_at hl 1 rfl) ?_
    obtain ⟨y5_6, hy4_6, hy7_6, he6⟩ := ok_X11 hok ha0
    refine th_get hx hb (ly_X11 hE) hown hK hP ha0.1 he6 rfl 12 (by decide) (wd_371 hE) (fun _ h9 => h9) rfl dX11_core_37 ?_
    refine tc_i hAL hS hA (va_runV (As := [.ref (gR G a0 12)]) (rest := []) ⟨hx, hb, hml, hown, noTs⟩ (t_X11_keep l dC dI H.size G cs tt mm a0 ha0 (gR G a0 12) ((wt_X11_12 hWT ha0))) ⟨cbE 1 (wd_905 hE) (wd_115 hE) (wd_902 hE) rfl rfl (by decide +kernel) ⟨Nat.le_of_ble_eq_true rfl, Nat.le_of_ble_eq_true rfl⟩, (wd_904 hE), (wd_28 hE)⟩ ⟨PT.blind, th_recv hK hP ha0.1 he6 rfl, (th_pre (av := [.ref a0, .ref (gR G a0 12)]) trivial hK hP hok hnd hWT hE)⟩ rfl rfl hl.1 rfl (lv_room (Nat.le_of_ble_eq_true rfl)) dX11_core_40 ⟨Nat.le_of_ble_eq_true rfl, Nat.le_of_ble_eq_true rfl⟩) (fun r7 f7 H locs hr7 hok hP hS => ?_)
    exact W.iret (v := r7) hx hb hr (fun t ht hW => ⟨⟨r7, f7, rfl, trivial, hok, by rw [ht]; exact hP⟩, hS.F ht⟩) hS.2.2 dX11_core_43
  · refine lv_aload_n hx hb dX11_core_10 rfl (lv_at hl 1 rfl) ?_
    refine lv_iload_n hx hb dX11_core_11 rfl (lv_at hl 0 rfl) ?_
    obtain ⟨y5_8, hy4_8, hy7_8, he8⟩ := ok_X11 hok ha0
    refine tc_i hAL hS hA (va_runV (As := [.int r2]) (rest := []) ⟨hx, hb, hml, hown, noTs⟩ (t_X11_fail l dC dI H.size G cs tt mm a0 ha0 r2) ⟨cbE 1 (wd_436 hE) (wd_115 hE) (wd_433 hE) rfl rfl (by decide +kernel) ⟨Nat.le_of_ble_eq_true rfl, Nat.le_of_ble_eq_true rfl⟩, (wd_435 hE), (wd_1 hE)⟩ ⟨PT.blind, th_recv hK hP ha0.1 he8 rfl, (th_pre (av := [.ref a0, .int r2]) trivial hK hP hok hnd hWT hE)⟩ rfl rfl hl.1 rfl (lv_room (Nat.le_of_ble_eq_true rfl)) dX11_core_12 ⟨Nat.le_of_ble_eq_true rfl, Nat.le_of_ble_eq_true rfl⟩) (fun r9 f9 H locs hr9 hok hP hS => ?_)
    subst hr9
    exact W.iret (v := -1) hx hb hr (fun t ht hW => ⟨⟨-1, f9, rfl, trivial, hok, by rw [ht]; exact hP⟩, hS.F ht⟩) hS.2.2 dX11_core_15

set_option maxHeartbeats 4000000 in
set_option maxRecDepth 100000 in
theorem t_X11_spell (l : Launch) (dC : Nat → ClassId) (dI : Nat → Nat → Nat) (sz : Nat) (G : GT) (cs : Nat → ClassId) (tt mm : Nat) (a0 : Nat) (ha0 : Ty G a0 11) (v1 : Int32) (v2 : Int32) (v3 : Int32) : Met l yX11_spell [.code yX11_spell cX11_spell 4 (some .int)] ({ frames := 6, cells := 0, slots := 0, locals := 240 }) (PT [.ref a0, .int v1, .int v2, .int v3] sz dC dI G cs tt mm (fun _ => True)) (va_Qi (fun (r : Int32) (u : Nat → va_E) => True) (BT dC dI G cs tt mm) (AT G sz)) 0 0 (AT G sz) := by
  refine Met.ofW (cc := cX11_spell) (maxL := 4) (ret := (some .int)) (by decide) rfl ?_
  intro p e s m args below meth c s₁ B hml hv
  obtain ⟨rfl, hsz, ⟨f0, hok, hP, hX⟩, hK, hnd, hWT, hE⟩ := hv
  have hx := B.exec
  have hb := B.bytes
  have hr := B.returns
  have hown : s.vm.findClass RX11 = some m.cls := findClass_of_methodNamed B.named
  have hlocks := B.notSynchronized
  subst hsz
  have hAL : ∀ a, a ∈ gL G → AT G s.heap.size a := fun a h => Or.inl h
  have hA : ∀ q : Nat, s.heap.size ≤ q → AT G s.heap.size q := fun q h => Or.inr h
  have hS : va_S (AT G s.heap.size) s.heap s.heap [] := va_S.rf
  have hl := lv_entry ([.ref a0, .int v1, .int v2, .int v3]) (n := 4) (Nat.le_of_ble_eq_true rfl)
  rw [lg_entry_eq]
  generalize (lg_sl ([.ref a0, .int v1, .int v2, .int v3]) ++ List.replicate (4 - (lg_sl ([.ref a0, .int v1, .int v2, .int v3])).length) Slot.unset).toArray = ls at hl ⊢
  have hl : lv_has ls 4 [(0, .ref a0), (1, .int v1), (2, .int v2), (3, .int v3)] := hl
  refine lv_iload_n hx hb dX11_spell_0 rfl (lv_at hl 2 rfl) ?_
  refine lv_if_lt (tgt := 14) hx hb dX11_spell_1 (by decide) (fun c1 => ?_) (fun c1 => ?_)
  · refine lv_aload_n hx hb dX11_spell_14 rfl (lv_at hl 0 rfl) ?_
    refine lv_iconst (v := 1) hx hb dX11_spell_15 (by decide) ?_
    obtain ⟨y5_2, hy4_2, hy7_2, he2⟩ := ok_X11 hok ha0
    refine tc_i hAL hS hA (va_runV (As := [.int 1]) (rest := []) ⟨hx, hb, hml, hown, noTs⟩ (t_X11_fail l dC dI s.heap.size G cs tt mm a0 ha0 1) ⟨cbE 1 (wd_436 hE) (wd_115 hE) (wd_433 hE) rfl rfl (by decide +kernel) ⟨Nat.le_of_ble_eq_true rfl, Nat.le_of_ble_eq_true rfl⟩, (wd_435 hE), (wd_1 hE)⟩ ⟨PT.blind, th_recv hK hP ha0.1 he2 rfl, (th_pre (av := [.ref a0, .int 1]) trivial hK hP hok hnd hWT hE)⟩ rfl rfl hl.1 rfl (lv_room (Nat.le_of_ble_eq_true rfl)) dX11_spell_16 ⟨Nat.le_of_ble_eq_true rfl, Nat.le_of_ble_eq_true rfl⟩) (fun r3 f3 H locs hr3 hok hP hS => ?_)
    subst hr3
    exact W.iret (v := -1) hx hb hr (fun t ht hW => ⟨⟨-1, f3, rfl, trivial, hok, by rw [ht]; exact hP⟩, hS.F ht⟩) hS.2.2 dX11_spell_19
  · refine lv_iload_n hx hb dX11_spell_4 rfl (lv_at hl 2 rfl) ?_
    refine lv_bipush (v := 12) hx hb dX11_spell_5 (by decide) ?_
    refine lv_icmp_gt (tgt := 14) hx hb dX11_spell_7 (by decide) (fun c4 => ?_) (fun c4 => ?_)
    · refine lv_aload_n hx hb dX11_spell_14 rfl (lv_at hl 0 rfl) ?_
      refine lv_iconst (v := 1) hx hb dX11_spell_15 (by decide) ?_
      obtain ⟨y5_5, hy4_5, hy7_5, he5⟩ := ok_X11 hok ha0
      refine tc_i hAL hS hA (va_runV (As := [.int 1]) (rest := []) ⟨hx, hb, hml, hown, noTs⟩ (t_X11_fail l dC dI s.heap.size G cs tt mm a0 ha0 1) ⟨cbE 1 (wd_436 hE) (wd_115 hE) (wd_433 hE) rfl rfl (by decide +kernel) ⟨Nat.le_of_ble_eq_true rfl, Nat.le_of_ble_eq_true rfl⟩, (wd_435 hE), (wd_1 hE)⟩ ⟨PT.blind, th_recv hK hP ha0.1 he5 rfl, (th_pre (av := [.ref a0, .int 1]) trivial hK hP hok hnd hWT hE)⟩ rfl rfl hl.1 rfl (lv_room (Nat.le_of_ble_eq_true rfl)) dX11_spell_16 ⟨Nat.le_of_ble_eq_true rfl, Nat.le_of_ble_eq_true rfl⟩) (fun r6 f6 H locs hr6 hok hP hS => ?_)
      subst hr6
      exact W.iret (v := -1) hx hb hr (fun t ht hW => ⟨⟨-1, f6, rfl, trivial, hok, by rw [ht]; exact hP⟩, hS.F ht⟩) hS.2.2 dX11_spell_19
    · refine lv_iload_n hx hb dX11_spell_10 rfl (lv_at hl 3 rfl) ?_
      refine lv_if_ge (tgt := 20) hx hb dX11_spell_11 (by decide) (fun c7 => ?_) (fun c7 => ?_)
      · refine lv_aload_n hx hb dX11_spell_20 rfl (lv_at hl 0 rfl) ?_
        obtain ⟨y5_8, hy4_8, hy7_8, he8⟩ := ok_X11 hok ha0
        refine th_get hx hb (ly_X11 hE) hown hK hP ha0.1 he8 rfl 0 (by decide) (wd_359 hE) (fun _ h9 => h9) rfl dX11_spell_21 ?_
        refine lv_iload_n hx hb dX11_spell_24 rfl (lv_at hl 1 rfl) ?_
        have he9 := ok_X7 hok (wt_X11_0 hWT ha0)
        refine vp_callSi (va_Run.run (va_runV (As := [.int v1]) (rest := []) ⟨hx, hb, hml, hown, noTs⟩ (t_X7_hasVertex l dC dI s.heap.size G cs tt mm (gR G a0 0) ((wt_X11_0 hWT ha0)) v1) ⟨cbE 1 (wd_606 hE) (wd_116 hE) (wd_796 hE) rfl rfl (by decide +kernel) ⟨Nat.le_of_ble_eq_true rfl, Nat.le_of_ble_eq_true rfl⟩, (wd_604 hE), (wd_605 hE)⟩ ⟨PT.blind, th_recv hK hP (wt_X11_0 hWT ha0).1 he9 rfl, (th_pre (av := [.ref (gR G a0 0), .int v1]) trivial hK hP hok hnd hWT hE)⟩ rfl rfl hl.1 rfl (lv_room (Nat.le_of_ble_eq_true rfl)) dX11_spell_25 ⟨Nat.le_of_ble_eq_true rfl, Nat.le_of_ble_eq_true rfl⟩)) (fun r10 hr10 => ?_)
        refine lv_if_ne (tgt := 37) hx hb dX11_spell_28 (by decide) (fun c11 => ?_) (fun c11 => ?_)
        · refine lv_aload_n hx hb dX11_spell_37 rfl (lv_at hl 0 rfl) ?_
          refine th_get hx hb (ly_X11 hE) hown hK hP ha0.1 he8 rfl 0 (by decide) (wd_359 hE) (fun _ h9 => h9) rfl dX11_spell_38 ?_
          refine vp_callSi (va_Run.run (va_runV (As := []) (rest := []) ⟨hx, hb, hml, hown, noTs⟩ (t_X7_isFull l dC dI s.heap.size G cs tt mm (gR G a0 0) ((wt_X11_0 hWT ha0))) ⟨cbE 0 (wd_633 hE) (wd_116 hE) (wd_899 hE) rfl rfl (by decide +kernel) ⟨Nat.le_of_ble_eq_true rfl, Nat.le_of_ble_eq_true rfl⟩, (wd_631 hE), (wd_632 hE)⟩ ⟨PT.blind, th_recv hK hP (wt_X11_0 hWT ha0).1 he9 rfl, (th_pre (av := [.ref (gR G a0 0)]) trivial hK hP hok hnd hWT hE)⟩ rfl rfl hl.1 rfl (lv_room (Nat.le_of_ble_eq_true rfl)) dX11_spell_41 ⟨Nat.le_of_ble_eq_true rfl, Nat.le_of_ble_eq_true rfl⟩)) (fun r12 hr12 => ?_)
          refine lv_if_eq (tgt := 53) hx hb dX11_spell_44 (by decide) (fun c13 => ?_) (fun c13 => ?_)
          · refine lv_iload_n hx hb dX11_spell_53 rfl (lv_at hl 3 rfl) ?_
            refine lv_i2l hx hb dX11_spell_54 rfl ?_
            refine lv_topl (fun x14 _ => ?_)
            refine lv_aload_n hx hb dX11_spell_55 rfl (lv_at hl 0 rfl) ?_
            refine th_get hx hb (ly_X11 hE) hown hK hP ha0.1 he8 rfl 18 (by decide) (wd_377 hE) (fun _ h9 => h9) rfl dX11_spell_56 ?_
            refine lv_aload_n hx hb dX11_spell_59 rfl (lv_at hl 0 rfl) ?_
            refine th_get hx hb (ly_X11 hE) hown hK hP ha0.1 he8 rfl 0 (by decide) (wd_359 hE) (fun _ h9 => h9) rfl dX11_spell_60 ?_
            refine lv_iload_n hx hb dX11_spell_63 rfl (lv_at hl 1 rfl) ?_
            refine lv_iload_n hx hb dX11_spell_64 rfl (lv_at hl 2 rfl) ?_
            have he15 := ok_X1 hok (wt_X11_18 hWT ha0)
            refine tc_l hAL hS hA (va_runV (As := [.ref (gR G a0 0), .int v1, .int v2]) (rest := [.long x14]) ⟨hx, hb, hml, hown, noTs⟩ (t_X1_loops l dC dI s.heap.size G cs tt mm (gR G a0 18) ((wt_X11_18 hWT ha0)) (gR G a0 0) ((wt_X11_0 hWT ha0)) v1 v2 (by first | omega | (simp only [i_lt, i_le, i_eq, ti_m9, ti_m1, ti_0, ti_1, ti_2, ti_3, ti_4, ti_5, ti_6, ti_7, ti_9, ti_12, ti_20, ti_99, ti_700, ti_24, ti_156, ti_72, ti_8, ti_60, ti_543, ti_10, ti_33, ti_51, ti_178, ti_119, ti_111, ti_114, ti_100, ti_32, ti_62, ti_59, ti_48, ti_701, ti_97, ti_122, ti_57, ti_73, ti_128, ti_61] at c1 c4 c7 c11 c13 ⊢; omega)) (by first | omega | (simp only [i_lt, i_le, i_eq, ti_m9, ti_m1, ti_0, ti_1, ti_2, ti_3, ti_4, ti_5, ti_6, ti_7, ti_9, ti_12, ti_20, ti_99, ti_700, ti_24, ti_156, ti_72, ti_8, ti_60, ti_543, ti_10, ti_33, ti_51, ti_178, ti_119, ti_111, ti_114, ti_100, ti_32, ti_62, ti_59, ti_48, ti_701, ti_97, ti_122, ti_57, ti_73, ti_128, ti_61] at c1 c4 c7 c11 c13 ⊢; omega))) ⟨cbE 3 (wd_979 hE) (wd_125 hE) (wd_976 hE) rfl rfl (by decide +kernel) ⟨Nat.le_of_ble_eq_true rfl, Nat.le_of_ble_eq_true rfl⟩, (wd_977 hE), (wd_978 hE)⟩ ⟨PT.blind, th_recv hK hP (wt_X11_18 hWT ha0).1 he15 rfl, (th_pre (av := [.ref (gR G a0 18), .ref (gR G a0 0), .int v1, .int v2]) trivial hK hP hok hnd hWT hE)⟩ rfl rfl hl.1 rfl (lv_room (Nat.le_of_ble_eq_true rfl)) dX11_spell_65 ⟨Nat.le_of_ble_eq_true rfl, Nat.le_of_ble_eq_true rfl⟩) (fun r16 f16 H locs hr16 hok hP hS => ?_)
            refine W.lcmp hx hb dX11_spell_68 ?_
            refine lv_topi (fun x17 ex17 => ?_)
            refine lv_if_lt (tgt := 78) hx hb dX11_spell_69 (by decide) (fun c18 => ?_) (fun c18 => ?_)
            · refine lv_aload_n hx hb dX11_spell_78 rfl (lv_at hl 0 rfl) ?_
              obtain ⟨y5_19, hy4_19, hy7_19, he19⟩ := ok_X11 hok ha0
              refine th_get hx hb (ly_X11 hE) hown hK hP ha0.1 he19 rfl 18 (by decide) (wd_377 hE) (fun _ h9 => h9) rfl dX11_spell_79 ?_
              refine lv_aload_n hx hb dX11_spell_82 rfl (lv_at hl 0 rfl) ?_
              refine th_get hx hb (ly_X11 hE) hown hK hP ha0.1 he19 rfl 0 (by decide) (wd_359 hE) (fun _ h9 => h9) rfl dX11_spell_83 ?_
              refine lv_iload_n hx hb dX11_spell_86 rfl (lv_at hl 1 rfl) ?_
              refine lv_iload_n hx hb dX11_spell_87 rfl (lv_at hl 2 rfl) ?_
              refine lv_iload_n hx hb dX11_spell_88 rfl (lv_at hl 3 rfl) ?_
              refine lv_aload_n hx hb dX11_spell_89 rfl (lv_at hl 0 rfl) ?_
              refine th_get hx hb (ly_X11 hE) hown hK hP ha0.1 he19 rfl 12 (by decide) (wd_371 hE) (fun _ h9 => h9) rfl dX11_spell_90 ?_
              have he20 := ok_X1 hok (wt_X11_18 hWT ha0)
              refine tc_v hAL hS hA (va_runV (As := [.ref (gR G a0 0), .int v1, .int v2, .int v3, .ref (gR G a0 12)]) (rest := []) ⟨hx, hb, hml, hown, noTs⟩ (t_X1_find l dC dI H.size G cs tt mm (gR G a0 18) ((wt_X11_18 hWT ha0)) (gR G a0 0) ((wt_X11_0 hWT ha0)) v1 v2 v3 (gR G a0 12) ((wt_X11_12 hWT ha0)) (by first | omega | (simp only [i_lt, i_le, i_eq, ti_m9, ti_m1, ti_0, ti_1, ti_2, ti_3, ti_4, ti_5, ti_6, ti_7, ti_9, ti_12, ti_20, ti_99, ti_700, ti_24, ti_156, ti_72, ti_8, ti_60, ti_543, ti_10, ti_33, ti_51, ti_178, ti_119, ti_111, ti_114, ti_100, ti_32, ti_62, ti_59, ti_48, ti_701, ti_97, ti_122, ti_57, ti_73, ti_128, ti_61] at c1 c4 c7 c11 c13 c18 ⊢; omega)) (by first | omega | (simp only [i_lt, i_le, i_eq, ti_m9, ti_m1, ti_0, ti_1, ti_2, ti_3, ti_4, ti_5, ti_6, ti_7, ti_9, ti_12, ti_20, ti_99, ti_700, ti_24, ti_156, ti_72, ti_8, ti_60, ti_543, ti_10, ti_33, ti_51, ti_178, ti_119, ti_111, ti_114, ti_100, ti_32, ti_62, ti_59, ti_48, ti_701, ti_97, ti_122, ti_57, ti_73, ti_128, ti_61] at c1 c4 c7 c11 c13 c18 ⊢; omega))) ⟨cbE 5 (wd_1017 hE) (wd_125 hE) (wd_1014 hE) rfl rfl (by decide +kernel) ⟨Nat.le_of_ble_eq_true rfl, Nat.le_of_ble_eq_true rfl⟩, (wd_1015 hE), (wd_1016 hE)⟩ ⟨PT.blind, th_recv hK hP (wt_X11_18 hWT ha0).1 he20 rfl, (th_pre (av := [.ref (gR G a0 18), .ref (gR G a0 0), .int v1, .int v2, .int v3, .ref (gR G a0 12)]) trivial hK hP hok hnd hWT hE)⟩ rfl rfl hl.1 rfl (lv_room (Nat.le_of_ble_eq_true rfl)) dX11_spell_93 ⟨Nat.le_of_ble_eq_true rfl, Nat.le_of_ble_eq_true rfl⟩) (fun f21 H locs hr21 hok hP hS => ?_)
              refine lv_aload_n hx hb dX11_spell_96 rfl (lv_at hl 0 rfl) ?_
              refine lv_aload_n hx hb dX11_spell_97 rfl (lv_at hl 0 rfl) ?_
              obtain ⟨y5_22, hy4_22, hy7_22, he22⟩ := ok_X11 hok ha0
              refine th_get hx hb (ly_X11 hE) hown hK hP ha0.1 he22 rfl 12 (by decide) (wd_371 hE) (fun _ h9 => h9) rfl dX11_spell_98 ?_
              refine tc_i hAL hS hA (va_runV (As := [.ref (gR G a0 12)]) (rest := []) ⟨hx, hb, hml, hown, noTs⟩ (t_X11_keep l dC dI H.size G cs tt mm a0 ha0 (gR G a0 12) ((wt_X11_12 hWT ha0))) ⟨cbE 1 (wd_905 hE) (wd_115 hE) (wd_902 hE) rfl rfl (by decide +kernel) ⟨Nat.le_of_ble_eq_true rfl, Nat.le_of_ble_eq_true rfl⟩, (wd_904 hE), (wd_28 hE)⟩ ⟨PT.blind, th_recv hK hP ha0.1 he22 rfl, (th_pre (av := [.ref a0, .ref (gR G a0 12)]) trivial hK hP hok hnd hWT hE)⟩ rfl rfl hl.1 rfl (lv_room (Nat.le_of_ble_eq_true rfl)) dX11_spell_101 ⟨Nat.le_of_ble_eq_true rfl, Nat.le_of_ble_eq_true rfl⟩) (fun r23 f23 H locs hr23 hok hP hS => ?_)
              exact W.iret (v := r23) hx hb hr (fun t ht hW => ⟨⟨r23, f23, rfl, trivial, hok, by rw [ht]; exact hP⟩, hS.F ht⟩) hS.2.2 dX11_spell_104
            · refine lv_aload_n hx hb dX11_spell_72 rfl (lv_at hl 0 rfl) ?_
              refine lv_iconst (v := 5) hx hb dX11_spell_73 (by decide) ?_
              obtain ⟨y5_24, hy4_24, hy7_24, he24⟩ := ok_X11 hok ha0
              refine tc_i hAL hS hA (va_runV (As := [.int 5]) (rest := []) ⟨hx, hb, hml, hown, noTs⟩ (t_X11_fail l dC dI H.size G cs tt mm a0 ha0 5) ⟨cbE 1 (wd_436 hE) (wd_115 hE) (wd_433 hE) rfl rfl (by decide +kernel) ⟨Nat.le_of_ble_eq_true rfl, Nat.le_of_ble_eq_true rfl⟩, (wd_435 hE), (wd_1 hE)⟩ ⟨PT.blind, th_recv hK hP ha0.1 he24 rfl, (th_pre (av := [.ref a0, .int 5]) trivial hK hP hok hnd hWT hE)⟩ rfl rfl hl.1 rfl (lv_room (Nat.le_of_ble_eq_true rfl)) dX11_spell_74 ⟨Nat.le_of_ble_eq_true rfl, Nat.le_of_ble_eq_true rfl⟩) (fun r25 f25 H locs hr25 hok hP hS => ?_)
              subst hr25
              exact W.iret (v := -1) hx hb hr (fun t ht hW => ⟨⟨-1, f25, rfl, trivial, hok, by rw [ht]; exact hP⟩, hS.F ht⟩) hS.2.2 dX11_spell_77
          · refine lv_aload_n hx hb dX11_spell_47 rfl (lv_at hl 0 rfl) ?_
            refine lv_iconst (v := 3) hx hb dX11_spell_48 (by decide) ?_
            refine tc_i hAL hS hA (va_runV (As := [.int 3]) (rest := []) ⟨hx, hb, hml, hown, noTs⟩ (t_X11_fail l dC dI s.heap.size G cs tt mm a0 ha0 3) ⟨cbE 1 (wd_436 hE) (wd_115 hE) (wd_433 hE) rfl rfl (by decide +kernel) ⟨Nat.le_of_ble_eq_true rfl, Nat.le_of_ble_eq_true rfl⟩, (wd_435 hE), (wd_1 hE)⟩ ⟨PT.blind, th_recv hK hP ha0.1 he8 rfl, (th_pre (av := [.ref a0, .int 3]) trivial hK hP hok hnd hWT hE)⟩ rfl rfl hl.1 rfl (lv_room (Nat.le_of_ble_eq_true rfl)) dX11_spell_49 ⟨Nat.le_of_ble_eq_true rfl, Nat.le_of_ble_eq_true rfl⟩) (fun r26 f26 H locs hr26 hok hP hS => ?_)
            subst hr26
            exact W.iret (v := -1) hx hb hr (fun t ht hW => ⟨⟨-1, f26, rfl, trivial, hok, by rw [ht]; exact hP⟩, hS.F ht⟩) hS.2.2 dX11_spell_52
        · refine lv_aload_n hx hb dX11_spell_31 rfl (lv_at hl 0 rfl) ?_
          refine lv_iconst (v := 2) hx hb dX11_spell_32 (by decide) ?_
          refine tc_i hAL hS hA (va_runV (As := [.int 2]) (rest := []) ⟨hx, hb, hml, hown, noTs⟩ (t_X11_fail l dC dI s.heap.size G cs tt mm a0 ha0 2) ⟨cbE 1 (wd_436 hE) (wd_115 hE) (wd_433 hE) rfl rfl (by decide +kernel) ⟨Nat.le_of_ble_eq_true rfl, Nat.le_of_ble_eq_true rfl⟩, (wd_435 hE), (wd_1 hE)⟩ ⟨PT.blind, th_recv hK hP ha0.1 he8 rfl, (th_pre (av := [.ref a0, .int 2]) trivial hK hP hok hnd hWT hE)⟩ rfl rfl hl.1 rfl (lv_room (Nat.le_of_ble_eq_true rfl)) dX11_spell_33 ⟨Nat.le_of_ble_eq_true rfl, Nat.le_of_ble_eq_true rfl⟩) (fun r27 f27 H locs hr27 hok hP hS => ?_)
          subst hr27
          exact W.iret (v := -1) hx hb hr (fun t ht hW => ⟨⟨-1, f27, rfl, trivial, hok, by rw [ht]; exact hP⟩, hS.F ht⟩) hS.2.2 dX11_spell_36
      · refine lv_aload_n hx hb dX11_spell_14 rfl (lv_at hl 0 rfl) ?_
        refine lv_iconst (v := 1) hx hb dX11_spell_15 (by decide) ?_
        obtain ⟨y5_28, hy4_28, hy7_28, he28⟩ := ok_X11 hok ha0
        refine tc_i hAL hS hA (va_runV (As := [.int 1]) (rest := []) ⟨hx, hb, hml, hown, noTs⟩ (t_X11_fail l dC dI s.heap.size G cs tt mm a0 ha0 1) ⟨cbE 1 (wd_436 hE) (wd_115 hE) (wd_433 hE) rfl rfl (by decide +kernel) ⟨Nat.le_of_ble_eq_true rfl, Nat.le_of_ble_eq_true rfl⟩, (wd_435 hE), (wd_1 hE)⟩ ⟨PT.blind, th_recv hK hP ha0.1 he28 rfl, (th_pre (av := [.ref a0, .int 1]) trivial hK hP hok hnd hWT hE)⟩ rfl rfl hl.1 rfl (lv_room (Nat.le_of_ble_eq_true rfl)) dX11_spell_16 ⟨Nat.le_of_ble_eq_true rfl, Nat.le_of_ble_eq_true rfl⟩) (fun r29 f29 H locs hr29 hok hP hS => ?_)
        subst hr29
        exact W.iret (v := -1) hx hb hr (fun t ht hW => ⟨⟨-1, f29, rfl, trivial, hok, by rw [ht]; exact hP⟩, hS.F ht⟩) hS.2.2 dX11_spell_19

set_option maxHeartbeats 4000000 in
set_option maxRecDepth 100000 in
theorem t_X11_drop (l : Launch) (dC : Nat → ClassId) (dI : Nat → Nat → Nat) (sz : Nat) (G : GT) (cs : Nat → ClassId) (tt mm : Nat) (a0 : Nat) (ha0 : Ty G a0 11) (v1 : Int32) : Met l yX11_drop [.code yX11_drop cX11_drop 2 (some .int)] ({ frames := 3, cells := 0, slots := 0, locals := 120 }) (PT [.ref a0, .int v1] sz dC dI G cs tt mm (fun _ => True)) (va_Qi (fun (r : Int32) (u : Nat → va_E) => True) (BT dC dI G cs tt mm) (AT G sz)) 0 0 (AT G sz) := by
  refine Met.ofW (cc := cX11_drop) (maxL := 2) (ret := (some .int)) (by decide) rfl ?_
  intro p e s m args below meth c s₁ B hml hv
  obtain ⟨rfl, hsz, ⟨f0, hok, hP, hX⟩, hK, hnd, hWT, hE⟩ := hv
  have hx := B.exec
  have hb := B.bytes
  have hr := B.returns
  have hown : s.vm.findClass RX11 = some m.cls := findClass_of_methodNamed B.named
  have hlocks := B.notSynchronized
  subst hsz
  have hAL : ∀ a, a ∈ gL G → AT G s.heap.size a := fun a h => Or.inl h
  have hA : ∀ q : Nat, s.heap.size ≤ q → AT G s.heap.size q := fun q h => Or.inr h
  have hS : va_S (AT G s.heap.size) s.heap s.heap [] := va_S.rf
  have hl := lv_entry ([.ref a0, .int v1]) (n := 2) (Nat.le_of_ble_eq_true rfl)
  rw [lg_entry_eq]
  generalize (lg_sl ([.ref a0, .int v1]) ++ List.replicate (2 - (lg_sl ([.ref a0, .int v1])).length) Slot.unset).toArray = ls at hl ⊢
  have hl : lv_has ls 2 [(0, .ref a0), (1, .int v1)] := hl
  refine lv_aload_n hx hb dX11_drop_0 rfl (lv_at hl 0 rfl) ?_
  obtain ⟨y5_1, hy4_1, hy7_1, he1⟩ := ok_X11 hok ha0
  refine th_get hx hb (ly_X11 hE) hown hK hP ha0.1 he1 rfl 0 (by decide) (wd_359 hE) (fun _ h9 => h9) rfl dX11_drop_1 ?_
  refine lv_iload_n hx hb dX11_drop_4 rfl (lv_at hl 1 rfl) ?_
  have he2 := ok_X7 hok (wt_X11_0 hWT ha0)
  refine vp_callSi (va_Run.run (va_runV (As := [.int v1]) (rest := []) ⟨hx, hb, hml, hown, noTs⟩ (t_X7_hasWord l dC dI s.heap.size G cs tt mm (gR G a0 0) ((wt_X11_0 hWT ha0)) v1) ⟨cbE 1 (wd_708 hE) (wd_116 hE) (wd_1034 hE) rfl rfl (by decide +kernel) ⟨Nat.le_of_ble_eq_true rfl, Nat.le_of_ble_eq_true rfl⟩, (wd_706 hE), (wd_707 hE)⟩ ⟨PT.blind, th_recv hK hP (wt_X11_0 hWT ha0).1 he2 rfl, (th_pre (av := [.ref (gR G a0 0), .int v1]) trivial hK hP hok hnd hWT hE)⟩ rfl rfl hl.1 rfl (lv_room (Nat.le_of_ble_eq_true rfl)) dX11_drop_5 ⟨Nat.le_of_ble_eq_true rfl, Nat.le_of_ble_eq_true rfl⟩)) (fun r3 hr3 => ?_)
  refine lv_if_ne (tgt := 17) hx hb dX11_drop_8 (by decide) (fun c4 => ?_) (fun c4 => ?_)
  · refine lv_aload_n hx hb dX11_drop_17 rfl (lv_at hl 0 rfl) ?_
    refine th_get hx hb (ly_X11 hE) hown hK hP ha0.1 he1 rfl 1 (by decide) (wd_360 hE) (fun _ h9 => h9) rfl dX11_drop_18 ?_
    refine lv_aload_n hx hb dX11_drop_21 rfl (lv_at hl 0 rfl) ?_
    refine th_get hx hb (ly_X11 hE) hown hK hP ha0.1 he1 rfl 0 (by decide) (wd_359 hE) (fun _ h9 => h9) rfl dX11_drop_22 ?_
    obtain ⟨y1_5, y2_5, he5⟩ := ok_X3 hok (wt_X11_1 hWT ha0)
    refine tc_v hAL hS hA (va_runV (As := [.ref (gR G a0 0)]) (rest := []) ⟨hx, hb, hml, hown, noTs⟩ (t_X3_push l dC dI s.heap.size G cs tt mm (gR G a0 1) ((wt_X11_1 hWT ha0)) (gR G a0 0) ((wt_X11_0 hWT ha0))) ⟨cbE 1 (wd_725 hE) (wd_117 hE) (wd_722 hE) rfl rfl (by decide +kernel) ⟨Nat.le_of_ble_eq_true rfl, Nat.le_of_ble_eq_true rfl⟩, (wd_723 hE), (wd_724 hE)⟩ ⟨PT.blind, th_recv hK hP (wt_X11_1 hWT ha0).1 he5 rfl, (th_pre (av := [.ref (gR G a0 1), .ref (gR G a0 0)]) trivial hK hP hok hnd hWT hE)⟩ rfl rfl hl.1 rfl (lv_room (Nat.le_of_ble_eq_true rfl)) dX11_drop_25 ⟨Nat.le_of_ble_eq_true rfl, Nat.le_of_ble_eq_true rfl⟩) (fun f6 H locs hr6 hok hP hS => ?_)
    refine lv_aload_n hx hb dX11_drop_28 rfl (lv_at hl 0 rfl) ?_
    obtain ⟨y5_7, hy4_7, hy7_7, he7⟩ := ok_X11 hok ha0
    refine th_get hx hb (ly_X11 hE) hown hK hP ha0.1 he7 rfl 0 (by decide) (wd_359 hE) (fun _ h9 => h9) rfl dX11_drop_29 ?_
    refine lv_iload_n hx hb dX11_drop_32 rfl (lv_at hl 1 rfl) ?_
    have he8 := ok_X7 hok (wt_X11_0 hWT ha0)
    refine tc_v hAL hS hA (va_runV (As := [.int v1]) (rest := []) ⟨hx, hb, hml, hown, noTs⟩ (t_X7_removeWord l dC dI H.size G cs tt mm (gR G a0 0) ((wt_X11_0 hWT ha0)) v1) ⟨cbE 1 (wd_1038 hE) (wd_116 hE) (wd_1035 hE) rfl rfl (by decide +kernel) ⟨Nat.le_of_ble_eq_true rfl, Nat.le_of_ble_eq_true rfl⟩, (wd_1036 hE), (wd_1037 hE)⟩ ⟨PT.blind, th_recv hK hP (wt_X11_0 hWT ha0).1 he8 rfl, (th_pre (av := [.ref (gR G a0 0), .int v1]) trivial hK hP hok hnd hWT hE)⟩ rfl rfl hl.1 rfl (lv_room (Nat.le_of_ble_eq_true rfl)) dX11_drop_33 ⟨Nat.le_of_ble_eq_true rfl, Nat.le_of_ble_eq_true rfl⟩) (fun f9 H locs hr9 hok hP hS => ?_)
    refine lv_aload_n hx hb dX11_drop_36 rfl (lv_at hl 0 rfl) ?_
    refine lv_aload_n hx hb dX11_drop_37 rfl (lv_at hl 0 rfl) ?_
    obtain ⟨y5_10, hy4_10, hy7_10, he10⟩ := ok_X11 hok ha0
    refine th_get hx hb (ly_X11 hE) hown hK hP ha0.1 he10 rfl 0 (by decide) (wd_359 hE) (fun _ h9 => h9) rfl dX11_drop_38 ?_
    have he11 := ok_X7 hok (wt_X11_0 hWT ha0)
    refine vp_callSi (va_Run.run (va_runV (As := []) (rest := [.ref a0]) ⟨hx, hb, hml, hown, noTs⟩ (t_X7_words l dC dI H.size G cs tt mm (gR G a0 0) ((wt_X11_0 hWT ha0))) ⟨cbE 0 (wd_700 hE) (wd_116 hE) (wd_744 hE) rfl rfl (by decide +kernel) ⟨Nat.le_of_ble_eq_true rfl, Nat.le_of_ble_eq_true rfl⟩, (wd_698 hE), (wd_699 hE)⟩ ⟨PT.blind, th_recv hK hP (wt_X11_0 hWT ha0).1 he11 rfl, (th_pre (av := [.ref (gR G a0 0)]) trivial hK hP hok hnd hWT hE)⟩ rfl rfl hl.1 rfl (lv_room (Nat.le_of_ble_eq_true rfl)) dX11_drop_41 ⟨Nat.le_of_ble_eq_true rfl, Nat.le_of_ble_eq_true rfl⟩)) (fun r12 hr12 => ?_)
    refine tc_i hAL hS hA (va_runV (As := [.int r12]) (rest := []) ⟨hx, hb, hml, hown, noTs⟩ (t_X11_answer l dC dI H.size G cs tt mm a0 ha0 r12) ⟨cbE 1 (wd_748 hE) (wd_115 hE) (wd_745 hE) rfl rfl (by decide +kernel) ⟨Nat.le_of_ble_eq_true rfl, Nat.le_of_ble_eq_true rfl⟩, (wd_747 hE), (wd_23 hE)⟩ ⟨PT.blind, th_recv hK hP ha0.1 he10 rfl, (th_pre (av := [.ref a0, .int r12]) trivial hK hP hok hnd hWT hE)⟩ rfl rfl hl.1 rfl (lv_room (Nat.le_of_ble_eq_true rfl)) dX11_drop_44 ⟨Nat.le_of_ble_eq_true rfl, Nat.le_of_ble_eq_true rfl⟩) (fun r13 f13 H locs hr13 hok hP hS => ?_)
    refine W.eq (g2 := F0 m 47 ls [.int r12]) (by rw [hr13]) ?_
    exact W.iret (v := r12) hx hb hr (fun t ht hW => ⟨⟨r12, f13, rfl, trivial, hok, by rw [ht]; exact hP⟩, hS.F ht⟩) hS.2.2 dX11_drop_47
  · refine lv_aload_n hx hb dX11_drop_11 rfl (lv_at hl 0 rfl) ?_
    refine lv_iconst (v := 2) hx hb dX11_drop_12 (by decide) ?_
    refine tc_i hAL hS hA (va_runV (As := [.int 2]) (rest := []) ⟨hx, hb, hml, hown, noTs⟩ (t_X11_fail l dC dI s.heap.size G cs tt mm a0 ha0 2) ⟨cbE 1 (wd_436 hE) (wd_115 hE) (wd_433 hE) rfl rfl (by decide +kernel) ⟨Nat.le_of_ble_eq_true rfl, Nat.le_of_ble_eq_true rfl⟩, (wd_435 hE), (wd_1 hE)⟩ ⟨PT.blind, th_recv hK hP ha0.1 he1 rfl, (th_pre (av := [.ref a0, .int 2]) trivial hK hP hok hnd hWT hE)⟩ rfl rfl hl.1 rfl (lv_room (Nat.le_of_ble_eq_true rfl)) dX11_drop_13 ⟨Nat.le_of_ble_eq_true rfl, Nat.le_of_ble_eq_true rfl⟩) (fun r14 f14 H locs hr14 hok hP hS => ?_)
    subst hr14
    exact W.iret (v := -1) hx hb hr (fun t ht hW => ⟨⟨-1, f14, rfl, trivial, hok, by rw [ht]; exact hP⟩, hS.F ht⟩) hS.2.2 dX11_drop_16

set_option maxHeartbeats 4000000 in
set_option maxRecDepth 100000 in
theorem t_X11_undo (l : Launch) (dC : Nat → ClassId) (dI : Nat → Nat → Nat) (sz : Nat) (G : GT) (cs : Nat → ClassId) (tt mm : Nat) (a0 : Nat) (ha0 : Ty G a0 11) : Met l yX11_undo [.code yX11_undo cX11_undo 1 (some .int)] ({ frames := 3, cells := 0, slots := 0, locals := 120 }) (PT [.ref a0] sz dC dI G cs tt mm (fun _ => True)) (va_Qi (fun (r : Int32) (u : Nat → va_E) => True) (BT dC dI G cs tt mm) (AT G sz)) 0 0 (AT G sz) := by
  refine Met.ofW (cc := cX11_undo) (maxL := 1) (ret := (some .int)) (by decide) rfl ?_
  intro p e s m args below meth c s₁ B hml hv
  obtain ⟨rfl, hsz, ⟨f0, hok, hP, hX⟩, hK, hnd, hWT, hE⟩ := hv
  have hx := B.exec
  have hb := B.bytes
  have hr := B.returns
  have hown : s.vm.findClass RX11 = some m.cls := findClass_of_methodNamed B.named
  have hlocks := B.notSynchronized
  subst hsz
  have hAL : ∀ a, a ∈ gL G → AT G s.heap.size a := fun a h => Or.inl h
  have hA : ∀ q : Nat, s.heap.size ≤ q → AT G s.heap.size q := fun q h => Or.inr h
  have hS : va_S (AT G s.heap.size) s.heap s.heap [] := va_S.rf
  have hl := lv_entry ([.ref a0]) (n := 1) (Nat.le_of_ble_eq_true rfl)
  rw [lg_entry_eq]
  generalize (lg_sl ([.ref a0]) ++ List.replicate (1 - (lg_sl ([.ref a0])).length) Slot.unset).toArray = ls at hl ⊢
  have hl : lv_has ls 1 [(0, .ref a0)] := hl
  refine lv_aload_n hx hb dX11_undo_0 rfl (lv_at hl 0 rfl) ?_
  obtain ⟨y5_1, hy4_1, hy7_1, he1⟩ := ok_X11 hok ha0
  refine th_get hx hb (ly_X11 hE) hown hK hP ha0.1 he1 rfl 1 (by decide) (wd_360 hE) (fun _ h9 => h9) rfl dX11_undo_1 ?_
  refine lv_aload_n hx hb dX11_undo_4 rfl (lv_at hl 0 rfl) ?_
  refine th_get hx hb (ly_X11 hE) hown hK hP ha0.1 he1 rfl 0 (by decide) (wd_359 hE) (fun _ h9 => h9) rfl dX11_undo_5 ?_
  obtain ⟨y1_2, y2_2, he2⟩ := ok_X3 hok (wt_X11_1 hWT ha0)
  refine tc_i hAL hS hA (va_runV (As := [.ref (gR G a0 0)]) (rest := []) ⟨hx, hb, hml, hown, noTs⟩ (t_X3_pop l dC dI s.heap.size G cs tt mm (gR G a0 1) ((wt_X11_1 hWT ha0)) (gR G a0 0) ((wt_X11_0 hWT ha0))) ⟨cbE 1 (wd_1046 hE) (wd_117 hE) (wd_1043 hE) rfl rfl (by decide +kernel) ⟨Nat.le_of_ble_eq_true rfl, Nat.le_of_ble_eq_true rfl⟩, (wd_1044 hE), (wd_1045 hE)⟩ ⟨PT.blind, th_recv hK hP (wt_X11_1 hWT ha0).1 he2 rfl, (th_pre (av := [.ref (gR G a0 1), .ref (gR G a0 0)]) trivial hK hP hok hnd hWT hE)⟩ rfl rfl hl.1 rfl (lv_room (Nat.le_of_ble_eq_true rfl)) dX11_undo_8 ⟨Nat.le_of_ble_eq_true rfl, Nat.le_of_ble_eq_true rfl⟩) (fun r3 f3 H locs hr3 hok hP hS => ?_)
  refine lv_if_ne (tgt := 20) hx hb dX11_undo_11 (by decide) (fun c4 => ?_) (fun c4 => ?_)
  · refine lv_aload_n hx hb dX11_undo_20 rfl (lv_at hl 0 rfl) ?_
    refine lv_aload_n hx hb dX11_undo_21 rfl (lv_at hl 0 rfl) ?_
    obtain ⟨y5_5, hy4_5, hy7_5, he5⟩ := ok_X11 hok ha0
    refine th_get hx hb (ly_X11 hE) hown hK hP ha0.1 he5 rfl 1 (by decide) (wd_360 hE) (fun _ h9 => h9) rfl dX11_undo_22 ?_
    obtain ⟨y1_6, y2_6, he6⟩ := ok_X3 hok (wt_X11_1 hWT ha0)
    refine vp_callSi (va_Run.run (va_runV (As := []) (rest := [.ref a0]) ⟨hx, hb, hml, hown, noTs⟩ (t_X3_size l dC dI H.size G cs tt mm (gR G a0 1) ((wt_X11_1 hWT ha0))) ⟨cbE 0 (wd_766 hE) (wd_117 hE) (wd_763 hE) rfl rfl (by decide +kernel) ⟨Nat.le_of_ble_eq_true rfl, Nat.le_of_ble_eq_true rfl⟩, (wd_764 hE), (wd_765 hE)⟩ ⟨PT.blind, th_recv hK hP (wt_X11_1 hWT ha0).1 he6 rfl, (th_pre (av := [.ref (gR G a0 1)]) trivial hK hP hok hnd hWT hE)⟩ rfl rfl hl.1 rfl (lv_room (Nat.le_of_ble_eq_true rfl)) dX11_undo_25 ⟨Nat.le_of_ble_eq_true rfl, Nat.le_of_ble_eq_true rfl⟩)) (fun r7 hr7 => ?_)
    refine tc_i hAL hS hA (va_runV (As := [.int r7]) (rest := []) ⟨hx, hb, hml, hown, noTs⟩ (t_X11_answer l dC dI H.size G cs tt mm a0 ha0 r7) ⟨cbE 1 (wd_748 hE) (wd_115 hE) (wd_745 hE) rfl rfl (by decide +kernel) ⟨Nat.le_of_ble_eq_true rfl, Nat.le_of_ble_eq_true rfl⟩, (wd_747 hE), (wd_23 hE)⟩ ⟨PT.blind, th_recv hK hP ha0.1 he5 rfl, (th_pre (av := [.ref a0, .int r7]) trivial hK hP hok hnd hWT hE)⟩ rfl rfl hl.1 rfl (lv_room (Nat.le_of_ble_eq_true rfl)) dX11_undo_28 ⟨Nat.le_of_ble_eq_true rfl, Nat.le_of_ble_eq_true rfl⟩) (fun r8 f8 H locs hr8 hok hP hS => ?_)
    refine W.eq (g2 := F0 m 31 ls [.int r7]) (by rw [hr8]) ?_
    exact W.iret (v := r7) hx hb hr (fun t ht hW => ⟨⟨r7, f8, rfl, trivial, hok, by rw [ht]; exact hP⟩, hS.F ht⟩) hS.2.2 dX11_undo_31
  · refine lv_aload_n hx hb dX11_undo_14 rfl (lv_at hl 0 rfl) ?_
    refine lv_iconst (v := 5) hx hb dX11_undo_15 (by decide) ?_
    obtain ⟨y5_9, hy4_9, hy7_9, he9⟩ := ok_X11 hok ha0
    refine tc_i hAL hS hA (va_runV (As := [.int 5]) (rest := []) ⟨hx, hb, hml, hown, noTs⟩ (t_X11_fail l dC dI H.size G cs tt mm a0 ha0 5) ⟨cbE 1 (wd_436 hE) (wd_115 hE) (wd_433 hE) rfl rfl (by decide +kernel) ⟨Nat.le_of_ble_eq_true rfl, Nat.le_of_ble_eq_true rfl⟩, (wd_435 hE), (wd_1 hE)⟩ ⟨PT.blind, th_recv hK hP ha0.1 he9 rfl, (th_pre (av := [.ref a0, .int 5]) trivial hK hP hok hnd hWT hE)⟩ rfl rfl hl.1 rfl (lv_room (Nat.le_of_ble_eq_true rfl)) dX11_undo_16 ⟨Nat.le_of_ble_eq_true rfl, Nat.le_of_ble_eq_true rfl⟩) (fun r10 f10 H locs hr10 hok hP hS => ?_)
    subst hr10
    exact W.iret (v := -1) hx hb hr (fun t ht hW => ⟨⟨-1, f10, rfl, trivial, hok, by rw [ht]; exact hP⟩, hS.F ht⟩) hS.2.2 dX11_undo_19

set_option maxHeartbeats 4000000 in
set_option maxRecDepth 100000 in
theorem t_X11_mark (l : Launch) (dC : Nat → ClassId) (dI : Nat → Nat → Nat) (sz : Nat) (G : GT) (cs : Nat → ClassId) (tt mm : Nat) (a0 : Nat) (ha0 : Ty G a0 11) (hmm : mm < 3) : Met l yX11_mark [.code yX11_mark cX11_mark 3 (some .int)] ({ frames := 4, cells := 0, slots := 0, locals := 160 }) (PT [.ref a0] sz dC dI G cs tt mm (fun _ => True)) (va_Qi (fun (r : Int32) (u : Nat → va_E) => r = nI (mm + 1)) (BT dC dI G cs tt (mm + 1)) (AT G sz)) 0 0 (AT G sz) := by
  refine Met.ofW (cc := cX11_mark) (maxL := 3) (ret := (some .int)) (by decide) rfl ?_
  intro p e s m args below meth c s₁ B hml hv
  obtain ⟨rfl, hsz, ⟨f0, hok, hP, hX⟩, hK, hnd, hWT, hE⟩ := hv
  have hx := B.exec
  have hb := B.bytes
  have hr := B.returns
  have hown : s.vm.findClass RX11 = some m.cls := findClass_of_methodNamed B.named
  have hlocks := B.notSynchronized
  subst hsz
  have hAL : ∀ a, a ∈ gL G → AT G s.heap.size a := fun a h => Or.inl h
  have hA : ∀ q : Nat, s.heap.size ≤ q → AT G s.heap.size q := fun q h => Or.inr h
  have hS : va_S (AT G s.heap.size) s.heap s.heap [] := va_S.rf
  have hl := lv_entry ([.ref a0]) (n := 3) (Nat.le_of_ble_eq_true rfl)
  rw [lg_entry_eq]
  generalize (lg_sl ([.ref a0]) ++ List.replicate (3 - (lg_sl ([.ref a0])).length) Slot.unset).toArray = ls at hl ⊢
  have hl : lv_has ls 3 [(0, .ref a0)] := hl
  refine lv_aload_n hx hb dX11_mark_0 rfl (lv_at hl 0 rfl) ?_
  obtain ⟨y5_1, hy4_1, hy7_1, he1⟩ := ok_X11 hok ha0
  refine th_get hx hb (ly_X11 hE) hown hK hP ha0.1 he1 rfl 4 (by decide) (wd_363 hE) (fun _ h9 => h9) rfl dX11_mark_1 ?_
  have nt2 : (nI mm).toInt = ((mm : Nat) : Int) := nI_toInt (by omega)
  refine lv_if_lt (tgt := 15) hx hb dX11_mark_4 (by decide) (fun c3 => False.elim (by simp only [i_lt, i_le, i_eq, ti_m9, ti_m1, ti_0, ti_1, ti_2, ti_3, ti_4, ti_5, ti_6, ti_7, ti_9, ti_12, ti_20, ti_99, ti_700, ti_24, ti_156, ti_72, ti_8, ti_60, ti_543, ti_10, ti_33, ti_51, ti_178, ti_119, ti_111, ti_114, ti_100, ti_32, ti_62, ti_59, ti_48, ti_701, ti_97, ti_122, ti_57, ti_73, ti_128, ti_61, nt2] at c3; omega)) (fun c3 => ?_)
  refine lv_aload_n hx hb dX11_mark_7 rfl (lv_at hl 0 rfl) ?_
  refine th_get hx hb (ly_X11 hE) hown hK hP ha0.1 he1 rfl 4 (by decide) (wd_363 hE) (fun _ h9 => h9) rfl dX11_mark_8 ?_
  refine lv_iconst (v := 3) hx hb dX11_mark_11 (by decide) ?_
  refine lv_icmp_lt (tgt := 21) hx hb dX11_mark_12 (by decide) (fun c4 => ?_) (fun c4 => False.elim (by simp only [i_lt, i_le, i_eq, ti_m9, ti_m1, ti_0, ti_1, ti_2, ti_3, ti_4, ti_5, ti_6, ti_7, ti_9, ti_12, ti_20, ti_99, ti_700, ti_24, ti_156, ti_72, ti_8, ti_60, ti_543, ti_10, ti_33, ti_51, ti_178, ti_119, ti_111, ti_114, ti_100, ti_32, ti_62, ti_59, ti_48, ti_701, ti_97, ti_122, ti_57, ti_73, ti_128, ti_61, nt2] at c3 c4; omega))
  refine lv_aload_n hx hb dX11_mark_21 rfl (lv_at hl 0 rfl) ?_
  refine th_get hx hb (ly_X11 hE) hown hK hP ha0.1 he1 rfl 2 (by decide) (wd_361 hE) (fun _ h9 => h9) rfl dX11_mark_22 ?_
  refine lv_aload_n hx hb dX11_mark_25 rfl (lv_at hl 0 rfl) ?_
  refine th_get hx hb (ly_X11 hE) hown hK hP ha0.1 he1 rfl 4 (by decide) (wd_363 hE) (fun _ h9 => h9) rfl dX11_mark_26 ?_
  refine th_ald7 hx hb hK hP hok (wt_X11_2 hWT ha0) (n := 3) (wl_X11_2 hWT ha0) (by first | omega | (simp only [i_lt, i_le, i_eq, ti_m9, ti_m1, ti_0, ti_1, ti_2, ti_3, ti_4, ti_5, ti_6, ti_7, ti_9, ti_12, ti_20, ti_99, ti_700, ti_24, ti_156, ti_72, ti_8, ti_60, ti_543, ti_10, ti_33, ti_51, ti_178, ti_119, ti_111, ti_114, ti_100, ti_32, ti_62, ti_59, ti_48, ti_701, ti_97, ti_122, ti_57, ti_73, ti_128, ti_61, nt2] at c3 c4 ⊢; omega)) (by decide) dX11_mark_29 ?_
  refine lv_astore_n (lv' := [(1, .ref (gR G (gR G a0 2) mm)), (0, .ref a0)]) hx hb dX11_mark_30 rfl hl (by decide) rfl (fun ls hl => ?_)
  refine lv_aload_n hx hb dX11_mark_31 rfl (lv_at hl 1 rfl) ?_
  refine th_get hx hb (ly_X11 hE) hown hK hP ha0.1 he1 rfl 3 (by decide) (wd_362 hE) (fun _ h9 => h9) rfl dX11_mark_32 ?_
  refine lv_aload_n hx hb dX11_mark_35 rfl (lv_at hl 1 rfl) ?_
  refine th_get hx hb (ly_X11 hE) hown hK hP ha0.1 he1 rfl 4 (by decide) (wd_363 hE) (fun _ h9 => h9) rfl dX11_mark_36 ?_
  refine th_ald3 hx hb hK hP hok (wt_X11_3 hWT ha0) (n := 3) (wl_X11_3 hWT ha0) (by first | omega | (simp only [i_lt, i_le, i_eq, ti_m9, ti_m1, ti_0, ti_1, ti_2, ti_3, ti_4, ti_5, ti_6, ti_7, ti_9, ti_12, ti_20, ti_99, ti_700, ti_24, ti_156, ti_72, ti_8, ti_60, ti_543, ti_10, ti_33, ti_51, ti_178, ti_119, ti_111, ti_114, ti_100, ti_32, ti_62, ti_59, ti_48, ti_701, ti_97, ti_122, ti_57, ti_73, ti_128, ti_61, nt2] at c3 c4 ⊢; omega)) (by decide) dX11_mark_39 ?_
  refine lv_astore_n (lv' := [(2, .ref (gR G (gR G a0 3) mm)), (1, .ref (gR G (gR G a0 2) mm)), (0, .ref a0)]) hx hb dX11_mark_40 rfl hl (by decide) rfl (fun ls hl => ?_)
  refine lv_aload_n hx hb dX11_mark_41 rfl (lv_at hl 1 rfl) ?_
  refine lv_ifnull hx hb dX11_mark_42 ?_
  refine lv_aload_n hx hb dX11_mark_45 rfl (lv_at hl 0 rfl) ?_
  refine lv_ifnonnull (tgt := 55) hx hb dX11_mark_46 (by decide) ?_
  refine lv_aload_n hx hb dX11_mark_55 rfl (lv_at hl 1 rfl) ?_
  refine lv_aload_n hx hb dX11_mark_56 rfl (lv_at hl 2 rfl) ?_
  refine th_get hx hb (ly_X11 hE) hown hK hP ha0.1 he1 rfl 0 (by decide) (wd_359 hE) (fun _ h9 => h9) rfl dX11_mark_57 ?_
  have he5 := ok_X7 hok (wt_stores hWT (wt_X11_2 hWT ha0) (by rw [(wl_X11_2 hWT ha0)]; first | omega | (simp only [i_lt, i_le, i_eq, ti_m9, ti_m1, ti_0, ti_1, ti_2, ti_3, ti_4, ti_5, ti_6, ti_7, ti_9, ti_12, ti_20, ti_99, ti_700, ti_24, ti_156, ti_72, ti_8, ti_60, ti_543, ti_10, ti_33, ti_51, ti_178, ti_119, ti_111, ti_114, ti_100, ti_32, ti_62, ti_59, ti_48, ti_701, ti_97, ti_122, ti_57, ti_73, ti_128, ti_61, nt2] at c3 c4 ⊢; omega)))
  refine tc_v hAL hS hA (va_runV (As := [.ref (gR G a0 0)]) (rest := []) ⟨hx, hb, hml, hown, noTs⟩ (t_X7_copyFrom l dC dI s.heap.size G cs tt mm (gR G (gR G a0 2) mm) ((wt_stores hWT (wt_X11_2 hWT ha0) (by rw [(wl_X11_2 hWT ha0)]; first | omega | (simp only [i_lt, i_le, i_eq, ti_m9, ti_m1, ti_0, ti_1, ti_2, ti_3, ti_4, ti_5, ti_6, ti_7, ti_9, ti_12, ti_20, ti_99, ti_700, ti_24, ti_156, ti_72, ti_8, ti_60, ti_543, ti_10, ti_33, ti_51, ti_178, ti_119, ti_111, ti_114, ti_100, ti_32, ti_62, ti_59, ti_48, ti_701, ti_97, ti_122, ti_57, ti_73, ti_128, ti_61, nt2] at c3 c4 ⊢; omega)))) (gR G a0 0) ((wt_X11_0 hWT ha0))) ⟨cbE 1 (wd_734 hE) (wd_116 hE) (wd_743 hE) rfl rfl (by decide +kernel) ⟨Nat.le_of_ble_eq_true rfl, Nat.le_of_ble_eq_true rfl⟩, (wd_732 hE), (wd_733 hE)⟩ ⟨PT.blind, th_recv hK hP (wt_stores hWT (wt_X11_2 hWT ha0) (by rw [(wl_X11_2 hWT ha0)]; first | omega | (simp only [i_lt, i_le, i_eq, ti_m9, ti_m1, ti_0, ti_1, ti_2, ti_3, ti_4, ti_5, ti_6, ti_7, ti_9, ti_12, ti_20, ti_99, ti_700, ti_24, ti_156, ti_72, ti_8, ti_60, ti_543, ti_10, ti_33, ti_51, ti_178, ti_119, ti_111, ti_114, ti_100, ti_32, ti_62, ti_59, ti_48, ti_701, ti_97, ti_122, ti_57, ti_73, ti_128, ti_61, nt2] at c3 c4 ⊢; omega))).1 he5 rfl, (th_pre (av := [.ref (gR G (gR G a0 2) mm), .ref (gR G a0 0)]) trivial hK hP hok hnd hWT hE)⟩ rfl rfl hl.1 rfl (lv_room (Nat.le_of_ble_eq_true rfl)) dX11_mark_60 ⟨Nat.le_of_ble_eq_true rfl, Nat.le_of_ble_eq_true rfl⟩) (fun f6 H locs hr6 hok hP hS => ?_)
  refine lv_aload_n hx hb dX11_mark_63 rfl (lv_at hl 0 rfl) ?_
  refine lv_aload_n hx hb dX11_mark_64 rfl (lv_at hl 2 rfl) ?_
  obtain ⟨y5_7, hy4_7, hy7_7, he7⟩ := ok_X11 hok ha0
  refine th_get hx hb (ly_X11 hE) hown hK hP ha0.1 he7 rfl 1 (by decide) (wd_360 hE) (fun _ h9 => h9) rfl dX11_mark_65 ?_
  obtain ⟨y1_8, y2_8, he8⟩ := ok_X3 hok (wt_hists hWT (wt_X11_3 hWT ha0) (by rw [(wl_X11_3 hWT ha0)]; first | omega | (simp only [i_lt, i_le, i_eq, ti_m9, ti_m1, ti_0, ti_1, ti_2, ti_3, ti_4, ti_5, ti_6, ti_7, ti_9, ti_12, ti_20, ti_99, ti_700, ti_24, ti_156, ti_72, ti_8, ti_60, ti_543, ti_10, ti_33, ti_51, ti_178, ti_119, ti_111, ti_114, ti_100, ti_32, ti_62, ti_59, ti_48, ti_701, ti_97, ti_122, ti_57, ti_73, ti_128, ti_61, nt2] at c3 c4 ⊢; omega)))
  refine tc_v hAL hS hA (va_runV (As := [.ref (gR G a0 1)]) (rest := []) ⟨hx, hb, hml, hown, noTs⟩ (t_X3_copyFrom l dC dI H.size G cs tt mm (gR G (gR G a0 3) mm) ((wt_hists hWT (wt_X11_3 hWT ha0) (by rw [(wl_X11_3 hWT ha0)]; first | omega | (simp only [i_lt, i_le, i_eq, ti_m9, ti_m1, ti_0, ti_1, ti_2, ti_3, ti_4, ti_5, ti_6, ti_7, ti_9, ti_12, ti_20, ti_99, ti_700, ti_24, ti_156, ti_72, ti_8, ti_60, ti_543, ti_10, ti_33, ti_51, ti_178, ti_119, ti_111, ti_114, ti_100, ti_32, ti_62, ti_59, ti_48, ti_701, ti_97, ti_122, ti_57, ti_73, ti_128, ti_61, nt2] at c3 c4 ⊢; omega)))) (gR G a0 1) ((wt_X11_1 hWT ha0))) ⟨cbE 1 (wd_1054 hE) (wd_117 hE) (wd_1051 hE) rfl rfl (by decide +kernel) ⟨Nat.le_of_ble_eq_true rfl, Nat.le_of_ble_eq_true rfl⟩, (wd_1052 hE), (wd_1053 hE)⟩ ⟨PT.blind, th_recv hK hP (wt_hists hWT (wt_X11_3 hWT ha0) (by rw [(wl_X11_3 hWT ha0)]; first | omega | (simp only [i_lt, i_le, i_eq, ti_m9, ti_m1, ti_0, ti_1, ti_2, ti_3, ti_4, ti_5, ti_6, ti_7, ti_9, ti_12, ti_20, ti_99, ti_700, ti_24, ti_156, ti_72, ti_8, ti_60, ti_543, ti_10, ti_33, ti_51, ti_178, ti_119, ti_111, ti_114, ti_100, ti_32, ti_62, ti_59, ti_48, ti_701, ti_97, ti_122, ti_57, ti_73, ti_128, ti_61, nt2] at c3 c4 ⊢; omega))).1 he8 rfl, (th_pre (av := [.ref (gR G (gR G a0 3) mm), .ref (gR G a0 1)]) trivial hK hP hok hnd hWT hE)⟩ rfl rfl hl.1 rfl (lv_room (Nat.le_of_ble_eq_true rfl)) dX11_mark_68 ⟨Nat.le_of_ble_eq_true rfl, Nat.le_of_ble_eq_true rfl⟩) (fun f9 H locs hr9 hok hP hS => ?_)
  refine lv_aload_n hx hb dX11_mark_71 rfl (lv_at hl 2 rfl) ?_
  refine lv_dup hx hb dX11_mark_72 rfl ?_
  obtain ⟨y5_10, hy4_10, hy7_10, he10⟩ := ok_X11 hok ha0
  refine th_get hx hb (ly_X11 hE) hown hK hP ha0.1 he10 rfl 4 (by decide) (wd_363 hE) (fun _ h9 => h9) rfl dX11_mark_73 ?_
  refine lv_iconst (v := 1) hx hb dX11_mark_76 (by decide) ?_
  refine lv_iadd hx hb dX11_mark_77 ?_
  refine W.eq (g2 := F0 m 78 ls [.int (nI (mm + 1)), .ref a0]) (congrArg (fun z : Int32 => F0 m 78 ls (.int z :: [.ref a0])) (nI_add mm 1)) ?_
  refine th_put (v := .int (nI (mm + 1))) (ty := .int) hx hb (ly_X11 hE) tyX11 tyX11_ok nmX11 hown hK hP hnd hAL hS ha0.1 he10 rfl 4 (by decide) (wd_363 hE) (fun _ h9 => h9) rfl (by decide +kernel) rfl rfl (Nat.le_of_ble_eq_true rfl) (up_tm (t2 := tt) (m2 := (mm + 1)) hWT hok ha0 ⟨y5_10, (by first | omega | (simp only [i_lt, i_le, i_eq, ti_m9, ti_m1, ti_0, ti_1, ti_2, ti_3, ti_4, ti_5, ti_6, ti_7, ti_9, ti_12, ti_20, ti_99, ti_700, ti_24, ti_156, ti_72, ti_8, ti_60, ti_543, ti_10, ti_33, ti_51, ti_178, ti_119, ti_111, ti_114, ti_100, ti_32, ti_62, ti_59, ti_48, ti_701, ti_97, ti_122, ti_57, ti_73, ti_128, ti_61, nt2] at c3 c4 ⊢; omega)), (by omega), rfl⟩) dX11_mark_78 (fun f11 H locs hfa11 hfo11 hok hP hS => ?_)
  refine lv_aload_n hx hb dX11_mark_81 rfl (lv_at hl 2 rfl) ?_
  refine lv_aload_n hx hb dX11_mark_82 rfl (lv_at hl 2 rfl) ?_
  refine th_get hx hb (ly_X11 hE) hown hK hP ha0.1 hfa11 rfl 4 (by decide) (wd_363 hE) (fun _ h9 => h9) rfl dX11_mark_83 ?_
  refine tc_i hAL hS hA (va_runV (As := [.int (nI (mm + 1))]) (rest := []) ⟨hx, hb, hml, hown, noTs⟩ (t_X11_answer l dC dI H.size G cs tt (mm + 1) a0 ha0 (nI (mm + 1))) ⟨cbE 1 (wd_748 hE) (wd_115 hE) (wd_745 hE) rfl rfl (by decide +kernel) ⟨Nat.le_of_ble_eq_true rfl, Nat.le_of_ble_eq_true rfl⟩, (wd_747 hE), (wd_23 hE)⟩ ⟨PT.blind, th_recv hK hP ha0.1 hfa11 rfl, (th_pre (av := [.ref a0, .int (nI (mm + 1))]) trivial hK hP hok hnd hWT hE)⟩ rfl rfl hl.1 rfl (lv_room (Nat.le_of_ble_eq_true rfl)) dX11_mark_86 ⟨Nat.le_of_ble_eq_true rfl, Nat.le_of_ble_eq_true rfl⟩) (fun r12 f12 H locs hr12 hok hP hS => ?_)
  subst hr12
  exact W.iret (v := nI (mm + 1)) hx hb hr (fun t ht hW => ⟨⟨nI (mm + 1), f12, rfl, rfl, hok, by rw [ht]; exact hP⟩, hS.F ht⟩) hS.2.2 dX11_mark_89

set_option maxHeartbeats 4000000 in
set_option maxRecDepth 100000 in
theorem t_X11_mark_no (l : Launch) (dC : Nat → ClassId) (dI : Nat → Nat → Nat) (sz : Nat) (G : GT) (cs : Nat → ClassId) (tt mm : Nat) (a0 : Nat) (ha0 : Ty G a0 11) (hmm : mm = 3) : Met l yX11_mark [.code yX11_mark cX11_mark 3 (some .int)] ({ frames := 1, cells := 0, slots := 0, locals := 40 }) (PT [.ref a0] sz dC dI G cs tt mm (fun _ => True)) (va_Qi (fun (r : Int32) (u : Nat → va_E) => r = -1) (BT dC dI G cs tt mm) (AT G sz)) 0 0 (AT G sz) := by
  refine Met.ofW (cc := cX11_mark) (maxL := 3) (ret := (some .int)) (by decide) rfl ?_
  intro p e s m args below meth c s₁ B hml hv
  obtain ⟨rfl, hsz, ⟨f0, hok, hP, hX⟩, hK, hnd, hWT, hE⟩ := hv
  have hx := B.exec
  have hb := B.bytes
  have hr := B.returns
  have hown : s.vm.findClass RX11 = some m.cls := findClass_of_methodNamed B.named
  have hlocks := B.notSynchronized
  subst hsz
  have hAL : ∀ a, a ∈ gL G → AT G s.heap.size a := fun a h => Or.inl h
  have hA : ∀ q : Nat, s.heap.size ≤ q → AT G s.heap.size q := fun q h => Or.inr h
  have hS : va_S (AT G s.heap.size) s.heap s.heap [] := va_S.rf
  have hl := lv_entry ([.ref a0]) (n := 3) (Nat.le_of_ble_eq_true rfl)
  rw [lg_entry_eq]
  generalize (lg_sl ([.ref a0]) ++ List.replicate (3 - (lg_sl ([.ref a0])).length) Slot.unset).toArray = ls at hl ⊢
  have hl : lv_has ls 3 [(0, .ref a0)] := hl
  refine lv_aload_n hx hb dX11_mark_0 rfl (lv_at hl 0 rfl) ?_
  obtain ⟨y5_1, hy4_1, hy7_1, he1⟩ := ok_X11 hok ha0
  refine th_get hx hb (ly_X11 hE) hown hK hP ha0.1 he1 rfl 4 (by decide) (wd_363 hE) (fun _ h9 => h9) rfl dX11_mark_1 ?_
  have nt2 : (nI mm).toInt = ((mm : Nat) : Int) := nI_toInt (by omega)
  refine lv_if_lt (tgt := 15) hx hb dX11_mark_4 (by decide) (fun c3 => False.elim (by simp only [i_lt, i_le, i_eq, ti_m9, ti_m1, ti_0, ti_1, ti_2, ti_3, ti_4, ti_5, ti_6, ti_7, ti_9, ti_12, ti_20, ti_99, ti_700, ti_24, ti_156, ti_72, ti_8, ti_60, ti_543, ti_10, ti_33, ti_51, ti_178, ti_119, ti_111, ti_114, ti_100, ti_32, ti_62, ti_59, ti_48, ti_701, ti_97, ti_122, ti_57, ti_73, ti_128, ti_61, nt2] at c3; omega)) (fun c3 => ?_)
  refine lv_aload_n hx hb dX11_mark_7 rfl (lv_at hl 0 rfl) ?_
  refine th_get hx hb (ly_X11 hE) hown hK hP ha0.1 he1 rfl 4 (by decide) (wd_363 hE) (fun _ h9 => h9) rfl dX11_mark_8 ?_
  refine lv_iconst (v := 3) hx hb dX11_mark_11 (by decide) ?_
  refine lv_icmp_lt (tgt := 21) hx hb dX11_mark_12 (by decide) (fun c4 => False.elim (by simp only [i_lt, i_le, i_eq, ti_m9, ti_m1, ti_0, ti_1, ti_2, ti_3, ti_4, ti_5, ti_6, ti_7, ti_9, ti_12, ti_20, ti_99, ti_700, ti_24, ti_156, ti_72, ti_8, ti_60, ti_543, ti_10, ti_33, ti_51, ti_178, ti_119, ti_111, ti_114, ti_100, ti_32, ti_62, ti_59, ti_48, ti_701, ti_97, ti_122, ti_57, ti_73, ti_128, ti_61, nt2] at c3 c4; omega)) (fun c4 => ?_)
  refine lv_aload_n hx hb dX11_mark_15 rfl (lv_at hl 0 rfl) ?_
  refine lv_iconst (v := 3) hx hb dX11_mark_16 (by decide) ?_
  refine tc_i hAL hS hA (va_runV (As := [.int 3]) (rest := []) ⟨hx, hb, hml, hown, noTs⟩ (t_X11_fail l dC dI s.heap.size G cs tt mm a0 ha0 3) ⟨cbE 1 (wd_436 hE) (wd_115 hE) (wd_433 hE) rfl rfl (by decide +kernel) ⟨Nat.le_of_ble_eq_true rfl, Nat.le_of_ble_eq_true rfl⟩, (wd_435 hE), (wd_1 hE)⟩ ⟨PT.blind, th_recv hK hP ha0.1 he1 rfl, (th_pre (av := [.ref a0, .int 3]) trivial hK hP hok hnd hWT hE)⟩ rfl rfl hl.1 rfl (lv_room (Nat.le_of_ble_eq_true rfl)) dX11_mark_17 ⟨Nat.le_of_ble_eq_true rfl, Nat.le_of_ble_eq_true rfl⟩) (fun r5 f5 H locs hr5 hok hP hS => ?_)
  subst hr5
  exact W.iret (v := -1) hx hb hr (fun t ht hW => ⟨⟨-1, f5, rfl, rfl, hok, by rw [ht]; exact hP⟩, hS.F ht⟩) hS.2.2 dX11_mark_20

set_option maxHeartbeats 4000000 in
set_option maxRecDepth 100000 in
theorem t_X11_back (l : Launch) (dC : Nat → ClassId) (dI : Nat → Nat → Nat) (sz : Nat) (G : GT) (cs : Nat → ClassId) (tt mm : Nat) (a0 : Nat) (ha0 : Ty G a0 11) (hmm : 0 < mm) : Met l yX11_back [.code yX11_back cX11_back 4 (some .int)] ({ frames := 4, cells := 0, slots := 0, locals := 160 }) (PT [.ref a0] sz dC dI G cs tt mm (fun _ => True)) (va_Qi (fun (r : Int32) (u : Nat → va_E) => r = nI (mm - 1)) (BT dC dI G cs tt (mm - 1)) (AT G sz)) 0 0 (AT G sz) := by
  refine Met.ofW (cc := cX11_back) (maxL := 4) (ret := (some .int)) (by decide) rfl ?_
  intro p e s m args below meth c s₁ B hml hv
  obtain ⟨rfl, hsz, ⟨f0, hok, hP, hX⟩, hK, hnd, hWT, hE⟩ := hv
  have hx := B.exec
  have hb := B.bytes
  have hr := B.returns
  have hown : s.vm.findClass RX11 = some m.cls := findClass_of_methodNamed B.named
  have hlocks := B.notSynchronized
  subst hsz
  have hAL : ∀ a, a ∈ gL G → AT G s.heap.size a := fun a h => Or.inl h
  have hA : ∀ q : Nat, s.heap.size ≤ q → AT G s.heap.size q := fun q h => Or.inr h
  have hS : va_S (AT G s.heap.size) s.heap s.heap [] := va_S.rf
  have hl := lv_entry ([.ref a0]) (n := 4) (Nat.le_of_ble_eq_true rfl)
  rw [lg_entry_eq]
  generalize (lg_sl ([.ref a0]) ++ List.replicate (4 - (lg_sl ([.ref a0])).length) Slot.unset).toArray = ls at hl ⊢
  have hl : lv_has ls 4 [(0, .ref a0)] := hl
  refine lv_aload_n hx hb dX11_back_0 rfl (lv_at hl 0 rfl) ?_
  obtain ⟨y5_1, hy4_1, hy7_1, he1⟩ := ok_X11 hok ha0
  refine th_get hx hb (ly_X11 hE) hown hK hP ha0.1 he1 rfl 4 (by decide) (wd_363 hE) (fun _ h9 => h9) rfl dX11_back_1 ?_
  refine lv_iconst (v := 1) hx hb dX11_back_4 (by decide) ?_
  refine lv_isub hx hb dX11_back_5 ?_
  refine W.eq (g2 := F0 m 6 ls [.int (nI (mm - 1))]) (congrArg (fun z : Int32 => F0 m 6 ls (.int z :: [])) (pk_sub (a := mm) (b := 1) (by omega))) ?_
  refine lv_istore_n (lv' := [(1, .int (nI (mm - 1))), (0, .ref a0)]) hx hb dX11_back_6 rfl hl (by decide) rfl (fun ls hl => ?_)
  refine lv_iload_n hx hb dX11_back_7 rfl (lv_at hl 0 rfl) ?_
  have nt2 : (nI (mm - 1)).toInt = ((mm - 1 : Nat) : Int) := nI_toInt (by omega)
  refine lv_if_lt (tgt := 16) hx hb dX11_back_8 (by decide) (fun c3 => False.elim (by simp only [i_lt, i_le, i_eq, ti_m9, ti_m1, ti_0, ti_1, ti_2, ti_3, ti_4, ti_5, ti_6, ti_7, ti_9, ti_12, ti_20, ti_99, ti_700, ti_24, ti_156, ti_72, ti_8, ti_60, ti_543, ti_10, ti_33, ti_51, ti_178, ti_119, ti_111, ti_114, ti_100, ti_32, ti_62, ti_59, ti_48, ti_701, ti_97, ti_122, ti_57, ti_73, ti_128, ti_61, nt2] at c3; omega)) (fun c3 => ?_)
  refine lv_iload_n hx hb dX11_back_11 rfl (lv_at hl 0 rfl) ?_
  refine lv_iconst (v := 3) hx hb dX11_back_12 (by decide) ?_
  refine lv_icmp_lt (tgt := 22) hx hb dX11_back_13 (by decide) (fun c4 => ?_) (fun c4 => False.elim (by simp only [i_lt, i_le, i_eq, ti_m9, ti_m1, ti_0, ti_1, ti_2, ti_3, ti_4, ti_5, ti_6, ti_7, ti_9, ti_12, ti_20, ti_99, ti_700, ti_24, ti_156, ti_72, ti_8, ti_60, ti_543, ti_10, ti_33, ti_51, ti_178, ti_119, ti_111, ti_114, ti_100, ti_32, ti_62, ti_59, ti_48, ti_701, ti_97, ti_122, ti_57, ti_73, ti_128, ti_61, nt2] at c3 c4; omega))
  refine lv_aload_n hx hb dX11_back_22 rfl (lv_at hl 1 rfl) ?_
  refine th_get hx hb (ly_X11 hE) hown hK hP ha0.1 he1 rfl 2 (by decide) (wd_361 hE) (fun _ h9 => h9) rfl dX11_back_23 ?_
  refine lv_iload_n hx hb dX11_back_26 rfl (lv_at hl 0 rfl) ?_
  refine th_ald7 hx hb hK hP hok (wt_X11_2 hWT ha0) (n := 3) (wl_X11_2 hWT ha0) (by first | omega | (simp only [i_lt, i_le, i_eq, ti_m9, ti_m1, ti_0, ti_1, ti_2, ti_3, ti_4, ti_5, ti_6, ti_7, ti_9, ti_12, ti_20, ti_99, ti_700, ti_24, ti_156, ti_72, ti_8, ti_60, ti_543, ti_10, ti_33, ti_51, ti_178, ti_119, ti_111, ti_114, ti_100, ti_32, ti_62, ti_59, ti_48, ti_701, ti_97, ti_122, ti_57, ti_73, ti_128, ti_61, nt2] at c3 c4 ⊢; omega)) (by decide) dX11_back_27 ?_
  refine lv_astore_n (lv' := [(2, .ref (gR G (gR G a0 2) (mm - 1))), (1, .int (nI (mm - 1))), (0, .ref a0)]) hx hb dX11_back_28 rfl hl (by decide) rfl (fun ls hl => ?_)
  refine lv_aload_n hx hb dX11_back_29 rfl (lv_at hl 2 rfl) ?_
  refine th_get hx hb (ly_X11 hE) hown hK hP ha0.1 he1 rfl 3 (by decide) (wd_362 hE) (fun _ h9 => h9) rfl dX11_back_30 ?_
  refine lv_iload_n hx hb dX11_back_33 rfl (lv_at hl 1 rfl) ?_
  refine th_ald3 hx hb hK hP hok (wt_X11_3 hWT ha0) (n := 3) (wl_X11_3 hWT ha0) (by first | omega | (simp only [i_lt, i_le, i_eq, ti_m9, ti_m1, ti_0, ti_1, ti_2, ti_3, ti_4, ti_5, ti_6, ti_7, ti_9, ti_12, ti_20, ti_99, ti_700, ti_24, ti_156, ti_72, ti_8, ti_60, ti_543, ti_10, ti_33, ti_51, ti_178, ti_119, ti_111, ti_114, ti_100, ti_32, ti_62, ti_59, ti_48, ti_701, ti_97, ti_122, ti_57, ti_73, ti_128, ti_61, nt2] at c3 c4 ⊢; omega)) (by decide) dX11_back_34 ?_
  refine lv_astore_n (lv' := [(3, .ref (gR G (gR G a0 3) (mm - 1))), (2, .ref (gR G (gR G a0 2) (mm - 1))), (1, .int (nI (mm - 1))), (0, .ref a0)]) hx hb dX11_back_35 rfl hl (by decide) rfl (fun ls hl => ?_)
  refine lv_aload_n hx hb dX11_back_36 rfl (lv_at hl 1 rfl) ?_
  refine lv_ifnull hx hb dX11_back_37 ?_
  refine lv_aload_n hx hb dX11_back_40 rfl (lv_at hl 0 rfl) ?_
  refine lv_ifnonnull (tgt := 50) hx hb dX11_back_41 (by decide) ?_
  refine lv_aload_n hx hb dX11_back_50 rfl (lv_at hl 3 rfl) ?_
  refine th_get hx hb (ly_X11 hE) hown hK hP ha0.1 he1 rfl 0 (by decide) (wd_359 hE) (fun _ h9 => h9) rfl dX11_back_51 ?_
  refine lv_aload_n hx hb dX11_back_54 rfl (lv_at hl 1 rfl) ?_
  have he5 := ok_X7 hok (wt_X11_0 hWT ha0)
  refine tc_v hAL hS hA (va_runV (As := [.ref (gR G (gR G a0 2) (mm - 1))]) (rest := []) ⟨hx, hb, hml, hown, noTs⟩ (t_X7_copyFrom l dC dI s.heap.size G cs tt mm (gR G a0 0) ((wt_X11_0 hWT ha0)) (gR G (gR G a0 2) (mm - 1)) ((wt_stores hWT (wt_X11_2 hWT ha0) (by rw [(wl_X11_2 hWT ha0)]; first | omega | (simp only [i_lt, i_le, i_eq, ti_m9, ti_m1, ti_0, ti_1, ti_2, ti_3, ti_4, ti_5, ti_6, ti_7, ti_9, ti_12, ti_20, ti_99, ti_700, ti_24, ti_156, ti_72, ti_8, ti_60, ti_543, ti_10, ti_33, ti_51, ti_178, ti_119, ti_111, ti_114, ti_100, ti_32, ti_62, ti_59, ti_48, ti_701, ti_97, ti_122, ti_57, ti_73, ti_128, ti_61, nt2] at c3 c4 ⊢; omega))))) ⟨cbE 1 (wd_734 hE) (wd_116 hE) (wd_743 hE) rfl rfl (by decide +kernel) ⟨Nat.le_of_ble_eq_true rfl, Nat.le_of_ble_eq_true rfl⟩, (wd_732 hE), (wd_733 hE)⟩ ⟨PT.blind, th_recv hK hP (wt_X11_0 hWT ha0).1 he5 rfl, (th_pre (av := [.ref (gR G a0 0), .ref (gR G (gR G a0 2) (mm - 1))]) trivial hK hP hok hnd hWT hE)⟩ rfl rfl hl.1 rfl (lv_room (Nat.le_of_ble_eq_true rfl)) dX11_back_55 ⟨Nat.le_of_ble_eq_true rfl, Nat.le_of_ble_eq_true rfl⟩) (fun f6 H locs hr6 hok hP hS => ?_)
  refine lv_aload_n hx hb dX11_back_58 rfl (lv_at hl 3 rfl) ?_
  obtain ⟨y5_7, hy4_7, hy7_7, he7⟩ := ok_X11 hok ha0
  refine th_get hx hb (ly_X11 hE) hown hK hP ha0.1 he7 rfl 1 (by decide) (wd_360 hE) (fun _ h9 => h9) rfl dX11_back_59 ?_
  refine lv_aload_n hx hb dX11_back_62 rfl (lv_at hl 0 rfl) ?_
  obtain ⟨y1_8, y2_8, he8⟩ := ok_X3 hok (wt_X11_1 hWT ha0)
  refine tc_v hAL hS hA (va_runV (As := [.ref (gR G (gR G a0 3) (mm - 1))]) (rest := []) ⟨hx, hb, hml, hown, noTs⟩ (t_X3_copyFrom l dC dI H.size G cs tt mm (gR G a0 1) ((wt_X11_1 hWT ha0)) (gR G (gR G a0 3) (mm - 1)) ((wt_hists hWT (wt_X11_3 hWT ha0) (by rw [(wl_X11_3 hWT ha0)]; first | omega | (simp only [i_lt, i_le, i_eq, ti_m9, ti_m1, ti_0, ti_1, ti_2, ti_3, ti_4, ti_5, ti_6, ti_7, ti_9, ti_12, ti_20, ti_99, ti_700, ti_24, ti_156, ti_72, ti_8, ti_60, ti_543, ti_10, ti_33, ti_51, ti_178, ti_119, ti_111, ti_114, ti_100, ti_32, ti_62, ti_59, ti_48, ti_701, ti_97, ti_122, ti_57, ti_73, ti_128, ti_61, nt2] at c3 c4 ⊢; omega))))) ⟨cbE 1 (wd_1054 hE) (wd_117 hE) (wd_1051 hE) rfl rfl (by decide +kernel) ⟨Nat.le_of_ble_eq_true rfl, Nat.le_of_ble_eq_true rfl⟩, (wd_1052 hE), (wd_1053 hE)⟩ ⟨PT.blind, th_recv hK hP (wt_X11_1 hWT ha0).1 he8 rfl, (th_pre (av := [.ref (gR G a0 1), .ref (gR G (gR G a0 3) (mm - 1))]) trivial hK hP hok hnd hWT hE)⟩ rfl rfl hl.1 rfl (lv_room (Nat.le_of_ble_eq_true rfl)) dX11_back_63 ⟨Nat.le_of_ble_eq_true rfl, Nat.le_of_ble_eq_true rfl⟩) (fun f9 H locs hr9 hok hP hS => ?_)
  refine lv_aload_n hx hb dX11_back_66 rfl (lv_at hl 3 rfl) ?_
  refine lv_iload_n hx hb dX11_back_67 rfl (lv_at hl 2 rfl) ?_
  obtain ⟨y5_10, hy4_10, hy7_10, he10⟩ := ok_X11 hok ha0
  refine th_put (v := .int (nI (mm - 1))) (ty := .int) hx hb (ly_X11 hE) tyX11 tyX11_ok nmX11 hown hK hP hnd hAL hS ha0.1 he10 rfl 4 (by decide) (wd_363 hE) (fun _ h9 => h9) rfl (by decide +kernel) rfl rfl (Nat.le_of_ble_eq_true rfl) (up_tm (t2 := tt) (m2 := (mm - 1)) hWT hok ha0 ⟨y5_10, (by first | omega | (simp only [i_lt, i_le, i_eq, ti_m9, ti_m1, ti_0, ti_1, ti_2, ti_3, ti_4, ti_5, ti_6, ti_7, ti_9, ti_12, ti_20, ti_99, ti_700, ti_24, ti_156, ti_72, ti_8, ti_60, ti_543, ti_10, ti_33, ti_51, ti_178, ti_119, ti_111, ti_114, ti_100, ti_32, ti_62, ti_59, ti_48, ti_701, ti_97, ti_122, ti_57, ti_73, ti_128, ti_61, nt2] at c3 c4 ⊢; omega)), (by omega), rfl⟩) dX11_back_68 (fun f11 H locs hfa11 hfo11 hok hP hS => ?_)
  refine lv_aload_n hx hb dX11_back_71 rfl (lv_at hl 3 rfl) ?_
  refine lv_aload_n hx hb dX11_back_72 rfl (lv_at hl 3 rfl) ?_
  refine th_get hx hb (ly_X11 hE) hown hK hP ha0.1 hfa11 rfl 4 (by decide) (wd_363 hE) (fun _ h9 => h9) rfl dX11_back_73 ?_
  refine tc_i hAL hS hA (va_runV (As := [.int (nI (mm - 1))]) (rest := []) ⟨hx, hb, hml, hown, noTs⟩ (t_X11_answer l dC dI H.size G cs tt (mm - 1) a0 ha0 (nI (mm - 1))) ⟨cbE 1 (wd_748 hE) (wd_115 hE) (wd_745 hE) rfl rfl (by decide +kernel) ⟨Nat.le_of_ble_eq_true rfl, Nat.le_of_ble_eq_true rfl⟩, (wd_747 hE), (wd_23 hE)⟩ ⟨PT.blind, th_recv hK hP ha0.1 hfa11 rfl, (th_pre (av := [.ref a0, .int (nI (mm - 1))]) trivial hK hP hok hnd hWT hE)⟩ rfl rfl hl.1 rfl (lv_room (Nat.le_of_ble_eq_true rfl)) dX11_back_76 ⟨Nat.le_of_ble_eq_true rfl, Nat.le_of_ble_eq_true rfl⟩) (fun r12 f12 H locs hr12 hok hP hS => ?_)
  subst hr12
  exact W.iret (v := nI (mm - 1)) hx hb hr (fun t ht hW => ⟨⟨nI (mm - 1), f12, rfl, rfl, hok, by rw [ht]; exact hP⟩, hS.F ht⟩) hS.2.2 dX11_back_79

set_option maxHeartbeats 4000000 in
set_option maxRecDepth 100000 in
theorem t_X11_back_no (l : Launch) (dC : Nat → ClassId) (dI : Nat → Nat → Nat) (sz : Nat) (G : GT) (cs : Nat → ClassId) (tt mm : Nat) (a0 : Nat) (ha0 : Ty G a0 11) : Met l yX11_back [.code yX11_back cX11_back 4 (some .int)] ({ frames := 1, cells := 0, slots := 0, locals := 40 }) (PT [.ref a0] sz dC dI G cs tt 0 (fun _ => True)) (va_Qi (fun (r : Int32) (u : Nat → va_E) => r = -1) (BT dC dI G cs tt 0) (AT G sz)) 0 0 (AT G sz) := by
  refine Met.ofW (cc := cX11_back) (maxL := 4) (ret := (some .int)) (by decide) rfl ?_
  intro p e s m args below meth c s₁ B hml hv
  obtain ⟨rfl, hsz, ⟨f0, hok, hP, hX⟩, hK, hnd, hWT, hE⟩ := hv
  have hx := B.exec
  have hb := B.bytes
  have hr := B.returns
  have hown : s.vm.findClass RX11 = some m.cls := findClass_of_methodNamed B.named
  have hlocks := B.notSynchronized
  subst hsz
  have hAL : ∀ a, a ∈ gL G → AT G s.heap.size a := fun a h => Or.inl h
  have hA : ∀ q : Nat, s.heap.size ≤ q → AT G s.heap.size q := fun q h => Or.inr h
  have hS : va_S (AT G s.heap.size) s.heap s.heap [] := va_S.rf
  have hl := lv_entry ([.ref a0]) (n := 4) (Nat.le_of_ble_eq_true rfl)
  rw [lg_entry_eq]
  generalize (lg_sl ([.ref a0]) ++ List.replicate (4 - (lg_sl ([.ref a0])).length) Slot.unset).toArray = ls at hl ⊢
  have hl : lv_has ls 4 [(0, .ref a0)] := hl
  refine lv_aload_n hx hb dX11_back_0 rfl (lv_at hl 0 rfl) ?_
  obtain ⟨y5_1, hy4_1, hy7_1, he1⟩ := ok_X11 hok ha0
  refine th_get hx hb (ly_X11 hE) hown hK hP ha0.1 he1 rfl 4 (by decide) (wd_363 hE) (fun _ h9 => h9) rfl dX11_back_1 ?_
  refine lv_iconst (v := 1) hx hb dX11_back_4 (by decide) ?_
  refine lv_isub hx hb dX11_back_5 ?_
  refine W.eq (g2 := F0 m 6 ls [.int (-1)]) rfl ?_
  refine lv_istore_n (lv' := [(1, .int (-1)), (0, .ref a0)]) hx hb dX11_back_6 rfl hl (by decide) rfl (fun ls hl => ?_)
  refine lv_iload_n hx hb dX11_back_7 rfl (lv_at hl 0 rfl) ?_
  refine lv_if_lt (tgt := 16) hx hb dX11_back_8 (by decide) (fun c2 => ?_) (fun c2 => absurd c2 (by decide))
  refine lv_aload_n hx hb dX11_back_16 rfl (lv_at hl 1 rfl) ?_
  refine lv_iconst (v := 5) hx hb dX11_back_17 (by decide) ?_
  refine tc_i hAL hS hA (va_runV (As := [.int 5]) (rest := []) ⟨hx, hb, hml, hown, noTs⟩ (t_X11_fail l dC dI s.heap.size G cs tt 0 a0 ha0 5) ⟨cbE 1 (wd_436 hE) (wd_115 hE) (wd_433 hE) rfl rfl (by decide +kernel) ⟨Nat.le_of_ble_eq_true rfl, Nat.le_of_ble_eq_true rfl⟩, (wd_435 hE), (wd_1 hE)⟩ ⟨PT.blind, th_recv hK hP ha0.1 he1 rfl, (th_pre (av := [.ref a0, .int 5]) trivial hK hP hok hnd hWT hE)⟩ rfl rfl hl.1 rfl (lv_room (Nat.le_of_ble_eq_true rfl)) dX11_back_18 ⟨Nat.le_of_ble_eq_true rfl, Nat.le_of_ble_eq_true rfl⟩) (fun r3 f3 H locs hr3 hok hP hS => ?_)
  subst hr3
  exact W.iret (v := -1) hx hb hr (fun t ht hW => ⟨⟨-1, f3, rfl, rfl, hok, by rw [ht]; exact hP⟩, hS.F ht⟩) hS.2.2 dX11_back_21

set_option maxHeartbeats 4000000 in
set_option maxRecDepth 100000 in
theorem t_X11_isForm (l : Launch) (dC : Nat → ClassId) (dI : Nat → Nat → Nat) (sz : Nat) (G : GT) (cs : Nat → ClassId) (tt mm : Nat) (a0 : Nat) (ha0 : Ty G a0 11) (a1 : Nat) (ha1 : Ty G a1 10) (a2 : Nat) (ha2 : Ty G a2 10) : Met l yX11_isForm [.code yX11_isForm cX11_isForm 3 (some .boolean)] ({ frames := 5, cells := 0, slots := 0, locals := 200 }) (PT [.ref a0, .ref a1, .ref a2] sz dC dI G cs tt mm (fun _ => True)) (va_Qi (fun (r : Int32) (u : Nat → va_E) => r = 0 ∨ r = 1) (BT dC dI G cs tt mm) (AT G sz)) 0 0 (AT G sz) := by
  refine Met.ofW (cc := cX11_isForm) (maxL := 3) (ret := (some .boolean)) (by decide) rfl ?_
  intro p e s m args below meth c s₁ B hml hv
  obtain ⟨rfl, hsz, ⟨f0, hok, hP, hX⟩, hK, hnd, hWT, hE⟩ := hv
  have hx := B.exec
  have hb := B.bytes
  have hr := B.returns
  have hown : s.vm.findClass RX11 = some m.cls := findClass_of_methodNamed B.named
  have hlocks := B.notSynchronized
  subst hsz
  have hAL : ∀ a, a ∈ gL G → AT G s.heap.size a := fun a h => Or.inl h
  have hA : ∀ q : Nat, s.heap.size ≤ q → AT G s.heap.size q := fun q h => Or.inr h
  have hS : va_S (AT G s.heap.size) s.heap s.heap [] := va_S.rf
  have hl := lv_entry ([.ref a0, .ref a1, .ref a2]) (n := 3) (Nat.le_of_ble_eq_true rfl)
  rw [lg_entry_eq]
  generalize (lg_sl ([.ref a0, .ref a1, .ref a2]) ++ List.replicate (3 - (lg_sl ([.ref a0, .ref a1, .ref a2])).length) Slot.unset).toArray = ls at hl ⊢
  have hl : lv_has ls 3 [(0, .ref a0), (1, .ref a1), (2, .ref a2)] := hl
  refine lv_aload_n hx hb dX11_isForm_0 rfl (lv_at hl 0 rfl) ?_
  obtain ⟨y5_1, hy4_1, hy7_1, he1⟩ := ok_X11 hok ha0
  refine th_get hx hb (ly_X11 hE) hown hK hP ha0.1 he1 rfl 0 (by decide) (wd_359 hE) (fun _ h9 => h9) rfl dX11_isForm_1 ?_
  refine lv_aload_n hx hb dX11_isForm_4 rfl (lv_at hl 1 rfl) ?_
  refine lv_aload_n hx hb dX11_isForm_5 rfl (lv_at hl 0 rfl) ?_
  refine th_get hx hb (ly_X11 hE) hown hK hP ha0.1 he1 rfl 13 (by decide) (wd_372 hE) (fun _ h9 => h9) rfl dX11_isForm_6 ?_
  refine tc_i hAL hS hA (va_runS (As := [.ref (gR G a0 0), .ref a1, .ref (gR G a0 13)]) (rest := []) ⟨hx, hb, hml, hown, noTs⟩ (t_X2_reduce l dC dI s.heap.size G cs tt mm (gR G a0 0) ((wt_X11_0 hWT ha0)) a1 ha1 (gR G a0 13) ((wt_X11_13 hWT ha0))) ⟨cbE 3 (wd_837 hE) (wd_134 hE) (wd_835 hE) rfl rfl (by decide +kernel) ⟨Nat.le_of_ble_eq_true rfl, Nat.le_of_ble_eq_true rfl⟩, (wd_836 hE)⟩ ⟨PT.blind, (th_pre (av := [.ref (gR G a0 0), .ref a1, .ref (gR G a0 13)]) trivial hK hP hok hnd hWT hE)⟩ rfl rfl hl.1 rfl (lv_room (Nat.le_of_ble_eq_true rfl)) dX11_isForm_9 ⟨Nat.le_of_ble_eq_true rfl, Nat.le_of_ble_eq_true rfl⟩) (fun r2 f2 H locs hr2 hok hP hS => ?_)
  refine lv_pop hx hb dX11_isForm_12 rfl ?_
  refine lv_aload_n hx hb dX11_isForm_13 rfl (lv_at hl 0 rfl) ?_
  obtain ⟨y5_3, hy4_3, hy7_3, he3⟩ := ok_X11 hok ha0
  refine th_get hx hb (ly_X11 hE) hown hK hP ha0.1 he3 rfl 13 (by decide) (wd_372 hE) (fun _ h9 => h9) rfl dX11_isForm_14 ?_
  refine lv_aload_n hx hb dX11_isForm_17 rfl (lv_at hl 2 rfl) ?_
  obtain ⟨y2_4, y3_4, hy3_4, he4⟩ := ok_X10 hok (wt_X11_13 hWT ha0)
  refine vp_callSi (va_Run.run (va_runV (As := [.ref a2]) (rest := []) ⟨hx, hb, hml, hown, noTs⟩ (t_X10_sameAs l dC dI H.size G cs tt mm (gR G a0 13) ((wt_X11_13 hWT ha0)) a2 ha2) ⟨cbE 1 (wd_877 hE) (wd_120 hE) (wd_874 hE) rfl rfl (by decide +kernel) ⟨Nat.le_of_ble_eq_true rfl, Nat.le_of_ble_eq_true rfl⟩, (wd_875 hE), (wd_876 hE)⟩ ⟨PT.blind, th_recv hK hP (wt_X11_13 hWT ha0).1 he4 rfl, (th_pre (av := [.ref (gR G a0 13), .ref a2]) trivial hK hP hok hnd hWT hE)⟩ rfl rfl hl.1 rfl (lv_room (Nat.le_of_ble_eq_true rfl)) dX11_isForm_18 ⟨Nat.le_of_ble_eq_true rfl, Nat.le_of_ble_eq_true rfl⟩)) (fun r5 hr5 => ?_)
  exact W.zret (v := r5) hx hb hr (z_fit hr5) (fun t ht hW => ⟨⟨r5, f2, rfl, hr5, hok, by rw [ht]; exact hP⟩, hS.F ht⟩) hS.2.2 dX11_isForm_21

set_option maxHeartbeats 4000000 in
set_option maxRecDepth 100000 in
theorem t_X11_alike (l : Launch) (dC : Nat → ClassId) (dI : Nat → Nat → Nat) (sz : Nat) (G : GT) (cs : Nat → ClassId) (tt mm : Nat) (a0 : Nat) (ha0 : Ty G a0 11) (v1 : Int32) (v2 : Int32) : Met l yX11_alike [.code yX11_alike cX11_alike 3 (some .int)] ({ frames := 6, cells := 0, slots := 0, locals := 240 }) (PT [.ref a0, .int v1, .int v2] sz dC dI G cs tt mm (fun _ => True)) (va_Qi (fun (r : Int32) (u : Nat → va_E) => True) (BT dC dI G cs tt mm) (AT G sz)) 0 0 (AT G sz) := by
  refine Met.ofW (cc := cX11_alike) (maxL := 3) (ret := (some .int)) (by decide) rfl ?_
  intro p e s m args below meth c s₁ B hml hv
  obtain ⟨rfl, hsz, ⟨f0, hok, hP, hX⟩, hK, hnd, hWT, hE⟩ := hv
  have hx := B.exec
  have hb := B.bytes
  have hr := B.returns
  have hown : s.vm.findClass RX11 = some m.cls := findClass_of_methodNamed B.named
  have hlocks := B.notSynchronized
  subst hsz
  have hAL : ∀ a, a ∈ gL G → AT G s.heap.size a := fun a h => Or.inl h
  have hA : ∀ q : Nat, s.heap.size ≤ q → AT G s.heap.size q := fun q h => Or.inr h
  have hS : va_S (AT G s.heap.size) s.heap s.heap [] := va_S.rf
  have hl := lv_entry ([.ref a0, .int v1, .int v2]) (n := 3) (Nat.le_of_ble_eq_true rfl)
  rw [lg_entry_eq]
  generalize (lg_sl ([.ref a0, .int v1, .int v2]) ++ List.replicate (3 - (lg_sl ([.ref a0, .int v1, .int v2])).length) Slot.unset).toArray = ls at hl ⊢
  have hl : lv_has ls 3 [(0, .ref a0), (1, .int v1), (2, .int v2)] := hl
  refine lv_aload_n hx hb dX11_alike_0 rfl (lv_at hl 0 rfl) ?_
  refine lv_iload_n hx hb dX11_alike_1 rfl (lv_at hl 1 rfl) ?_
  refine lv_iload_n hx hb dX11_alike_2 rfl (lv_at hl 2 rfl) ?_
  obtain ⟨y5_1, hy4_1, hy7_1, he1⟩ := ok_X11 hok ha0
  refine tc_i hAL hS hA (va_runV (As := [.int v1, .int v2]) (rest := []) ⟨hx, hb, hml, hown, noTs⟩ (t_X11_readTwo l dC dI s.heap.size G cs tt mm a0 ha0 v1 v2) ⟨cbE 2 (wd_919 hE) (wd_115 hE) (wd_916 hE) rfl rfl (by decide +kernel) ⟨Nat.le_of_ble_eq_true rfl, Nat.le_of_ble_eq_true rfl⟩, (wd_918 hE), (wd_29 hE)⟩ ⟨PT.blind, th_recv hK hP ha0.1 he1 rfl, (th_pre (av := [.ref a0, .int v1, .int v2]) trivial hK hP hok hnd hWT hE)⟩ rfl rfl hl.1 rfl (lv_room (Nat.le_of_ble_eq_true rfl)) dX11_alike_3 ⟨Nat.le_of_ble_eq_true rfl, Nat.le_of_ble_eq_true rfl⟩) (fun r2 f2 H locs hr2 hok hP hS => ?_)
  refine lv_if_ne (tgt := 15) hx hb dX11_alike_6 (by decide) (fun c3 => ?_) (fun c3 => ?_)
  · refine lv_aload_n hx hb dX11_alike_15 rfl (lv_at hl 0 rfl) ?_
    obtain ⟨y5_4, hy4_4, hy7_4, he4⟩ := ok_X11 hok ha0
    refine th_get hx hb (ly_X11 hE) hown hK hP ha0.1 he4 rfl 0 (by decide) (wd_359 hE) (fun _ h9 => h9) rfl dX11_alike_16 ?_
    refine lv_aload_n hx hb dX11_alike_19 rfl (lv_at hl 0 rfl) ?_
    refine th_get hx hb (ly_X11 hE) hown hK hP ha0.1 he4 rfl 10 (by decide) (wd_369 hE) (fun _ h9 => h9) rfl dX11_alike_20 ?_
    refine lv_aload_n hx hb dX11_alike_23 rfl (lv_at hl 0 rfl) ?_
    refine th_get hx hb (ly_X11 hE) hown hK hP ha0.1 he4 rfl 12 (by decide) (wd_371 hE) (fun _ h9 => h9) rfl dX11_alike_24 ?_
    refine tc_i hAL hS hA (va_runS (As := [.ref (gR G a0 0), .ref (gR G a0 10), .ref (gR G a0 12)]) (rest := []) ⟨hx, hb, hml, hown, noTs⟩ (t_X2_reduce l dC dI H.size G cs tt mm (gR G a0 0) ((wt_X11_0 hWT ha0)) (gR G a0 10) ((wt_X11_10 hWT ha0)) (gR G a0 12) ((wt_X11_12 hWT ha0))) ⟨cbE 3 (wd_837 hE) (wd_134 hE) (wd_835 hE) rfl rfl (by decide +kernel) ⟨Nat.le_of_ble_eq_true rfl, Nat.le_of_ble_eq_true rfl⟩, (wd_836 hE)⟩ ⟨PT.blind, (th_pre (av := [.ref (gR G a0 0), .ref (gR G a0 10), .ref (gR G a0 12)]) trivial hK hP hok hnd hWT hE)⟩ rfl rfl hl.1 rfl (lv_room (Nat.le_of_ble_eq_true rfl)) dX11_alike_27 ⟨Nat.le_of_ble_eq_true rfl, Nat.le_of_ble_eq_true rfl⟩) (fun r5 f5 H locs hr5 hok hP hS => ?_)
    refine lv_pop hx hb dX11_alike_30 rfl ?_
    refine lv_aload_n hx hb dX11_alike_31 rfl (lv_at hl 0 rfl) ?_
    refine lv_aload_n hx hb dX11_alike_32 rfl (lv_at hl 0 rfl) ?_
    refine lv_aload_n hx hb dX11_alike_33 rfl (lv_at hl 0 rfl) ?_
    obtain ⟨y5_6, hy4_6, hy7_6, he6⟩ := ok_X11 hok ha0
    refine th_get hx hb (ly_X11 hE) hown hK hP ha0.1 he6 rfl 11 (by decide) (wd_370 hE) (fun _ h9 => h9) rfl dX11_alike_34 ?_
    refine lv_aload_n hx hb dX11_alike_37 rfl (lv_at hl 0 rfl) ?_
    refine th_get hx hb (ly_X11 hE) hown hK hP ha0.1 he6 rfl 12 (by decide) (wd_371 hE) (fun _ h9 => h9) rfl dX11_alike_38 ?_
    refine tc_i hAL hS hA (va_runV (As := [.ref (gR G a0 11), .ref (gR G a0 12)]) (rest := [.ref a0]) ⟨hx, hb, hml, hown, noTs⟩ (t_X11_isForm l dC dI H.size G cs tt mm a0 ha0 (gR G a0 11) ((wt_X11_11 hWT ha0)) (gR G a0 12) ((wt_X11_12 hWT ha0))) ⟨cbE 2 (wd_1067 hE) (wd_115 hE) (wd_1064 hE) rfl rfl (by decide +kernel) ⟨Nat.le_of_ble_eq_true rfl, Nat.le_of_ble_eq_true rfl⟩, (wd_1066 hE), (wd_37 hE)⟩ ⟨PT.blind, th_recv hK hP ha0.1 he6 rfl, (th_pre (av := [.ref a0, .ref (gR G a0 11), .ref (gR G a0 12)]) trivial hK hP hok hnd hWT hE)⟩ rfl rfl hl.1 rfl (lv_room (Nat.le_of_ble_eq_true rfl)) dX11_alike_41 ⟨Nat.le_of_ble_eq_true rfl, Nat.le_of_ble_eq_true rfl⟩) (fun r7 f7 H locs hr7 hok hP hS => ?_)
    refine vp_callSi (va_Run.run (va_runS (As := [.int r7]) (rest := [.ref a0]) ⟨hx, hb, hml, hown, noTs⟩ (t_X11_bit l dC dI H.size G cs tt mm r7) ⟨cbE 1 (wd_669 hE) (wd_115 hE) (wd_884 hE) rfl rfl (by decide +kernel) ⟨Nat.le_of_ble_eq_true rfl, Nat.le_of_ble_eq_true rfl⟩, (wd_668 hE)⟩ ⟨PT.blind, (th_pre (av := [.int r7]) trivial hK hP hok hnd hWT hE)⟩ rfl rfl hl.1 rfl (lv_room (Nat.le_of_ble_eq_true rfl)) dX11_alike_44 ⟨Nat.le_of_ble_eq_true rfl, Nat.le_of_ble_eq_true rfl⟩)) (fun r8 hr8 => ?_)
    obtain ⟨y5_9, hy4_9, hy7_9, he9⟩ := ok_X11 hok ha0
    refine tc_i hAL hS hA (va_runV (As := [.int r8]) (rest := []) ⟨hx, hb, hml, hown, noTs⟩ (t_X11_answer l dC dI H.size G cs tt mm a0 ha0 r8) ⟨cbE 1 (wd_748 hE) (wd_115 hE) (wd_745 hE) rfl rfl (by decide +kernel) ⟨Nat.le_of_ble_eq_true rfl, Nat.le_of_ble_eq_true rfl⟩, (wd_747 hE), (wd_23 hE)⟩ ⟨PT.blind, th_recv hK hP ha0.1 he9 rfl, (th_pre (av := [.ref a0, .int r8]) trivial hK hP hok hnd hWT hE)⟩ rfl rfl hl.1 rfl (lv_room (Nat.le_of_ble_eq_true rfl)) dX11_alike_47 ⟨Nat.le_of_ble_eq_true rfl, Nat.le_of_ble_eq_true rfl⟩) (fun r10 f10 H locs hr10 hok hP hS => ?_)
    refine W.eq (g2 := F0 m 50 ls [.int r8]) (by rw [hr10]) ?_
    exact W.iret (v := r8) hx hb hr (fun t ht hW => ⟨⟨r8, f10, rfl, trivial, hok, by rw [ht]; exact hP⟩, hS.F ht⟩) hS.2.2 dX11_alike_50
  · refine lv_aload_n hx hb dX11_alike_9 rfl (lv_at hl 0 rfl) ?_
    refine lv_iconst (v := 2) hx hb dX11_alike_10 (by decide) ?_
    obtain ⟨y5_11, hy4_11, hy7_11, he11⟩ := ok_X11 hok ha0
    refine tc_i hAL hS hA (va_runV (As := [.int 2]) (rest := []) ⟨hx, hb, hml, hown, noTs⟩ (t_X11_fail l dC dI H.size G cs tt mm a0 ha0 2) ⟨cbE 1 (wd_436 hE) (wd_115 hE) (wd_433 hE) rfl rfl (by decide +kernel) ⟨Nat.le_of_ble_eq_true rfl, Nat.le_of_ble_eq_true rfl⟩, (wd_435 hE), (wd_1 hE)⟩ ⟨PT.blind, th_recv hK hP ha0.1 he11 rfl, (th_pre (av := [.ref a0, .int 2]) trivial hK hP hok hnd hWT hE)⟩ rfl rfl hl.1 rfl (lv_room (Nat.le_of_ble_eq_true rfl)) dX11_alike_11 ⟨Nat.le_of_ble_eq_true rfl, Nat.le_of_ble_eq_true rfl⟩) (fun r12 f12 H locs hr12 hok hP hS => ?_)
    subst hr12
    exact W.iret (v := -1) hx hb hr (fun t ht hW => ⟨⟨-1, f12, rfl, trivial, hok, by rw [ht]; exact hP⟩, hS.F ht⟩) hS.2.2 dX11_alike_14

set_option maxHeartbeats 4000000 in
set_option maxRecDepth 100000 in
theorem t_X11_steps (l : Launch) (dC : Nat → ClassId) (dI : Nat → Nat → Nat) (sz : Nat) (G : GT) (cs : Nat → ClassId) (tt mm : Nat) (a0 : Nat) (ha0 : Ty G a0 11) (v1 : Int32) : Met l yX11_steps [.code yX11_steps cX11_steps 2 (some .int)] ({ frames := 5, cells := 0, slots := 0, locals := 200 }) (PT [.ref a0, .int v1] sz dC dI G cs tt mm (fun _ => True)) (va_Qi (fun (r : Int32) (u : Nat → va_E) => True) (BT dC dI G cs tt mm) (AT G sz)) 0 0 (AT G sz) := by
  refine Met.ofW (cc := cX11_steps) (maxL := 2) (ret := (some .int)) (by decide) rfl ?_
  intro p e s m args below meth c s₁ B hml hv
  obtain ⟨rfl, hsz, ⟨f0, hok, hP, hX⟩, hK, hnd, hWT, hE⟩ := hv
  have hx := B.exec
  have hb := B.bytes
  have hr := B.returns
  have hown : s.vm.findClass RX11 = some m.cls := findClass_of_methodNamed B.named
  have hlocks := B.notSynchronized
  subst hsz
  have hAL : ∀ a, a ∈ gL G → AT G s.heap.size a := fun a h => Or.inl h
  have hA : ∀ q : Nat, s.heap.size ≤ q → AT G s.heap.size q := fun q h => Or.inr h
  have hS : va_S (AT G s.heap.size) s.heap s.heap [] := va_S.rf
  have hl := lv_entry ([.ref a0, .int v1]) (n := 2) (Nat.le_of_ble_eq_true rfl)
  rw [lg_entry_eq]
  generalize (lg_sl ([.ref a0, .int v1]) ++ List.replicate (2 - (lg_sl ([.ref a0, .int v1])).length) Slot.unset).toArray = ls at hl ⊢
  have hl : lv_has ls 2 [(0, .ref a0), (1, .int v1)] := hl
  refine lv_aload_n hx hb dX11_steps_0 rfl (lv_at hl 0 rfl) ?_
  obtain ⟨y5_1, hy4_1, hy7_1, he1⟩ := ok_X11 hok ha0
  refine th_get hx hb (ly_X11 hE) hown hK hP ha0.1 he1 rfl 0 (by decide) (wd_359 hE) (fun _ h9 => h9) rfl dX11_steps_1 ?_
  refine lv_iload_n hx hb dX11_steps_4 rfl (lv_at hl 1 rfl) ?_
  refine lv_aload_n hx hb dX11_steps_5 rfl (lv_at hl 0 rfl) ?_
  refine th_get hx hb (ly_X11 hE) hown hK hP ha0.1 he1 rfl 10 (by decide) (wd_369 hE) (fun _ h9 => h9) rfl dX11_steps_6 ?_
  have he2 := ok_X7 hok (wt_X11_0 hWT ha0)
  refine tc_i hAL hS hA (va_runV (As := [.int v1, .ref (gR G a0 10)]) (rest := []) ⟨hx, hb, hml, hown, noTs⟩ (t_X7_readWord l dC dI s.heap.size G cs tt mm (gR G a0 0) ((wt_X11_0 hWT ha0)) v1 (gR G a0 10) ((wt_X11_10 hWT ha0))) ⟨cbE 2 (wd_817 hE) (wd_116 hE) (wd_814 hE) rfl rfl (by decide +kernel) ⟨Nat.le_of_ble_eq_true rfl, Nat.le_of_ble_eq_true rfl⟩, (wd_815 hE), (wd_816 hE)⟩ ⟨PT.blind, th_recv hK hP (wt_X11_0 hWT ha0).1 he2 rfl, (th_pre (av := [.ref (gR G a0 0), .int v1, .ref (gR G a0 10)]) trivial hK hP hok hnd hWT hE)⟩ rfl rfl hl.1 rfl (lv_room (Nat.le_of_ble_eq_true rfl)) dX11_steps_9 ⟨Nat.le_of_ble_eq_true rfl, Nat.le_of_ble_eq_true rfl⟩) (fun r3 f3 H locs hr3 hok hP hS => ?_)
  refine lv_if_ne (tgt := 21) hx hb dX11_steps_12 (by decide) (fun c4 => ?_) (fun c4 => ?_)
  · refine lv_aload_n hx hb dX11_steps_21 rfl (lv_at hl 0 rfl) ?_
    obtain ⟨y5_5, hy4_5, hy7_5, he5⟩ := ok_X11 hok ha0
    refine th_get hx hb (ly_X11 hE) hown hK hP ha0.1 he5 rfl 0 (by decide) (wd_359 hE) (fun _ h9 => h9) rfl dX11_steps_22 ?_
    refine lv_aload_n hx hb dX11_steps_25 rfl (lv_at hl 0 rfl) ?_
    refine th_get hx hb (ly_X11 hE) hown hK hP ha0.1 he5 rfl 10 (by decide) (wd_369 hE) (fun _ h9 => h9) rfl dX11_steps_26 ?_
    refine lv_aload_n hx hb dX11_steps_29 rfl (lv_at hl 0 rfl) ?_
    refine th_get hx hb (ly_X11 hE) hown hK hP ha0.1 he5 rfl 12 (by decide) (wd_371 hE) (fun _ h9 => h9) rfl dX11_steps_30 ?_
    refine tc_i hAL hS hA (va_runS (As := [.ref (gR G a0 0), .ref (gR G a0 10), .ref (gR G a0 12)]) (rest := []) ⟨hx, hb, hml, hown, noTs⟩ (t_X2_reduce l dC dI H.size G cs tt mm (gR G a0 0) ((wt_X11_0 hWT ha0)) (gR G a0 10) ((wt_X11_10 hWT ha0)) (gR G a0 12) ((wt_X11_12 hWT ha0))) ⟨cbE 3 (wd_837 hE) (wd_134 hE) (wd_835 hE) rfl rfl (by decide +kernel) ⟨Nat.le_of_ble_eq_true rfl, Nat.le_of_ble_eq_true rfl⟩, (wd_836 hE)⟩ ⟨PT.blind, (th_pre (av := [.ref (gR G a0 0), .ref (gR G a0 10), .ref (gR G a0 12)]) trivial hK hP hok hnd hWT hE)⟩ rfl rfl hl.1 rfl (lv_room (Nat.le_of_ble_eq_true rfl)) dX11_steps_33 ⟨Nat.le_of_ble_eq_true rfl, Nat.le_of_ble_eq_true rfl⟩) (fun r6 f6 H locs hr6 hok hP hS => ?_)
    refine lv_pop hx hb dX11_steps_36 rfl ?_
    refine lv_aload_n hx hb dX11_steps_37 rfl (lv_at hl 0 rfl) ?_
    refine lv_aload_n hx hb dX11_steps_38 rfl (lv_at hl 0 rfl) ?_
    obtain ⟨y5_7, hy4_7, hy7_7, he7⟩ := ok_X11 hok ha0
    refine th_get hx hb (ly_X11 hE) hown hK hP ha0.1 he7 rfl 12 (by decide) (wd_371 hE) (fun _ h9 => h9) rfl dX11_steps_39 ?_
    obtain ⟨y2_8, y3_8, hy3_8, he8⟩ := ok_X10 hok (wt_X11_12 hWT ha0)
    refine vp_callSi (va_Run.run (va_runV (As := []) (rest := [.ref a0]) ⟨hx, hb, hml, hown, noTs⟩ (t_X10_size l dC dI H.size G cs tt mm (gR G a0 12) ((wt_X11_12 hWT ha0)) y2_8 y3_8) ⟨cbE 0 (wd_666 hE) (wd_120 hE) (wd_834 hE) rfl rfl (by decide +kernel) ⟨Nat.le_of_ble_eq_true rfl, Nat.le_of_ble_eq_true rfl⟩, (wd_664 hE), (wd_665 hE)⟩ ⟨PT.blind, th_recv hK hP (wt_X11_12 hWT ha0).1 he8 rfl, (th_pre (av := [.ref (gR G a0 12)]) he8 hK hP hok hnd hWT hE)⟩ rfl rfl hl.1 rfl (lv_room (Nat.le_of_ble_eq_true rfl)) dX11_steps_42 ⟨Nat.le_of_ble_eq_true rfl, Nat.le_of_ble_eq_true rfl⟩)) (fun r9 hr9 => ?_)
    subst hr9
    refine tc_i hAL hS hA (va_runV (As := [.int (nI y3_8)]) (rest := []) ⟨hx, hb, hml, hown, noTs⟩ (t_X11_answer l dC dI H.size G cs tt mm a0 ha0 (nI y3_8)) ⟨cbE 1 (wd_748 hE) (wd_115 hE) (wd_745 hE) rfl rfl (by decide +kernel) ⟨Nat.le_of_ble_eq_true rfl, Nat.le_of_ble_eq_true rfl⟩, (wd_747 hE), (wd_23 hE)⟩ ⟨PT.blind, th_recv hK hP ha0.1 he7 rfl, (th_pre (av := [.ref a0, .int (nI y3_8)]) trivial hK hP hok hnd hWT hE)⟩ rfl rfl hl.1 rfl (lv_room (Nat.le_of_ble_eq_true rfl)) dX11_steps_45 ⟨Nat.le_of_ble_eq_true rfl, Nat.le_of_ble_eq_true rfl⟩) (fun r10 f10 H locs hr10 hok hP hS => ?_)
    subst hr10
    exact W.iret (v := nI y3_8) hx hb hr (fun t ht hW => ⟨⟨nI y3_8, f10, rfl, trivial, hok, by rw [ht]; exact hP⟩, hS.F ht⟩) hS.2.2 dX11_steps_48
  · refine lv_aload_n hx hb dX11_steps_15 rfl (lv_at hl 0 rfl) ?_
    refine lv_iconst (v := 2) hx hb dX11_steps_16 (by decide) ?_
    obtain ⟨y5_11, hy4_11, hy7_11, he11⟩ := ok_X11 hok ha0
    refine tc_i hAL hS hA (va_runV (As := [.int 2]) (rest := []) ⟨hx, hb, hml, hown, noTs⟩ (t_X11_fail l dC dI H.size G cs tt mm a0 ha0 2) ⟨cbE 1 (wd_436 hE) (wd_115 hE) (wd_433 hE) rfl rfl (by decide +kernel) ⟨Nat.le_of_ble_eq_true rfl, Nat.le_of_ble_eq_true rfl⟩, (wd_435 hE), (wd_1 hE)⟩ ⟨PT.blind, th_recv hK hP ha0.1 he11 rfl, (th_pre (av := [.ref a0, .int 2]) trivial hK hP hok hnd hWT hE)⟩ rfl rfl hl.1 rfl (lv_room (Nat.le_of_ble_eq_true rfl)) dX11_steps_17 ⟨Nat.le_of_ble_eq_true rfl, Nat.le_of_ble_eq_true rfl⟩) (fun r12 f12 H locs hr12 hok hP hS => ?_)
    subst hr12
    exact W.iret (v := -1) hx hb hr (fun t ht hW => ⟨⟨-1, f12, rfl, trivial, hok, by rw [ht]; exact hP⟩, hS.F ht⟩) hS.2.2 dX11_steps_20

set_option maxHeartbeats 4000000 in
set_option maxRecDepth 100000 in
theorem t_X11_readCore (l : Launch) (dC : Nat → ClassId) (dI : Nat → Nat → Nat) (sz : Nat) (G : GT) (cs : Nat → ClassId) (tt mm : Nat) (a0 : Nat) (ha0 : Ty G a0 11) (v1 : Int32) : Met l yX11_readCore [.code yX11_readCore cX11_readCore 3 (some .int)] ({ frames := 5, cells := 0, slots := 0, locals := 200 }) (PT [.ref a0, .int v1] sz dC dI G cs tt mm (fun _ => True)) (va_Qi (fun (r : Int32) (u : Nat → va_E) => True) (BT dC dI G cs tt mm) (AT G sz)) 0 0 (AT G sz) := by
  refine Met.ofW (cc := cX11_readCore) (maxL := 3) (ret := (some .int)) (by decide) rfl ?_
  intro p e s m args below meth c s₁ B hml hv
  obtain ⟨rfl, hsz, ⟨f0, hok, hP, hX⟩, hK, hnd, hWT, hE⟩ := hv
  have hx := B.exec
  have hb := B.bytes
  have hr := B.returns
  have hown : s.vm.findClass RX11 = some m.cls := findClass_of_methodNamed B.named
  have hlocks := B.notSynchronized
  subst hsz
  have hAL : ∀ a, a ∈ gL G → AT G s.heap.size a := fun a h => Or.inl h
  have hA : ∀ q : Nat, s.heap.size ≤ q → AT G s.heap.size q := fun q h => Or.inr h
  have hS : va_S (AT G s.heap.size) s.heap s.heap [] := va_S.rf
  have hl := lv_entry ([.ref a0, .int v1]) (n := 3) (Nat.le_of_ble_eq_true rfl)
  rw [lg_entry_eq]
  generalize (lg_sl ([.ref a0, .int v1]) ++ List.replicate (3 - (lg_sl ([.ref a0, .int v1])).length) Slot.unset).toArray = ls at hl ⊢
  have hl : lv_has ls 3 [(0, .ref a0), (1, .int v1)] := hl
  refine lv_aload_n hx hb dX11_readCore_0 rfl (lv_at hl 0 rfl) ?_
  refine lv_iload_n hx hb dX11_readCore_1 rfl (lv_at hl 1 rfl) ?_
  obtain ⟨y5_1, hy4_1, hy7_1, he1⟩ := ok_X11 hok ha0
  refine tc_i hAL hS hA (va_runV (As := [.int v1]) (rest := []) ⟨hx, hb, hml, hown, noTs⟩ (t_X11_readLoop l dC dI s.heap.size G cs tt mm a0 ha0 v1) ⟨cbE 1 (wd_945 hE) (wd_115 hE) (wd_942 hE) rfl rfl (by decide +kernel) ⟨Nat.le_of_ble_eq_true rfl, Nat.le_of_ble_eq_true rfl⟩, (wd_944 hE), (wd_31 hE)⟩ ⟨PT.blind, th_recv hK hP ha0.1 he1 rfl, (th_pre (av := [.ref a0, .int v1]) trivial hK hP hok hnd hWT hE)⟩ rfl rfl hl.1 rfl (lv_room (Nat.le_of_ble_eq_true rfl)) dX11_readCore_2 ⟨Nat.le_of_ble_eq_true rfl, Nat.le_of_ble_eq_true rfl⟩) (fun r2 f2 H locs hr2 hok hP hS => ?_)
  refine lv_istore_n (lv' := [(2, .int r2), (0, .ref a0), (1, .int v1)]) hx hb dX11_readCore_5 rfl hl (by decide) rfl (fun ls hl => ?_)
  refine lv_iload_n hx hb dX11_readCore_6 rfl (lv_at hl 0 rfl) ?_
  refine lv_if_ne (tgt := 29) hx hb dX11_readCore_7 (by decide) (fun c3 => ?_) (fun c3 => ?_)
  · refine lv_iload_n hx hb dX11_readCore_29 rfl (lv_at hl 0 rfl) ?_
    exact W.iret (v := r2) hx hb hr (fun t ht hW => ⟨⟨r2, f2, rfl, trivial, hok, by rw [ht]; exact hP⟩, hS.F ht⟩) hS.2.2 dX11_readCore_30
  · refine lv_aload_n hx hb dX11_readCore_10 rfl (lv_at hl 1 rfl) ?_
    obtain ⟨y5_4, hy4_4, hy7_4, he4⟩ := ok_X11 hok ha0
    refine th_get hx hb (ly_X11 hE) hown hK hP ha0.1 he4 rfl 0 (by decide) (wd_359 hE) (fun _ h9 => h9) rfl dX11_readCore_11 ?_
    refine lv_aload_n hx hb dX11_readCore_14 rfl (lv_at hl 1 rfl) ?_
    refine th_get hx hb (ly_X11 hE) hown hK hP ha0.1 he4 rfl 10 (by decide) (wd_369 hE) (fun _ h9 => h9) rfl dX11_readCore_15 ?_
    refine lv_aload_n hx hb dX11_readCore_18 rfl (lv_at hl 1 rfl) ?_
    refine th_get hx hb (ly_X11 hE) hown hK hP ha0.1 he4 rfl 12 (by decide) (wd_371 hE) (fun _ h9 => h9) rfl dX11_readCore_19 ?_
    refine lv_aload_n hx hb dX11_readCore_22 rfl (lv_at hl 1 rfl) ?_
    refine th_get hx hb (ly_X11 hE) hown hK hP ha0.1 he4 rfl 14 (by decide) (wd_373 hE) (fun _ h9 => h9) rfl dX11_readCore_23 ?_
    refine tc_v hAL hS hA (va_runS (As := [.ref (gR G a0 0), .ref (gR G a0 10), .ref (gR G a0 12), .ref (gR G a0 14)]) (rest := []) ⟨hx, hb, hml, hown, noTs⟩ (t_X2_shrink l dC dI H.size G cs tt mm (gR G a0 0) ((wt_X11_0 hWT ha0)) (gR G a0 10) ((wt_X11_10 hWT ha0)) (gR G a0 12) ((wt_X11_12 hWT ha0)) (gR G a0 14) ((wt_X11_14 hWT ha0))) ⟨cbE 4 (wd_962 hE) (wd_134 hE) (wd_960 hE) rfl rfl (by decide +kernel) ⟨Nat.le_of_ble_eq_true rfl, Nat.le_of_ble_eq_true rfl⟩, (wd_961 hE)⟩ ⟨PT.blind, (th_pre (av := [.ref (gR G a0 0), .ref (gR G a0 10), .ref (gR G a0 12), .ref (gR G a0 14)]) trivial hK hP hok hnd hWT hE)⟩ rfl rfl hl.1 rfl (lv_room (Nat.le_of_ble_eq_true rfl)) dX11_readCore_26 ⟨Nat.le_of_ble_eq_true rfl, Nat.le_of_ble_eq_true rfl⟩) (fun f5 H locs hr5 hok hP hS => ?_)
    refine lv_iload_n hx hb dX11_readCore_29 rfl (lv_at hl 0 rfl) ?_
    exact W.iret (v := r2) hx hb hr (fun t ht hW => ⟨⟨r2, f5, rfl, trivial, hok, by rw [ht]; exact hP⟩, hS.F ht⟩) hS.2.2 dX11_readCore_30

set_option maxHeartbeats 4000000 in
set_option maxRecDepth 100000 in
theorem t_X11_length (l : Launch) (dC : Nat → ClassId) (dI : Nat → Nat → Nat) (sz : Nat) (G : GT) (cs : Nat → ClassId) (tt mm : Nat) (a0 : Nat) (ha0 : Ty G a0 11) (v1 : Int32) : Met l yX11_length [.code yX11_length cX11_length 3 (some .int)] ({ frames := 6, cells := 0, slots := 0, locals := 240 }) (PT [.ref a0, .int v1] sz dC dI G cs tt mm (fun _ => True)) (va_Qi (fun (r : Int32) (u : Nat → va_E) => True) (BT dC dI G cs tt mm) (AT G sz)) 0 0 (AT G sz) := by
  refine Met.ofW (cc := cX11_length) (maxL := 3) (ret := (some .int)) (by decide) rfl ?_
  intro p e s m args below meth c s₁ B hml hv
  obtain ⟨rfl, hsz, ⟨f0, hok, hP, hX⟩, hK, hnd, hWT, hE⟩ := hv
  have hx := B.exec
  have hb := B.bytes
  have hr := B.returns
  have hown : s.vm.findClass RX11 = some m.cls := findClass_of_methodNamed B.named
  have hlocks := B.notSynchronized
  subst hsz
  have hAL : ∀ a, a ∈ gL G → AT G s.heap.size a := fun a h => Or.inl h
  have hA : ∀ q : Nat, s.heap.size ≤ q → AT G s.heap.size q := fun q h => Or.inr h
  have hS : va_S (AT G s.heap.size) s.heap s.heap [] := va_S.rf
  have hl := lv_entry ([.ref a0, .int v1]) (n := 3) (Nat.le_of_ble_eq_true rfl)
  rw [lg_entry_eq]
  generalize (lg_sl ([.ref a0, .int v1]) ++ List.replicate (3 - (lg_sl ([.ref a0, .int v1])).length) Slot.unset).toArray = ls at hl ⊢
  have hl : lv_has ls 3 [(0, .ref a0), (1, .int v1)] := hl
  refine lv_aload_n hx hb dX11_length_0 rfl (lv_at hl 0 rfl) ?_
  refine lv_iload_n hx hb dX11_length_1 rfl (lv_at hl 1 rfl) ?_
  obtain ⟨y5_1, hy4_1, hy7_1, he1⟩ := ok_X11 hok ha0
  refine tc_i hAL hS hA (va_runV (As := [.int v1]) (rest := []) ⟨hx, hb, hml, hown, noTs⟩ (t_X11_readCore l dC dI s.heap.size G cs tt mm a0 ha0 v1) ⟨cbE 1 (wd_1079 hE) (wd_115 hE) (wd_1076 hE) rfl rfl (by decide +kernel) ⟨Nat.le_of_ble_eq_true rfl, Nat.le_of_ble_eq_true rfl⟩, (wd_1078 hE), (wd_38 hE)⟩ ⟨PT.blind, th_recv hK hP ha0.1 he1 rfl, (th_pre (av := [.ref a0, .int v1]) trivial hK hP hok hnd hWT hE)⟩ rfl rfl hl.1 rfl (lv_room (Nat.le_of_ble_eq_true rfl)) dX11_length_2 ⟨Nat.le_of_ble_eq_true rfl, Nat.le_of_ble_eq_true rfl⟩) (fun r2 f2 H locs hr2 hok hP hS => ?_)
  refine lv_istore_n (lv' := [(2, .int r2), (0, .ref a0), (1, .int v1)]) hx hb dX11_length_5 rfl hl (by decide) rfl (fun ls hl => ?_)
  refine lv_iload_n hx hb dX11_length_6 rfl (lv_at hl 0 rfl) ?_
  refine lv_if_eq (tgt := 18) hx hb dX11_length_7 (by decide) (fun c3 => ?_) (fun c3 => ?_)
  · refine lv_aload_n hx hb dX11_length_18 rfl (lv_at hl 1 rfl) ?_
    refine lv_aload_n hx hb dX11_length_19 rfl (lv_at hl 1 rfl) ?_
    obtain ⟨y5_4, hy4_4, hy7_4, he4⟩ := ok_X11 hok ha0
    refine th_get hx hb (ly_X11 hE) hown hK hP ha0.1 he4 rfl 12 (by decide) (wd_371 hE) (fun _ h9 => h9) rfl dX11_length_20 ?_
    obtain ⟨y2_5, y3_5, hy3_5, he5⟩ := ok_X10 hok (wt_X11_12 hWT ha0)
    refine vp_callSi (va_Run.run (va_runV (As := []) (rest := [.ref a0]) ⟨hx, hb, hml, hown, noTs⟩ (t_X10_size l dC dI H.size G cs tt mm (gR G a0 12) ((wt_X11_12 hWT ha0)) y2_5 y3_5) ⟨cbE 0 (wd_666 hE) (wd_120 hE) (wd_834 hE) rfl rfl (by decide +kernel) ⟨Nat.le_of_ble_eq_true rfl, Nat.le_of_ble_eq_true rfl⟩, (wd_664 hE), (wd_665 hE)⟩ ⟨PT.blind, th_recv hK hP (wt_X11_12 hWT ha0).1 he5 rfl, (th_pre (av := [.ref (gR G a0 12)]) he5 hK hP hok hnd hWT hE)⟩ rfl rfl hl.1 rfl (lv_room (Nat.le_of_ble_eq_true rfl)) dX11_length_23 ⟨Nat.le_of_ble_eq_true rfl, Nat.le_of_ble_eq_true rfl⟩)) (fun r6 hr6 => ?_)
    subst hr6
    refine tc_i hAL hS hA (va_runV (As := [.int (nI y3_5)]) (rest := []) ⟨hx, hb, hml, hown, noTs⟩ (t_X11_answer l dC dI H.size G cs tt mm a0 ha0 (nI y3_5)) ⟨cbE 1 (wd_748 hE) (wd_115 hE) (wd_745 hE) rfl rfl (by decide +kernel) ⟨Nat.le_of_ble_eq_true rfl, Nat.le_of_ble_eq_true rfl⟩, (wd_747 hE), (wd_23 hE)⟩ ⟨PT.blind, th_recv hK hP ha0.1 he4 rfl, (th_pre (av := [.ref a0, .int (nI y3_5)]) trivial hK hP hok hnd hWT hE)⟩ rfl rfl hl.1 rfl (lv_room (Nat.le_of_ble_eq_true rfl)) dX11_length_26 ⟨Nat.le_of_ble_eq_true rfl, Nat.le_of_ble_eq_true rfl⟩) (fun r7 f7 H locs hr7 hok hP hS => ?_)
    subst hr7
    exact W.iret (v := nI y3_5) hx hb hr (fun t ht hW => ⟨⟨nI y3_5, f7, rfl, trivial, hok, by rw [ht]; exact hP⟩, hS.F ht⟩) hS.2.2 dX11_length_29
  · refine lv_aload_n hx hb dX11_length_10 rfl (lv_at hl 1 rfl) ?_
    refine lv_iload_n hx hb dX11_length_11 rfl (lv_at hl 0 rfl) ?_
    obtain ⟨y5_8, hy4_8, hy7_8, he8⟩ := ok_X11 hok ha0
    refine tc_i hAL hS hA (va_runV (As := [.int r2]) (rest := []) ⟨hx, hb, hml, hown, noTs⟩ (t_X11_fail l dC dI H.size G cs tt mm a0 ha0 r2) ⟨cbE 1 (wd_436 hE) (wd_115 hE) (wd_433 hE) rfl rfl (by decide +kernel) ⟨Nat.le_of_ble_eq_true rfl, Nat.le_of_ble_eq_true rfl⟩, (wd_435 hE), (wd_1 hE)⟩ ⟨PT.blind, th_recv hK hP ha0.1 he8 rfl, (th_pre (av := [.ref a0, .int r2]) trivial hK hP hok hnd hWT hE)⟩ rfl rfl hl.1 rfl (lv_room (Nat.le_of_ble_eq_true rfl)) dX11_length_12 ⟨Nat.le_of_ble_eq_true rfl, Nat.le_of_ble_eq_true rfl⟩) (fun r9 f9 H locs hr9 hok hP hS => ?_)
    subst hr9
    refine lv_goto (tgt := 29) hx hb dX11_length_15 (by decide) ?_
    exact W.iret (v := -1) hx hb hr (fun t ht hW => ⟨⟨-1, f9, rfl, trivial, hok, by rw [ht]; exact hP⟩, hS.F ht⟩) hS.2.2 dX11_length_29

set_option maxHeartbeats 4000000 in
set_option maxRecDepth 100000 in
theorem t_X11_orderOf (l : Launch) (dC : Nat → ClassId) (dI : Nat → Nat → Nat) (sz : Nat) (G : GT) (cs : Nat → ClassId) (tt mm : Nat) (a0 : Nat) (ha0 : Ty G a0 11) (v1 : Int32) : Met l yX11_orderOf [.code yX11_orderOf cX11_orderOf 3 (some .int)] ({ frames := 6, cells := 0, slots := 0, locals := 240 }) (PT [.ref a0, .int v1] sz dC dI G cs tt mm (fun _ => True)) (va_Qi (fun (r : Int32) (u : Nat → va_E) => True) (BT dC dI G cs tt mm) (AT G sz)) 0 0 (AT G sz) := by
  refine Met.ofW (cc := cX11_orderOf) (maxL := 3) (ret := (some .int)) (by decide) rfl ?_
  intro p e s m args below meth c s₁ B hml hv
  obtain ⟨rfl, hsz, ⟨f0, hok, hP, hX⟩, hK, hnd, hWT, hE⟩ := hv
  have hx := B.exec
  have hb := B.bytes
  have hr := B.returns
  have hown : s.vm.findClass RX11 = some m.cls := findClass_of_methodNamed B.named
  have hlocks := B.notSynchronized
  subst hsz
  have hAL : ∀ a, a ∈ gL G → AT G s.heap.size a := fun a h => Or.inl h
  have hA : ∀ q : Nat, s.heap.size ≤ q → AT G s.heap.size q := fun q h => Or.inr h
  have hS : va_S (AT G s.heap.size) s.heap s.heap [] := va_S.rf
  have hl := lv_entry ([.ref a0, .int v1]) (n := 3) (Nat.le_of_ble_eq_true rfl)
  rw [lg_entry_eq]
  generalize (lg_sl ([.ref a0, .int v1]) ++ List.replicate (3 - (lg_sl ([.ref a0, .int v1])).length) Slot.unset).toArray = ls at hl ⊢
  have hl : lv_has ls 3 [(0, .ref a0), (1, .int v1)] := hl
  refine lv_aload_n hx hb dX11_orderOf_0 rfl (lv_at hl 0 rfl) ?_
  refine lv_iload_n hx hb dX11_orderOf_1 rfl (lv_at hl 1 rfl) ?_
  obtain ⟨y5_1, hy4_1, hy7_1, he1⟩ := ok_X11 hok ha0
  refine tc_i hAL hS hA (va_runV (As := [.int v1]) (rest := []) ⟨hx, hb, hml, hown, noTs⟩ (t_X11_readCore l dC dI s.heap.size G cs tt mm a0 ha0 v1) ⟨cbE 1 (wd_1079 hE) (wd_115 hE) (wd_1076 hE) rfl rfl (by decide +kernel) ⟨Nat.le_of_ble_eq_true rfl, Nat.le_of_ble_eq_true rfl⟩, (wd_1078 hE), (wd_38 hE)⟩ ⟨PT.blind, th_recv hK hP ha0.1 he1 rfl, (th_pre (av := [.ref a0, .int v1]) trivial hK hP hok hnd hWT hE)⟩ rfl rfl hl.1 rfl (lv_room (Nat.le_of_ble_eq_true rfl)) dX11_orderOf_2 ⟨Nat.le_of_ble_eq_true rfl, Nat.le_of_ble_eq_true rfl⟩) (fun r2 f2 H locs hr2 hok hP hS => ?_)
  refine lv_istore_n (lv' := [(2, .int r2), (0, .ref a0), (1, .int v1)]) hx hb dX11_orderOf_5 rfl hl (by decide) rfl (fun ls hl => ?_)
  refine lv_iload_n hx hb dX11_orderOf_6 rfl (lv_at hl 0 rfl) ?_
  refine lv_if_eq (tgt := 16) hx hb dX11_orderOf_7 (by decide) (fun c3 => ?_) (fun c3 => ?_)
  · refine lv_aload_n hx hb dX11_orderOf_16 rfl (lv_at hl 1 rfl) ?_
    obtain ⟨y5_4, hy4_4, hy7_4, he4⟩ := ok_X11 hok ha0
    refine th_get hx hb (ly_X11 hE) hown hK hP ha0.1 he4 rfl 12 (by decide) (wd_371 hE) (fun _ h9 => h9) rfl dX11_orderOf_17 ?_
    obtain ⟨y2_5, y3_5, hy3_5, he5⟩ := ok_X10 hok (wt_X11_12 hWT ha0)
    refine vp_callSi (va_Run.run (va_runV (As := []) (rest := []) ⟨hx, hb, hml, hown, noTs⟩ (t_X10_size l dC dI H.size G cs tt mm (gR G a0 12) ((wt_X11_12 hWT ha0)) y2_5 y3_5) ⟨cbE 0 (wd_666 hE) (wd_120 hE) (wd_834 hE) rfl rfl (by decide +kernel) ⟨Nat.le_of_ble_eq_true rfl, Nat.le_of_ble_eq_true rfl⟩, (wd_664 hE), (wd_665 hE)⟩ ⟨PT.blind, th_recv hK hP (wt_X11_12 hWT ha0).1 he5 rfl, (th_pre (av := [.ref (gR G a0 12)]) he5 hK hP hok hnd hWT hE)⟩ rfl rfl hl.1 rfl (lv_room (Nat.le_of_ble_eq_true rfl)) dX11_orderOf_20 ⟨Nat.le_of_ble_eq_true rfl, Nat.le_of_ble_eq_true rfl⟩)) (fun r6 hr6 => ?_)
    subst hr6
    have nt7 : (nI y3_5).toInt = ((y3_5 : Nat) : Int) := nI_toInt (by omega)
    refine lv_if_le (tgt := 32) hx hb dX11_orderOf_23 (by decide) (fun c8 => ?_) (fun c8 => ?_)
    · refine lv_aload_n hx hb dX11_orderOf_32 rfl (lv_at hl 1 rfl) ?_
      refine lv_aload_n hx hb dX11_orderOf_33 rfl (lv_at hl 1 rfl) ?_
      refine th_get hx hb (ly_X11 hE) hown hK hP ha0.1 he4 rfl 12 (by decide) (wd_371 hE) (fun _ h9 => h9) rfl dX11_orderOf_34 ?_
      refine lv_iconst (v := 0) hx hb dX11_orderOf_37 (by decide) ?_
      refine vp_callSi (va_Run.run (va_runV (As := [.int 0]) (rest := [.ref a0]) ⟨hx, hb, hml, hown, noTs⟩ (t_X10_numberAt l dC dI H.size G cs tt mm (gR G a0 12) ((wt_X11_12 hWT ha0)) 0) ⟨cbE 1 (wd_717 hE) (wd_120 hE) (wd_889 hE) rfl rfl (by decide +kernel) ⟨Nat.le_of_ble_eq_true rfl, Nat.le_of_ble_eq_true rfl⟩, (wd_715 hE), (wd_716 hE)⟩ ⟨PT.blind, th_recv hK hP (wt_X11_12 hWT ha0).1 he5 rfl, (th_pre (av := [.ref (gR G a0 12), .int 0]) trivial hK hP hok hnd hWT hE)⟩ rfl rfl hl.1 rfl (lv_room (Nat.le_of_ble_eq_true rfl)) dX11_orderOf_38 ⟨Nat.le_of_ble_eq_true rfl, Nat.le_of_ble_eq_true rfl⟩)) (fun r9 hr9 => ?_)
      refine lv_aload_n hx hb dX11_orderOf_41 rfl (lv_at hl 1 rfl) ?_
      refine th_get hx hb (ly_X11 hE) hown hK hP ha0.1 he4 rfl 0 (by decide) (wd_359 hE) (fun _ h9 => h9) rfl dX11_orderOf_42 ?_
      refine lv_aload_n hx hb dX11_orderOf_45 rfl (lv_at hl 1 rfl) ?_
      refine th_get hx hb (ly_X11 hE) hown hK hP ha0.1 he4 rfl 12 (by decide) (wd_371 hE) (fun _ h9 => h9) rfl dX11_orderOf_46 ?_
      refine vp_callSi (va_Run.run (va_runV (As := []) (rest := [.ref (gR G a0 0), .int r9, .ref a0]) ⟨hx, hb, hml, hown, noTs⟩ (t_X10_begin l dC dI H.size G cs tt mm (gR G a0 12) ((wt_X11_12 hWT ha0))) ⟨cbE 0 (wd_713 hE) (wd_120 hE) (wd_824 hE) rfl rfl (by decide +kernel) ⟨Nat.le_of_ble_eq_true rfl, Nat.le_of_ble_eq_true rfl⟩, (wd_711 hE), (wd_712 hE)⟩ ⟨PT.blind, th_recv hK hP (wt_X11_12 hWT ha0).1 he5 rfl, (th_pre (av := [.ref (gR G a0 12)]) trivial hK hP hok hnd hWT hE)⟩ rfl rfl hl.1 rfl (lv_room (Nat.le_of_ble_eq_true rfl)) dX11_orderOf_49 ⟨Nat.le_of_ble_eq_true rfl, Nat.le_of_ble_eq_true rfl⟩)) (fun r10 hr10 => ?_)
      have he11 := ok_X7 hok (wt_X11_0 hWT ha0)
      refine vp_callSi (va_Run.run (va_runV (As := [.int r10]) (rest := [.int r9, .ref a0]) ⟨hx, hb, hml, hown, noTs⟩ (t_X7_orderAt l dC dI H.size G cs tt mm (gR G a0 0) ((wt_X11_0 hWT ha0)) r10) ⟨cbE 1 (wd_614 hE) (wd_116 hE) (wd_797 hE) rfl rfl (by decide +kernel) ⟨Nat.le_of_ble_eq_true rfl, Nat.le_of_ble_eq_true rfl⟩, (wd_612 hE), (wd_613 hE)⟩ ⟨PT.blind, th_recv hK hP (wt_X11_0 hWT ha0).1 he11 rfl, (th_pre (av := [.ref (gR G a0 0), .int r10]) trivial hK hP hok hnd hWT hE)⟩ rfl rfl hl.1 rfl (lv_room (Nat.le_of_ble_eq_true rfl)) dX11_orderOf_52 ⟨Nat.le_of_ble_eq_true rfl, Nat.le_of_ble_eq_true rfl⟩)) (fun r12 hr12 => ?_)
      refine vp_callSi (va_Run.run (va_runS (As := [.int r9, .int r12]) (rest := [.ref a0]) ⟨hx, hb, hml, hown, noTs⟩ (t_X11_orderIn l dC dI H.size G cs tt mm r9 r12) ⟨cbE 2 (wd_1086 hE) (wd_115 hE) (wd_1084 hE) rfl rfl (by decide +kernel) ⟨Nat.le_of_ble_eq_true rfl, Nat.le_of_ble_eq_true rfl⟩, (wd_1085 hE)⟩ ⟨PT.blind, (th_pre (av := [.int r9, .int r12]) trivial hK hP hok hnd hWT hE)⟩ rfl rfl hl.1 rfl (lv_room (Nat.le_of_ble_eq_true rfl)) dX11_orderOf_55 ⟨Nat.le_of_ble_eq_true rfl, Nat.le_of_ble_eq_true rfl⟩)) (fun r13 hr13 => ?_)
      refine tc_i hAL hS hA (va_runV (As := [.int r13]) (rest := []) ⟨hx, hb, hml, hown, noTs⟩ (t_X11_answer l dC dI H.size G cs tt mm a0 ha0 r13) ⟨cbE 1 (wd_748 hE) (wd_115 hE) (wd_745 hE) rfl rfl (by decide +kernel) ⟨Nat.le_of_ble_eq_true rfl, Nat.le_of_ble_eq_true rfl⟩, (wd_747 hE), (wd_23 hE)⟩ ⟨PT.blind, th_recv hK hP ha0.1 he4 rfl, (th_pre (av := [.ref a0, .int r13]) trivial hK hP hok hnd hWT hE)⟩ rfl rfl hl.1 rfl (lv_room (Nat.le_of_ble_eq_true rfl)) dX11_orderOf_58 ⟨Nat.le_of_ble_eq_true rfl, Nat.le_of_ble_eq_true rfl⟩) (fun r14 f14 H locs hr14 hok hP hS => ?_)
      refine W.eq (g2 := F0 m 61 ls [.int r13]) (by rw [hr14]) ?_
      exact W.iret (v := r13) hx hb hr (fun t ht hW => ⟨⟨r13, f14, rfl, trivial, hok, by rw [ht]; exact hP⟩, hS.F ht⟩) hS.2.2 dX11_orderOf_61
    · refine lv_aload_n hx hb dX11_orderOf_26 rfl (lv_at hl 1 rfl) ?_
      refine lv_iconst (v := 0) hx hb dX11_orderOf_27 (by decide) ?_
      refine tc_i hAL hS hA (va_runV (As := [.int 0]) (rest := []) ⟨hx, hb, hml, hown, noTs⟩ (t_X11_answer l dC dI H.size G cs tt mm a0 ha0 0) ⟨cbE 1 (wd_748 hE) (wd_115 hE) (wd_745 hE) rfl rfl (by decide +kernel) ⟨Nat.le_of_ble_eq_true rfl, Nat.le_of_ble_eq_true rfl⟩, (wd_747 hE), (wd_23 hE)⟩ ⟨PT.blind, th_recv hK hP ha0.1 he4 rfl, (th_pre (av := [.ref a0, .int 0]) trivial hK hP hok hnd hWT hE)⟩ rfl rfl hl.1 rfl (lv_room (Nat.le_of_ble_eq_true rfl)) dX11_orderOf_28 ⟨Nat.le_of_ble_eq_true rfl, Nat.le_of_ble_eq_true rfl⟩) (fun r15 f15 H locs hr15 hok hP hS => ?_)
      subst hr15
      exact W.iret (v := 0) hx hb hr (fun t ht hW => ⟨⟨0, f15, rfl, trivial, hok, by rw [ht]; exact hP⟩, hS.F ht⟩) hS.2.2 dX11_orderOf_31
  · refine lv_aload_n hx hb dX11_orderOf_10 rfl (lv_at hl 1 rfl) ?_
    refine lv_iload_n hx hb dX11_orderOf_11 rfl (lv_at hl 0 rfl) ?_
    obtain ⟨y5_16, hy4_16, hy7_16, he16⟩ := ok_X11 hok ha0
    refine tc_i hAL hS hA (va_runV (As := [.int r2]) (rest := []) ⟨hx, hb, hml, hown, noTs⟩ (t_X11_fail l dC dI H.size G cs tt mm a0 ha0 r2) ⟨cbE 1 (wd_436 hE) (wd_115 hE) (wd_433 hE) rfl rfl (by decide +kernel) ⟨Nat.le_of_ble_eq_true rfl, Nat.le_of_ble_eq_true rfl⟩, (wd_435 hE), (wd_1 hE)⟩ ⟨PT.blind, th_recv hK hP ha0.1 he16 rfl, (th_pre (av := [.ref a0, .int r2]) trivial hK hP hok hnd hWT hE)⟩ rfl rfl hl.1 rfl (lv_room (Nat.le_of_ble_eq_true rfl)) dX11_orderOf_12 ⟨Nat.le_of_ble_eq_true rfl, Nat.le_of_ble_eq_true rfl⟩) (fun r17 f17 H locs hr17 hok hP hS => ?_)
    subst hr17
    exact W.iret (v := -1) hx hb hr (fun t ht hW => ⟨⟨-1, f17, rfl, trivial, hok, by rw [ht]; exact hP⟩, hS.F ht⟩) hS.2.2 dX11_orderOf_15

set_option maxHeartbeats 4000000 in
set_option maxRecDepth 100000 in
theorem t_X11_readTwoLoops (l : Launch) (dC : Nat → ClassId) (dI : Nat → Nat → Nat) (sz : Nat) (G : GT) (cs : Nat → ClassId) (tt mm : Nat) (a0 : Nat) (ha0 : Ty G a0 11) (v1 : Int32) (v2 : Int32) : Met l yX11_readTwoLoops [.code yX11_readTwoLoops cX11_readTwoLoops 3 (some .int)] ({ frames := 4, cells := 0, slots := 0, locals := 160 }) (PT [.ref a0, .int v1, .int v2] sz dC dI G cs tt mm (fun _ => True)) (va_Qi (fun (r : Int32) (u : Nat → va_E) => True) (BT dC dI G cs tt mm) (AT G sz)) 0 0 (AT G sz) := by
  refine Met.ofW (cc := cX11_readTwoLoops) (maxL := 3) (ret := (some .int)) (by decide) rfl ?_
  intro p e s m args below meth c s₁ B hml hv
  obtain ⟨rfl, hsz, ⟨f0, hok, hP, hX⟩, hK, hnd, hWT, hE⟩ := hv
  have hx := B.exec
  have hb := B.bytes
  have hr := B.returns
  have hown : s.vm.findClass RX11 = some m.cls := findClass_of_methodNamed B.named
  have hlocks := B.notSynchronized
  subst hsz
  have hAL : ∀ a, a ∈ gL G → AT G s.heap.size a := fun a h => Or.inl h
  have hA : ∀ q : Nat, s.heap.size ≤ q → AT G s.heap.size q := fun q h => Or.inr h
  have hS : va_S (AT G s.heap.size) s.heap s.heap [] := va_S.rf
  have hl := lv_entry ([.ref a0, .int v1, .int v2]) (n := 3) (Nat.le_of_ble_eq_true rfl)
  rw [lg_entry_eq]
  generalize (lg_sl ([.ref a0, .int v1, .int v2]) ++ List.replicate (3 - (lg_sl ([.ref a0, .int v1, .int v2])).length) Slot.unset).toArray = ls at hl ⊢
  have hl : lv_has ls 3 [(0, .ref a0), (1, .int v1), (2, .int v2)] := hl
  refine lv_aload_n hx hb dX11_readTwoLoops_0 rfl (lv_at hl 0 rfl) ?_
  refine lv_iload_n hx hb dX11_readTwoLoops_1 rfl (lv_at hl 1 rfl) ?_
  refine lv_iload_n hx hb dX11_readTwoLoops_2 rfl (lv_at hl 2 rfl) ?_
  obtain ⟨y5_1, hy4_1, hy7_1, he1⟩ := ok_X11 hok ha0
  refine tc_i hAL hS hA (va_runV (As := [.int v1, .int v2]) (rest := []) ⟨hx, hb, hml, hown, noTs⟩ (t_X11_readTwo l dC dI s.heap.size G cs tt mm a0 ha0 v1 v2) ⟨cbE 2 (wd_919 hE) (wd_115 hE) (wd_916 hE) rfl rfl (by decide +kernel) ⟨Nat.le_of_ble_eq_true rfl, Nat.le_of_ble_eq_true rfl⟩, (wd_918 hE), (wd_29 hE)⟩ ⟨PT.blind, th_recv hK hP ha0.1 he1 rfl, (th_pre (av := [.ref a0, .int v1, .int v2]) trivial hK hP hok hnd hWT hE)⟩ rfl rfl hl.1 rfl (lv_room (Nat.le_of_ble_eq_true rfl)) dX11_readTwoLoops_3 ⟨Nat.le_of_ble_eq_true rfl, Nat.le_of_ble_eq_true rfl⟩) (fun r2 f2 H locs hr2 hok hP hS => ?_)
  refine lv_if_ne (tgt := 11) hx hb dX11_readTwoLoops_6 (by decide) (fun c3 => ?_) (fun c3 => ?_)
  · refine lv_aload_n hx hb dX11_readTwoLoops_11 rfl (lv_at hl 0 rfl) ?_
    obtain ⟨y5_4, hy4_4, hy7_4, he4⟩ := ok_X11 hok ha0
    refine th_get hx hb (ly_X11 hE) hown hK hP ha0.1 he4 rfl 0 (by decide) (wd_359 hE) (fun _ h9 => h9) rfl dX11_readTwoLoops_12 ?_
    refine lv_aload_n hx hb dX11_readTwoLoops_15 rfl (lv_at hl 0 rfl) ?_
    refine th_get hx hb (ly_X11 hE) hown hK hP ha0.1 he4 rfl 10 (by decide) (wd_369 hE) (fun _ h9 => h9) rfl dX11_readTwoLoops_16 ?_
    have he5 := ok_X7 hok (wt_X11_0 hWT ha0)
    refine vp_callSi (va_Run.run (va_runV (As := [.ref (gR G a0 10)]) (rest := []) ⟨hx, hb, hml, hown, noTs⟩ (t_X7_isLoop l dC dI H.size G cs tt mm (gR G a0 0) ((wt_X11_0 hWT ha0)) (gR G a0 10) ((wt_X11_10 hWT ha0))) ⟨cbE 1 (wd_949 hE) (wd_116 hE) (wd_946 hE) rfl rfl (by decide +kernel) ⟨Nat.le_of_ble_eq_true rfl, Nat.le_of_ble_eq_true rfl⟩, (wd_947 hE), (wd_948 hE)⟩ ⟨PT.blind, th_recv hK hP (wt_X11_0 hWT ha0).1 he5 rfl, (th_pre (av := [.ref (gR G a0 0), .ref (gR G a0 10)]) trivial hK hP hok hnd hWT hE)⟩ rfl rfl hl.1 rfl (lv_room (Nat.le_of_ble_eq_true rfl)) dX11_readTwoLoops_19 ⟨Nat.le_of_ble_eq_true rfl, Nat.le_of_ble_eq_true rfl⟩)) (fun r6 hr6 => ?_)
    refine lv_if_eq (tgt := 43) hx hb dX11_readTwoLoops_22 (by decide) (fun c7 => ?_) (fun c7 => ?_)
    · refine lv_iconst (v := 4) hx hb dX11_readTwoLoops_43 (by decide) ?_
      exact W.iret (v := 4) hx hb hr (fun t ht hW => ⟨⟨4, f2, rfl, trivial, hok, by rw [ht]; exact hP⟩, hS.F ht⟩) hS.2.2 dX11_readTwoLoops_44
    · refine lv_aload_n hx hb dX11_readTwoLoops_25 rfl (lv_at hl 0 rfl) ?_
      refine th_get hx hb (ly_X11 hE) hown hK hP ha0.1 he4 rfl 0 (by decide) (wd_359 hE) (fun _ h9 => h9) rfl dX11_readTwoLoops_26 ?_
      refine lv_aload_n hx hb dX11_readTwoLoops_29 rfl (lv_at hl 0 rfl) ?_
      refine th_get hx hb (ly_X11 hE) hown hK hP ha0.1 he4 rfl 11 (by decide) (wd_370 hE) (fun _ h9 => h9) rfl dX11_readTwoLoops_30 ?_
      refine vp_callSi (va_Run.run (va_runV (As := [.ref (gR G a0 11)]) (rest := []) ⟨hx, hb, hml, hown, noTs⟩ (t_X7_isLoop l dC dI H.size G cs tt mm (gR G a0 0) ((wt_X11_0 hWT ha0)) (gR G a0 11) ((wt_X11_11 hWT ha0))) ⟨cbE 1 (wd_949 hE) (wd_116 hE) (wd_946 hE) rfl rfl (by decide +kernel) ⟨Nat.le_of_ble_eq_true rfl, Nat.le_of_ble_eq_true rfl⟩, (wd_947 hE), (wd_948 hE)⟩ ⟨PT.blind, th_recv hK hP (wt_X11_0 hWT ha0).1 he5 rfl, (th_pre (av := [.ref (gR G a0 0), .ref (gR G a0 11)]) trivial hK hP hok hnd hWT hE)⟩ rfl rfl hl.1 rfl (lv_room (Nat.le_of_ble_eq_true rfl)) dX11_readTwoLoops_33 ⟨Nat.le_of_ble_eq_true rfl, Nat.le_of_ble_eq_true rfl⟩)) (fun r8 hr8 => ?_)
      refine lv_if_eq (tgt := 43) hx hb dX11_readTwoLoops_36 (by decide) (fun c9 => ?_) (fun c9 => ?_)
      · refine lv_iconst (v := 4) hx hb dX11_readTwoLoops_43 (by decide) ?_
        exact W.iret (v := 4) hx hb hr (fun t ht hW => ⟨⟨4, f2, rfl, trivial, hok, by rw [ht]; exact hP⟩, hS.F ht⟩) hS.2.2 dX11_readTwoLoops_44
      · refine lv_iconst (v := 0) hx hb dX11_readTwoLoops_39 (by decide) ?_
        refine lv_goto (tgt := 44) hx hb dX11_readTwoLoops_40 (by decide) ?_
        exact W.iret (v := 0) hx hb hr (fun t ht hW => ⟨⟨0, f2, rfl, trivial, hok, by rw [ht]; exact hP⟩, hS.F ht⟩) hS.2.2 dX11_readTwoLoops_44
  · refine lv_iconst (v := 2) hx hb dX11_readTwoLoops_9 (by decide) ?_
    exact W.iret (v := 2) hx hb hr (fun t ht hW => ⟨⟨2, f2, rfl, trivial, hok, by rw [ht]; exact hP⟩, hS.F ht⟩) hS.2.2 dX11_readTwoLoops_10

set_option maxHeartbeats 4000000 in
set_option maxRecDepth 100000 in
theorem t_X11_kin (l : Launch) (dC : Nat → ClassId) (dI : Nat → Nat → Nat) (sz : Nat) (G : GT) (cs : Nat → ClassId) (tt mm : Nat) (a0 : Nat) (ha0 : Ty G a0 11) (v1 : Int32) (v2 : Int32) : Met l yX11_kin [.code yX11_kin cX11_kin 4 (some .int)] ({ frames := 6, cells := 0, slots := 0, locals := 240 }) (PT [.ref a0, .int v1, .int v2] sz dC dI G cs tt mm (fun _ => True)) (va_Qi (fun (r : Int32) (u : Nat → va_E) => True) (BT dC dI G cs tt mm) (AT G sz)) 0 0 (AT G sz) := by
  refine Met.ofW (cc := cX11_kin) (maxL := 4) (ret := (some .int)) (by decide) rfl ?_
  intro p e s m args below meth c s₁ B hml hv
  obtain ⟨rfl, hsz, ⟨f0, hok, hP, hX⟩, hK, hnd, hWT, hE⟩ := hv
  have hx := B.exec
  have hb := B.bytes
  have hr := B.returns
  have hown : s.vm.findClass RX11 = some m.cls := findClass_of_methodNamed B.named
  have hlocks := B.notSynchronized
  subst hsz
  have hAL : ∀ a, a ∈ gL G → AT G s.heap.size a := fun a h => Or.inl h
  have hA : ∀ q : Nat, s.heap.size ≤ q → AT G s.heap.size q := fun q h => Or.inr h
  have hS : va_S (AT G s.heap.size) s.heap s.heap [] := va_S.rf
  have hl := lv_entry ([.ref a0, .int v1, .int v2]) (n := 4) (Nat.le_of_ble_eq_true rfl)
  rw [lg_entry_eq]
  generalize (lg_sl ([.ref a0, .int v1, .int v2]) ++ List.replicate (4 - (lg_sl ([.ref a0, .int v1, .int v2])).length) Slot.unset).toArray = ls at hl ⊢
  have hl : lv_has ls 4 [(0, .ref a0), (1, .int v1), (2, .int v2)] := hl
  refine lv_aload_n hx hb dX11_kin_0 rfl (lv_at hl 0 rfl) ?_
  refine lv_iload_n hx hb dX11_kin_1 rfl (lv_at hl 1 rfl) ?_
  refine lv_iload_n hx hb dX11_kin_2 rfl (lv_at hl 2 rfl) ?_
  obtain ⟨y5_1, hy4_1, hy7_1, he1⟩ := ok_X11 hok ha0
  refine tc_i hAL hS hA (va_runV (As := [.int v1, .int v2]) (rest := []) ⟨hx, hb, hml, hown, noTs⟩ (t_X11_readTwoLoops l dC dI s.heap.size G cs tt mm a0 ha0 v1 v2) ⟨cbE 2 (wd_1101 hE) (wd_115 hE) (wd_1098 hE) rfl rfl (by decide +kernel) ⟨Nat.le_of_ble_eq_true rfl, Nat.le_of_ble_eq_true rfl⟩, (wd_1100 hE), (wd_39 hE)⟩ ⟨PT.blind, th_recv hK hP ha0.1 he1 rfl, (th_pre (av := [.ref a0, .int v1, .int v2]) trivial hK hP hok hnd hWT hE)⟩ rfl rfl hl.1 rfl (lv_room (Nat.le_of_ble_eq_true rfl)) dX11_kin_3 ⟨Nat.le_of_ble_eq_true rfl, Nat.le_of_ble_eq_true rfl⟩) (fun r2 f2 H locs hr2 hok hP hS => ?_)
  refine lv_istore_n (lv' := [(3, .int r2), (0, .ref a0), (1, .int v1), (2, .int v2)]) hx hb dX11_kin_6 rfl hl (by decide) rfl (fun ls hl => ?_)
  refine lv_iload_n hx hb dX11_kin_7 rfl (lv_at hl 0 rfl) ?_
  refine lv_if_eq (tgt := 17) hx hb dX11_kin_8 (by decide) (fun c3 => ?_) (fun c3 => ?_)
  · refine lv_aload_n hx hb dX11_kin_17 rfl (lv_at hl 1 rfl) ?_
    obtain ⟨y5_4, hy4_4, hy7_4, he4⟩ := ok_X11 hok ha0
    refine th_get hx hb (ly_X11 hE) hown hK hP ha0.1 he4 rfl 15 (by decide) (wd_374 hE) (fun _ h9 => h9) rfl dX11_kin_18 ?_
    refine lv_aload_n hx hb dX11_kin_21 rfl (lv_at hl 1 rfl) ?_
    refine th_get hx hb (ly_X11 hE) hown hK hP ha0.1 he4 rfl 0 (by decide) (wd_359 hE) (fun _ h9 => h9) rfl dX11_kin_22 ?_
    refine lv_aload_n hx hb dX11_kin_25 rfl (lv_at hl 1 rfl) ?_
    refine th_get hx hb (ly_X11 hE) hown hK hP ha0.1 he4 rfl 10 (by decide) (wd_369 hE) (fun _ h9 => h9) rfl dX11_kin_26 ?_
    obtain ⟨y6_5, y7_5, he5⟩ := ok_X4 hok (wt_X11_15 hWT ha0)
    refine tc_v hAL hS hA (va_runV (As := [.ref (gR G a0 0), .ref (gR G a0 10)]) (rest := []) ⟨hx, hb, hml, hown, noTs⟩ (t_X4_start l dC dI H.size G cs tt mm (gR G a0 15) ((wt_X11_15 hWT ha0)) (gR G a0 0) ((wt_X11_0 hWT ha0)) (gR G a0 10) ((wt_X11_10 hWT ha0))) ⟨cbE 2 (wd_1105 hE) (wd_122 hE) (wd_1102 hE) rfl rfl (by decide +kernel) ⟨Nat.le_of_ble_eq_true rfl, Nat.le_of_ble_eq_true rfl⟩, (wd_1103 hE), (wd_1104 hE)⟩ ⟨PT.blind, th_recv hK hP (wt_X11_15 hWT ha0).1 he5 rfl, (th_pre (av := [.ref (gR G a0 15), .ref (gR G a0 0), .ref (gR G a0 10)]) trivial hK hP hok hnd hWT hE)⟩ rfl rfl hl.1 rfl (lv_room (Nat.le_of_ble_eq_true rfl)) dX11_kin_29 ⟨Nat.le_of_ble_eq_true rfl, Nat.le_of_ble_eq_true rfl⟩) (fun f6 H locs hr6 hok hP hS => ?_)
    refine lv_aload_n hx hb dX11_kin_32 rfl (lv_at hl 1 rfl) ?_
    refine lv_aload_n hx hb dX11_kin_33 rfl (lv_at hl 1 rfl) ?_
    obtain ⟨y5_7, hy4_7, hy7_7, he7⟩ := ok_X11 hok ha0
    refine th_get hx hb (ly_X11 hE) hown hK hP ha0.1 he7 rfl 15 (by decide) (wd_374 hE) (fun _ h9 => h9) rfl dX11_kin_34 ?_
    refine lv_aload_n hx hb dX11_kin_37 rfl (lv_at hl 1 rfl) ?_
    refine th_get hx hb (ly_X11 hE) hown hK hP ha0.1 he7 rfl 0 (by decide) (wd_359 hE) (fun _ h9 => h9) rfl dX11_kin_38 ?_
    refine lv_aload_n hx hb dX11_kin_41 rfl (lv_at hl 1 rfl) ?_
    refine th_get hx hb (ly_X11 hE) hown hK hP ha0.1 he7 rfl 11 (by decide) (wd_370 hE) (fun _ h9 => h9) rfl dX11_kin_42 ?_
    obtain ⟨y6_8, y7_8, he8⟩ := ok_X4 hok (wt_X11_15 hWT ha0)
    refine tc_i hAL hS hA (va_runV (As := [.ref (gR G a0 0), .ref (gR G a0 11)]) (rest := [.ref a0]) ⟨hx, hb, hml, hown, noTs⟩ (t_X4_reaches l dC dI H.size G cs tt mm (gR G a0 15) ((wt_X11_15 hWT ha0)) (gR G a0 0) ((wt_X11_0 hWT ha0)) (gR G a0 11) ((wt_X11_11 hWT ha0))) ⟨cbE 2 (wd_1133 hE) (wd_122 hE) (wd_1130 hE) rfl rfl (by decide +kernel) ⟨Nat.le_of_ble_eq_true rfl, Nat.le_of_ble_eq_true rfl⟩, (wd_1131 hE), (wd_1132 hE)⟩ ⟨PT.blind, th_recv hK hP (wt_X11_15 hWT ha0).1 he8 rfl, (th_pre (av := [.ref (gR G a0 15), .ref (gR G a0 0), .ref (gR G a0 11)]) trivial hK hP hok hnd hWT hE)⟩ rfl rfl hl.1 rfl (lv_room (Nat.le_of_ble_eq_true rfl)) dX11_kin_45 ⟨Nat.le_of_ble_eq_true rfl, Nat.le_of_ble_eq_true rfl⟩) (fun r9 f9 H locs hr9 hok hP hS => ?_)
    refine vp_callSi (va_Run.run (va_runS (As := [.int r9]) (rest := [.ref a0]) ⟨hx, hb, hml, hown, noTs⟩ (t_X11_bit l dC dI H.size G cs tt mm r9) ⟨cbE 1 (wd_669 hE) (wd_115 hE) (wd_884 hE) rfl rfl (by decide +kernel) ⟨Nat.le_of_ble_eq_true rfl, Nat.le_of_ble_eq_true rfl⟩, (wd_668 hE)⟩ ⟨PT.blind, (th_pre (av := [.int r9]) trivial hK hP hok hnd hWT hE)⟩ rfl rfl hl.1 rfl (lv_room (Nat.le_of_ble_eq_true rfl)) dX11_kin_48 ⟨Nat.le_of_ble_eq_true rfl, Nat.le_of_ble_eq_true rfl⟩)) (fun r10 hr10 => ?_)
    obtain ⟨y5_11, hy4_11, hy7_11, he11⟩ := ok_X11 hok ha0
    refine tc_i hAL hS hA (va_runV (As := [.int r10]) (rest := []) ⟨hx, hb, hml, hown, noTs⟩ (t_X11_answer l dC dI H.size G cs tt mm a0 ha0 r10) ⟨cbE 1 (wd_748 hE) (wd_115 hE) (wd_745 hE) rfl rfl (by decide +kernel) ⟨Nat.le_of_ble_eq_true rfl, Nat.le_of_ble_eq_true rfl⟩, (wd_747 hE), (wd_23 hE)⟩ ⟨PT.blind, th_recv hK hP ha0.1 he11 rfl, (th_pre (av := [.ref a0, .int r10]) trivial hK hP hok hnd hWT hE)⟩ rfl rfl hl.1 rfl (lv_room (Nat.le_of_ble_eq_true rfl)) dX11_kin_51 ⟨Nat.le_of_ble_eq_true rfl, Nat.le_of_ble_eq_true rfl⟩) (fun r12 f12 H locs hr12 hok hP hS => ?_)
    refine W.eq (g2 := F0 m 54 ls [.int r10]) (by rw [hr12]) ?_
    exact W.iret (v := r10) hx hb hr (fun t ht hW => ⟨⟨r10, f12, rfl, trivial, hok, by rw [ht]; exact hP⟩, hS.F ht⟩) hS.2.2 dX11_kin_54
  · refine lv_aload_n hx hb dX11_kin_11 rfl (lv_at hl 1 rfl) ?_
    refine lv_iload_n hx hb dX11_kin_12 rfl (lv_at hl 0 rfl) ?_
    obtain ⟨y5_13, hy4_13, hy7_13, he13⟩ := ok_X11 hok ha0
    refine tc_i hAL hS hA (va_runV (As := [.int r2]) (rest := []) ⟨hx, hb, hml, hown, noTs⟩ (t_X11_fail l dC dI H.size G cs tt mm a0 ha0 r2) ⟨cbE 1 (wd_436 hE) (wd_115 hE) (wd_433 hE) rfl rfl (by decide +kernel) ⟨Nat.le_of_ble_eq_true rfl, Nat.le_of_ble_eq_true rfl⟩, (wd_435 hE), (wd_1 hE)⟩ ⟨PT.blind, th_recv hK hP ha0.1 he13 rfl, (th_pre (av := [.ref a0, .int r2]) trivial hK hP hok hnd hWT hE)⟩ rfl rfl hl.1 rfl (lv_room (Nat.le_of_ble_eq_true rfl)) dX11_kin_13 ⟨Nat.le_of_ble_eq_true rfl, Nat.le_of_ble_eq_true rfl⟩) (fun r14 f14 H locs hr14 hok hP hS => ?_)
    subst hr14
    exact W.iret (v := -1) hx hb hr (fun t ht hW => ⟨⟨-1, f14, rfl, trivial, hok, by rw [ht]; exact hP⟩, hS.F ht⟩) hS.2.2 dX11_kin_16

set_option maxHeartbeats 4000000 in
set_option maxRecDepth 100000 in
theorem t_X11_kinBy (l : Launch) (dC : Nat → ClassId) (dI : Nat → Nat → Nat) (sz : Nat) (G : GT) (cs : Nat → ClassId) (tt mm : Nat) (a0 : Nat) (ha0 : Ty G a0 11) (v1 : Int32) (v2 : Int32) (v3 : Int32) : Met l yX11_kinBy [.code yX11_kinBy cX11_kinBy 5 (some .int)] ({ frames := 6, cells := 0, slots := 0, locals := 240 }) (PT [.ref a0, .int v1, .int v2, .int v3] sz dC dI G cs tt mm (fun _ => True)) (va_Qi (fun (r : Int32) (u : Nat → va_E) => True) (BT dC dI G cs tt mm) (AT G sz)) 0 0 (AT G sz) := by
  refine Met.ofW (cc := cX11_kinBy) (maxL := 5) (ret := (some .int)) (by decide) rfl ?_
  intro p e s m args below meth c s₁ B hml hv
  obtain ⟨rfl, hsz, ⟨f0, hok, hP, hX⟩, hK, hnd, hWT, hE⟩ := hv
  have hx := B.exec
  have hb := B.bytes
  have hr := B.returns
  have hown : s.vm.findClass RX11 = some m.cls := findClass_of_methodNamed B.named
  have hlocks := B.notSynchronized
  subst hsz
  have hAL : ∀ a, a ∈ gL G → AT G s.heap.size a := fun a h => Or.inl h
  have hA : ∀ q : Nat, s.heap.size ≤ q → AT G s.heap.size q := fun q h => Or.inr h
  have hS : va_S (AT G s.heap.size) s.heap s.heap [] := va_S.rf
  have hl := lv_entry ([.ref a0, .int v1, .int v2, .int v3]) (n := 5) (Nat.le_of_ble_eq_true rfl)
  rw [lg_entry_eq]
  generalize (lg_sl ([.ref a0, .int v1, .int v2, .int v3]) ++ List.replicate (5 - (lg_sl ([.ref a0, .int v1, .int v2, .int v3])).length) Slot.unset).toArray = ls at hl ⊢
  have hl : lv_has ls 5 [(0, .ref a0), (1, .int v1), (2, .int v2), (3, .int v3)] := hl
  refine lv_iload_n hx hb dX11_kinBy_0 rfl (lv_at hl 3 rfl) ?_
  refine lv_if_lt (tgt := 9) hx hb dX11_kinBy_1 (by decide) (fun c1 => ?_) (fun c1 => ?_)
  · refine lv_aload_n hx hb dX11_kinBy_9 rfl (lv_at hl 0 rfl) ?_
    refine lv_iconst (v := 1) hx hb dX11_kinBy_10 (by decide) ?_
    obtain ⟨y5_2, hy4_2, hy7_2, he2⟩ := ok_X11 hok ha0
    refine tc_i hAL hS hA (va_runV (As := [.int 1]) (rest := []) ⟨hx, hb, hml, hown, noTs⟩ (t_X11_fail l dC dI s.heap.size G cs tt mm a0 ha0 1) ⟨cbE 1 (wd_436 hE) (wd_115 hE) (wd_433 hE) rfl rfl (by decide +kernel) ⟨Nat.le_of_ble_eq_true rfl, Nat.le_of_ble_eq_true rfl⟩, (wd_435 hE), (wd_1 hE)⟩ ⟨PT.blind, th_recv hK hP ha0.1 he2 rfl, (th_pre (av := [.ref a0, .int 1]) trivial hK hP hok hnd hWT hE)⟩ rfl rfl hl.1 rfl (lv_room (Nat.le_of_ble_eq_true rfl)) dX11_kinBy_11 ⟨Nat.le_of_ble_eq_true rfl, Nat.le_of_ble_eq_true rfl⟩) (fun r3 f3 H locs hr3 hok hP hS => ?_)
    subst hr3
    exact W.iret (v := -1) hx hb hr (fun t ht hW => ⟨⟨-1, f3, rfl, trivial, hok, by rw [ht]; exact hP⟩, hS.F ht⟩) hS.2.2 dX11_kinBy_14
  · refine lv_iload_n hx hb dX11_kinBy_4 rfl (lv_at hl 3 rfl) ?_
    refine lv_iconst (v := 1) hx hb dX11_kinBy_5 (by decide) ?_
    refine lv_icmp_le (tgt := 15) hx hb dX11_kinBy_6 (by decide) (fun c4 => ?_) (fun c4 => ?_)
    · refine lv_aload_n hx hb dX11_kinBy_15 rfl (lv_at hl 0 rfl) ?_
      refine lv_iload_n hx hb dX11_kinBy_16 rfl (lv_at hl 1 rfl) ?_
      refine lv_iload_n hx hb dX11_kinBy_17 rfl (lv_at hl 2 rfl) ?_
      obtain ⟨y5_5, hy4_5, hy7_5, he5⟩ := ok_X11 hok ha0
      refine tc_i hAL hS hA (va_runV (As := [.int v1, .int v2]) (rest := []) ⟨hx, hb, hml, hown, noTs⟩ (t_X11_readTwoLoops l dC dI s.heap.size G cs tt mm a0 ha0 v1 v2) ⟨cbE 2 (wd_1101 hE) (wd_115 hE) (wd_1098 hE) rfl rfl (by decide +kernel) ⟨Nat.le_of_ble_eq_true rfl, Nat.le_of_ble_eq_true rfl⟩, (wd_1100 hE), (wd_39 hE)⟩ ⟨PT.blind, th_recv hK hP ha0.1 he5 rfl, (th_pre (av := [.ref a0, .int v1, .int v2]) trivial hK hP hok hnd hWT hE)⟩ rfl rfl hl.1 rfl (lv_room (Nat.le_of_ble_eq_true rfl)) dX11_kinBy_18 ⟨Nat.le_of_ble_eq_true rfl, Nat.le_of_ble_eq_true rfl⟩) (fun r6 f6 H locs hr6 hok hP hS => ?_)
      refine lv_istore (lv' := [(4, .int r6), (0, .ref a0), (1, .int v1), (2, .int v2), (3, .int v3)]) hx hb dX11_kinBy_21 hl (by decide) rfl (fun ls hl => ?_)
      refine lv_iload hx hb dX11_kinBy_23 (lv_at hl 0 rfl) ?_
      refine lv_if_eq (tgt := 35) hx hb dX11_kinBy_25 (by decide) (fun c7 => ?_) (fun c7 => ?_)
      · refine lv_aload_n hx hb dX11_kinBy_35 rfl (lv_at hl 1 rfl) ?_
        obtain ⟨y5_8, hy4_8, hy7_8, he8⟩ := ok_X11 hok ha0
        refine th_get hx hb (ly_X11 hE) hown hK hP ha0.1 he8 rfl 15 (by decide) (wd_374 hE) (fun _ h9 => h9) rfl dX11_kinBy_36 ?_
        refine lv_aload_n hx hb dX11_kinBy_39 rfl (lv_at hl 1 rfl) ?_
        refine th_get hx hb (ly_X11 hE) hown hK hP ha0.1 he8 rfl 0 (by decide) (wd_359 hE) (fun _ h9 => h9) rfl dX11_kinBy_40 ?_
        refine lv_aload_n hx hb dX11_kinBy_43 rfl (lv_at hl 1 rfl) ?_
        refine th_get hx hb (ly_X11 hE) hown hK hP ha0.1 he8 rfl 10 (by decide) (wd_369 hE) (fun _ h9 => h9) rfl dX11_kinBy_44 ?_
        obtain ⟨y6_9, y7_9, he9⟩ := ok_X4 hok (wt_X11_15 hWT ha0)
        refine tc_v hAL hS hA (va_runV (As := [.ref (gR G a0 0), .ref (gR G a0 10)]) (rest := []) ⟨hx, hb, hml, hown, noTs⟩ (t_X4_start l dC dI H.size G cs tt mm (gR G a0 15) ((wt_X11_15 hWT ha0)) (gR G a0 0) ((wt_X11_0 hWT ha0)) (gR G a0 10) ((wt_X11_10 hWT ha0))) ⟨cbE 2 (wd_1105 hE) (wd_122 hE) (wd_1102 hE) rfl rfl (by decide +kernel) ⟨Nat.le_of_ble_eq_true rfl, Nat.le_of_ble_eq_true rfl⟩, (wd_1103 hE), (wd_1104 hE)⟩ ⟨PT.blind, th_recv hK hP (wt_X11_15 hWT ha0).1 he9 rfl, (th_pre (av := [.ref (gR G a0 15), .ref (gR G a0 0), .ref (gR G a0 10)]) trivial hK hP hok hnd hWT hE)⟩ rfl rfl hl.1 rfl (lv_room (Nat.le_of_ble_eq_true rfl)) dX11_kinBy_47 ⟨Nat.le_of_ble_eq_true rfl, Nat.le_of_ble_eq_true rfl⟩) (fun f10 H locs hr10 hok hP hS => ?_)
        refine lv_aload_n hx hb dX11_kinBy_50 rfl (lv_at hl 1 rfl) ?_
        obtain ⟨y5_11, hy4_11, hy7_11, he11⟩ := ok_X11 hok ha0
        refine th_get hx hb (ly_X11 hE) hown hK hP ha0.1 he11 rfl 15 (by decide) (wd_374 hE) (fun _ h9 => h9) rfl dX11_kinBy_51 ?_
        refine lv_aload_n hx hb dX11_kinBy_54 rfl (lv_at hl 1 rfl) ?_
        refine th_get hx hb (ly_X11 hE) hown hK hP ha0.1 he11 rfl 0 (by decide) (wd_359 hE) (fun _ h9 => h9) rfl dX11_kinBy_55 ?_
        refine lv_aload_n hx hb dX11_kinBy_58 rfl (lv_at hl 1 rfl) ?_
        refine th_get hx hb (ly_X11 hE) hown hK hP ha0.1 he11 rfl 11 (by decide) (wd_370 hE) (fun _ h9 => h9) rfl dX11_kinBy_59 ?_
        obtain ⟨y6_12, y7_12, he12⟩ := ok_X4 hok (wt_X11_15 hWT ha0)
        refine tc_i hAL hS hA (va_runV (As := [.ref (gR G a0 0), .ref (gR G a0 11)]) (rest := []) ⟨hx, hb, hml, hown, noTs⟩ (t_X4_reaches l dC dI H.size G cs tt mm (gR G a0 15) ((wt_X11_15 hWT ha0)) (gR G a0 0) ((wt_X11_0 hWT ha0)) (gR G a0 11) ((wt_X11_11 hWT ha0))) ⟨cbE 2 (wd_1133 hE) (wd_122 hE) (wd_1130 hE) rfl rfl (by decide +kernel) ⟨Nat.le_of_ble_eq_true rfl, Nat.le_of_ble_eq_true rfl⟩, (wd_1131 hE), (wd_1132 hE)⟩ ⟨PT.blind, th_recv hK hP (wt_X11_15 hWT ha0).1 he12 rfl, (th_pre (av := [.ref (gR G a0 15), .ref (gR G a0 0), .ref (gR G a0 11)]) trivial hK hP hok hnd hWT hE)⟩ rfl rfl hl.1 rfl (lv_room (Nat.le_of_ble_eq_true rfl)) dX11_kinBy_62 ⟨Nat.le_of_ble_eq_true rfl, Nat.le_of_ble_eq_true rfl⟩) (fun r13 f13 H locs hr13 hok hP hS => ?_)
        refine lv_if_ne (tgt := 74) hx hb dX11_kinBy_65 (by decide) (fun c14 => ?_) (fun c14 => ?_)
        · refine lv_aload_n hx hb dX11_kinBy_74 rfl (lv_at hl 1 rfl) ?_
          refine lv_iload_n hx hb dX11_kinBy_75 rfl (lv_at hl 4 rfl) ?_
          refine lv_if_ne (tgt := 89) hx hb dX11_kinBy_76 (by decide) (fun c15 => ?_) (fun c15 => ?_)
          · refine lv_aload_n hx hb dX11_kinBy_89 rfl (lv_at hl 1 rfl) ?_
            obtain ⟨y5_16, hy4_16, hy7_16, he16⟩ := ok_X11 hok ha0
            refine th_get hx hb (ly_X11 hE) hown hK hP ha0.1 he16 rfl 15 (by decide) (wd_374 hE) (fun _ h9 => h9) rfl dX11_kinBy_90 ?_
            obtain ⟨y6_17, y7_17, he17⟩ := ok_X4 hok (wt_X11_15 hWT ha0)
            refine vp_callSi (va_Run.run (va_runV (As := []) (rest := [.ref a0]) ⟨hx, hb, hml, hown, noTs⟩ (t_X4_numberTaken l dC dI H.size G cs tt mm (gR G a0 15) ((wt_X11_15 hWT ha0))) ⟨cbE 0 (wd_1181 hE) (wd_122 hE) (wd_1178 hE) rfl rfl (by decide +kernel) ⟨Nat.le_of_ble_eq_true rfl, Nat.le_of_ble_eq_true rfl⟩, (wd_1179 hE), (wd_1180 hE)⟩ ⟨PT.blind, th_recv hK hP (wt_X11_15 hWT ha0).1 he17 rfl, (th_pre (av := [.ref (gR G a0 15)]) trivial hK hP hok hnd hWT hE)⟩ rfl rfl hl.1 rfl (lv_room (Nat.le_of_ble_eq_true rfl)) dX11_kinBy_93 ⟨Nat.le_of_ble_eq_true rfl, Nat.le_of_ble_eq_true rfl⟩)) (fun r18 hr18 => ?_)
            refine tc_i hAL hS hA (va_runV (As := [.int r18]) (rest := []) ⟨hx, hb, hml, hown, noTs⟩ (t_X11_answer l dC dI H.size G cs tt mm a0 ha0 r18) ⟨cbE 1 (wd_748 hE) (wd_115 hE) (wd_745 hE) rfl rfl (by decide +kernel) ⟨Nat.le_of_ble_eq_true rfl, Nat.le_of_ble_eq_true rfl⟩, (wd_747 hE), (wd_23 hE)⟩ ⟨PT.blind, th_recv hK hP ha0.1 he16 rfl, (th_pre (av := [.ref a0, .int r18]) trivial hK hP hok hnd hWT hE)⟩ rfl rfl hl.1 rfl (lv_room (Nat.le_of_ble_eq_true rfl)) dX11_kinBy_96 ⟨Nat.le_of_ble_eq_true rfl, Nat.le_of_ble_eq_true rfl⟩) (fun r19 f19 H locs hr19 hok hP hS => ?_)
            refine W.eq (g2 := F0 m 99 ls [.int r18]) (by rw [hr19]) ?_
            exact W.iret (v := r18) hx hb hr (fun t ht hW => ⟨⟨r18, f19, rfl, trivial, hok, by rw [ht]; exact hP⟩, hS.F ht⟩) hS.2.2 dX11_kinBy_99
          · refine lv_aload_n hx hb dX11_kinBy_79 rfl (lv_at hl 1 rfl) ?_
            obtain ⟨y5_20, hy4_20, hy7_20, he20⟩ := ok_X11 hok ha0
            refine th_get hx hb (ly_X11 hE) hown hK hP ha0.1 he20 rfl 15 (by decide) (wd_374 hE) (fun _ h9 => h9) rfl dX11_kinBy_80 ?_
            obtain ⟨y6_21, y7_21, he21⟩ := ok_X4 hok (wt_X11_15 hWT ha0)
            refine vp_callSi (va_Run.run (va_runV (As := []) (rest := [.ref a0]) ⟨hx, hb, hml, hown, noTs⟩ (t_X4_begunBehind l dC dI H.size G cs tt mm (gR G a0 15) ((wt_X11_15 hWT ha0))) ⟨cbE 0 (wd_1177 hE) (wd_122 hE) (wd_1174 hE) rfl rfl (by decide +kernel) ⟨Nat.le_of_ble_eq_true rfl, Nat.le_of_ble_eq_true rfl⟩, (wd_1175 hE), (wd_1176 hE)⟩ ⟨PT.blind, th_recv hK hP (wt_X11_15 hWT ha0).1 he21 rfl, (th_pre (av := [.ref (gR G a0 15)]) trivial hK hP hok hnd hWT hE)⟩ rfl rfl hl.1 rfl (lv_room (Nat.le_of_ble_eq_true rfl)) dX11_kinBy_83 ⟨Nat.le_of_ble_eq_true rfl, Nat.le_of_ble_eq_true rfl⟩)) (fun r22 hr22 => ?_)
            refine lv_goto (tgt := 96) hx hb dX11_kinBy_86 (by decide) ?_
            refine tc_i hAL hS hA (va_runV (As := [.int r22]) (rest := []) ⟨hx, hb, hml, hown, noTs⟩ (t_X11_answer l dC dI H.size G cs tt mm a0 ha0 r22) ⟨cbE 1 (wd_748 hE) (wd_115 hE) (wd_745 hE) rfl rfl (by decide +kernel) ⟨Nat.le_of_ble_eq_true rfl, Nat.le_of_ble_eq_true rfl⟩, (wd_747 hE), (wd_23 hE)⟩ ⟨PT.blind, th_recv hK hP ha0.1 he20 rfl, (th_pre (av := [.ref a0, .int r22]) trivial hK hP hok hnd hWT hE)⟩ rfl rfl hl.1 rfl (lv_room (Nat.le_of_ble_eq_true rfl)) dX11_kinBy_96 ⟨Nat.le_of_ble_eq_true rfl, Nat.le_of_ble_eq_true rfl⟩) (fun r23 f23 H locs hr23 hok hP hS => ?_)
            refine W.eq (g2 := F0 m 99 ls [.int r22]) (by rw [hr23]) ?_
            exact W.iret (v := r22) hx hb hr (fun t ht hW => ⟨⟨r22, f23, rfl, trivial, hok, by rw [ht]; exact hP⟩, hS.F ht⟩) hS.2.2 dX11_kinBy_99
        · refine lv_aload_n hx hb dX11_kinBy_68 rfl (lv_at hl 1 rfl) ?_
          refine lv_iconst (v := 5) hx hb dX11_kinBy_69 (by decide) ?_
          obtain ⟨y5_24, hy4_24, hy7_24, he24⟩ := ok_X11 hok ha0
          refine tc_i hAL hS hA (va_runV (As := [.int 5]) (rest := []) ⟨hx, hb, hml, hown, noTs⟩ (t_X11_fail l dC dI H.size G cs tt mm a0 ha0 5) ⟨cbE 1 (wd_436 hE) (wd_115 hE) (wd_433 hE) rfl rfl (by decide +kernel) ⟨Nat.le_of_ble_eq_true rfl, Nat.le_of_ble_eq_true rfl⟩, (wd_435 hE), (wd_1 hE)⟩ ⟨PT.blind, th_recv hK hP ha0.1 he24 rfl, (th_pre (av := [.ref a0, .int 5]) trivial hK hP hok hnd hWT hE)⟩ rfl rfl hl.1 rfl (lv_room (Nat.le_of_ble_eq_true rfl)) dX11_kinBy_70 ⟨Nat.le_of_ble_eq_true rfl, Nat.le_of_ble_eq_true rfl⟩) (fun r25 f25 H locs hr25 hok hP hS => ?_)
          subst hr25
          exact W.iret (v := -1) hx hb hr (fun t ht hW => ⟨⟨-1, f25, rfl, trivial, hok, by rw [ht]; exact hP⟩, hS.F ht⟩) hS.2.2 dX11_kinBy_73
      · refine lv_aload_n hx hb dX11_kinBy_28 rfl (lv_at hl 1 rfl) ?_
        refine lv_iload hx hb dX11_kinBy_29 (lv_at hl 0 rfl) ?_
        obtain ⟨y5_26, hy4_26, hy7_26, he26⟩ := ok_X11 hok ha0
        refine tc_i hAL hS hA (va_runV (As := [.int r6]) (rest := []) ⟨hx, hb, hml, hown, noTs⟩ (t_X11_fail l dC dI H.size G cs tt mm a0 ha0 r6) ⟨cbE 1 (wd_436 hE) (wd_115 hE) (wd_433 hE) rfl rfl (by decide +kernel) ⟨Nat.le_of_ble_eq_true rfl, Nat.le_of_ble_eq_true rfl⟩, (wd_435 hE), (wd_1 hE)⟩ ⟨PT.blind, th_recv hK hP ha0.1 he26 rfl, (th_pre (av := [.ref a0, .int r6]) trivial hK hP hok hnd hWT hE)⟩ rfl rfl hl.1 rfl (lv_room (Nat.le_of_ble_eq_true rfl)) dX11_kinBy_31 ⟨Nat.le_of_ble_eq_true rfl, Nat.le_of_ble_eq_true rfl⟩) (fun r27 f27 H locs hr27 hok hP hS => ?_)
        subst hr27
        exact W.iret (v := -1) hx hb hr (fun t ht hW => ⟨⟨-1, f27, rfl, trivial, hok, by rw [ht]; exact hP⟩, hS.F ht⟩) hS.2.2 dX11_kinBy_34
    · refine lv_aload_n hx hb dX11_kinBy_9 rfl (lv_at hl 0 rfl) ?_
      refine lv_iconst (v := 1) hx hb dX11_kinBy_10 (by decide) ?_
      obtain ⟨y5_28, hy4_28, hy7_28, he28⟩ := ok_X11 hok ha0
      refine tc_i hAL hS hA (va_runV (As := [.int 1]) (rest := []) ⟨hx, hb, hml, hown, noTs⟩ (t_X11_fail l dC dI s.heap.size G cs tt mm a0 ha0 1) ⟨cbE 1 (wd_436 hE) (wd_115 hE) (wd_433 hE) rfl rfl (by decide +kernel) ⟨Nat.le_of_ble_eq_true rfl, Nat.le_of_ble_eq_true rfl⟩, (wd_435 hE), (wd_1 hE)⟩ ⟨PT.blind, th_recv hK hP ha0.1 he28 rfl, (th_pre (av := [.ref a0, .int 1]) trivial hK hP hok hnd hWT hE)⟩ rfl rfl hl.1 rfl (lv_room (Nat.le_of_ble_eq_true rfl)) dX11_kinBy_11 ⟨Nat.le_of_ble_eq_true rfl, Nat.le_of_ble_eq_true rfl⟩) (fun r29 f29 H locs hr29 hok hP hS => ?_)
      subst hr29
      exact W.iret (v := -1) hx hb hr (fun t ht hW => ⟨⟨-1, f29, rfl, trivial, hok, by rw [ht]; exact hP⟩, hS.F ht⟩) hS.2.2 dX11_kinBy_14
