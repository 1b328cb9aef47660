set_option maxHeartbeats 4000000 in
set_option maxRecDepth 100000 in
theorem t_X11_kins (l : Launch) (dC : Nat → ClassId) (dI : Nat → Nat → Nat) (sz : Nat) (G : GT) (cs : Nat → ClassId) (tt mm : Nat) (a0 : Nat) (ha0 : Ty G a0 11) (v1 : Int32) : Met l yX11_kins [.code yX11_kins cX11_kins 5 (some .int)] ({ frames := 6, cells := 0, slots := 0, locals := 240 }) (PT [.ref a0, .int v1] sz dC dI G cs tt mm (fun _ => True)) (va_Qi (fun (r : Int32) (u : Nat → va_E) => True) (BT dC dI G cs tt mm) (AT G sz)) 0 0 (AT G sz) := by
  refine Met.ofW (cc := cX11_kins) (maxL := 5) (ret := (some .int)) (by decide) rfl ?_
  intro p e s m args below meth c s₁ B hml hv
  obtain ⟨rfl, hsz, ⟨f0, hok, hP, hX⟩, hK, hnd, hWT, hE⟩ := hv
  have hx := B.exec
  have hb := B.bytes
  have hr := B.returns
  have hown : s.vm.findClass RX11 = some m.cls := findClass_of_methodNamed B.named
  have hlocks := B.notSynchronized
  subst hsz
  have hAL : ∀ a, a ∈ gL G → AT G s.heap.size a := fun a h => Or.inl h
  have hA : ∀ q : Nat, s.heap.size ≤ q → AT G s.heap.size q := fun q h => Or.inr h
  have hS : va_S (AT G s.heap.size) s.heap s.heap [] := va_S.rf
  have hl := lv_entry ([.ref a0, .int v1]) (n := 5) (Nat.le_of_ble_eq_true rfl)
  rw [lg_entry_eq]
  generalize (lg_sl ([.ref a0, .int v1]) ++ List.replicate (5 - (lg_sl ([.ref a0, .int v1])).length) Slot.unset).toArray = ls at hl ⊢
  have hl : lv_has ls 5 [(0, .ref a0), (1, .int v1)] := hl
  refine lv_aload_n hx hb dX11_kins_0 rfl (lv_at hl 0 rfl) ?_
  refine lv_iload_n hx hb dX11_kins_1 rfl (lv_at hl 1 rfl) ?_
  obtain ⟨y5_1, hy4_1, hy7_1, he1⟩ := ok_X11 hok ha0
  refine tc_i hAL hS hA (va_runV (As := [.int v1]) (rest := []) ⟨hx, hb, hml, hown, noTs⟩ (t_X11_readLoop l dC dI s.heap.size G cs tt mm a0 ha0 v1) ⟨cbE 1 (wd_945 hE) (wd_115 hE) (wd_942 hE) rfl rfl (by decide +kernel) ⟨Nat.le_of_ble_eq_true rfl, Nat.le_of_ble_eq_true rfl⟩, (wd_944 hE), (wd_31 hE)⟩ ⟨PT.blind, th_recv hK hP ha0.1 he1 rfl, (th_pre (av := [.ref a0, .int v1]) trivial hK hP hok hnd hWT hE)⟩ rfl rfl hl.1 rfl (lv_room (Nat.le_of_ble_eq_true rfl)) dX11_kins_2 ⟨Nat.le_of_ble_eq_true rfl, Nat.le_of_ble_eq_true rfl⟩) (fun r2 f2 H locs hr2 hok hP hS => ?_)
  refine lv_istore_n (lv' := [(2, .int r2), (0, .ref a0), (1, .int v1)]) hx hb dX11_kins_5 rfl hl (by decide) rfl (fun ls hl => ?_)
  refine lv_iload_n hx hb dX11_kins_6 rfl (lv_at hl 0 rfl) ?_
  refine lv_if_eq (tgt := 16) hx hb dX11_kins_7 (by decide) (fun c3 => ?_) (fun c3 => ?_)
  · refine lv_aload_n hx hb dX11_kins_16 rfl (lv_at hl 1 rfl) ?_
    obtain ⟨y5_4, hy4_4, hy7_4, he4⟩ := ok_X11 hok ha0
    refine th_get hx hb (ly_X11 hE) hown hK hP ha0.1 he4 rfl 15 (by decide) (wd_374 hE) (fun _ h9 => h9) rfl dX11_kins_17 ?_
    refine lv_aload_n hx hb dX11_kins_20 rfl (lv_at hl 1 rfl) ?_
    refine th_get hx hb (ly_X11 hE) hown hK hP ha0.1 he4 rfl 0 (by decide) (wd_359 hE) (fun _ h9 => h9) rfl dX11_kins_21 ?_
    refine lv_aload_n hx hb dX11_kins_24 rfl (lv_at hl 1 rfl) ?_
    refine th_get hx hb (ly_X11 hE) hown hK hP ha0.1 he4 rfl 10 (by decide) (wd_369 hE) (fun _ h9 => h9) rfl dX11_kins_25 ?_
    obtain ⟨y6_5, y7_5, he5⟩ := ok_X4 hok (wt_X11_15 hWT ha0)
    refine tc_v hAL hS hA (va_runV (As := [.ref (gR G a0 0), .ref (gR G a0 10)]) (rest := []) ⟨hx, hb, hml, hown, noTs⟩ (t_X4_start l dC dI H.size G cs tt mm (gR G a0 15) ((wt_X11_15 hWT ha0)) (gR G a0 0) ((wt_X11_0 hWT ha0)) (gR G a0 10) ((wt_X11_10 hWT ha0))) ⟨cbE 2 (wd_1105 hE) (wd_122 hE) (wd_1102 hE) rfl rfl (by decide +kernel) ⟨Nat.le_of_ble_eq_true rfl, Nat.le_of_ble_eq_true rfl⟩, (wd_1103 hE), (wd_1104 hE)⟩ ⟨PT.blind, th_recv hK hP (wt_X11_15 hWT ha0).1 he5 rfl, (th_pre (av := [.ref (gR G a0 15), .ref (gR G a0 0), .ref (gR G a0 10)]) trivial hK hP hok hnd hWT hE)⟩ rfl rfl hl.1 rfl (lv_room (Nat.le_of_ble_eq_true rfl)) dX11_kins_28 ⟨Nat.le_of_ble_eq_true rfl, Nat.le_of_ble_eq_true rfl⟩) (fun f6 H locs hr6 hok hP hS => ?_)
    refine lv_iconst (v := 1) hx hb dX11_kins_31 (by decide) ?_
    refine lv_iload_n hx hb dX11_kins_32 rfl (lv_at hl 2 rfl) ?_
    refine lv_ishl hx hb dX11_kins_33 ?_
    refine lv_topi (fun x7 _ => ?_)
    refine lv_istore_n (lv' := [(3, .int x7), (2, .int r2), (0, .ref a0), (1, .int v1)]) hx hb dX11_kins_34 rfl hl (by decide) rfl (fun ls hl => ?_)
    refine lv_iconst (v := 0) hx hb dX11_kins_35 (by decide) ?_
    refine lv_istore (lv' := [(4, .int 0), (3, .int x7), (2, .int r2), (0, .ref a0), (1, .int v1)]) hx hb dX11_kins_36 hl (by decide) rfl (fun ls hl => ?_)
    refine w_ind (I := fun n f H locs ls => OKT G cs tt mm f ∧ va_P (dC, dI) vwCl (va_pl (gL G) f) H ∧ va_S (AT G s.heap.size) s.heap H locs ∧ ∃ (w3_8 : Int32) (w4_8 : Int32), n = (2147483647 - w4_8.toInt).toNat ∧ 0 ≤ w4_8 ∧ lv_has ls 5 [(0, .ref a0), (1, .int v1), (2, .int r2), (3, .int w3_8), (4, .int w4_8)]) (fun n f8 H locs ls hI ih8 => ?_) _ f6 _ _ _ ⟨hok, hP, hS, x7, 0, rfl, (by first | omega | (simp only [i_lt, i_le, i_eq, ti_m9, ti_m1, ti_0, ti_1, ti_2, ti_3, ti_4, ti_5, ti_6, ti_7, ti_9, ti_12, ti_20, ti_99, ti_700, ti_24, ti_156, ti_72, ti_8, ti_60, ti_543, ti_10, ti_33, ti_51, ti_178, ti_119, ti_111, ti_114, ti_100, ti_32, ti_62, ti_59, ti_48, ti_701, ti_97, ti_122, ti_57, ti_73, ti_128, ti_61] at c3 ⊢; omega)), lv_sub hl [3, 4, 2, 1, 0] rfl⟩
    obtain ⟨hok, hP, hS, w3_8, w4_8, hmu8, hlo8, hl⟩ := hI
    subst hmu8
    refine lv_iload hx hb dX11_kins_38 (lv_at hl 4 rfl) ?_
    refine lv_aload_n hx hb dX11_kins_40 rfl (lv_at hl 0 rfl) ?_
    obtain ⟨y5_9, hy4_9, hy7_9, he9⟩ := ok_X11 hok ha0
    refine th_get hx hb (ly_X11 hE) hown hK hP ha0.1 he9 rfl 0 (by decide) (wd_359 hE) (fun _ h9 => h9) rfl dX11_kins_41 ?_
    have he10 := ok_X7 hok (wt_X11_0 hWT ha0)
    refine vp_callSi (va_Run.run (va_runV (As := []) (rest := [.int w4_8]) ⟨hx, hb, hml, hown, noTs⟩ (t_X7_words l dC dI H.size G cs tt mm (gR G a0 0) ((wt_X11_0 hWT ha0))) ⟨cbE 0 (wd_700 hE) (wd_116 hE) (wd_744 hE) rfl rfl (by decide +kernel) ⟨Nat.le_of_ble_eq_true rfl, Nat.le_of_ble_eq_true rfl⟩, (wd_698 hE), (wd_699 hE)⟩ ⟨PT.blind, th_recv hK hP (wt_X11_0 hWT ha0).1 he10 rfl, (th_pre (av := [.ref (gR G a0 0)]) trivial hK hP hok hnd hWT hE)⟩ rfl rfl hl.1 rfl (lv_room (Nat.le_of_ble_eq_true rfl)) dX11_kins_44 ⟨Nat.le_of_ble_eq_true rfl, Nat.le_of_ble_eq_true rfl⟩)) (fun r11 hr11 => ?_)
    refine lv_icmp_ge (tgt := 117) hx hb dX11_kins_47 (by decide) (fun c12 => ?_) (fun c12 => ?_)
    · refine lv_aload_n hx hb dX11_kins_117 rfl (lv_at hl 0 rfl) ?_
      refine lv_iload_n hx hb dX11_kins_118 rfl (lv_at hl 3 rfl) ?_
      refine tc_i hAL hS hA (va_runV (As := [.int w3_8]) (rest := []) ⟨hx, hb, hml, hown, noTs⟩ (t_X11_answer l dC dI H.size G cs tt mm a0 ha0 w3_8) ⟨cbE 1 (wd_748 hE) (wd_115 hE) (wd_745 hE) rfl rfl (by decide +kernel) ⟨Nat.le_of_ble_eq_true rfl, Nat.le_of_ble_eq_true rfl⟩, (wd_747 hE), (wd_23 hE)⟩ ⟨PT.blind, th_recv hK hP ha0.1 he9 rfl, (th_pre (av := [.ref a0, .int w3_8]) trivial hK hP hok hnd hWT hE)⟩ rfl rfl hl.1 rfl (lv_room (Nat.le_of_ble_eq_true rfl)) dX11_kins_119 ⟨Nat.le_of_ble_eq_true rfl, Nat.le_of_ble_eq_true rfl⟩) (fun r13 f13 H locs hr13 hok hP hS => ?_)
      refine W.eq (g2 := F0 m 122 ls [.int w3_8]) (by rw [hr13]) ?_
      exact W.iret (v := w3_8) hx hb hr (fun t ht hW => ⟨⟨w3_8, f13, rfl, trivial, hok, by rw [ht]; exact hP⟩, hS.F ht⟩) hS.2.2 dX11_kins_122
    · refine lv_iload hx hb dX11_kins_50 (lv_at hl 4 rfl) ?_
      refine lv_iload_n hx hb dX11_kins_52 rfl (lv_at hl 1 rfl) ?_
      refine lv_icmp_eq (tgt := 111) hx hb dX11_kins_53 (by decide) (fun c14 => ?_) (fun c14 => ?_)
      · obtain ⟨z15, ez15⟩ : ∃ z : Int32, z = w4_8 + 1 := ⟨_, rfl⟩
        refine lv_iinc (v := z15) (lv' := [(4, .int z15), (0, .ref a0), (1, .int v1), (2, .int r2), (3, .int w3_8)]) hx hb dX11_kins_111 hl (k := 4) rfl (by rw [ez15]; rfl) (by decide) rfl (fun ls hl => ?_)
        have ic15 : z15.toInt = w4_8.toInt + 1 := by rw [ez15]; exact ic_up (by have := i_rng r2; have := i_rng w4_8; have := i_rng r11; have := i_rng v1; simp only [i_lt, i_le, i_eq, ti_m9, ti_m1, ti_0, ti_1, ti_2, ti_3, ti_4, ti_5, ti_6, ti_7, ti_9, ti_12, ti_20, ti_99, ti_700, ti_24, ti_156, ti_72, ti_8, ti_60, ti_543, ti_10, ti_33, ti_51, ti_178, ti_119, ti_111, ti_114, ti_100, ti_32, ti_62, ti_59, ti_48, ti_701, ti_97, ti_122, ti_57, ti_73, ti_128, ti_61] at c3 hlo8 c12 c14 ⊢; omega)
        refine lv_goto (tgt := 38) hx hb dX11_kins_114 (by decide) ?_
        exact ih8 _ f8 _ _ _ (by have := i_rng z15; first | omega | (simp only [i_lt, i_le, i_eq, ti_m9, ti_m1, ti_0, ti_1, ti_2, ti_3, ti_4, ti_5, ti_6, ti_7, ti_9, ti_12, ti_20, ti_99, ti_700, ti_24, ti_156, ti_72, ti_8, ti_60, ti_543, ti_10, ti_33, ti_51, ti_178, ti_119, ti_111, ti_114, ti_100, ti_32, ti_62, ti_59, ti_48, ti_701, ti_97, ti_122, ti_57, ti_73, ti_128, ti_61, ic15] at c3 hlo8 c12 c14 ic15 ⊢; omega)) ⟨hok, hP, hS, w3_8, z15, rfl, (by first | omega | (simp only [i_lt, i_le, i_eq, ti_m9, ti_m1, ti_0, ti_1, ti_2, ti_3, ti_4, ti_5, ti_6, ti_7, ti_9, ti_12, ti_20, ti_99, ti_700, ti_24, ti_156, ti_72, ti_8, ti_60, ti_543, ti_10, ti_33, ti_51, ti_178, ti_119, ti_111, ti_114, ti_100, ti_32, ti_62, ti_59, ti_48, ti_701, ti_97, ti_122, ti_57, ti_73, ti_128, ti_61, ic15] at c3 hlo8 c12 c14 ⊢; omega)), lv_sub hl [1, 2, 3, 4, 0] rfl⟩
      · refine lv_aload_n hx hb dX11_kins_56 rfl (lv_at hl 0 rfl) ?_
        refine th_get hx hb (ly_X11 hE) hown hK hP ha0.1 he9 rfl 0 (by decide) (wd_359 hE) (fun _ h9 => h9) rfl dX11_kins_57 ?_
        refine lv_iload hx hb dX11_kins_60 (lv_at hl 4 rfl) ?_
        refine lv_aload_n hx hb dX11_kins_62 rfl (lv_at hl 0 rfl) ?_
        refine th_get hx hb (ly_X11 hE) hown hK hP ha0.1 he9 rfl 11 (by decide) (wd_370 hE) (fun _ h9 => h9) rfl dX11_kins_63 ?_
        refine tc_i hAL hS hA (va_runV (As := [.int w4_8, .ref (gR G a0 11)]) (rest := []) ⟨hx, hb, hml, hown, noTs⟩ (t_X7_readWord l dC dI H.size G cs tt mm (gR G a0 0) ((wt_X11_0 hWT ha0)) w4_8 (gR G a0 11) ((wt_X11_11 hWT ha0))) ⟨cbE 2 (wd_817 hE) (wd_116 hE) (wd_814 hE) rfl rfl (by decide +kernel) ⟨Nat.le_of_ble_eq_true rfl, Nat.le_of_ble_eq_true rfl⟩, (wd_815 hE), (wd_816 hE)⟩ ⟨PT.blind, th_recv hK hP (wt_X11_0 hWT ha0).1 he10 rfl, (th_pre (av := [.ref (gR G a0 0), .int w4_8, .ref (gR G a0 11)]) trivial hK hP hok hnd hWT hE)⟩ rfl rfl hl.1 rfl (lv_room (Nat.le_of_ble_eq_true rfl)) dX11_kins_66 ⟨Nat.le_of_ble_eq_true rfl, Nat.le_of_ble_eq_true rfl⟩) (fun r16 f16 H locs hr16 hok hP hS => ?_)
        refine lv_if_eq (tgt := 111) hx hb dX11_kins_69 (by decide) (fun c17 => ?_) (fun c17 => ?_)
        · obtain ⟨z18, ez18⟩ : ∃ z : Int32, z = w4_8 + 1 := ⟨_, rfl⟩
          refine lv_iinc (v := z18) (lv' := [(4, .int z18), (0, .ref a0), (1, .int v1), (2, .int r2), (3, .int w3_8)]) hx hb dX11_kins_111 hl (k := 4) rfl (by rw [ez18]; rfl) (by decide) rfl (fun ls hl => ?_)
          have ic18 : z18.toInt = w4_8.toInt + 1 := by rw [ez18]; exact ic_up (by have := i_rng r2; have := i_rng w4_8; have := i_rng r11; have := i_rng v1; have := i_rng r16; simp only [i_lt, i_le, i_eq, ti_m9, ti_m1, ti_0, ti_1, ti_2, ti_3, ti_4, ti_5, ti_6, ti_7, ti_9, ti_12, ti_20, ti_99, ti_700, ti_24, ti_156, ti_72, ti_8, ti_60, ti_543, ti_10, ti_33, ti_51, ti_178, ti_119, ti_111, ti_114, ti_100, ti_32, ti_62, ti_59, ti_48, ti_701, ti_97, ti_122, ti_57, ti_73, ti_128, ti_61] at c3 hlo8 c12 c14 c17 ⊢; omega)
          refine lv_goto (tgt := 38) hx hb dX11_kins_114 (by decide) ?_
          exact ih8 _ f16 _ _ _ (by have := i_rng z18; first | omega | (simp only [i_lt, i_le, i_eq, ti_m9, ti_m1, ti_0, ti_1, ti_2, ti_3, ti_4, ti_5, ti_6, ti_7, ti_9, ti_12, ti_20, ti_99, ti_700, ti_24, ti_156, ti_72, ti_8, ti_60, ti_543, ti_10, ti_33, ti_51, ti_178, ti_119, ti_111, ti_114, ti_100, ti_32, ti_62, ti_59, ti_48, ti_701, ti_97, ti_122, ti_57, ti_73, ti_128, ti_61, ic18] at c3 hlo8 c12 c14 c17 ic18 ⊢; omega)) ⟨hok, hP, hS, w3_8, z18, rfl, (by first | omega | (simp only [i_lt, i_le, i_eq, ti_m9, ti_m1, ti_0, ti_1, ti_2, ti_3, ti_4, ti_5, ti_6, ti_7, ti_9, ti_12, ti_20, ti_99, ti_700, ti_24, ti_156, ti_72, ti_8, ti_60, ti_543, ti_10, ti_33, ti_51, ti_178, ti_119, ti_111, ti_114, ti_100, ti_32, ti_62, ti_59, ti_48, ti_701, ti_97, ti_122, ti_57, ti_73, ti_128, ti_61, ic18] at c3 hlo8 c12 c14 c17 ⊢; omega)), lv_sub hl [1, 2, 3, 4, 0] rfl⟩
        · refine lv_aload_n hx hb dX11_kins_72 rfl (lv_at hl 0 rfl) ?_
          obtain ⟨y5_19, hy4_19, hy7_19, he19⟩ := ok_X11 hok ha0
          refine th_get hx hb (ly_X11 hE) hown hK hP ha0.1 he19 rfl 0 (by decide) (wd_359 hE) (fun _ h9 => h9) rfl dX11_kins_73 ?_
          refine lv_aload_n hx hb dX11_kins_76 rfl (lv_at hl 0 rfl) ?_
          refine th_get hx hb (ly_X11 hE) hown hK hP ha0.1 he19 rfl 11 (by decide) (wd_370 hE) (fun _ h9 => h9) rfl dX11_kins_77 ?_
          have he20 := ok_X7 hok (wt_X11_0 hWT ha0)
          refine vp_callSi (va_Run.run (va_runV (As := [.ref (gR G a0 11)]) (rest := []) ⟨hx, hb, hml, hown, noTs⟩ (t_X7_isLoop l dC dI H.size G cs tt mm (gR G a0 0) ((wt_X11_0 hWT ha0)) (gR G a0 11) ((wt_X11_11 hWT ha0))) ⟨cbE 1 (wd_949 hE) (wd_116 hE) (wd_946 hE) rfl rfl (by decide +kernel) ⟨Nat.le_of_ble_eq_true rfl, Nat.le_of_ble_eq_true rfl⟩, (wd_947 hE), (wd_948 hE)⟩ ⟨PT.blind, th_recv hK hP (wt_X11_0 hWT ha0).1 he20 rfl, (th_pre (av := [.ref (gR G a0 0), .ref (gR G a0 11)]) trivial hK hP hok hnd hWT hE)⟩ rfl rfl hl.1 rfl (lv_room (Nat.le_of_ble_eq_true rfl)) dX11_kins_80 ⟨Nat.le_of_ble_eq_true rfl, Nat.le_of_ble_eq_true rfl⟩)) (fun r21 hr21 => ?_)
          refine lv_if_eq (tgt := 111) hx hb dX11_kins_83 (by decide) (fun c22 => ?_) (fun c22 => ?_)
          · obtain ⟨z23, ez23⟩ : ∃ z : Int32, z = w4_8 + 1 := ⟨_, rfl⟩
            refine lv_iinc (v := z23) (lv' := [(4, .int z23), (0, .ref a0), (1, .int v1), (2, .int r2), (3, .int w3_8)]) hx hb dX11_kins_111 hl (k := 4) rfl (by rw [ez23]; rfl) (by decide) rfl (fun ls hl => ?_)
            have ic23 : z23.toInt = w4_8.toInt + 1 := by rw [ez23]; exact ic_up (by have := i_rng r2; have := i_rng w4_8; have := i_rng r11; have := i_rng v1; have := i_rng r16; have := i_rng r21; simp only [i_lt, i_le, i_eq, ti_m9, ti_m1, ti_0, ti_1, ti_2, ti_3, ti_4, ti_5, ti_6, ti_7, ti_9, ti_12, ti_20, ti_99, ti_700, ti_24, ti_156, ti_72, ti_8, ti_60, ti_543, ti_10, ti_33, ti_51, ti_178, ti_119, ti_111, ti_114, ti_100, ti_32, ti_62, ti_59, ti_48, ti_701, ti_97, ti_122, ti_57, ti_73, ti_128, ti_61] at c3 hlo8 c12 c14 c17 c22 ⊢; omega)
            refine lv_goto (tgt := 38) hx hb dX11_kins_114 (by decide) ?_
            exact ih8 _ f16 _ _ _ (by have := i_rng z23; first | omega | (simp only [i_lt, i_le, i_eq, ti_m9, ti_m1, ti_0, ti_1, ti_2, ti_3, ti_4, ti_5, ti_6, ti_7, ti_9, ti_12, ti_20, ti_99, ti_700, ti_24, ti_156, ti_72, ti_8, ti_60, ti_543, ti_10, ti_33, ti_51, ti_178, ti_119, ti_111, ti_114, ti_100, ti_32, ti_62, ti_59, ti_48, ti_701, ti_97, ti_122, ti_57, ti_73, ti_128, ti_61, ic23] at c3 hlo8 c12 c14 c17 c22 ic23 ⊢; omega)) ⟨hok, hP, hS, w3_8, z23, rfl, (by first | omega | (simp only [i_lt, i_le, i_eq, ti_m9, ti_m1, ti_0, ti_1, ti_2, ti_3, ti_4, ti_5, ti_6, ti_7, ti_9, ti_12, ti_20, ti_99, ti_700, ti_24, ti_156, ti_72, ti_8, ti_60, ti_543, ti_10, ti_33, ti_51, ti_178, ti_119, ti_111, ti_114, ti_100, ti_32, ti_62, ti_59, ti_48, ti_701, ti_97, ti_122, ti_57, ti_73, ti_128, ti_61, ic23] at c3 hlo8 c12 c14 c17 c22 ⊢; omega)), lv_sub hl [1, 2, 3, 4, 0] rfl⟩
          · refine lv_aload_n hx hb dX11_kins_86 rfl (lv_at hl 0 rfl) ?_
            refine th_get hx hb (ly_X11 hE) hown hK hP ha0.1 he19 rfl 15 (by decide) (wd_374 hE) (fun _ h9 => h9) rfl dX11_kins_87 ?_
            refine lv_aload_n hx hb dX11_kins_90 rfl (lv_at hl 0 rfl) ?_
            refine th_get hx hb (ly_X11 hE) hown hK hP ha0.1 he19 rfl 0 (by decide) (wd_359 hE) (fun _ h9 => h9) rfl dX11_kins_91 ?_
            refine lv_aload_n hx hb dX11_kins_94 rfl (lv_at hl 0 rfl) ?_
            refine th_get hx hb (ly_X11 hE) hown hK hP ha0.1 he19 rfl 11 (by decide) (wd_370 hE) (fun _ h9 => h9) rfl dX11_kins_95 ?_
            obtain ⟨y6_24, y7_24, he24⟩ := ok_X4 hok (wt_X11_15 hWT ha0)
            refine tc_i hAL hS hA (va_runV (As := [.ref (gR G a0 0), .ref (gR G a0 11)]) (rest := []) ⟨hx, hb, hml, hown, noTs⟩ (t_X4_reaches l dC dI H.size G cs tt mm (gR G a0 15) ((wt_X11_15 hWT ha0)) (gR G a0 0) ((wt_X11_0 hWT ha0)) (gR G a0 11) ((wt_X11_11 hWT ha0))) ⟨cbE 2 (wd_1133 hE) (wd_122 hE) (wd_1130 hE) rfl rfl (by decide +kernel) ⟨Nat.le_of_ble_eq_true rfl, Nat.le_of_ble_eq_true rfl⟩, (wd_1131 hE), (wd_1132 hE)⟩ ⟨PT.blind, th_recv hK hP (wt_X11_15 hWT ha0).1 he24 rfl, (th_pre (av := [.ref (gR G a0 15), .ref (gR G a0 0), .ref (gR G a0 11)]) trivial hK hP hok hnd hWT hE)⟩ rfl rfl hl.1 rfl (lv_room (Nat.le_of_ble_eq_true rfl)) dX11_kins_98 ⟨Nat.le_of_ble_eq_true rfl, Nat.le_of_ble_eq_true rfl⟩) (fun r25 f25 H locs hr25 hok hP hS => ?_)
            refine lv_if_eq (tgt := 111) hx hb dX11_kins_101 (by decide) (fun c26 => ?_) (fun c26 => ?_)
            · obtain ⟨z27, ez27⟩ : ∃ z : Int32, z = w4_8 + 1 := ⟨_, rfl⟩
              refine lv_iinc (v := z27) (lv' := [(4, .int z27), (0, .ref a0), (1, .int v1), (2, .int r2), (3, .int w3_8)]) hx hb dX11_kins_111 hl (k := 4) rfl (by rw [ez27]; rfl) (by decide) rfl (fun ls hl => ?_)
              have ic27 : z27.toInt = w4_8.toInt + 1 := by rw [ez27]; exact ic_up (by have := i_rng r2; have := i_rng w4_8; have := i_rng r11; have := i_rng v1; have := i_rng r16; have := i_rng r21; have := i_rng r25; simp only [i_lt, i_le, i_eq, ti_m9, ti_m1, ti_0, ti_1, ti_2, ti_3, ti_4, ti_5, ti_6, ti_7, ti_9, ti_12, ti_20, ti_99, ti_700, ti_24, ti_156, ti_72, ti_8, ti_60, ti_543, ti_10, ti_33, ti_51, ti_178, ti_119, ti_111, ti_114, ti_100, ti_32, ti_62, ti_59, ti_48, ti_701, ti_97, ti_122, ti_57, ti_73, ti_128, ti_61] at c3 hlo8 c12 c14 c17 c22 c26 ⊢; omega)
              refine lv_goto (tgt := 38) hx hb dX11_kins_114 (by decide) ?_
              exact ih8 _ f25 _ _ _ (by have := i_rng z27; first | omega | (simp only [i_lt, i_le, i_eq, ti_m9, ti_m1, ti_0, ti_1, ti_2, ti_3, ti_4, ti_5, ti_6, ti_7, ti_9, ti_12, ti_20, ti_99, ti_700, ti_24, ti_156, ti_72, ti_8, ti_60, ti_543, ti_10, ti_33, ti_51, ti_178, ti_119, ti_111, ti_114, ti_100, ti_32, ti_62, ti_59, ti_48, ti_701, ti_97, ti_122, ti_57, ti_73, ti_128, ti_61, ic27] at c3 hlo8 c12 c14 c17 c22 c26 ic27 ⊢; omega)) ⟨hok, hP, hS, w3_8, z27, rfl, (by first | omega | (simp only [i_lt, i_le, i_eq, ti_m9, ti_m1, ti_0, ti_1, ti_2, ti_3, ti_4, ti_5, ti_6, ti_7, ti_9, ti_12, ti_20, ti_99, ti_700, ti_24, ti_156, ti_72, ti_8, ti_60, ti_543, ti_10, ti_33, ti_51, ti_178, ti_119, ti_111, ti_114, ti_100, ti_32, ti_62, ti_59, ti_48, ti_701, ti_97, ti_122, ti_57, ti_73, ti_128, ti_61, ic27] at c3 hlo8 c12 c14 c17 c22 c26 ⊢; omega)), lv_sub hl [1, 2, 3, 4, 0] rfl⟩
            · refine lv_iload_n hx hb dX11_kins_104 rfl (lv_at hl 3 rfl) ?_
              refine lv_iconst (v := 1) hx hb dX11_kins_105 (by decide) ?_
              refine lv_iload hx hb dX11_kins_106 (lv_at hl 4 rfl) ?_
              refine lv_ishl hx hb dX11_kins_108 ?_
              refine lv_topi (fun x28 _ => ?_)
              refine lv_ior hx hb dX11_kins_109 ?_
              refine lv_topi (fun x29 _ => ?_)
              refine lv_istore_n (lv' := [(3, .int x29), (0, .ref a0), (1, .int v1), (2, .int r2), (4, .int w4_8)]) hx hb dX11_kins_110 rfl hl (by decide) rfl (fun ls hl => ?_)
              obtain ⟨z30, ez30⟩ : ∃ z : Int32, z = w4_8 + 1 := ⟨_, rfl⟩
              refine lv_iinc (v := z30) (lv' := [(4, .int z30), (3, .int x29), (0, .ref a0), (1, .int v1), (2, .int r2)]) hx hb dX11_kins_111 hl (k := 4) rfl (by rw [ez30]; rfl) (by decide) rfl (fun ls hl => ?_)
              have ic30 : z30.toInt = w4_8.toInt + 1 := by rw [ez30]; exact ic_up (by have := i_rng r2; have := i_rng w4_8; have := i_rng r11; have := i_rng v1; have := i_rng r16; have := i_rng r21; have := i_rng r25; simp only [i_lt, i_le, i_eq, ti_m9, ti_m1, ti_0, ti_1, ti_2, ti_3, ti_4, ti_5, ti_6, ti_7, ti_9, ti_12, ti_20, ti_99, ti_700, ti_24, ti_156, ti_72, ti_8, ti_60, ti_543, ti_10, ti_33, ti_51, ti_178, ti_119, ti_111, ti_114, ti_100, ti_32, ti_62, ti_59, ti_48, ti_701, ti_97, ti_122, ti_57, ti_73, ti_128, ti_61] at c3 hlo8 c12 c14 c17 c22 c26 ⊢; omega)
              refine lv_goto (tgt := 38) hx hb dX11_kins_114 (by decide) ?_
              exact ih8 _ f25 _ _ _ (by have := i_rng z30; first | omega | (simp only [i_lt, i_le, i_eq, ti_m9, ti_m1, ti_0, ti_1, ti_2, ti_3, ti_4, ti_5, ti_6, ti_7, ti_9, ti_12, ti_20, ti_99, ti_700, ti_24, ti_156, ti_72, ti_8, ti_60, ti_543, ti_10, ti_33, ti_51, ti_178, ti_119, ti_111, ti_114, ti_100, ti_32, ti_62, ti_59, ti_48, ti_701, ti_97, ti_122, ti_57, ti_73, ti_128, ti_61, ic30] at c3 hlo8 c12 c14 c17 c22 c26 ic30 ⊢; omega)) ⟨hok, hP, hS, x29, z30, rfl, (by first | omega | (simp only [i_lt, i_le, i_eq, ti_m9, ti_m1, ti_0, ti_1, ti_2, ti_3, ti_4, ti_5, ti_6, ti_7, ti_9, ti_12, ti_20, ti_99, ti_700, ti_24, ti_156, ti_72, ti_8, ti_60, ti_543, ti_10, ti_33, ti_51, ti_178, ti_119, ti_111, ti_114, ti_100, ti_32, ti_62, ti_59, ti_48, ti_701, ti_97, ti_122, ti_57, ti_73, ti_128, ti_61, ic30] at c3 hlo8 c12 c14 c17 c22 c26 ⊢; omega)), lv_sub hl [2, 3, 4, 1, 0] rfl⟩
  · refine lv_aload_n hx hb dX11_kins_10 rfl (lv_at hl 1 rfl) ?_
    refine lv_iload_n hx hb dX11_kins_11 rfl (lv_at hl 0 rfl) ?_
    obtain ⟨y5_31, hy4_31, hy7_31, he31⟩ := ok_X11 hok ha0
    refine tc_i hAL hS hA (va_runV (As := [.int r2]) (rest := []) ⟨hx, hb, hml, hown, noTs⟩ (t_X11_fail l dC dI H.size G cs tt mm a0 ha0 r2) ⟨cbE 1 (wd_436 hE) (wd_115 hE) (wd_433 hE) rfl rfl (by decide +kernel) ⟨Nat.le_of_ble_eq_true rfl, Nat.le_of_ble_eq_true rfl⟩, (wd_435 hE), (wd_1 hE)⟩ ⟨PT.blind, th_recv hK hP ha0.1 he31 rfl, (th_pre (av := [.ref a0, .int r2]) trivial hK hP hok hnd hWT hE)⟩ rfl rfl hl.1 rfl (lv_room (Nat.le_of_ble_eq_true rfl)) dX11_kins_12 ⟨Nat.le_of_ble_eq_true rfl, Nat.le_of_ble_eq_true rfl⟩) (fun r32 f32 H locs hr32 hok hP hS => ?_)
    subst hr32
    exact W.iret (v := -1) hx hb hr (fun t ht hW => ⟨⟨-1, f32, rfl, trivial, hok, by rw [ht]; exact hP⟩, hS.F ht⟩) hS.2.2 dX11_kins_15

set_option maxHeartbeats 4000000 in
set_option maxRecDepth 100000 in
theorem t_X11_net (l : Launch) (dC : Nat → ClassId) (dI : Nat → Nat → Nat) (sz : Nat) (G : GT) (cs : Nat → ClassId) (tt mm : Nat) (a0 : Nat) (ha0 : Ty G a0 11) (v1 : Int32) (v2 : Int32) : Met l yX11_net [.code yX11_net cX11_net 6 (some .int)] ({ frames := 2, cells := 0, slots := 0, locals := 80 }) (PT [.ref a0, .int v1, .int v2] sz dC dI G cs tt mm (fun _ => True)) (va_Qi (fun (r : Int32) (u : Nat → va_E) => True) (BT dC dI G cs tt mm) (AT G sz)) 0 0 (AT G sz) := by
  refine Met.ofW (cc := cX11_net) (maxL := 6) (ret := (some .int)) (by decide) rfl ?_
  intro p e s m args below meth c s₁ B hml hv
  obtain ⟨rfl, hsz, ⟨f0, hok, hP, hX⟩, hK, hnd, hWT, hE⟩ := hv
  have hx := B.exec
  have hb := B.bytes
  have hr := B.returns
  have hown : s.vm.findClass RX11 = some m.cls := findClass_of_methodNamed B.named
  have hlocks := B.notSynchronized
  subst hsz
  have hAL : ∀ a, a ∈ gL G → AT G s.heap.size a := fun a h => Or.inl h
  have hA : ∀ q : Nat, s.heap.size ≤ q → AT G s.heap.size q := fun q h => Or.inr h
  have hS : va_S (AT G s.heap.size) s.heap s.heap [] := va_S.rf
  have hl := lv_entry ([.ref a0, .int v1, .int v2]) (n := 6) (Nat.le_of_ble_eq_true rfl)
  rw [lg_entry_eq]
  generalize (lg_sl ([.ref a0, .int v1, .int v2]) ++ List.replicate (6 - (lg_sl ([.ref a0, .int v1, .int v2])).length) Slot.unset).toArray = ls at hl ⊢
  have hl : lv_has ls 6 [(0, .ref a0), (1, .int v1), (2, .int v2)] := hl
  refine lv_aload_n hx hb dX11_net_0 rfl (lv_at hl 0 rfl) ?_
  obtain ⟨y5_1, hy4_1, hy7_1, he1⟩ := ok_X11 hok ha0
  refine th_get hx hb (ly_X11 hE) hown hK hP ha0.1 he1 rfl 0 (by decide) (wd_359 hE) (fun _ h9 => h9) rfl dX11_net_1 ?_
  refine lv_iload_n hx hb dX11_net_4 rfl (lv_at hl 2 rfl) ?_
  have he2 := ok_X7 hok (wt_X11_0 hWT ha0)
  refine vp_callSi (va_Run.run (va_runV (As := [.int v2]) (rest := []) ⟨hx, hb, hml, hown, noTs⟩ (t_X7_hasEdge l dC dI s.heap.size G cs tt mm (gR G a0 0) ((wt_X11_0 hWT ha0)) v2) ⟨cbE 1 (wd_673 hE) (wd_116 hE) (wd_802 hE) rfl rfl (by decide +kernel) ⟨Nat.le_of_ble_eq_true rfl, Nat.le_of_ble_eq_true rfl⟩, (wd_671 hE), (wd_672 hE)⟩ ⟨PT.blind, th_recv hK hP (wt_X11_0 hWT ha0).1 he2 rfl, (th_pre (av := [.ref (gR G a0 0), .int v2]) trivial hK hP hok hnd hWT hE)⟩ rfl rfl hl.1 rfl (lv_room (Nat.le_of_ble_eq_true rfl)) dX11_net_5 ⟨Nat.le_of_ble_eq_true rfl, Nat.le_of_ble_eq_true rfl⟩)) (fun r3 hr3 => ?_)
  refine lv_if_eq (tgt := 26) hx hb dX11_net_8 (by decide) (fun c4 => ?_) (fun c4 => ?_)
  · refine lv_aload_n hx hb dX11_net_26 rfl (lv_at hl 0 rfl) ?_
    refine lv_iconst (v := 2) hx hb dX11_net_27 (by decide) ?_
    refine tc_i hAL hS hA (va_runV (As := [.int 2]) (rest := []) ⟨hx, hb, hml, hown, noTs⟩ (t_X11_fail l dC dI s.heap.size G cs tt mm a0 ha0 2) ⟨cbE 1 (wd_436 hE) (wd_115 hE) (wd_433 hE) rfl rfl (by decide +kernel) ⟨Nat.le_of_ble_eq_true rfl, Nat.le_of_ble_eq_true rfl⟩, (wd_435 hE), (wd_1 hE)⟩ ⟨PT.blind, th_recv hK hP ha0.1 he1 rfl, (th_pre (av := [.ref a0, .int 2]) trivial hK hP hok hnd hWT hE)⟩ rfl rfl hl.1 rfl (lv_room (Nat.le_of_ble_eq_true rfl)) dX11_net_28 ⟨Nat.le_of_ble_eq_true rfl, Nat.le_of_ble_eq_true rfl⟩) (fun r5 f5 H locs hr5 hok hP hS => ?_)
    subst hr5
    exact W.iret (v := -1) hx hb hr (fun t ht hW => ⟨⟨-1, f5, rfl, trivial, hok, by rw [ht]; exact hP⟩, hS.F ht⟩) hS.2.2 dX11_net_31
  · refine lv_aload_n hx hb dX11_net_11 rfl (lv_at hl 0 rfl) ?_
    refine th_get hx hb (ly_X11 hE) hown hK hP ha0.1 he1 rfl 0 (by decide) (wd_359 hE) (fun _ h9 => h9) rfl dX11_net_12 ?_
    refine lv_iload_n hx hb dX11_net_15 rfl (lv_at hl 1 rfl) ?_
    refine lv_aload_n hx hb dX11_net_16 rfl (lv_at hl 0 rfl) ?_
    refine th_get hx hb (ly_X11 hE) hown hK hP ha0.1 he1 rfl 10 (by decide) (wd_369 hE) (fun _ h9 => h9) rfl dX11_net_17 ?_
    refine tc_i hAL hS hA (va_runV (As := [.int v1, .ref (gR G a0 10)]) (rest := []) ⟨hx, hb, hml, hown, noTs⟩ (t_X7_readWord l dC dI s.heap.size G cs tt mm (gR G a0 0) ((wt_X11_0 hWT ha0)) v1 (gR G a0 10) ((wt_X11_10 hWT ha0))) ⟨cbE 2 (wd_817 hE) (wd_116 hE) (wd_814 hE) rfl rfl (by decide +kernel) ⟨Nat.le_of_ble_eq_true rfl, Nat.le_of_ble_eq_true rfl⟩, (wd_815 hE), (wd_816 hE)⟩ ⟨PT.blind, th_recv hK hP (wt_X11_0 hWT ha0).1 he2 rfl, (th_pre (av := [.ref (gR G a0 0), .int v1, .ref (gR G a0 10)]) trivial hK hP hok hnd hWT hE)⟩ rfl rfl hl.1 rfl (lv_room (Nat.le_of_ble_eq_true rfl)) dX11_net_20 ⟨Nat.le_of_ble_eq_true rfl, Nat.le_of_ble_eq_true rfl⟩) (fun r6 f6 H locs hr6 hok hP hS => ?_)
    refine lv_if_ne (tgt := 32) hx hb dX11_net_23 (by decide) (fun c7 => ?_) (fun c7 => ?_)
    · refine lv_iconst (v := 0) hx hb dX11_net_32 (by decide) ?_
      refine lv_istore_n (lv' := [(3, .int 0), (0, .ref a0), (1, .int v1), (2, .int v2)]) hx hb dX11_net_33 rfl hl (by decide) rfl (fun ls hl => ?_)
      refine lv_iconst (v := 0) hx hb dX11_net_34 (by decide) ?_
      refine lv_istore (lv' := [(4, .int 0), (3, .int 0), (0, .ref a0), (1, .int v1), (2, .int v2)]) hx hb dX11_net_35 hl (by decide) rfl (fun ls hl => ?_)
      refine w_ind (I := fun n f H locs ls => OKT G cs tt mm f ∧ va_P (dC, dI) vwCl (va_pl (gL G) f) H ∧ va_S (AT G s.heap.size) s.heap H locs ∧ ∃ (w3_8 : Int32) (w4_8 : Int32), n = (2147483647 - w4_8.toInt).toNat ∧ 0 ≤ w4_8 ∧ lv_has ls 6 [(0, .ref a0), (1, .int v1), (2, .int v2), (3, .int w3_8), (4, .int w4_8)]) (fun n f8 H locs ls hI ih8 => ?_) _ f6 _ _ _ ⟨hok, hP, hS, 0, 0, rfl, (by first | omega | (simp only [i_lt, i_le, i_eq, ti_m9, ti_m1, ti_0, ti_1, ti_2, ti_3, ti_4, ti_5, ti_6, ti_7, ti_9, ti_12, ti_20, ti_99, ti_700, ti_24, ti_156, ti_72, ti_8, ti_60, ti_543, ti_10, ti_33, ti_51, ti_178, ti_119, ti_111, ti_114, ti_100, ti_32, ti_62, ti_59, ti_48, ti_701, ti_97, ti_122, ti_57, ti_73, ti_128, ti_61] at c4 c7 ⊢; omega)), lv_sub hl [2, 3, 4, 1, 0] rfl⟩
      obtain ⟨hok, hP, hS, w3_8, w4_8, hmu8, hlo8, hl⟩ := hI
      subst hmu8
      refine lv_iload hx hb dX11_net_37 (lv_at hl 4 rfl) ?_
      refine lv_aload_n hx hb dX11_net_39 rfl (lv_at hl 0 rfl) ?_
      obtain ⟨y5_9, hy4_9, hy7_9, he9⟩ := ok_X11 hok ha0
      refine th_get hx hb (ly_X11 hE) hown hK hP ha0.1 he9 rfl 10 (by decide) (wd_369 hE) (fun _ h9 => h9) rfl dX11_net_40 ?_
      obtain ⟨y2_10, y3_10, hy3_10, he10⟩ := ok_X10 hok (wt_X11_10 hWT ha0)
      refine vp_callSi (va_Run.run (va_runV (As := []) (rest := [.int w4_8]) ⟨hx, hb, hml, hown, noTs⟩ (t_X10_size l dC dI H.size G cs tt mm (gR G a0 10) ((wt_X11_10 hWT ha0)) y2_10 y3_10) ⟨cbE 0 (wd_666 hE) (wd_120 hE) (wd_834 hE) rfl rfl (by decide +kernel) ⟨Nat.le_of_ble_eq_true rfl, Nat.le_of_ble_eq_true rfl⟩, (wd_664 hE), (wd_665 hE)⟩ ⟨PT.blind, th_recv hK hP (wt_X11_10 hWT ha0).1 he10 rfl, (th_pre (av := [.ref (gR G a0 10)]) he10 hK hP hok hnd hWT hE)⟩ rfl rfl hl.1 rfl (lv_room (Nat.le_of_ble_eq_true rfl)) dX11_net_43 ⟨Nat.le_of_ble_eq_true rfl, Nat.le_of_ble_eq_true rfl⟩)) (fun r11 hr11 => ?_)
      subst hr11
      have nt12 : (nI y3_10).toInt = ((y3_10 : Nat) : Int) := nI_toInt (by omega)
      refine lv_icmp_ge (tgt := 90) hx hb dX11_net_46 (by decide) (fun c13 => ?_) (fun c13 => ?_)
      · refine lv_aload_n hx hb dX11_net_90 rfl (lv_at hl 0 rfl) ?_
        refine lv_iload_n hx hb dX11_net_91 rfl (lv_at hl 3 rfl) ?_
        refine tc_i hAL hS hA (va_runV (As := [.int w3_8]) (rest := []) ⟨hx, hb, hml, hown, noTs⟩ (t_X11_answer l dC dI H.size G cs tt mm a0 ha0 w3_8) ⟨cbE 1 (wd_748 hE) (wd_115 hE) (wd_745 hE) rfl rfl (by decide +kernel) ⟨Nat.le_of_ble_eq_true rfl, Nat.le_of_ble_eq_true rfl⟩, (wd_747 hE), (wd_23 hE)⟩ ⟨PT.blind, th_recv hK hP ha0.1 he9 rfl, (th_pre (av := [.ref a0, .int w3_8]) trivial hK hP hok hnd hWT hE)⟩ rfl rfl hl.1 rfl (lv_room (Nat.le_of_ble_eq_true rfl)) dX11_net_92 ⟨Nat.le_of_ble_eq_true rfl, Nat.le_of_ble_eq_true rfl⟩) (fun r14 f14 H locs hr14 hok hP hS => ?_)
        refine W.eq (g2 := F0 m 95 ls [.int w3_8]) (by rw [hr14]) ?_
        exact W.iret (v := w3_8) hx hb hr (fun t ht hW => ⟨⟨w3_8, f14, rfl, trivial, hok, by rw [ht]; exact hP⟩, hS.F ht⟩) hS.2.2 dX11_net_95
      · refine lv_aload_n hx hb dX11_net_49 rfl (lv_at hl 0 rfl) ?_
        refine th_get hx hb (ly_X11 hE) hown hK hP ha0.1 he9 rfl 10 (by decide) (wd_369 hE) (fun _ h9 => h9) rfl dX11_net_50 ?_
        refine lv_iload hx hb dX11_net_53 (lv_at hl 4 rfl) ?_
        refine vp_callSi (va_Run.run (va_runV (As := [.int w4_8]) (rest := []) ⟨hx, hb, hml, hown, noTs⟩ (t_X10_stepAt l dC dI H.size G cs tt mm (gR G a0 10) ((wt_X11_10 hWT ha0)) w4_8) ⟨cbE 1 (wd_721 hE) (wd_120 hE) (wd_894 hE) rfl rfl (by decide +kernel) ⟨Nat.le_of_ble_eq_true rfl, Nat.le_of_ble_eq_true rfl⟩, (wd_719 hE), (wd_720 hE)⟩ ⟨PT.blind, th_recv hK hP (wt_X11_10 hWT ha0).1 he10 rfl, (th_pre (av := [.ref (gR G a0 10), .int w4_8]) trivial hK hP hok hnd hWT hE)⟩ rfl rfl hl.1 rfl (lv_room (Nat.le_of_ble_eq_true rfl)) dX11_net_55 ⟨Nat.le_of_ble_eq_true rfl, Nat.le_of_ble_eq_true rfl⟩)) (fun r15 hr15 => ?_)
        refine lv_istore (lv' := [(5, .int r15), (0, .ref a0), (1, .int v1), (2, .int v2), (3, .int w3_8), (4, .int w4_8)]) hx hb dX11_net_58 hl (by decide) rfl (fun ls hl => ?_)
        refine lv_iload hx hb dX11_net_60 (lv_at hl 0 rfl) ?_
        refine lv_iconst (v := 1) hx hb dX11_net_62 (by decide) ?_
        refine lv_ishr hx hb dX11_net_63 ?_
        refine lv_topi (fun x16 _ => ?_)
        refine lv_iload_n hx hb dX11_net_64 rfl (lv_at hl 3 rfl) ?_
        refine lv_icmp_ne (tgt := 84) hx hb dX11_net_65 (by decide) (fun c17 => ?_) (fun c17 => ?_)
        · obtain ⟨z18, ez18⟩ : ∃ z : Int32, z = w4_8 + 1 := ⟨_, rfl⟩
          refine lv_iinc (v := z18) (lv' := [(4, .int z18), (5, .int r15), (0, .ref a0), (1, .int v1), (2, .int v2), (3, .int w3_8)]) hx hb dX11_net_84 hl (k := 5) rfl (by rw [ez18]; rfl) (by decide) rfl (fun ls hl => ?_)
          have ic18 : z18.toInt = w4_8.toInt + 1 := by rw [ez18]; exact ic_up (by have := i_rng r3; have := i_rng r6; have := i_rng w4_8; have := i_rng (nI y3_10); have := i_rng x16; have := i_rng v2; simp only [i_lt, i_le, i_eq, ti_m9, ti_m1, ti_0, ti_1, ti_2, ti_3, ti_4, ti_5, ti_6, ti_7, ti_9, ti_12, ti_20, ti_99, ti_700, ti_24, ti_156, ti_72, ti_8, ti_60, ti_543, ti_10, ti_33, ti_51, ti_178, ti_119, ti_111, ti_114, ti_100, ti_32, ti_62, ti_59, ti_48, ti_701, ti_97, ti_122, ti_57, ti_73, ti_128, ti_61, nt12] at c4 c7 hlo8 c13 c17 ⊢; omega)
          refine lv_goto (tgt := 37) hx hb dX11_net_87 (by decide) ?_
          exact ih8 _ f8 _ _ _ (by have := i_rng z18; first | omega | (simp only [i_lt, i_le, i_eq, ti_m9, ti_m1, ti_0, ti_1, ti_2, ti_3, ti_4, ti_5, ti_6, ti_7, ti_9, ti_12, ti_20, ti_99, ti_700, ti_24, ti_156, ti_72, ti_8, ti_60, ti_543, ti_10, ti_33, ti_51, ti_178, ti_119, ti_111, ti_114, ti_100, ti_32, ti_62, ti_59, ti_48, ti_701, ti_97, ti_122, ti_57, ti_73, ti_128, ti_61, nt12, ic18] at c4 c7 hlo8 c13 c17 ic18 ⊢; omega)) ⟨hok, hP, hS, w3_8, z18, rfl, (by first | omega | (simp only [i_lt, i_le, i_eq, ti_m9, ti_m1, ti_0, ti_1, ti_2, ti_3, ti_4, ti_5, ti_6, ti_7, ti_9, ti_12, ti_20, ti_99, ti_700, ti_24, ti_156, ti_72, ti_8, ti_60, ti_543, ti_10, ti_33, ti_51, ti_178, ti_119, ti_111, ti_114, ti_100, ti_32, ti_62, ti_59, ti_48, ti_701, ti_97, ti_122, ti_57, ti_73, ti_128, ti_61, nt12, ic18] at c4 c7 hlo8 c13 c17 ⊢; omega)), lv_sub hl [2, 3, 4, 5, 0] rfl⟩
        · refine lv_iload_n hx hb dX11_net_68 rfl (lv_at hl 4 rfl) ?_
          refine lv_iload hx hb dX11_net_69 (lv_at hl 0 rfl) ?_
          refine vp_callSi (va_Run.run (va_runS (As := [.int r15]) (rest := [.int w3_8]) ⟨hx, hb, hml, hown, noTs⟩ (t_X11_isBackwards l dC dI H.size G cs tt mm r15) ⟨cbE 1 (wd_680 hE) (wd_115 hE) (wd_1190 hE) rfl rfl (by decide +kernel) ⟨Nat.le_of_ble_eq_true rfl, Nat.le_of_ble_eq_true rfl⟩, (wd_679 hE)⟩ ⟨PT.blind, (th_pre (av := [.int r15]) trivial hK hP hok hnd hWT hE)⟩ rfl rfl hl.1 rfl (lv_room (Nat.le_of_ble_eq_true rfl)) dX11_net_71 ⟨Nat.le_of_ble_eq_true rfl, Nat.le_of_ble_eq_true rfl⟩)) (fun r19 hr19 => ?_)
          refine lv_if_eq (tgt := 81) hx hb dX11_net_74 (by decide) (fun c20 => ?_) (fun c20 => ?_)
          · refine lv_iconst (v := 1) hx hb dX11_net_81 (by decide) ?_
            refine lv_iadd hx hb dX11_net_82 ?_
            refine lv_topi (fun x21 ex21 => ?_)
            refine lv_istore_n (lv' := [(3, .int x21), (5, .int r15), (0, .ref a0), (1, .int v1), (2, .int v2), (4, .int w4_8)]) hx hb dX11_net_83 rfl hl (by decide) rfl (fun ls hl => ?_)
            obtain ⟨z22, ez22⟩ : ∃ z : Int32, z = w4_8 + 1 := ⟨_, rfl⟩
            refine lv_iinc (v := z22) (lv' := [(4, .int z22), (3, .int x21), (5, .int r15), (0, .ref a0), (1, .int v1), (2, .int v2)]) hx hb dX11_net_84 hl (k := 5) rfl (by rw [ez22]; rfl) (by decide) rfl (fun ls hl => ?_)
            have ic22 : z22.toInt = w4_8.toInt + 1 := by rw [ez22]; exact ic_up (by have := i_rng r3; have := i_rng r6; have := i_rng w4_8; have := i_rng (nI y3_10); have := i_rng x16; have := i_rng v2; have := i_rng r19; simp only [i_lt, i_le, i_eq, ti_m9, ti_m1, ti_0, ti_1, ti_2, ti_3, ti_4, ti_5, ti_6, ti_7, ti_9, ti_12, ti_20, ti_99, ti_700, ti_24, ti_156, ti_72, ti_8, ti_60, ti_543, ti_10, ti_33, ti_51, ti_178, ti_119, ti_111, ti_114, ti_100, ti_32, ti_62, ti_59, ti_48, ti_701, ti_97, ti_122, ti_57, ti_73, ti_128, ti_61, nt12] at c4 c7 hlo8 c13 c17 c20 ⊢; omega)
            refine lv_goto (tgt := 37) hx hb dX11_net_87 (by decide) ?_
            exact ih8 _ f8 _ _ _ (by have := i_rng z22; first | omega | (simp only [i_lt, i_le, i_eq, ti_m9, ti_m1, ti_0, ti_1, ti_2, ti_3, ti_4, ti_5, ti_6, ti_7, ti_9, ti_12, ti_20, ti_99, ti_700, ti_24, ti_156, ti_72, ti_8, ti_60, ti_543, ti_10, ti_33, ti_51, ti_178, ti_119, ti_111, ti_114, ti_100, ti_32, ti_62, ti_59, ti_48, ti_701, ti_97, ti_122, ti_57, ti_73, ti_128, ti_61, nt12, ic22] at c4 c7 hlo8 c13 c17 c20 ic22 ⊢; omega)) ⟨hok, hP, hS, x21, z22, rfl, (by first | omega | (simp only [i_lt, i_le, i_eq, ti_m9, ti_m1, ti_0, ti_1, ti_2, ti_3, ti_4, ti_5, ti_6, ti_7, ti_9, ti_12, ti_20, ti_99, ti_700, ti_24, ti_156, ti_72, ti_8, ti_60, ti_543, ti_10, ti_33, ti_51, ti_178, ti_119, ti_111, ti_114, ti_100, ti_32, ti_62, ti_59, ti_48, ti_701, ti_97, ti_122, ti_57, ti_73, ti_128, ti_61, nt12, ic22] at c4 c7 hlo8 c13 c17 c20 ⊢; omega)), lv_sub hl [3, 4, 5, 1, 0] rfl⟩
          · refine lv_iconst (v := -1) hx hb dX11_net_77 (by decide) ?_
            refine lv_goto (tgt := 82) hx hb dX11_net_78 (by decide) ?_
            refine lv_iadd hx hb dX11_net_82 ?_
            refine lv_topi (fun x23 ex23 => ?_)
            refine lv_istore_n (lv' := [(3, .int x23), (5, .int r15), (0, .ref a0), (1, .int v1), (2, .int v2), (4, .int w4_8)]) hx hb dX11_net_83 rfl hl (by decide) rfl (fun ls hl => ?_)
            obtain ⟨z24, ez24⟩ : ∃ z : Int32, z = w4_8 + 1 := ⟨_, rfl⟩
            refine lv_iinc (v := z24) (lv' := [(4, .int z24), (3, .int x23), (5, .int r15), (0, .ref a0), (1, .int v1), (2, .int v2)]) hx hb dX11_net_84 hl (k := 5) rfl (by rw [ez24]; rfl) (by decide) rfl (fun ls hl => ?_)
            have ic24 : z24.toInt = w4_8.toInt + 1 := by rw [ez24]; exact ic_up (by have := i_rng r3; have := i_rng r6; have := i_rng w4_8; have := i_rng (nI y3_10); have := i_rng x16; have := i_rng v2; have := i_rng r19; simp only [i_lt, i_le, i_eq, ti_m9, ti_m1, ti_0, ti_1, ti_2, ti_3, ti_4, ti_5, ti_6, ti_7, ti_9, ti_12, ti_20, ti_99, ti_700, ti_24, ti_156, ti_72, ti_8, ti_60, ti_543, ti_10, ti_33, ti_51, ti_178, ti_119, ti_111, ti_114, ti_100, ti_32, ti_62, ti_59, ti_48, ti_701, ti_97, ti_122, ti_57, ti_73, ti_128, ti_61, nt12] at c4 c7 hlo8 c13 c17 c20 ⊢; omega)
            refine lv_goto (tgt := 37) hx hb dX11_net_87 (by decide) ?_
            exact ih8 _ f8 _ _ _ (by have := i_rng z24; first | omega | (simp only [i_lt, i_le, i_eq, ti_m9, ti_m1, ti_0, ti_1, ti_2, ti_3, ti_4, ti_5, ti_6, ti_7, ti_9, ti_12, ti_20, ti_99, ti_700, ti_24, ti_156, ti_72, ti_8, ti_60, ti_543, ti_10, ti_33, ti_51, ti_178, ti_119, ti_111, ti_114, ti_100, ti_32, ti_62, ti_59, ti_48, ti_701, ti_97, ti_122, ti_57, ti_73, ti_128, ti_61, nt12, ic24] at c4 c7 hlo8 c13 c17 c20 ic24 ⊢; omega)) ⟨hok, hP, hS, x23, z24, rfl, (by first | omega | (simp only [i_lt, i_le, i_eq, ti_m9, ti_m1, ti_0, ti_1, ti_2, ti_3, ti_4, ti_5, ti_6, ti_7, ti_9, ti_12, ti_20, ti_99, ti_700, ti_24, ti_156, ti_72, ti_8, ti_60, ti_543, ti_10, ti_33, ti_51, ti_178, ti_119, ti_111, ti_114, ti_100, ti_32, ti_62, ti_59, ti_48, ti_701, ti_97, ti_122, ti_57, ti_73, ti_128, ti_61, nt12, ic24] at c4 c7 hlo8 c13 c17 c20 ⊢; omega)), lv_sub hl [3, 4, 5, 1, 0] rfl⟩
    · refine lv_aload_n hx hb dX11_net_26 rfl (lv_at hl 0 rfl) ?_
      refine lv_iconst (v := 2) hx hb dX11_net_27 (by decide) ?_
      obtain ⟨y5_25, hy4_25, hy7_25, he25⟩ := ok_X11 hok ha0
      refine tc_i hAL hS hA (va_runV (As := [.int 2]) (rest := []) ⟨hx, hb, hml, hown, noTs⟩ (t_X11_fail l dC dI H.size G cs tt mm a0 ha0 2) ⟨cbE 1 (wd_436 hE) (wd_115 hE) (wd_433 hE) rfl rfl (by decide +kernel) ⟨Nat.le_of_ble_eq_true rfl, Nat.le_of_ble_eq_true rfl⟩, (wd_435 hE), (wd_1 hE)⟩ ⟨PT.blind, th_recv hK hP ha0.1 he25 rfl, (th_pre (av := [.ref a0, .int 2]) trivial hK hP hok hnd hWT hE)⟩ rfl rfl hl.1 rfl (lv_room (Nat.le_of_ble_eq_true rfl)) dX11_net_28 ⟨Nat.le_of_ble_eq_true rfl, Nat.le_of_ble_eq_true rfl⟩) (fun r26 f26 H locs hr26 hok hP hS => ?_)
      subst hr26
      exact W.iret (v := -1) hx hb hr (fun t ht hW => ⟨⟨-1, f26, rfl, trivial, hok, by rw [ht]; exact hP⟩, hS.F ht⟩) hS.2.2 dX11_net_31

set_option maxHeartbeats 4000000 in
set_option maxRecDepth 100000 in
theorem t_X11_central (l : Launch) (dC : Nat → ClassId) (dI : Nat → Nat → Nat) (sz : Nat) (G : GT) (cs : Nat → ClassId) (tt mm : Nat) (a0 : Nat) (ha0 : Ty G a0 11) (v1 : Int32) (v2 : Int32) : Met l yX11_central [.code yX11_central cX11_central 5 (some .int)] ({ frames := 4, cells := 0, slots := 0, locals := 160 }) (PT [.ref a0, .int v1, .int v2] sz dC dI G cs tt mm (fun _ => True)) (va_Qi (fun (r : Int32) (u : Nat → va_E) => True) (BT dC dI G cs tt mm) (AT G sz)) 0 0 (AT G sz) := by
  refine Met.ofW (cc := cX11_central) (maxL := 5) (ret := (some .int)) (by decide) rfl ?_
  intro p e s m args below meth c s₁ B hml hv
  obtain ⟨rfl, hsz, ⟨f0, hok, hP, hX⟩, hK, hnd, hWT, hE⟩ := hv
  have hx := B.exec
  have hb := B.bytes
  have hr := B.returns
  have hown : s.vm.findClass RX11 = some m.cls := findClass_of_methodNamed B.named
  have hlocks := B.notSynchronized
  subst hsz
  have hAL : ∀ a, a ∈ gL G → AT G s.heap.size a := fun a h => Or.inl h
  have hA : ∀ q : Nat, s.heap.size ≤ q → AT G s.heap.size q := fun q h => Or.inr h
  have hS : va_S (AT G s.heap.size) s.heap s.heap [] := va_S.rf
  have hl := lv_entry ([.ref a0, .int v1, .int v2]) (n := 5) (Nat.le_of_ble_eq_true rfl)
  rw [lg_entry_eq]
  generalize (lg_sl ([.ref a0, .int v1, .int v2]) ++ List.replicate (5 - (lg_sl ([.ref a0, .int v1, .int v2])).length) Slot.unset).toArray = ls at hl ⊢
  have hl : lv_has ls 5 [(0, .ref a0), (1, .int v1), (2, .int v2)] := hl
  refine lv_aload_n hx hb dX11_central_0 rfl (lv_at hl 0 rfl) ?_
  obtain ⟨y5_1, hy4_1, hy7_1, he1⟩ := ok_X11 hok ha0
  refine th_get hx hb (ly_X11 hE) hown hK hP ha0.1 he1 rfl 0 (by decide) (wd_359 hE) (fun _ h9 => h9) rfl dX11_central_1 ?_
  refine lv_iload_n hx hb dX11_central_4 rfl (lv_at hl 1 rfl) ?_
  have he2 := ok_X7 hok (wt_X11_0 hWT ha0)
  refine vp_callSi (va_Run.run (va_runV (As := [.int v1]) (rest := []) ⟨hx, hb, hml, hown, noTs⟩ (t_X7_hasVertex l dC dI s.heap.size G cs tt mm (gR G a0 0) ((wt_X11_0 hWT ha0)) v1) ⟨cbE 1 (wd_606 hE) (wd_116 hE) (wd_796 hE) rfl rfl (by decide +kernel) ⟨Nat.le_of_ble_eq_true rfl, Nat.le_of_ble_eq_true rfl⟩, (wd_604 hE), (wd_605 hE)⟩ ⟨PT.blind, th_recv hK hP (wt_X11_0 hWT ha0).1 he2 rfl, (th_pre (av := [.ref (gR G a0 0), .int v1]) trivial hK hP hok hnd hWT hE)⟩ rfl rfl hl.1 rfl (lv_room (Nat.le_of_ble_eq_true rfl)) dX11_central_5 ⟨Nat.le_of_ble_eq_true rfl, Nat.le_of_ble_eq_true rfl⟩)) (fun r3 hr3 => ?_)
  refine lv_istore_n (lv' := [(3, .int r3), (0, .ref a0), (1, .int v1), (2, .int v2)]) hx hb dX11_central_8 rfl hl (by decide) rfl (fun ls hl => ?_)
  refine lv_iload_n hx hb dX11_central_9 rfl (lv_at hl 3 rfl) ?_
  refine lv_if_lt (tgt := 29) hx hb dX11_central_10 (by decide) (fun c4 => ?_) (fun c4 => ?_)
  · refine lv_aload_n hx hb dX11_central_29 rfl (lv_at hl 1 rfl) ?_
    refine lv_iconst (v := 1) hx hb dX11_central_30 (by decide) ?_
    refine tc_i hAL hS hA (va_runV (As := [.int 1]) (rest := []) ⟨hx, hb, hml, hown, noTs⟩ (t_X11_fail l dC dI s.heap.size G cs tt mm a0 ha0 1) ⟨cbE 1 (wd_436 hE) (wd_115 hE) (wd_433 hE) rfl rfl (by decide +kernel) ⟨Nat.le_of_ble_eq_true rfl, Nat.le_of_ble_eq_true rfl⟩, (wd_435 hE), (wd_1 hE)⟩ ⟨PT.blind, th_recv hK hP ha0.1 he1 rfl, (th_pre (av := [.ref a0, .int 1]) trivial hK hP hok hnd hWT hE)⟩ rfl rfl hl.1 rfl (lv_room (Nat.le_of_ble_eq_true rfl)) dX11_central_31 ⟨Nat.le_of_ble_eq_true rfl, Nat.le_of_ble_eq_true rfl⟩) (fun r5 f5 H locs hr5 hok hP hS => ?_)
    subst hr5
    exact W.iret (v := -1) hx hb hr (fun t ht hW => ⟨⟨-1, f5, rfl, trivial, hok, by rw [ht]; exact hP⟩, hS.F ht⟩) hS.2.2 dX11_central_34
  · refine lv_iload_n hx hb dX11_central_13 rfl (lv_at hl 0 rfl) ?_
    refine lv_if_eq (tgt := 35) hx hb dX11_central_14 (by decide) (fun c6 => ?_) (fun c6 => ?_)
    · refine lv_iload_n hx hb dX11_central_35 rfl (lv_at hl 0 rfl) ?_
      refine lv_if_ne (tgt := 45) hx hb dX11_central_36 (by decide) (fun c7 => False.elim (by simp only [i_lt, i_le, i_eq, ti_m9, ti_m1, ti_0, ti_1, ti_2, ti_3, ti_4, ti_5, ti_6, ti_7, ti_9, ti_12, ti_20, ti_99, ti_700, ti_24, ti_156, ti_72, ti_8, ti_60, ti_543, ti_10, ti_33, ti_51, ti_178, ti_119, ti_111, ti_114, ti_100, ti_32, ti_62, ti_59, ti_48, ti_701, ti_97, ti_122, ti_57, ti_73, ti_128, ti_61] at c4 c6 c7; omega)) (fun c7 => ?_)
      refine lv_aload_n hx hb dX11_central_39 rfl (lv_at hl 1 rfl) ?_
      refine lv_iconst (v := 2) hx hb dX11_central_40 (by decide) ?_
      refine tc_i hAL hS hA (va_runV (As := [.int 2]) (rest := []) ⟨hx, hb, hml, hown, noTs⟩ (t_X11_fail l dC dI s.heap.size G cs tt mm a0 ha0 2) ⟨cbE 1 (wd_436 hE) (wd_115 hE) (wd_433 hE) rfl rfl (by decide +kernel) ⟨Nat.le_of_ble_eq_true rfl, Nat.le_of_ble_eq_true rfl⟩, (wd_435 hE), (wd_1 hE)⟩ ⟨PT.blind, th_recv hK hP ha0.1 he1 rfl, (th_pre (av := [.ref a0, .int 2]) trivial hK hP hok hnd hWT hE)⟩ rfl rfl hl.1 rfl (lv_room (Nat.le_of_ble_eq_true rfl)) dX11_central_41 ⟨Nat.le_of_ble_eq_true rfl, Nat.le_of_ble_eq_true rfl⟩) (fun r8 f8 H locs hr8 hok hP hS => ?_)
      subst hr8
      exact W.iret (v := -1) hx hb hr (fun t ht hW => ⟨⟨-1, f8, rfl, trivial, hok, by rw [ht]; exact hP⟩, hS.F ht⟩) hS.2.2 dX11_central_44
    · refine lv_iload_n hx hb dX11_central_17 rfl (lv_at hl 3 rfl) ?_
      refine lv_aload_n hx hb dX11_central_18 rfl (lv_at hl 1 rfl) ?_
      refine th_get hx hb (ly_X11 hE) hown hK hP ha0.1 he1 rfl 0 (by decide) (wd_359 hE) (fun _ h9 => h9) rfl dX11_central_19 ?_
      refine lv_iload_n hx hb dX11_central_22 rfl (lv_at hl 2 rfl) ?_
      refine vp_callSi (va_Run.run (va_runV (As := [.int v1]) (rest := [.int v2]) ⟨hx, hb, hml, hown, noTs⟩ (t_X7_orderAt l dC dI s.heap.size G cs tt mm (gR G a0 0) ((wt_X11_0 hWT ha0)) v1) ⟨cbE 1 (wd_614 hE) (wd_116 hE) (wd_797 hE) rfl rfl (by decide +kernel) ⟨Nat.le_of_ble_eq_true rfl, Nat.le_of_ble_eq_true rfl⟩, (wd_612 hE), (wd_613 hE)⟩ ⟨PT.blind, th_recv hK hP (wt_X11_0 hWT ha0).1 he2 rfl, (th_pre (av := [.ref (gR G a0 0), .int v1]) trivial hK hP hok hnd hWT hE)⟩ rfl rfl hl.1 rfl (lv_room (Nat.le_of_ble_eq_true rfl)) dX11_central_23 ⟨Nat.le_of_ble_eq_true rfl, Nat.le_of_ble_eq_true rfl⟩)) (fun r9 hr9 => ?_)
      refine lv_icmp_lt (tgt := 35) hx hb dX11_central_26 (by decide) (fun c10 => ?_) (fun c10 => ?_)
      · refine lv_iload_n hx hb dX11_central_35 rfl (lv_at hl 0 rfl) ?_
        refine lv_if_ne (tgt := 45) hx hb dX11_central_36 (by decide) (fun c11 => ?_) (fun c11 => ?_)
        · refine lv_iload_n hx hb dX11_central_45 rfl (lv_at hl 3 rfl) ?_
          refine lv_aload_n hx hb dX11_central_46 rfl (lv_at hl 1 rfl) ?_
          refine th_get hx hb (ly_X11 hE) hown hK hP ha0.1 he1 rfl 0 (by decide) (wd_359 hE) (fun _ h9 => h9) rfl dX11_central_47 ?_
          refine lv_iload_n hx hb dX11_central_50 rfl (lv_at hl 2 rfl) ?_
          refine vp_callSi (va_Run.run (va_runV (As := [.int v1]) (rest := [.int v2]) ⟨hx, hb, hml, hown, noTs⟩ (t_X7_orderAt l dC dI s.heap.size G cs tt mm (gR G a0 0) ((wt_X11_0 hWT ha0)) v1) ⟨cbE 1 (wd_614 hE) (wd_116 hE) (wd_797 hE) rfl rfl (by decide +kernel) ⟨Nat.le_of_ble_eq_true rfl, Nat.le_of_ble_eq_true rfl⟩, (wd_612 hE), (wd_613 hE)⟩ ⟨PT.blind, th_recv hK hP (wt_X11_0 hWT ha0).1 he2 rfl, (th_pre (av := [.ref (gR G a0 0), .int v1]) trivial hK hP hok hnd hWT hE)⟩ rfl rfl hl.1 rfl (lv_room (Nat.le_of_ble_eq_true rfl)) dX11_central_51 ⟨Nat.le_of_ble_eq_true rfl, Nat.le_of_ble_eq_true rfl⟩)) (fun r12 hr12 => ?_)
          refine vp_callSi (va_Run.run (va_runS (As := [.int v2, .int r12]) (rest := []) ⟨hx, hb, hml, hown, noTs⟩ (t_X11_orderIn l dC dI s.heap.size G cs tt mm v2 r12) ⟨cbE 2 (wd_1086 hE) (wd_115 hE) (wd_1084 hE) rfl rfl (by decide +kernel) ⟨Nat.le_of_ble_eq_true rfl, Nat.le_of_ble_eq_true rfl⟩, (wd_1085 hE)⟩ ⟨PT.blind, (th_pre (av := [.int v2, .int r12]) trivial hK hP hok hnd hWT hE)⟩ rfl rfl hl.1 rfl (lv_room (Nat.le_of_ble_eq_true rfl)) dX11_central_54 ⟨Nat.le_of_ble_eq_true rfl, Nat.le_of_ble_eq_true rfl⟩)) (fun r13 hr13 => ?_)
          refine lv_istore (lv' := [(4, .int r13), (3, .int r3), (0, .ref a0), (1, .int v1), (2, .int v2)]) hx hb dX11_central_57 hl (by decide) rfl (fun ls hl => ?_)
          refine lv_aload_n hx hb dX11_central_59 rfl (lv_at hl 2 rfl) ?_
          refine lv_aload_n hx hb dX11_central_60 rfl (lv_at hl 2 rfl) ?_
          refine th_get hx hb (ly_X11 hE) hown hK hP ha0.1 he1 rfl 17 (by decide) (wd_376 hE) (fun _ h9 => h9) rfl dX11_central_61 ?_
          refine lv_aload_n hx hb dX11_central_64 rfl (lv_at hl 2 rfl) ?_
          refine th_get hx hb (ly_X11 hE) hown hK hP ha0.1 he1 rfl 0 (by decide) (wd_359 hE) (fun _ h9 => h9) rfl dX11_central_65 ?_
          refine lv_iload_n hx hb dX11_central_68 rfl (lv_at hl 3 rfl) ?_
          obtain ⟨y1_14, y2_14, he14⟩ := ok_X6 hok (wt_X11_17 hWT ha0)
          refine tc_i hAL hS hA (va_runV (As := [.ref (gR G a0 0), .int v1]) (rest := [.ref a0]) ⟨hx, hb, hml, hown, noTs⟩ (t_X6_centralOrder l dC dI s.heap.size G cs tt mm (gR G a0 17) ((wt_X11_17 hWT ha0)) (gR G a0 0) ((wt_X11_0 hWT ha0)) v1) ⟨cbE 2 (wd_1198 hE) (wd_124 hE) (wd_1195 hE) rfl rfl (by decide +kernel) ⟨Nat.le_of_ble_eq_true rfl, Nat.le_of_ble_eq_true rfl⟩, (wd_1196 hE), (wd_1197 hE)⟩ ⟨PT.blind, th_recv hK hP (wt_X11_17 hWT ha0).1 he14 rfl, (th_pre (av := [.ref (gR G a0 17), .ref (gR G a0 0), .int v1]) trivial hK hP hok hnd hWT hE)⟩ rfl rfl hl.1 rfl (lv_room (Nat.le_of_ble_eq_true rfl)) dX11_central_69 ⟨Nat.le_of_ble_eq_true rfl, Nat.le_of_ble_eq_true rfl⟩) (fun r15 f15 H locs hr15 hok hP hS => ?_)
          refine lv_iload hx hb dX11_central_72 (lv_at hl 0 rfl) ?_
          refine vp_callSi (va_Run.run (va_runS (As := [.int r15, .int r13]) (rest := [.ref a0]) ⟨hx, hb, hml, hown, noTs⟩ (t_X11_rest l dC dI H.size G cs tt mm r15 r13) ⟨cbE 2 (wd_617 hE) (wd_115 hE) (wd_900 hE) rfl rfl (by decide +kernel) ⟨Nat.le_of_ble_eq_true rfl, Nat.le_of_ble_eq_true rfl⟩, (wd_616 hE)⟩ ⟨PT.blind, (th_pre (av := [.int r15, .int r13]) trivial hK hP hok hnd hWT hE)⟩ rfl rfl hl.1 rfl (lv_room (Nat.le_of_ble_eq_true rfl)) dX11_central_74 ⟨Nat.le_of_ble_eq_true rfl, Nat.le_of_ble_eq_true rfl⟩)) (fun r16 hr16 => ?_)
          obtain ⟨hra16, hrb16⟩ := hr16
          refine lv_if_ne (tgt := 84) hx hb dX11_central_77 (by decide) (fun c17 => ?_) (fun c17 => ?_)
          · refine lv_iconst (v := 0) hx hb dX11_central_84 (by decide) ?_
            refine vp_callSi (va_Run.run (va_runS (As := [.int 0]) (rest := [.ref a0]) ⟨hx, hb, hml, hown, noTs⟩ (t_X11_bit l dC dI H.size G cs tt mm 0) ⟨cbE 1 (wd_669 hE) (wd_115 hE) (wd_884 hE) rfl rfl (by decide +kernel) ⟨Nat.le_of_ble_eq_true rfl, Nat.le_of_ble_eq_true rfl⟩, (wd_668 hE)⟩ ⟨PT.blind, (th_pre (av := [.int 0]) trivial hK hP hok hnd hWT hE)⟩ rfl rfl hl.1 rfl (lv_room (Nat.le_of_ble_eq_true rfl)) dX11_central_85 ⟨Nat.le_of_ble_eq_true rfl, Nat.le_of_ble_eq_true rfl⟩)) (fun r18 hr18 => ?_)
            obtain ⟨y5_19, hy4_19, hy7_19, he19⟩ := ok_X11 hok ha0
            refine tc_i hAL hS hA (va_runV (As := [.int r18]) (rest := []) ⟨hx, hb, hml, hown, noTs⟩ (t_X11_answer l dC dI H.size G cs tt mm a0 ha0 r18) ⟨cbE 1 (wd_748 hE) (wd_115 hE) (wd_745 hE) rfl rfl (by decide +kernel) ⟨Nat.le_of_ble_eq_true rfl, Nat.le_of_ble_eq_true rfl⟩, (wd_747 hE), (wd_23 hE)⟩ ⟨PT.blind, th_recv hK hP ha0.1 he19 rfl, (th_pre (av := [.ref a0, .int r18]) trivial hK hP hok hnd hWT hE)⟩ rfl rfl hl.1 rfl (lv_room (Nat.le_of_ble_eq_true rfl)) dX11_central_88 ⟨Nat.le_of_ble_eq_true rfl, Nat.le_of_ble_eq_true rfl⟩) (fun r20 f20 H locs hr20 hok hP hS => ?_)
            refine W.eq (g2 := F0 m 91 ls [.int r18]) (by rw [hr20]) ?_
            exact W.iret (v := r18) hx hb hr (fun t ht hW => ⟨⟨r18, f20, rfl, trivial, hok, by rw [ht]; exact hP⟩, hS.F ht⟩) hS.2.2 dX11_central_91
          · refine lv_iconst (v := 1) hx hb dX11_central_80 (by decide) ?_
            refine lv_goto (tgt := 85) hx hb dX11_central_81 (by decide) ?_
            refine vp_callSi (va_Run.run (va_runS (As := [.int 1]) (rest := [.ref a0]) ⟨hx, hb, hml, hown, noTs⟩ (t_X11_bit l dC dI H.size G cs tt mm 1) ⟨cbE 1 (wd_669 hE) (wd_115 hE) (wd_884 hE) rfl rfl (by decide +kernel) ⟨Nat.le_of_ble_eq_true rfl, Nat.le_of_ble_eq_true rfl⟩, (wd_668 hE)⟩ ⟨PT.blind, (th_pre (av := [.int 1]) trivial hK hP hok hnd hWT hE)⟩ rfl rfl hl.1 rfl (lv_room (Nat.le_of_ble_eq_true rfl)) dX11_central_85 ⟨Nat.le_of_ble_eq_true rfl, Nat.le_of_ble_eq_true rfl⟩)) (fun r21 hr21 => ?_)
            obtain ⟨y5_22, hy4_22, hy7_22, he22⟩ := ok_X11 hok ha0
            refine tc_i hAL hS hA (va_runV (As := [.int r21]) (rest := []) ⟨hx, hb, hml, hown, noTs⟩ (t_X11_answer l dC dI H.size G cs tt mm a0 ha0 r21) ⟨cbE 1 (wd_748 hE) (wd_115 hE) (wd_745 hE) rfl rfl (by decide +kernel) ⟨Nat.le_of_ble_eq_true rfl, Nat.le_of_ble_eq_true rfl⟩, (wd_747 hE), (wd_23 hE)⟩ ⟨PT.blind, th_recv hK hP ha0.1 he22 rfl, (th_pre (av := [.ref a0, .int r21]) trivial hK hP hok hnd hWT hE)⟩ rfl rfl hl.1 rfl (lv_room (Nat.le_of_ble_eq_true rfl)) dX11_central_88 ⟨Nat.le_of_ble_eq_true rfl, Nat.le_of_ble_eq_true rfl⟩) (fun r23 f23 H locs hr23 hok hP hS => ?_)
            refine W.eq (g2 := F0 m 91 ls [.int r21]) (by rw [hr23]) ?_
            exact W.iret (v := r21) hx hb hr (fun t ht hW => ⟨⟨r21, f23, rfl, trivial, hok, by rw [ht]; exact hP⟩, hS.F ht⟩) hS.2.2 dX11_central_91
        · refine lv_aload_n hx hb dX11_central_39 rfl (lv_at hl 1 rfl) ?_
          refine lv_iconst (v := 2) hx hb dX11_central_40 (by decide) ?_
          refine tc_i hAL hS hA (va_runV (As := [.int 2]) (rest := []) ⟨hx, hb, hml, hown, noTs⟩ (t_X11_fail l dC dI s.heap.size G cs tt mm a0 ha0 2) ⟨cbE 1 (wd_436 hE) (wd_115 hE) (wd_433 hE) rfl rfl (by decide +kernel) ⟨Nat.le_of_ble_eq_true rfl, Nat.le_of_ble_eq_true rfl⟩, (wd_435 hE), (wd_1 hE)⟩ ⟨PT.blind, th_recv hK hP ha0.1 he1 rfl, (th_pre (av := [.ref a0, .int 2]) trivial hK hP hok hnd hWT hE)⟩ rfl rfl hl.1 rfl (lv_room (Nat.le_of_ble_eq_true rfl)) dX11_central_41 ⟨Nat.le_of_ble_eq_true rfl, Nat.le_of_ble_eq_true rfl⟩) (fun r24 f24 H locs hr24 hok hP hS => ?_)
          subst hr24
          exact W.iret (v := -1) hx hb hr (fun t ht hW => ⟨⟨-1, f24, rfl, trivial, hok, by rw [ht]; exact hP⟩, hS.F ht⟩) hS.2.2 dX11_central_44
      · refine lv_aload_n hx hb dX11_central_29 rfl (lv_at hl 1 rfl) ?_
        refine lv_iconst (v := 1) hx hb dX11_central_30 (by decide) ?_
        refine tc_i hAL hS hA (va_runV (As := [.int 1]) (rest := []) ⟨hx, hb, hml, hown, noTs⟩ (t_X11_fail l dC dI s.heap.size G cs tt mm a0 ha0 1) ⟨cbE 1 (wd_436 hE) (wd_115 hE) (wd_433 hE) rfl rfl (by decide +kernel) ⟨Nat.le_of_ble_eq_true rfl, Nat.le_of_ble_eq_true rfl⟩, (wd_435 hE), (wd_1 hE)⟩ ⟨PT.blind, th_recv hK hP ha0.1 he1 rfl, (th_pre (av := [.ref a0, .int 1]) trivial hK hP hok hnd hWT hE)⟩ rfl rfl hl.1 rfl (lv_room (Nat.le_of_ble_eq_true rfl)) dX11_central_31 ⟨Nat.le_of_ble_eq_true rfl, Nat.le_of_ble_eq_true rfl⟩) (fun r25 f25 H locs hr25 hok hP hS => ?_)
        subst hr25
        exact W.iret (v := -1) hx hb hr (fun t ht hW => ⟨⟨-1, f25, rfl, trivial, hok, by rw [ht]; exact hP⟩, hS.F ht⟩) hS.2.2 dX11_central_34

set_option maxHeartbeats 4000000 in
set_option maxRecDepth 100000 in
theorem t_X11_centre (l : Launch) (dC : Nat → ClassId) (dI : Nat → Nat → Nat) (sz : Nat) (G : GT) (cs : Nat → ClassId) (tt mm : Nat) (a0 : Nat) (ha0 : Ty G a0 11) (v1 : Int32) : Met l yX11_centre [.code yX11_centre cX11_centre 2 (some .int)] ({ frames := 4, cells := 0, slots := 0, locals := 160 }) (PT [.ref a0, .int v1] sz dC dI G cs tt mm (fun _ => True)) (va_Qi (fun (r : Int32) (u : Nat → va_E) => True) (BT dC dI G cs tt mm) (AT G sz)) 0 0 (AT G sz) := by
  refine Met.ofW (cc := cX11_centre) (maxL := 2) (ret := (some .int)) (by decide) rfl ?_
  intro p e s m args below meth c s₁ B hml hv
  obtain ⟨rfl, hsz, ⟨f0, hok, hP, hX⟩, hK, hnd, hWT, hE⟩ := hv
  have hx := B.exec
  have hb := B.bytes
  have hr := B.returns
  have hown : s.vm.findClass RX11 = some m.cls := findClass_of_methodNamed B.named
  have hlocks := B.notSynchronized
  subst hsz
  have hAL : ∀ a, a ∈ gL G → AT G s.heap.size a := fun a h => Or.inl h
  have hA : ∀ q : Nat, s.heap.size ≤ q → AT G s.heap.size q := fun q h => Or.inr h
  have hS : va_S (AT G s.heap.size) s.heap s.heap [] := va_S.rf
  have hl := lv_entry ([.ref a0, .int v1]) (n := 2) (Nat.le_of_ble_eq_true rfl)
  rw [lg_entry_eq]
  generalize (lg_sl ([.ref a0, .int v1]) ++ List.replicate (2 - (lg_sl ([.ref a0, .int v1])).length) Slot.unset).toArray = ls at hl ⊢
  have hl : lv_has ls 2 [(0, .ref a0), (1, .int v1)] := hl
  refine lv_aload_n hx hb dX11_centre_0 rfl (lv_at hl 0 rfl) ?_
  obtain ⟨y5_1, hy4_1, hy7_1, he1⟩ := ok_X11 hok ha0
  refine th_get hx hb (ly_X11 hE) hown hK hP ha0.1 he1 rfl 0 (by decide) (wd_359 hE) (fun _ h9 => h9) rfl dX11_centre_1 ?_
  refine lv_iload_n hx hb dX11_centre_4 rfl (lv_at hl 1 rfl) ?_
  have he2 := ok_X7 hok (wt_X11_0 hWT ha0)
  refine vp_callSi (va_Run.run (va_runV (As := [.int v1]) (rest := []) ⟨hx, hb, hml, hown, noTs⟩ (t_X7_hasVertex l dC dI s.heap.size G cs tt mm (gR G a0 0) ((wt_X11_0 hWT ha0)) v1) ⟨cbE 1 (wd_606 hE) (wd_116 hE) (wd_796 hE) rfl rfl (by decide +kernel) ⟨Nat.le_of_ble_eq_true rfl, Nat.le_of_ble_eq_true rfl⟩, (wd_604 hE), (wd_605 hE)⟩ ⟨PT.blind, th_recv hK hP (wt_X11_0 hWT ha0).1 he2 rfl, (th_pre (av := [.ref (gR G a0 0), .int v1]) trivial hK hP hok hnd hWT hE)⟩ rfl rfl hl.1 rfl (lv_room (Nat.le_of_ble_eq_true rfl)) dX11_centre_5 ⟨Nat.le_of_ble_eq_true rfl, Nat.le_of_ble_eq_true rfl⟩)) (fun r3 hr3 => ?_)
  refine lv_if_ne (tgt := 17) hx hb dX11_centre_8 (by decide) (fun c4 => ?_) (fun c4 => ?_)
  · refine lv_aload_n hx hb dX11_centre_17 rfl (lv_at hl 0 rfl) ?_
    refine lv_aload_n hx hb dX11_centre_18 rfl (lv_at hl 0 rfl) ?_
    refine th_get hx hb (ly_X11 hE) hown hK hP ha0.1 he1 rfl 17 (by decide) (wd_376 hE) (fun _ h9 => h9) rfl dX11_centre_19 ?_
    refine lv_aload_n hx hb dX11_centre_22 rfl (lv_at hl 0 rfl) ?_
    refine th_get hx hb (ly_X11 hE) hown hK hP ha0.1 he1 rfl 0 (by decide) (wd_359 hE) (fun _ h9 => h9) rfl dX11_centre_23 ?_
    refine lv_iload_n hx hb dX11_centre_26 rfl (lv_at hl 1 rfl) ?_
    obtain ⟨y1_5, y2_5, he5⟩ := ok_X6 hok (wt_X11_17 hWT ha0)
    refine tc_i hAL hS hA (va_runV (As := [.ref (gR G a0 0), .int v1]) (rest := [.ref a0]) ⟨hx, hb, hml, hown, noTs⟩ (t_X6_centralOrder l dC dI s.heap.size G cs tt mm (gR G a0 17) ((wt_X11_17 hWT ha0)) (gR G a0 0) ((wt_X11_0 hWT ha0)) v1) ⟨cbE 2 (wd_1198 hE) (wd_124 hE) (wd_1195 hE) rfl rfl (by decide +kernel) ⟨Nat.le_of_ble_eq_true rfl, Nat.le_of_ble_eq_true rfl⟩, (wd_1196 hE), (wd_1197 hE)⟩ ⟨PT.blind, th_recv hK hP (wt_X11_17 hWT ha0).1 he5 rfl, (th_pre (av := [.ref (gR G a0 17), .ref (gR G a0 0), .int v1]) trivial hK hP hok hnd hWT hE)⟩ rfl rfl hl.1 rfl (lv_room (Nat.le_of_ble_eq_true rfl)) dX11_centre_27 ⟨Nat.le_of_ble_eq_true rfl, Nat.le_of_ble_eq_true rfl⟩) (fun r6 f6 H locs hr6 hok hP hS => ?_)
    obtain ⟨y5_7, hy4_7, hy7_7, he7⟩ := ok_X11 hok ha0
    refine tc_i hAL hS hA (va_runV (As := [.int r6]) (rest := []) ⟨hx, hb, hml, hown, noTs⟩ (t_X11_answer l dC dI H.size G cs tt mm a0 ha0 r6) ⟨cbE 1 (wd_748 hE) (wd_115 hE) (wd_745 hE) rfl rfl (by decide +kernel) ⟨Nat.le_of_ble_eq_true rfl, Nat.le_of_ble_eq_true rfl⟩, (wd_747 hE), (wd_23 hE)⟩ ⟨PT.blind, th_recv hK hP ha0.1 he7 rfl, (th_pre (av := [.ref a0, .int r6]) trivial hK hP hok hnd hWT hE)⟩ rfl rfl hl.1 rfl (lv_room (Nat.le_of_ble_eq_true rfl)) dX11_centre_30 ⟨Nat.le_of_ble_eq_true rfl, Nat.le_of_ble_eq_true rfl⟩) (fun r8 f8 H locs hr8 hok hP hS => ?_)
    refine W.eq (g2 := F0 m 33 ls [.int r6]) (by rw [hr8]) ?_
    exact W.iret (v := r6) hx hb hr (fun t ht hW => ⟨⟨r6, f8, rfl, trivial, hok, by rw [ht]; exact hP⟩, hS.F ht⟩) hS.2.2 dX11_centre_33
  · refine lv_aload_n hx hb dX11_centre_11 rfl (lv_at hl 0 rfl) ?_
    refine lv_iconst (v := 2) hx hb dX11_centre_12 (by decide) ?_
    refine tc_i hAL hS hA (va_runV (As := [.int 2]) (rest := []) ⟨hx, hb, hml, hown, noTs⟩ (t_X11_fail l dC dI s.heap.size G cs tt mm a0 ha0 2) ⟨cbE 1 (wd_436 hE) (wd_115 hE) (wd_433 hE) rfl rfl (by decide +kernel) ⟨Nat.le_of_ble_eq_true rfl, Nat.le_of_ble_eq_true rfl⟩, (wd_435 hE), (wd_1 hE)⟩ ⟨PT.blind, th_recv hK hP ha0.1 he1 rfl, (th_pre (av := [.ref a0, .int 2]) trivial hK hP hok hnd hWT hE)⟩ rfl rfl hl.1 rfl (lv_room (Nat.le_of_ble_eq_true rfl)) dX11_centre_13 ⟨Nat.le_of_ble_eq_true rfl, Nat.le_of_ble_eq_true rfl⟩) (fun r9 f9 H locs hr9 hok hP hS => ?_)
    subst hr9
    exact W.iret (v := -1) hx hb hr (fun t ht hW => ⟨⟨-1, f9, rfl, trivial, hok, by rw [ht]; exact hP⟩, hS.F ht⟩) hS.2.2 dX11_centre_16

set_option maxHeartbeats 4000000 in
set_option maxRecDepth 100000 in
theorem t_X11_having (l : Launch) (dC : Nat → ClassId) (dI : Nat → Nat → Nat) (sz : Nat) (G : GT) (cs : Nat → ClassId) (tt mm : Nat) (a0 : Nat) (ha0 : Ty G a0 11) (v1 : Int32) (v2 : Int32) : Met l yX11_having [.code yX11_having cX11_having 6 (some .int)] ({ frames := 3, cells := 0, slots := 0, locals := 120 }) (PT [.ref a0, .int v1, .int v2] sz dC dI G cs tt mm (fun _ => True)) (va_Qi (fun (r : Int32) (u : Nat → va_E) => True) (BT dC dI G cs tt mm) (AT G sz)) 0 0 (AT G sz) := by
  refine Met.ofW (cc := cX11_having) (maxL := 6) (ret := (some .int)) (by decide) rfl ?_
  intro p e s m args below meth c s₁ B hml hv
  obtain ⟨rfl, hsz, ⟨f0, hok, hP, hX⟩, hK, hnd, hWT, hE⟩ := hv
  have hx := B.exec
  have hb := B.bytes
  have hr := B.returns
  have hown : s.vm.findClass RX11 = some m.cls := findClass_of_methodNamed B.named
  have hlocks := B.notSynchronized
  subst hsz
  have hAL : ∀ a, a ∈ gL G → AT G s.heap.size a := fun a h => Or.inl h
  have hA : ∀ q : Nat, s.heap.size ≤ q → AT G s.heap.size q := fun q h => Or.inr h
  have hS : va_S (AT G s.heap.size) s.heap s.heap [] := va_S.rf
  have hl := lv_entry ([.ref a0, .int v1, .int v2]) (n := 6) (Nat.le_of_ble_eq_true rfl)
  rw [lg_entry_eq]
  generalize (lg_sl ([.ref a0, .int v1, .int v2]) ++ List.replicate (6 - (lg_sl ([.ref a0, .int v1, .int v2])).length) Slot.unset).toArray = ls at hl ⊢
  have hl : lv_has ls 6 [(0, .ref a0), (1, .int v1), (2, .int v2)] := hl
  refine lv_iload_n hx hb dX11_having_0 rfl (lv_at hl 2 rfl) ?_
  refine lv_iconst (v := 1) hx hb dX11_having_1 (by decide) ?_
  refine lv_icmp_ge (tgt := 11) hx hb dX11_having_2 (by decide) (fun c1 => ?_) (fun c1 => ?_)
  · refine lv_aload_n hx hb dX11_having_11 rfl (lv_at hl 0 rfl) ?_
    obtain ⟨y5_2, hy4_2, hy7_2, he2⟩ := ok_X11 hok ha0
    refine th_get hx hb (ly_X11 hE) hown hK hP ha0.1 he2 rfl 0 (by decide) (wd_359 hE) (fun _ h9 => h9) rfl dX11_having_12 ?_
    refine lv_iload_n hx hb dX11_having_15 rfl (lv_at hl 1 rfl) ?_
    have he3 := ok_X7 hok (wt_X11_0 hWT ha0)
    refine vp_callSi (va_Run.run (va_runV (As := [.int v1]) (rest := []) ⟨hx, hb, hml, hown, noTs⟩ (t_X7_hasVertex l dC dI s.heap.size G cs tt mm (gR G a0 0) ((wt_X11_0 hWT ha0)) v1) ⟨cbE 1 (wd_606 hE) (wd_116 hE) (wd_796 hE) rfl rfl (by decide +kernel) ⟨Nat.le_of_ble_eq_true rfl, Nat.le_of_ble_eq_true rfl⟩, (wd_604 hE), (wd_605 hE)⟩ ⟨PT.blind, th_recv hK hP (wt_X11_0 hWT ha0).1 he3 rfl, (th_pre (av := [.ref (gR G a0 0), .int v1]) trivial hK hP hok hnd hWT hE)⟩ rfl rfl hl.1 rfl (lv_room (Nat.le_of_ble_eq_true rfl)) dX11_having_16 ⟨Nat.le_of_ble_eq_true rfl, Nat.le_of_ble_eq_true rfl⟩)) (fun r4 hr4 => ?_)
    refine lv_if_ne (tgt := 28) hx hb dX11_having_19 (by decide) (fun c5 => ?_) (fun c5 => ?_)
    · refine lv_aload_n hx hb dX11_having_28 rfl (lv_at hl 0 rfl) ?_
      refine th_get hx hb (ly_X11 hE) hown hK hP ha0.1 he2 rfl 0 (by decide) (wd_359 hE) (fun _ h9 => h9) rfl dX11_having_29 ?_
      refine lv_iload_n hx hb dX11_having_32 rfl (lv_at hl 1 rfl) ?_
      refine vp_callSi (va_Run.run (va_runV (As := [.int v1]) (rest := []) ⟨hx, hb, hml, hown, noTs⟩ (t_X7_orderAt l dC dI s.heap.size G cs tt mm (gR G a0 0) ((wt_X11_0 hWT ha0)) v1) ⟨cbE 1 (wd_614 hE) (wd_116 hE) (wd_797 hE) rfl rfl (by decide +kernel) ⟨Nat.le_of_ble_eq_true rfl, Nat.le_of_ble_eq_true rfl⟩, (wd_612 hE), (wd_613 hE)⟩ ⟨PT.blind, th_recv hK hP (wt_X11_0 hWT ha0).1 he3 rfl, (th_pre (av := [.ref (gR G a0 0), .int v1]) trivial hK hP hok hnd hWT hE)⟩ rfl rfl hl.1 rfl (lv_room (Nat.le_of_ble_eq_true rfl)) dX11_having_33 ⟨Nat.le_of_ble_eq_true rfl, Nat.le_of_ble_eq_true rfl⟩)) (fun r6 hr6 => ?_)
      refine lv_istore_n (lv' := [(3, .int r6), (0, .ref a0), (1, .int v1), (2, .int v2)]) hx hb dX11_having_36 rfl hl (by decide) rfl (fun ls hl => ?_)
      refine lv_iconst (v := 0) hx hb dX11_having_37 (by decide) ?_
      refine lv_istore (lv' := [(4, .int 0), (3, .int r6), (0, .ref a0), (1, .int v1), (2, .int v2)]) hx hb dX11_having_38 hl (by decide) rfl (fun ls hl => ?_)
      refine lv_iconst (v := 0) hx hb dX11_having_40 (by decide) ?_
      refine lv_istore (lv' := [(5, .int 0), (4, .int 0), (3, .int r6), (0, .ref a0), (1, .int v1), (2, .int v2)]) hx hb dX11_having_41 hl (by decide) rfl (fun ls hl => ?_)
      refine w_ind (I := fun n f H locs ls => OKT G cs tt mm f ∧ va_P (dC, dI) vwCl (va_pl (gL G) f) H ∧ va_S (AT G s.heap.size) s.heap H locs ∧ ∃ (w4_7 : Int32) (w5_7 : Int32), n = (2147483647 - w5_7.toInt).toNat ∧ 0 ≤ w5_7 ∧ lv_has ls 6 [(0, .ref a0), (1, .int v1), (2, .int v2), (3, .int r6), (4, .int w4_7), (5, .int w5_7)]) (fun n f7 H locs ls hI ih7 => ?_) _ f0 _ _ _ ⟨hok, hP, hS, 0, 0, rfl, (by first | omega | (simp only [i_lt, i_le, i_eq, ti_m9, ti_m1, ti_0, ti_1, ti_2, ti_3, ti_4, ti_5, ti_6, ti_7, ti_9, ti_12, ti_20, ti_99, ti_700, ti_24, ti_156, ti_72, ti_8, ti_60, ti_543, ti_10, ti_33, ti_51, ti_178, ti_119, ti_111, ti_114, ti_100, ti_32, ti_62, ti_59, ti_48, ti_701, ti_97, ti_122, ti_57, ti_73, ti_128, ti_61] at c1 c5 ⊢; omega)), lv_sub hl [3, 4, 5, 2, 1, 0] rfl⟩
      obtain ⟨hok, hP, hS, w4_7, w5_7, hmu7, hlo7, hl⟩ := hI
      subst hmu7
      refine lv_iload hx hb dX11_having_43 (lv_at hl 5 rfl) ?_
      refine lv_iload_n hx hb dX11_having_45 rfl (lv_at hl 3 rfl) ?_
      refine lv_icmp_ge (tgt := 78) hx hb dX11_having_46 (by decide) (fun c8 => ?_) (fun c8 => ?_)
      · refine lv_aload_n hx hb dX11_having_78 rfl (lv_at hl 0 rfl) ?_
        refine lv_iload hx hb dX11_having_79 (lv_at hl 4 rfl) ?_
        obtain ⟨y5_9, hy4_9, hy7_9, he9⟩ := ok_X11 hok ha0
        refine tc_i hAL hS hA (va_runV (As := [.int w4_7]) (rest := []) ⟨hx, hb, hml, hown, noTs⟩ (t_X11_answer l dC dI H.size G cs tt mm a0 ha0 w4_7) ⟨cbE 1 (wd_748 hE) (wd_115 hE) (wd_745 hE) rfl rfl (by decide +kernel) ⟨Nat.le_of_ble_eq_true rfl, Nat.le_of_ble_eq_true rfl⟩, (wd_747 hE), (wd_23 hE)⟩ ⟨PT.blind, th_recv hK hP ha0.1 he9 rfl, (th_pre (av := [.ref a0, .int w4_7]) trivial hK hP hok hnd hWT hE)⟩ rfl rfl hl.1 rfl (lv_room (Nat.le_of_ble_eq_true rfl)) dX11_having_81 ⟨Nat.le_of_ble_eq_true rfl, Nat.le_of_ble_eq_true rfl⟩) (fun r10 f10 H locs hr10 hok hP hS => ?_)
        refine W.eq (g2 := F0 m 84 ls [.int w4_7]) (by rw [hr10]) ?_
        exact W.iret (v := w4_7) hx hb hr (fun t ht hW => ⟨⟨w4_7, f10, rfl, trivial, hok, by rw [ht]; exact hP⟩, hS.F ht⟩) hS.2.2 dX11_having_84
      · refine lv_iload hx hb dX11_having_49 (lv_at hl 4 rfl) ?_
        refine lv_iload hx hb dX11_having_51 (lv_at hl 5 rfl) ?_
        refine lv_iload_n hx hb dX11_having_53 rfl (lv_at hl 3 rfl) ?_
        refine vp_callSi (va_Run.run (va_runS (As := [.int w5_7, .int r6]) (rest := [.int w4_7]) ⟨hx, hb, hml, hown, noTs⟩ (t_X11_orderIn l dC dI H.size G cs tt mm w5_7 r6) ⟨cbE 2 (wd_1086 hE) (wd_115 hE) (wd_1084 hE) rfl rfl (by decide +kernel) ⟨Nat.le_of_ble_eq_true rfl, Nat.le_of_ble_eq_true rfl⟩, (wd_1085 hE)⟩ ⟨PT.blind, (th_pre (av := [.int w5_7, .int r6]) trivial hK hP hok hnd hWT hE)⟩ rfl rfl hl.1 rfl (lv_room (Nat.le_of_ble_eq_true rfl)) dX11_having_54 ⟨Nat.le_of_ble_eq_true rfl, Nat.le_of_ble_eq_true rfl⟩)) (fun r11 hr11 => ?_)
        refine lv_iload_n hx hb dX11_having_57 rfl (lv_at hl 2 rfl) ?_
        refine lv_icmp_ne (tgt := 65) hx hb dX11_having_58 (by decide) (fun c12 => ?_) (fun c12 => ?_)
        · refine lv_iconst (v := 0) hx hb dX11_having_65 (by decide) ?_
          refine vp_callSi (va_Run.run (va_runS (As := [.int 0]) (rest := [.int w4_7]) ⟨hx, hb, hml, hown, noTs⟩ (t_X11_bit l dC dI H.size G cs tt mm 0) ⟨cbE 1 (wd_669 hE) (wd_115 hE) (wd_884 hE) rfl rfl (by decide +kernel) ⟨Nat.le_of_ble_eq_true rfl, Nat.le_of_ble_eq_true rfl⟩, (wd_668 hE)⟩ ⟨PT.blind, (th_pre (av := [.int 0]) trivial hK hP hok hnd hWT hE)⟩ rfl rfl hl.1 rfl (lv_room (Nat.le_of_ble_eq_true rfl)) dX11_having_66 ⟨Nat.le_of_ble_eq_true rfl, Nat.le_of_ble_eq_true rfl⟩)) (fun r13 hr13 => ?_)
          refine lv_iadd hx hb dX11_having_69 ?_
          refine lv_topi (fun x14 ex14 => ?_)
          refine lv_istore (lv' := [(4, .int x14), (0, .ref a0), (1, .int v1), (2, .int v2), (3, .int r6), (5, .int w5_7)]) hx hb dX11_having_70 hl (by decide) rfl (fun ls hl => ?_)
          obtain ⟨z15, ez15⟩ : ∃ z : Int32, z = w5_7 + 1 := ⟨_, rfl⟩
          refine lv_iinc (v := z15) (lv' := [(5, .int z15), (4, .int x14), (0, .ref a0), (1, .int v1), (2, .int v2), (3, .int r6)]) hx hb dX11_having_72 hl (k := 5) rfl (by rw [ez15]; rfl) (by decide) rfl (fun ls hl => ?_)
          have ic15 : z15.toInt = w5_7.toInt + 1 := by rw [ez15]; exact ic_up (by have := i_rng v2; have := i_rng r4; have := i_rng w5_7; have := i_rng r6; have := i_rng r11; simp only [i_lt, i_le, i_eq, ti_m9, ti_m1, ti_0, ti_1, ti_2, ti_3, ti_4, ti_5, ti_6, ti_7, ti_9, ti_12, ti_20, ti_99, ti_700, ti_24, ti_156, ti_72, ti_8, ti_60, ti_543, ti_10, ti_33, ti_51, ti_178, ti_119, ti_111, ti_114, ti_100, ti_32, ti_62, ti_59, ti_48, ti_701, ti_97, ti_122, ti_57, ti_73, ti_128, ti_61] at c1 c5 hlo7 c8 c12 ⊢; omega)
          refine lv_goto (tgt := 43) hx hb dX11_having_75 (by decide) ?_
          exact ih7 _ f7 _ _ _ (by have := i_rng z15; first | omega | (simp only [i_lt, i_le, i_eq, ti_m9, ti_m1, ti_0, ti_1, ti_2, ti_3, ti_4, ti_5, ti_6, ti_7, ti_9, ti_12, ti_20, ti_99, ti_700, ti_24, ti_156, ti_72, ti_8, ti_60, ti_543, ti_10, ti_33, ti_51, ti_178, ti_119, ti_111, ti_114, ti_100, ti_32, ti_62, ti_59, ti_48, ti_701, ti_97, ti_122, ti_57, ti_73, ti_128, ti_61, ic15] at c1 c5 hlo7 c8 c12 ic15 ⊢; omega)) ⟨hok, hP, hS, x14, z15, rfl, (by first | omega | (simp only [i_lt, i_le, i_eq, ti_m9, ti_m1, ti_0, ti_1, ti_2, ti_3, ti_4, ti_5, ti_6, ti_7, ti_9, ti_12, ti_20, ti_99, ti_700, ti_24, ti_156, ti_72, ti_8, ti_60, ti_543, ti_10, ti_33, ti_51, ti_178, ti_119, ti_111, ti_114, ti_100, ti_32, ti_62, ti_59, ti_48, ti_701, ti_97, ti_122, ti_57, ti_73, ti_128, ti_61, ic15] at c1 c5 hlo7 c8 c12 ⊢; omega)), lv_sub hl [2, 3, 4, 5, 1, 0] rfl⟩
        · refine lv_iconst (v := 1) hx hb dX11_having_61 (by decide) ?_
          refine lv_goto (tgt := 66) hx hb dX11_having_62 (by decide) ?_
          refine vp_callSi (va_Run.run (va_runS (As := [.int 1]) (rest := [.int w4_7]) ⟨hx, hb, hml, hown, noTs⟩ (t_X11_bit l dC dI H.size G cs tt mm 1) ⟨cbE 1 (wd_669 hE) (wd_115 hE) (wd_884 hE) rfl rfl (by decide +kernel) ⟨Nat.le_of_ble_eq_true rfl, Nat.le_of_ble_eq_true rfl⟩, (wd_668 hE)⟩ ⟨PT.blind, (th_pre (av := [.int 1]) trivial hK hP hok hnd hWT hE)⟩ rfl rfl hl.1 rfl (lv_room (Nat.le_of_ble_eq_true rfl)) dX11_having_66 ⟨Nat.le_of_ble_eq_true rfl, Nat.le_of_ble_eq_true rfl⟩)) (fun r16 hr16 => ?_)
          refine lv_iadd hx hb dX11_having_69 ?_
          refine lv_topi (fun x17 ex17 => ?_)
          refine lv_istore (lv' := [(4, .int x17), (0, .ref a0), (1, .int v1), (2, .int v2), (3, .int r6), (5, .int w5_7)]) hx hb dX11_having_70 hl (by decide) rfl (fun ls hl => ?_)
          obtain ⟨z18, ez18⟩ : ∃ z : Int32, z = w5_7 + 1 := ⟨_, rfl⟩
          refine lv_iinc (v := z18) (lv' := [(5, .int z18), (4, .int x17), (0, .ref a0), (1, .int v1), (2, .int v2), (3, .int r6)]) hx hb dX11_having_72 hl (k := 5) rfl (by rw [ez18]; rfl) (by decide) rfl (fun ls hl => ?_)
          have ic18 : z18.toInt = w5_7.toInt + 1 := by rw [ez18]; exact ic_up (by have := i_rng v2; have := i_rng r4; have := i_rng w5_7; have := i_rng r6; have := i_rng r11; simp only [i_lt, i_le, i_eq, ti_m9, ti_m1, ti_0, ti_1, ti_2, ti_3, ti_4, ti_5, ti_6, ti_7, ti_9, ti_12, ti_20, ti_99, ti_700, ti_24, ti_156, ti_72, ti_8, ti_60, ti_543, ti_10, ti_33, ti_51, ti_178, ti_119, ti_111, ti_114, ti_100, ti_32, ti_62, ti_59, ti_48, ti_701, ti_97, ti_122, ti_57, ti_73, ti_128, ti_61] at c1 c5 hlo7 c8 c12 ⊢; omega)
          refine lv_goto (tgt := 43) hx hb dX11_having_75 (by decide) ?_
          exact ih7 _ f7 _ _ _ (by have := i_rng z18; first | omega | (simp only [i_lt, i_le, i_eq, ti_m9, ti_m1, ti_0, ti_1, ti_2, ti_3, ti_4, ti_5, ti_6, ti_7, ti_9, ti_12, ti_20, ti_99, ti_700, ti_24, ti_156, ti_72, ti_8, ti_60, ti_543, ti_10, ti_33, ti_51, ti_178, ti_119, ti_111, ti_114, ti_100, ti_32, ti_62, ti_59, ti_48, ti_701, ti_97, ti_122, ti_57, ti_73, ti_128, ti_61, ic18] at c1 c5 hlo7 c8 c12 ic18 ⊢; omega)) ⟨hok, hP, hS, x17, z18, rfl, (by first | omega | (simp only [i_lt, i_le, i_eq, ti_m9, ti_m1, ti_0, ti_1, ti_2, ti_3, ti_4, ti_5, ti_6, ti_7, ti_9, ti_12, ti_20, ti_99, ti_700, ti_24, ti_156, ti_72, ti_8, ti_60, ti_543, ti_10, ti_33, ti_51, ti_178, ti_119, ti_111, ti_114, ti_100, ti_32, ti_62, ti_59, ti_48, ti_701, ti_97, ti_122, ti_57, ti_73, ti_128, ti_61, ic18] at c1 c5 hlo7 c8 c12 ⊢; omega)), lv_sub hl [2, 3, 4, 5, 1, 0] rfl⟩
    · refine lv_aload_n hx hb dX11_having_22 rfl (lv_at hl 0 rfl) ?_
      refine lv_iconst (v := 2) hx hb dX11_having_23 (by decide) ?_
      refine tc_i hAL hS hA (va_runV (As := [.int 2]) (rest := []) ⟨hx, hb, hml, hown, noTs⟩ (t_X11_fail l dC dI s.heap.size G cs tt mm a0 ha0 2) ⟨cbE 1 (wd_436 hE) (wd_115 hE) (wd_433 hE) rfl rfl (by decide +kernel) ⟨Nat.le_of_ble_eq_true rfl, Nat.le_of_ble_eq_true rfl⟩, (wd_435 hE), (wd_1 hE)⟩ ⟨PT.blind, th_recv hK hP ha0.1 he2 rfl, (th_pre (av := [.ref a0, .int 2]) trivial hK hP hok hnd hWT hE)⟩ rfl rfl hl.1 rfl (lv_room (Nat.le_of_ble_eq_true rfl)) dX11_having_24 ⟨Nat.le_of_ble_eq_true rfl, Nat.le_of_ble_eq_true rfl⟩) (fun r19 f19 H locs hr19 hok hP hS => ?_)
      subst hr19
      exact W.iret (v := -1) hx hb hr (fun t ht hW => ⟨⟨-1, f19, rfl, trivial, hok, by rw [ht]; exact hP⟩, hS.F ht⟩) hS.2.2 dX11_having_27
  · refine lv_aload_n hx hb dX11_having_5 rfl (lv_at hl 0 rfl) ?_
    refine lv_iconst (v := 1) hx hb dX11_having_6 (by decide) ?_
    obtain ⟨y5_20, hy4_20, hy7_20, he20⟩ := ok_X11 hok ha0
    refine tc_i hAL hS hA (va_runV (As := [.int 1]) (rest := []) ⟨hx, hb, hml, hown, noTs⟩ (t_X11_fail l dC dI s.heap.size G cs tt mm a0 ha0 1) ⟨cbE 1 (wd_436 hE) (wd_115 hE) (wd_433 hE) rfl rfl (by decide +kernel) ⟨Nat.le_of_ble_eq_true rfl, Nat.le_of_ble_eq_true rfl⟩, (wd_435 hE), (wd_1 hE)⟩ ⟨PT.blind, th_recv hK hP ha0.1 he20 rfl, (th_pre (av := [.ref a0, .int 1]) trivial hK hP hok hnd hWT hE)⟩ rfl rfl hl.1 rfl (lv_room (Nat.le_of_ble_eq_true rfl)) dX11_having_7 ⟨Nat.le_of_ble_eq_true rfl, Nat.le_of_ble_eq_true rfl⟩) (fun r21 f21 H locs hr21 hok hP hS => ?_)
    subst hr21
    exact W.iret (v := -1) hx hb hr (fun t ht hW => ⟨⟨-1, f21, rfl, trivial, hok, by rw [ht]; exact hP⟩, hS.F ht⟩) hS.2.2 dX11_having_10

set_option maxHeartbeats 4000000 in
set_option maxRecDepth 100000 in
theorem t_X11_root (l : Launch) (dC : Nat → ClassId) (dI : Nat → Nat → Nat) (sz : Nat) (G : GT) (cs : Nat → ClassId) (tt mm : Nat) (a0 : Nat) (ha0 : Ty G a0 11) (v1 : Int32) : Met l yX11_root [.code yX11_root cX11_root 3 (some .int)] ({ frames := 6, cells := 0, slots := 0, locals := 240 }) (PT [.ref a0, .int v1] sz dC dI G cs tt mm (fun _ => True)) (va_Qi (fun (r : Int32) (u : Nat → va_E) => True) (BT dC dI G cs tt mm) (AT G sz)) 0 0 (AT G sz) := by
  refine Met.ofW (cc := cX11_root) (maxL := 3) (ret := (some .int)) (by decide) rfl ?_
  intro p e s m args below meth c s₁ B hml hv
  obtain ⟨rfl, hsz, ⟨f0, hok, hP, hX⟩, hK, hnd, hWT, hE⟩ := hv
  have hx := B.exec
  have hb := B.bytes
  have hr := B.returns
  have hown : s.vm.findClass RX11 = some m.cls := findClass_of_methodNamed B.named
  have hlocks := B.notSynchronized
  subst hsz
  have hAL : ∀ a, a ∈ gL G → AT G s.heap.size a := fun a h => Or.inl h
  have hA : ∀ q : Nat, s.heap.size ≤ q → AT G s.heap.size q := fun q h => Or.inr h
  have hS : va_S (AT G s.heap.size) s.heap s.heap [] := va_S.rf
  have hl := lv_entry ([.ref a0, .int v1]) (n := 3) (Nat.le_of_ble_eq_true rfl)
  rw [lg_entry_eq]
  generalize (lg_sl ([.ref a0, .int v1]) ++ List.replicate (3 - (lg_sl ([.ref a0, .int v1])).length) Slot.unset).toArray = ls at hl ⊢
  have hl : lv_has ls 3 [(0, .ref a0), (1, .int v1)] := hl
  refine lv_aload_n hx hb dX11_root_0 rfl (lv_at hl 0 rfl) ?_
  refine lv_iload_n hx hb dX11_root_1 rfl (lv_at hl 1 rfl) ?_
  obtain ⟨y5_1, hy4_1, hy7_1, he1⟩ := ok_X11 hok ha0
  refine tc_i hAL hS hA (va_runV (As := [.int v1]) (rest := []) ⟨hx, hb, hml, hown, noTs⟩ (t_X11_readCore l dC dI s.heap.size G cs tt mm a0 ha0 v1) ⟨cbE 1 (wd_1079 hE) (wd_115 hE) (wd_1076 hE) rfl rfl (by decide +kernel) ⟨Nat.le_of_ble_eq_true rfl, Nat.le_of_ble_eq_true rfl⟩, (wd_1078 hE), (wd_38 hE)⟩ ⟨PT.blind, th_recv hK hP ha0.1 he1 rfl, (th_pre (av := [.ref a0, .int v1]) trivial hK hP hok hnd hWT hE)⟩ rfl rfl hl.1 rfl (lv_room (Nat.le_of_ble_eq_true rfl)) dX11_root_2 ⟨Nat.le_of_ble_eq_true rfl, Nat.le_of_ble_eq_true rfl⟩) (fun r2 f2 H locs hr2 hok hP hS => ?_)
  refine lv_istore_n (lv' := [(2, .int r2), (0, .ref a0), (1, .int v1)]) hx hb dX11_root_5 rfl hl (by decide) rfl (fun ls hl => ?_)
  refine lv_iload_n hx hb dX11_root_6 rfl (lv_at hl 0 rfl) ?_
  refine lv_if_eq (tgt := 16) hx hb dX11_root_7 (by decide) (fun c3 => ?_) (fun c3 => ?_)
  · refine lv_aload_n hx hb dX11_root_16 rfl (lv_at hl 1 rfl) ?_
    obtain ⟨y5_4, hy4_4, hy7_4, he4⟩ := ok_X11 hok ha0
    refine th_get hx hb (ly_X11 hE) hown hK hP ha0.1 he4 rfl 12 (by decide) (wd_371 hE) (fun _ h9 => h9) rfl dX11_root_17 ?_
    obtain ⟨y2_5, y3_5, hy3_5, he5⟩ := ok_X10 hok (wt_X11_12 hWT ha0)
    refine vp_callSi (va_Run.run (va_runV (As := []) (rest := []) ⟨hx, hb, hml, hown, noTs⟩ (t_X10_size l dC dI H.size G cs tt mm (gR G a0 12) ((wt_X11_12 hWT ha0)) y2_5 y3_5) ⟨cbE 0 (wd_666 hE) (wd_120 hE) (wd_834 hE) rfl rfl (by decide +kernel) ⟨Nat.le_of_ble_eq_true rfl, Nat.le_of_ble_eq_true rfl⟩, (wd_664 hE), (wd_665 hE)⟩ ⟨PT.blind, th_recv hK hP (wt_X11_12 hWT ha0).1 he5 rfl, (th_pre (av := [.ref (gR G a0 12)]) he5 hK hP hok hnd hWT hE)⟩ rfl rfl hl.1 rfl (lv_room (Nat.le_of_ble_eq_true rfl)) dX11_root_20 ⟨Nat.le_of_ble_eq_true rfl, Nat.le_of_ble_eq_true rfl⟩)) (fun r6 hr6 => ?_)
    subst hr6
    have nt7 : (nI y3_5).toInt = ((y3_5 : Nat) : Int) := nI_toInt (by omega)
    refine lv_if_ne (tgt := 34) hx hb dX11_root_23 (by decide) (fun c8 => ?_) (fun c8 => ?_)
    · refine lv_aload_n hx hb dX11_root_34 rfl (lv_at hl 1 rfl) ?_
      refine lv_aload_n hx hb dX11_root_35 rfl (lv_at hl 1 rfl) ?_
      refine th_get hx hb (ly_X11 hE) hown hK hP ha0.1 he4 rfl 16 (by decide) (wd_375 hE) (fun _ h9 => h9) rfl dX11_root_36 ?_
      refine lv_aload_n hx hb dX11_root_39 rfl (lv_at hl 1 rfl) ?_
      refine th_get hx hb (ly_X11 hE) hown hK hP ha0.1 he4 rfl 0 (by decide) (wd_359 hE) (fun _ h9 => h9) rfl dX11_root_40 ?_
      refine lv_aload_n hx hb dX11_root_43 rfl (lv_at hl 1 rfl) ?_
      refine th_get hx hb (ly_X11 hE) hown hK hP ha0.1 he4 rfl 12 (by decide) (wd_371 hE) (fun _ h9 => h9) rfl dX11_root_44 ?_
      obtain ⟨y4_9, hy4_9, he9⟩ := ok_X0 hok (wt_X11_16 hWT ha0)
      refine tc_i hAL hS hA (va_runV (As := [.ref (gR G a0 0), .ref (gR G a0 12)]) (rest := [.ref a0]) ⟨hx, hb, hml, hown, noTs⟩ (t_X0_greatestRoot l dC dI H.size G cs tt mm (gR G a0 16) ((wt_X11_16 hWT ha0)) (gR G a0 0) ((wt_X11_0 hWT ha0)) (gR G a0 12) ((wt_X11_12 hWT ha0))) ⟨cbE 2 (wd_1219 hE) (wd_123 hE) (wd_1216 hE) rfl rfl (by decide +kernel) ⟨Nat.le_of_ble_eq_true rfl, Nat.le_of_ble_eq_true rfl⟩, (wd_1217 hE), (wd_1218 hE)⟩ ⟨PT.blind, th_recv hK hP (wt_X11_16 hWT ha0).1 he9 rfl, (th_pre (av := [.ref (gR G a0 16), .ref (gR G a0 0), .ref (gR G a0 12)]) trivial hK hP hok hnd hWT hE)⟩ rfl rfl hl.1 rfl (lv_room (Nat.le_of_ble_eq_true rfl)) dX11_root_47 ⟨Nat.le_of_ble_eq_true rfl, Nat.le_of_ble_eq_true rfl⟩) (fun r10 f10 H locs hr10 hok hP hS => ?_)
      obtain ⟨y5_11, hy4_11, hy7_11, he11⟩ := ok_X11 hok ha0
      refine tc_i hAL hS hA (va_runV (As := [.int r10]) (rest := []) ⟨hx, hb, hml, hown, noTs⟩ (t_X11_answer l dC dI H.size G cs tt mm a0 ha0 r10) ⟨cbE 1 (wd_748 hE) (wd_115 hE) (wd_745 hE) rfl rfl (by decide +kernel) ⟨Nat.le_of_ble_eq_true rfl, Nat.le_of_ble_eq_true rfl⟩, (wd_747 hE), (wd_23 hE)⟩ ⟨PT.blind, th_recv hK hP ha0.1 he11 rfl, (th_pre (av := [.ref a0, .int r10]) trivial hK hP hok hnd hWT hE)⟩ rfl rfl hl.1 rfl (lv_room (Nat.le_of_ble_eq_true rfl)) dX11_root_50 ⟨Nat.le_of_ble_eq_true rfl, Nat.le_of_ble_eq_true rfl⟩) (fun r12 f12 H locs hr12 hok hP hS => ?_)
      refine W.eq (g2 := F0 m 53 ls [.int r10]) (by rw [hr12]) ?_
      exact W.iret (v := r10) hx hb hr (fun t ht hW => ⟨⟨r10, f12, rfl, trivial, hok, by rw [ht]; exact hP⟩, hS.F ht⟩) hS.2.2 dX11_root_53
    · refine lv_aload_n hx hb dX11_root_26 rfl (lv_at hl 1 rfl) ?_
      refine lv_iconst (v := 5) hx hb dX11_root_27 (by decide) ?_
      refine tc_i hAL hS hA (va_runV (As := [.int 5]) (rest := []) ⟨hx, hb, hml, hown, noTs⟩ (t_X11_fail l dC dI H.size G cs tt mm a0 ha0 5) ⟨cbE 1 (wd_436 hE) (wd_115 hE) (wd_433 hE) rfl rfl (by decide +kernel) ⟨Nat.le_of_ble_eq_true rfl, Nat.le_of_ble_eq_true rfl⟩, (wd_435 hE), (wd_1 hE)⟩ ⟨PT.blind, th_recv hK hP ha0.1 he4 rfl, (th_pre (av := [.ref a0, .int 5]) trivial hK hP hok hnd hWT hE)⟩ rfl rfl hl.1 rfl (lv_room (Nat.le_of_ble_eq_true rfl)) dX11_root_28 ⟨Nat.le_of_ble_eq_true rfl, Nat.le_of_ble_eq_true rfl⟩) (fun r13 f13 H locs hr13 hok hP hS => ?_)
      subst hr13
      refine lv_goto (tgt := 53) hx hb dX11_root_31 (by decide) ?_
      exact W.iret (v := -1) hx hb hr (fun t ht hW => ⟨⟨-1, f13, rfl, trivial, hok, by rw [ht]; exact hP⟩, hS.F ht⟩) hS.2.2 dX11_root_53
  · refine lv_aload_n hx hb dX11_root_10 rfl (lv_at hl 1 rfl) ?_
    refine lv_iload_n hx hb dX11_root_11 rfl (lv_at hl 0 rfl) ?_
    obtain ⟨y5_14, hy4_14, hy7_14, he14⟩ := ok_X11 hok ha0
    refine tc_i hAL hS hA (va_runV (As := [.int r2]) (rest := []) ⟨hx, hb, hml, hown, noTs⟩ (t_X11_fail l dC dI H.size G cs tt mm a0 ha0 r2) ⟨cbE 1 (wd_436 hE) (wd_115 hE) (wd_433 hE) rfl rfl (by decide +kernel) ⟨Nat.le_of_ble_eq_true rfl, Nat.le_of_ble_eq_true rfl⟩, (wd_435 hE), (wd_1 hE)⟩ ⟨PT.blind, th_recv hK hP ha0.1 he14 rfl, (th_pre (av := [.ref a0, .int r2]) trivial hK hP hok hnd hWT hE)⟩ rfl rfl hl.1 rfl (lv_room (Nat.le_of_ble_eq_true rfl)) dX11_root_12 ⟨Nat.le_of_ble_eq_true rfl, Nat.le_of_ble_eq_true rfl⟩) (fun r15 f15 H locs hr15 hok hP hS => ?_)
    subst hr15
    exact W.iret (v := -1) hx hb hr (fun t ht hW => ⟨⟨-1, f15, rfl, trivial, hok, by rw [ht]; exact hP⟩, hS.F ht⟩) hS.2.2 dX11_root_15

set_option maxHeartbeats 4000000 in
set_option maxRecDepth 100000 in
theorem t_X11_swaps (l : Launch) (dC : Nat → ClassId) (dI : Nat → Nat → Nat) (sz : Nat) (G : GT) (cs : Nat → ClassId) (tt mm : Nat) (a0 : Nat) (ha0 : Ty G a0 11) (v1 : Int32) (v2 : Int32) : Met l yX11_swaps [.code yX11_swaps cX11_swaps 4 (some .int)] ({ frames := 5, cells := 0, slots := 0, locals := 200 }) (PT [.ref a0, .int v1, .int v2] sz dC dI G cs tt mm (fun _ => True)) (va_Qi (fun (r : Int32) (u : Nat → va_E) => True) (BT dC dI G cs tt mm) (AT G sz)) 0 0 (AT G sz) := by
  refine Met.ofW (cc := cX11_swaps) (maxL := 4) (ret := (some .int)) (by decide) rfl ?_
  intro p e s m args below meth c s₁ B hml hv
  obtain ⟨rfl, hsz, ⟨f0, hok, hP, hX⟩, hK, hnd, hWT, hE⟩ := hv
  have hx := B.exec
  have hb := B.bytes
  have hr := B.returns
  have hown : s.vm.findClass RX11 = some m.cls := findClass_of_methodNamed B.named
  have hlocks := B.notSynchronized
  subst hsz
  have hAL : ∀ a, a ∈ gL G → AT G s.heap.size a := fun a h => Or.inl h
  have hA : ∀ q : Nat, s.heap.size ≤ q → AT G s.heap.size q := fun q h => Or.inr h
  have hS : va_S (AT G s.heap.size) s.heap s.heap [] := va_S.rf
  have hl := lv_entry ([.ref a0, .int v1, .int v2]) (n := 4) (Nat.le_of_ble_eq_true rfl)
  rw [lg_entry_eq]
  generalize (lg_sl ([.ref a0, .int v1, .int v2]) ++ List.replicate (4 - (lg_sl ([.ref a0, .int v1, .int v2])).length) Slot.unset).toArray = ls at hl ⊢
  have hl : lv_has ls 4 [(0, .ref a0), (1, .int v1), (2, .int v2)] := hl
  refine lv_aload_n hx hb dX11_swaps_0 rfl (lv_at hl 0 rfl) ?_
  refine lv_iload_n hx hb dX11_swaps_1 rfl (lv_at hl 1 rfl) ?_
  refine lv_iload_n hx hb dX11_swaps_2 rfl (lv_at hl 2 rfl) ?_
  obtain ⟨y5_1, hy4_1, hy7_1, he1⟩ := ok_X11 hok ha0
  refine tc_i hAL hS hA (va_runV (As := [.int v1, .int v2]) (rest := []) ⟨hx, hb, hml, hown, noTs⟩ (t_X11_readTwoLoops l dC dI s.heap.size G cs tt mm a0 ha0 v1 v2) ⟨cbE 2 (wd_1101 hE) (wd_115 hE) (wd_1098 hE) rfl rfl (by decide +kernel) ⟨Nat.le_of_ble_eq_true rfl, Nat.le_of_ble_eq_true rfl⟩, (wd_1100 hE), (wd_39 hE)⟩ ⟨PT.blind, th_recv hK hP ha0.1 he1 rfl, (th_pre (av := [.ref a0, .int v1, .int v2]) trivial hK hP hok hnd hWT hE)⟩ rfl rfl hl.1 rfl (lv_room (Nat.le_of_ble_eq_true rfl)) dX11_swaps_3 ⟨Nat.le_of_ble_eq_true rfl, Nat.le_of_ble_eq_true rfl⟩) (fun r2 f2 H locs hr2 hok hP hS => ?_)
  refine lv_istore_n (lv' := [(3, .int r2), (0, .ref a0), (1, .int v1), (2, .int v2)]) hx hb dX11_swaps_6 rfl hl (by decide) rfl (fun ls hl => ?_)
  refine lv_iload_n hx hb dX11_swaps_7 rfl (lv_at hl 0 rfl) ?_
  refine lv_if_eq (tgt := 17) hx hb dX11_swaps_8 (by decide) (fun c3 => ?_) (fun c3 => ?_)
  · refine lv_aload_n hx hb dX11_swaps_17 rfl (lv_at hl 1 rfl) ?_
    obtain ⟨y5_4, hy4_4, hy7_4, he4⟩ := ok_X11 hok ha0
    refine th_get hx hb (ly_X11 hE) hown hK hP ha0.1 he4 rfl 10 (by decide) (wd_369 hE) (fun _ h9 => h9) rfl dX11_swaps_18 ?_
    obtain ⟨y2_5, y3_5, hy3_5, he5⟩ := ok_X10 hok (wt_X11_10 hWT ha0)
    refine vp_callSi (va_Run.run (va_runV (As := []) (rest := []) ⟨hx, hb, hml, hown, noTs⟩ (t_X10_begin l dC dI H.size G cs tt mm (gR G a0 10) ((wt_X11_10 hWT ha0))) ⟨cbE 0 (wd_713 hE) (wd_120 hE) (wd_824 hE) rfl rfl (by decide +kernel) ⟨Nat.le_of_ble_eq_true rfl, Nat.le_of_ble_eq_true rfl⟩, (wd_711 hE), (wd_712 hE)⟩ ⟨PT.blind, th_recv hK hP (wt_X11_10 hWT ha0).1 he5 rfl, (th_pre (av := [.ref (gR G a0 10)]) trivial hK hP hok hnd hWT hE)⟩ rfl rfl hl.1 rfl (lv_room (Nat.le_of_ble_eq_true rfl)) dX11_swaps_21 ⟨Nat.le_of_ble_eq_true rfl, Nat.le_of_ble_eq_true rfl⟩)) (fun r6 hr6 => ?_)
    refine lv_aload_n hx hb dX11_swaps_24 rfl (lv_at hl 1 rfl) ?_
    refine th_get hx hb (ly_X11 hE) hown hK hP ha0.1 he4 rfl 11 (by decide) (wd_370 hE) (fun _ h9 => h9) rfl dX11_swaps_25 ?_
    obtain ⟨y2_7, y3_7, hy3_7, he7⟩ := ok_X10 hok (wt_X11_11 hWT ha0)
    refine vp_callSi (va_Run.run (va_runV (As := []) (rest := [.int r6]) ⟨hx, hb, hml, hown, noTs⟩ (t_X10_begin l dC dI H.size G cs tt mm (gR G a0 11) ((wt_X11_11 hWT ha0))) ⟨cbE 0 (wd_713 hE) (wd_120 hE) (wd_824 hE) rfl rfl (by decide +kernel) ⟨Nat.le_of_ble_eq_true rfl, Nat.le_of_ble_eq_true rfl⟩, (wd_711 hE), (wd_712 hE)⟩ ⟨PT.blind, th_recv hK hP (wt_X11_11 hWT ha0).1 he7 rfl, (th_pre (av := [.ref (gR G a0 11)]) trivial hK hP hok hnd hWT hE)⟩ rfl rfl hl.1 rfl (lv_room (Nat.le_of_ble_eq_true rfl)) dX11_swaps_28 ⟨Nat.le_of_ble_eq_true rfl, Nat.le_of_ble_eq_true rfl⟩)) (fun r8 hr8 => ?_)
    refine lv_icmp_eq (tgt := 40) hx hb dX11_swaps_31 (by decide) (fun c9 => ?_) (fun c9 => ?_)
    · refine lv_aload_n hx hb dX11_swaps_40 rfl (lv_at hl 1 rfl) ?_
      refine th_get hx hb (ly_X11 hE) hown hK hP ha0.1 he4 rfl 0 (by decide) (wd_359 hE) (fun _ h9 => h9) rfl dX11_swaps_41 ?_
      refine lv_aload_n hx hb dX11_swaps_44 rfl (lv_at hl 1 rfl) ?_
      refine th_get hx hb (ly_X11 hE) hown hK hP ha0.1 he4 rfl 10 (by decide) (wd_369 hE) (fun _ h9 => h9) rfl dX11_swaps_45 ?_
      refine lv_aload_n hx hb dX11_swaps_48 rfl (lv_at hl 1 rfl) ?_
      refine th_get hx hb (ly_X11 hE) hown hK hP ha0.1 he4 rfl 11 (by decide) (wd_370 hE) (fun _ h9 => h9) rfl dX11_swaps_49 ?_
      refine lv_aload_n hx hb dX11_swaps_52 rfl (lv_at hl 1 rfl) ?_
      refine th_get hx hb (ly_X11 hE) hown hK hP ha0.1 he4 rfl 12 (by decide) (wd_371 hE) (fun _ h9 => h9) rfl dX11_swaps_53 ?_
      refine tc_v hAL hS hA (va_runS (As := [.ref (gR G a0 0), .ref (gR G a0 10), .ref (gR G a0 11), .ref (gR G a0 12)]) (rest := []) ⟨hx, hb, hml, hown, noTs⟩ (t_X2_product l dC dI H.size G cs tt mm (gR G a0 0) ((wt_X11_0 hWT ha0)) (gR G a0 10) ((wt_X11_10 hWT ha0)) (gR G a0 11) ((wt_X11_11 hWT ha0)) (gR G a0 12) ((wt_X11_12 hWT ha0))) ⟨cbE 4 (wd_922 hE) (wd_134 hE) (wd_920 hE) rfl rfl (by decide +kernel) ⟨Nat.le_of_ble_eq_true rfl, Nat.le_of_ble_eq_true rfl⟩, (wd_921 hE)⟩ ⟨PT.blind, (th_pre (av := [.ref (gR G a0 0), .ref (gR G a0 10), .ref (gR G a0 11), .ref (gR G a0 12)]) trivial hK hP hok hnd hWT hE)⟩ rfl rfl hl.1 rfl (lv_room (Nat.le_of_ble_eq_true rfl)) dX11_swaps_56 ⟨Nat.le_of_ble_eq_true rfl, Nat.le_of_ble_eq_true rfl⟩) (fun f10 H locs hr10 hok hP hS => ?_)
      refine lv_aload_n hx hb dX11_swaps_59 rfl (lv_at hl 1 rfl) ?_
      obtain ⟨y5_11, hy4_11, hy7_11, he11⟩ := ok_X11 hok ha0
      refine th_get hx hb (ly_X11 hE) hown hK hP ha0.1 he11 rfl 0 (by decide) (wd_359 hE) (fun _ h9 => h9) rfl dX11_swaps_60 ?_
      refine lv_aload_n hx hb dX11_swaps_63 rfl (lv_at hl 1 rfl) ?_
      refine th_get hx hb (ly_X11 hE) hown hK hP ha0.1 he11 rfl 11 (by decide) (wd_370 hE) (fun _ h9 => h9) rfl dX11_swaps_64 ?_
      refine lv_aload_n hx hb dX11_swaps_67 rfl (lv_at hl 1 rfl) ?_
      refine th_get hx hb (ly_X11 hE) hown hK hP ha0.1 he11 rfl 10 (by decide) (wd_369 hE) (fun _ h9 => h9) rfl dX11_swaps_68 ?_
      refine lv_aload_n hx hb dX11_swaps_71 rfl (lv_at hl 1 rfl) ?_
      refine th_get hx hb (ly_X11 hE) hown hK hP ha0.1 he11 rfl 13 (by decide) (wd_372 hE) (fun _ h9 => h9) rfl dX11_swaps_72 ?_
      refine tc_v hAL hS hA (va_runS (As := [.ref (gR G a0 0), .ref (gR G a0 11), .ref (gR G a0 10), .ref (gR G a0 13)]) (rest := []) ⟨hx, hb, hml, hown, noTs⟩ (t_X2_product l dC dI H.size G cs tt mm (gR G a0 0) ((wt_X11_0 hWT ha0)) (gR G a0 11) ((wt_X11_11 hWT ha0)) (gR G a0 10) ((wt_X11_10 hWT ha0)) (gR G a0 13) ((wt_X11_13 hWT ha0))) ⟨cbE 4 (wd_922 hE) (wd_134 hE) (wd_920 hE) rfl rfl (by decide +kernel) ⟨Nat.le_of_ble_eq_true rfl, Nat.le_of_ble_eq_true rfl⟩, (wd_921 hE)⟩ ⟨PT.blind, (th_pre (av := [.ref (gR G a0 0), .ref (gR G a0 11), .ref (gR G a0 10), .ref (gR G a0 13)]) trivial hK hP hok hnd hWT hE)⟩ rfl rfl hl.1 rfl (lv_room (Nat.le_of_ble_eq_true rfl)) dX11_swaps_75 ⟨Nat.le_of_ble_eq_true rfl, Nat.le_of_ble_eq_true rfl⟩) (fun f12 H locs hr12 hok hP hS => ?_)
      refine lv_aload_n hx hb dX11_swaps_78 rfl (lv_at hl 1 rfl) ?_
      refine lv_aload_n hx hb dX11_swaps_79 rfl (lv_at hl 1 rfl) ?_
      obtain ⟨y5_13, hy4_13, hy7_13, he13⟩ := ok_X11 hok ha0
      refine th_get hx hb (ly_X11 hE) hown hK hP ha0.1 he13 rfl 12 (by decide) (wd_371 hE) (fun _ h9 => h9) rfl dX11_swaps_80 ?_
      refine lv_aload_n hx hb dX11_swaps_83 rfl (lv_at hl 1 rfl) ?_
      refine th_get hx hb (ly_X11 hE) hown hK hP ha0.1 he13 rfl 13 (by decide) (wd_372 hE) (fun _ h9 => h9) rfl dX11_swaps_84 ?_
      obtain ⟨y2_14, y3_14, hy3_14, he14⟩ := ok_X10 hok (wt_X11_12 hWT ha0)
      refine vp_callSi (va_Run.run (va_runV (As := [.ref (gR G a0 13)]) (rest := [.ref a0]) ⟨hx, hb, hml, hown, noTs⟩ (t_X10_sameAs l dC dI H.size G cs tt mm (gR G a0 12) ((wt_X11_12 hWT ha0)) (gR G a0 13) ((wt_X11_13 hWT ha0))) ⟨cbE 1 (wd_877 hE) (wd_120 hE) (wd_874 hE) rfl rfl (by decide +kernel) ⟨Nat.le_of_ble_eq_true rfl, Nat.le_of_ble_eq_true rfl⟩, (wd_875 hE), (wd_876 hE)⟩ ⟨PT.blind, th_recv hK hP (wt_X11_12 hWT ha0).1 he14 rfl, (th_pre (av := [.ref (gR G a0 12), .ref (gR G a0 13)]) trivial hK hP hok hnd hWT hE)⟩ rfl rfl hl.1 rfl (lv_room (Nat.le_of_ble_eq_true rfl)) dX11_swaps_87 ⟨Nat.le_of_ble_eq_true rfl, Nat.le_of_ble_eq_true rfl⟩)) (fun r15 hr15 => ?_)
      refine vp_callSi (va_Run.run (va_runS (As := [.int r15]) (rest := [.ref a0]) ⟨hx, hb, hml, hown, noTs⟩ (t_X11_bit l dC dI H.size G cs tt mm r15) ⟨cbE 1 (wd_669 hE) (wd_115 hE) (wd_884 hE) rfl rfl (by decide +kernel) ⟨Nat.le_of_ble_eq_true rfl, Nat.le_of_ble_eq_true rfl⟩, (wd_668 hE)⟩ ⟨PT.blind, (th_pre (av := [.int r15]) trivial hK hP hok hnd hWT hE)⟩ rfl rfl hl.1 rfl (lv_room (Nat.le_of_ble_eq_true rfl)) dX11_swaps_90 ⟨Nat.le_of_ble_eq_true rfl, Nat.le_of_ble_eq_true rfl⟩)) (fun r16 hr16 => ?_)
      refine tc_i hAL hS hA (va_runV (As := [.int r16]) (rest := []) ⟨hx, hb, hml, hown, noTs⟩ (t_X11_answer l dC dI H.size G cs tt mm a0 ha0 r16) ⟨cbE 1 (wd_748 hE) (wd_115 hE) (wd_745 hE) rfl rfl (by decide +kernel) ⟨Nat.le_of_ble_eq_true rfl, Nat.le_of_ble_eq_true rfl⟩, (wd_747 hE), (wd_23 hE)⟩ ⟨PT.blind, th_recv hK hP ha0.1 he13 rfl, (th_pre (av := [.ref a0, .int r16]) trivial hK hP hok hnd hWT hE)⟩ rfl rfl hl.1 rfl (lv_room (Nat.le_of_ble_eq_true rfl)) dX11_swaps_93 ⟨Nat.le_of_ble_eq_true rfl, Nat.le_of_ble_eq_true rfl⟩) (fun r17 f17 H locs hr17 hok hP hS => ?_)
      refine W.eq (g2 := F0 m 96 ls [.int r16]) (by rw [hr17]) ?_
      exact W.iret (v := r16) hx hb hr (fun t ht hW => ⟨⟨r16, f17, rfl, trivial, hok, by rw [ht]; exact hP⟩, hS.F ht⟩) hS.2.2 dX11_swaps_96
    · refine lv_aload_n hx hb dX11_swaps_34 rfl (lv_at hl 1 rfl) ?_
      refine lv_iconst (v := 4) hx hb dX11_swaps_35 (by decide) ?_
      refine tc_i hAL hS hA (va_runV (As := [.int 4]) (rest := []) ⟨hx, hb, hml, hown, noTs⟩ (t_X11_fail l dC dI H.size G cs tt mm a0 ha0 4) ⟨cbE 1 (wd_436 hE) (wd_115 hE) (wd_433 hE) rfl rfl (by decide +kernel) ⟨Nat.le_of_ble_eq_true rfl, Nat.le_of_ble_eq_true rfl⟩, (wd_435 hE), (wd_1 hE)⟩ ⟨PT.blind, th_recv hK hP ha0.1 he4 rfl, (th_pre (av := [.ref a0, .int 4]) trivial hK hP hok hnd hWT hE)⟩ rfl rfl hl.1 rfl (lv_room (Nat.le_of_ble_eq_true rfl)) dX11_swaps_36 ⟨Nat.le_of_ble_eq_true rfl, Nat.le_of_ble_eq_true rfl⟩) (fun r18 f18 H locs hr18 hok hP hS => ?_)
      subst hr18
      exact W.iret (v := -1) hx hb hr (fun t ht hW => ⟨⟨-1, f18, rfl, trivial, hok, by rw [ht]; exact hP⟩, hS.F ht⟩) hS.2.2 dX11_swaps_39
  · refine lv_aload_n hx hb dX11_swaps_11 rfl (lv_at hl 1 rfl) ?_
    refine lv_iload_n hx hb dX11_swaps_12 rfl (lv_at hl 0 rfl) ?_
    obtain ⟨y5_19, hy4_19, hy7_19, he19⟩ := ok_X11 hok ha0
    refine tc_i hAL hS hA (va_runV (As := [.int r2]) (rest := []) ⟨hx, hb, hml, hown, noTs⟩ (t_X11_fail l dC dI H.size G cs tt mm a0 ha0 r2) ⟨cbE 1 (wd_436 hE) (wd_115 hE) (wd_433 hE) rfl rfl (by decide +kernel) ⟨Nat.le_of_ble_eq_true rfl, Nat.le_of_ble_eq_true rfl⟩, (wd_435 hE), (wd_1 hE)⟩ ⟨PT.blind, th_recv hK hP ha0.1 he19 rfl, (th_pre (av := [.ref a0, .int r2]) trivial hK hP hok hnd hWT hE)⟩ rfl rfl hl.1 rfl (lv_room (Nat.le_of_ble_eq_true rfl)) dX11_swaps_13 ⟨Nat.le_of_ble_eq_true rfl, Nat.le_of_ble_eq_true rfl⟩) (fun r20 f20 H locs hr20 hok hP hS => ?_)
    subst hr20
    exact W.iret (v := -1) hx hb hr (fun t ht hW => ⟨⟨-1, f20, rfl, trivial, hok, by rw [ht]; exact hP⟩, hS.F ht⟩) hS.2.2 dX11_swaps_16

set_option maxHeartbeats 4000000 in
set_option maxRecDepth 100000 in
theorem t_X11_alikes (l : Launch) (dC : Nat → ClassId) (dI : Nat → Nat → Nat) (sz : Nat) (G : GT) (cs : Nat → ClassId) (tt mm : Nat) (a0 : Nat) (ha0 : Ty G a0 11) (v1 : Int32) : Met l yX11_alikes [.code yX11_alikes cX11_alikes 4 (some .int)] ({ frames := 6, cells := 0, slots := 0, locals := 240 }) (PT [.ref a0, .int v1] sz dC dI G cs tt mm (fun _ => True)) (va_Qi (fun (r : Int32) (u : Nat → va_E) => True) (BT dC dI G cs tt mm) (AT G sz)) 0 0 (AT G sz) := by
  refine Met.ofW (cc := cX11_alikes) (maxL := 4) (ret := (some .int)) (by decide) rfl ?_
  intro p e s m args below meth c s₁ B hml hv
  obtain ⟨rfl, hsz, ⟨f0, hok, hP, hX⟩, hK, hnd, hWT, hE⟩ := hv
  have hx := B.exec
  have hb := B.bytes
  have hr := B.returns
  have hown : s.vm.findClass RX11 = some m.cls := findClass_of_methodNamed B.named
  have hlocks := B.notSynchronized
  subst hsz
  have hAL : ∀ a, a ∈ gL G → AT G s.heap.size a := fun a h => Or.inl h
  have hA : ∀ q : Nat, s.heap.size ≤ q → AT G s.heap.size q := fun q h => Or.inr h
  have hS : va_S (AT G s.heap.size) s.heap s.heap [] := va_S.rf
  have hl := lv_entry ([.ref a0, .int v1]) (n := 4) (Nat.le_of_ble_eq_true rfl)
  rw [lg_entry_eq]
  generalize (lg_sl ([.ref a0, .int v1]) ++ List.replicate (4 - (lg_sl ([.ref a0, .int v1])).length) Slot.unset).toArray = ls at hl ⊢
  have hl : lv_has ls 4 [(0, .ref a0), (1, .int v1)] := hl
  refine lv_aload_n hx hb dX11_alikes_0 rfl (lv_at hl 0 rfl) ?_
  obtain ⟨y5_1, hy4_1, hy7_1, he1⟩ := ok_X11 hok ha0
  refine th_get hx hb (ly_X11 hE) hown hK hP ha0.1 he1 rfl 0 (by decide) (wd_359 hE) (fun _ h9 => h9) rfl dX11_alikes_1 ?_
  refine lv_iload_n hx hb dX11_alikes_4 rfl (lv_at hl 1 rfl) ?_
  refine lv_aload_n hx hb dX11_alikes_5 rfl (lv_at hl 0 rfl) ?_
  refine th_get hx hb (ly_X11 hE) hown hK hP ha0.1 he1 rfl 10 (by decide) (wd_369 hE) (fun _ h9 => h9) rfl dX11_alikes_6 ?_
  have he2 := ok_X7 hok (wt_X11_0 hWT ha0)
  refine tc_i hAL hS hA (va_runV (As := [.int v1, .ref (gR G a0 10)]) (rest := []) ⟨hx, hb, hml, hown, noTs⟩ (t_X7_readWord l dC dI s.heap.size G cs tt mm (gR G a0 0) ((wt_X11_0 hWT ha0)) v1 (gR G a0 10) ((wt_X11_10 hWT ha0))) ⟨cbE 2 (wd_817 hE) (wd_116 hE) (wd_814 hE) rfl rfl (by decide +kernel) ⟨Nat.le_of_ble_eq_true rfl, Nat.le_of_ble_eq_true rfl⟩, (wd_815 hE), (wd_816 hE)⟩ ⟨PT.blind, th_recv hK hP (wt_X11_0 hWT ha0).1 he2 rfl, (th_pre (av := [.ref (gR G a0 0), .int v1, .ref (gR G a0 10)]) trivial hK hP hok hnd hWT hE)⟩ rfl rfl hl.1 rfl (lv_room (Nat.le_of_ble_eq_true rfl)) dX11_alikes_9 ⟨Nat.le_of_ble_eq_true rfl, Nat.le_of_ble_eq_true rfl⟩) (fun r3 f3 H locs hr3 hok hP hS => ?_)
  refine lv_if_ne (tgt := 21) hx hb dX11_alikes_12 (by decide) (fun c4 => ?_) (fun c4 => ?_)
  · refine lv_aload_n hx hb dX11_alikes_21 rfl (lv_at hl 0 rfl) ?_
    obtain ⟨y5_5, hy4_5, hy7_5, he5⟩ := ok_X11 hok ha0
    refine th_get hx hb (ly_X11 hE) hown hK hP ha0.1 he5 rfl 0 (by decide) (wd_359 hE) (fun _ h9 => h9) rfl dX11_alikes_22 ?_
    refine lv_aload_n hx hb dX11_alikes_25 rfl (lv_at hl 0 rfl) ?_
    refine th_get hx hb (ly_X11 hE) hown hK hP ha0.1 he5 rfl 10 (by decide) (wd_369 hE) (fun _ h9 => h9) rfl dX11_alikes_26 ?_
    refine lv_aload_n hx hb dX11_alikes_29 rfl (lv_at hl 0 rfl) ?_
    refine th_get hx hb (ly_X11 hE) hown hK hP ha0.1 he5 rfl 12 (by decide) (wd_371 hE) (fun _ h9 => h9) rfl dX11_alikes_30 ?_
    refine tc_i hAL hS hA (va_runS (As := [.ref (gR G a0 0), .ref (gR G a0 10), .ref (gR G a0 12)]) (rest := []) ⟨hx, hb, hml, hown, noTs⟩ (t_X2_reduce l dC dI H.size G cs tt mm (gR G a0 0) ((wt_X11_0 hWT ha0)) (gR G a0 10) ((wt_X11_10 hWT ha0)) (gR G a0 12) ((wt_X11_12 hWT ha0))) ⟨cbE 3 (wd_837 hE) (wd_134 hE) (wd_835 hE) rfl rfl (by decide +kernel) ⟨Nat.le_of_ble_eq_true rfl, Nat.le_of_ble_eq_true rfl⟩, (wd_836 hE)⟩ ⟨PT.blind, (th_pre (av := [.ref (gR G a0 0), .ref (gR G a0 10), .ref (gR G a0 12)]) trivial hK hP hok hnd hWT hE)⟩ rfl rfl hl.1 rfl (lv_room (Nat.le_of_ble_eq_true rfl)) dX11_alikes_33 ⟨Nat.le_of_ble_eq_true rfl, Nat.le_of_ble_eq_true rfl⟩) (fun r6 f6 H locs hr6 hok hP hS => ?_)
    refine lv_pop hx hb dX11_alikes_36 rfl ?_
    refine lv_iconst (v := 0) hx hb dX11_alikes_37 (by decide) ?_
    refine lv_istore_n (lv' := [(2, .int 0), (0, .ref a0), (1, .int v1)]) hx hb dX11_alikes_38 rfl hl (by decide) rfl (fun ls hl => ?_)
    refine lv_iconst (v := 0) hx hb dX11_alikes_39 (by decide) ?_
    refine lv_istore_n (lv' := [(3, .int 0), (2, .int 0), (0, .ref a0), (1, .int v1)]) hx hb dX11_alikes_40 rfl hl (by decide) rfl (fun ls hl => ?_)
    refine w_ind (I := fun n f H locs ls => OKT G cs tt mm f ∧ va_P (dC, dI) vwCl (va_pl (gL G) f) H ∧ va_S (AT G s.heap.size) s.heap H locs ∧ ∃ (w2_7 : Int32) (w3_7 : Int32), n = (2147483647 - w3_7.toInt).toNat ∧ 0 ≤ w3_7 ∧ lv_has ls 4 [(0, .ref a0), (1, .int v1), (2, .int w2_7), (3, .int w3_7)]) (fun n f7 H locs ls hI ih7 => ?_) _ f6 _ _ _ ⟨hok, hP, hS, 0, 0, rfl, (by first | omega | (simp only [i_lt, i_le, i_eq, ti_m9, ti_m1, ti_0, ti_1, ti_2, ti_3, ti_4, ti_5, ti_6, ti_7, ti_9, ti_12, ti_20, ti_99, ti_700, ti_24, ti_156, ti_72, ti_8, ti_60, ti_543, ti_10, ti_33, ti_51, ti_178, ti_119, ti_111, ti_114, ti_100, ti_32, ti_62, ti_59, ti_48, ti_701, ti_97, ti_122, ti_57, ti_73, ti_128, ti_61] at c4 ⊢; omega)), lv_sub hl [2, 3, 1, 0] rfl⟩
    obtain ⟨hok, hP, hS, w2_7, w3_7, hmu7, hlo7, hl⟩ := hI
    subst hmu7
    refine lv_iload_n hx hb dX11_alikes_41 rfl (lv_at hl 3 rfl) ?_
    refine lv_aload_n hx hb dX11_alikes_42 rfl (lv_at hl 0 rfl) ?_
    obtain ⟨y5_8, hy4_8, hy7_8, he8⟩ := ok_X11 hok ha0
    refine th_get hx hb (ly_X11 hE) hown hK hP ha0.1 he8 rfl 0 (by decide) (wd_359 hE) (fun _ h9 => h9) rfl dX11_alikes_43 ?_
    have he9 := ok_X7 hok (wt_X11_0 hWT ha0)
    refine vp_callSi (va_Run.run (va_runV (As := []) (rest := [.int w3_7]) ⟨hx, hb, hml, hown, noTs⟩ (t_X7_words l dC dI H.size G cs tt mm (gR G a0 0) ((wt_X11_0 hWT ha0))) ⟨cbE 0 (wd_700 hE) (wd_116 hE) (wd_744 hE) rfl rfl (by decide +kernel) ⟨Nat.le_of_ble_eq_true rfl, Nat.le_of_ble_eq_true rfl⟩, (wd_698 hE), (wd_699 hE)⟩ ⟨PT.blind, th_recv hK hP (wt_X11_0 hWT ha0).1 he9 rfl, (th_pre (av := [.ref (gR G a0 0)]) trivial hK hP hok hnd hWT hE)⟩ rfl rfl hl.1 rfl (lv_room (Nat.le_of_ble_eq_true rfl)) dX11_alikes_46 ⟨Nat.le_of_ble_eq_true rfl, Nat.le_of_ble_eq_true rfl⟩)) (fun r10 hr10 => ?_)
    refine lv_icmp_ge (tgt := 94) hx hb dX11_alikes_49 (by decide) (fun c11 => ?_) (fun c11 => ?_)
    · refine lv_aload_n hx hb dX11_alikes_94 rfl (lv_at hl 0 rfl) ?_
      refine lv_iload_n hx hb dX11_alikes_95 rfl (lv_at hl 2 rfl) ?_
      refine tc_i hAL hS hA (va_runV (As := [.int w2_7]) (rest := []) ⟨hx, hb, hml, hown, noTs⟩ (t_X11_answer l dC dI H.size G cs tt mm a0 ha0 w2_7) ⟨cbE 1 (wd_748 hE) (wd_115 hE) (wd_745 hE) rfl rfl (by decide +kernel) ⟨Nat.le_of_ble_eq_true rfl, Nat.le_of_ble_eq_true rfl⟩, (wd_747 hE), (wd_23 hE)⟩ ⟨PT.blind, th_recv hK hP ha0.1 he8 rfl, (th_pre (av := [.ref a0, .int w2_7]) trivial hK hP hok hnd hWT hE)⟩ rfl rfl hl.1 rfl (lv_room (Nat.le_of_ble_eq_true rfl)) dX11_alikes_96 ⟨Nat.le_of_ble_eq_true rfl, Nat.le_of_ble_eq_true rfl⟩) (fun r12 f12 H locs hr12 hok hP hS => ?_)
      refine W.eq (g2 := F0 m 99 ls [.int w2_7]) (by rw [hr12]) ?_
      exact W.iret (v := w2_7) hx hb hr (fun t ht hW => ⟨⟨w2_7, f12, rfl, trivial, hok, by rw [ht]; exact hP⟩, hS.F ht⟩) hS.2.2 dX11_alikes_99
    · refine lv_aload_n hx hb dX11_alikes_52 rfl (lv_at hl 0 rfl) ?_
      refine th_get hx hb (ly_X11 hE) hown hK hP ha0.1 he8 rfl 0 (by decide) (wd_359 hE) (fun _ h9 => h9) rfl dX11_alikes_53 ?_
      refine lv_iload_n hx hb dX11_alikes_56 rfl (lv_at hl 3 rfl) ?_
      refine lv_aload_n hx hb dX11_alikes_57 rfl (lv_at hl 0 rfl) ?_
      refine th_get hx hb (ly_X11 hE) hown hK hP ha0.1 he8 rfl 11 (by decide) (wd_370 hE) (fun _ h9 => h9) rfl dX11_alikes_58 ?_
      refine tc_i hAL hS hA (va_runV (As := [.int w3_7, .ref (gR G a0 11)]) (rest := []) ⟨hx, hb, hml, hown, noTs⟩ (t_X7_readWord l dC dI H.size G cs tt mm (gR G a0 0) ((wt_X11_0 hWT ha0)) w3_7 (gR G a0 11) ((wt_X11_11 hWT ha0))) ⟨cbE 2 (wd_817 hE) (wd_116 hE) (wd_814 hE) rfl rfl (by decide +kernel) ⟨Nat.le_of_ble_eq_true rfl, Nat.le_of_ble_eq_true rfl⟩, (wd_815 hE), (wd_816 hE)⟩ ⟨PT.blind, th_recv hK hP (wt_X11_0 hWT ha0).1 he9 rfl, (th_pre (av := [.ref (gR G a0 0), .int w3_7, .ref (gR G a0 11)]) trivial hK hP hok hnd hWT hE)⟩ rfl rfl hl.1 rfl (lv_room (Nat.le_of_ble_eq_true rfl)) dX11_alikes_61 ⟨Nat.le_of_ble_eq_true rfl, Nat.le_of_ble_eq_true rfl⟩) (fun r13 f13 H locs hr13 hok hP hS => ?_)
      refine lv_if_eq (tgt := 88) hx hb dX11_alikes_64 (by decide) (fun c14 => ?_) (fun c14 => ?_)
      · obtain ⟨z15, ez15⟩ : ∃ z : Int32, z = w3_7 + 1 := ⟨_, rfl⟩
        refine lv_iinc (v := z15) (lv' := [(3, .int z15), (0, .ref a0), (1, .int v1), (2, .int w2_7)]) hx hb dX11_alikes_88 hl (k := 3) rfl (by rw [ez15]; rfl) (by decide) rfl (fun ls hl => ?_)
        have ic15 : z15.toInt = w3_7.toInt + 1 := by rw [ez15]; exact ic_up (by have := i_rng r3; have := i_rng w3_7; have := i_rng r10; have := i_rng r13; simp only [i_lt, i_le, i_eq, ti_m9, ti_m1, ti_0, ti_1, ti_2, ti_3, ti_4, ti_5, ti_6, ti_7, ti_9, ti_12, ti_20, ti_99, ti_700, ti_24, ti_156, ti_72, ti_8, ti_60, ti_543, ti_10, ti_33, ti_51, ti_178, ti_119, ti_111, ti_114, ti_100, ti_32, ti_62, ti_59, ti_48, ti_701, ti_97, ti_122, ti_57, ti_73, ti_128, ti_61] at c4 hlo7 c11 c14 ⊢; omega)
        refine lv_goto (tgt := 41) hx hb dX11_alikes_91 (by decide) ?_
        exact ih7 _ f13 _ _ _ (by have := i_rng z15; first | omega | (simp only [i_lt, i_le, i_eq, ti_m9, ti_m1, ti_0, ti_1, ti_2, ti_3, ti_4, ti_5, ti_6, ti_7, ti_9, ti_12, ti_20, ti_99, ti_700, ti_24, ti_156, ti_72, ti_8, ti_60, ti_543, ti_10, ti_33, ti_51, ti_178, ti_119, ti_111, ti_114, ti_100, ti_32, ti_62, ti_59, ti_48, ti_701, ti_97, ti_122, ti_57, ti_73, ti_128, ti_61, ic15] at c4 hlo7 c11 c14 ic15 ⊢; omega)) ⟨hok, hP, hS, w2_7, z15, rfl, (by first | omega | (simp only [i_lt, i_le, i_eq, ti_m9, ti_m1, ti_0, ti_1, ti_2, ti_3, ti_4, ti_5, ti_6, ti_7, ti_9, ti_12, ti_20, ti_99, ti_700, ti_24, ti_156, ti_72, ti_8, ti_60, ti_543, ti_10, ti_33, ti_51, ti_178, ti_119, ti_111, ti_114, ti_100, ti_32, ti_62, ti_59, ti_48, ti_701, ti_97, ti_122, ti_57, ti_73, ti_128, ti_61, ic15] at c4 hlo7 c11 c14 ⊢; omega)), lv_sub hl [1, 2, 3, 0] rfl⟩
      · refine lv_aload_n hx hb dX11_alikes_67 rfl (lv_at hl 0 rfl) ?_
        refine lv_aload_n hx hb dX11_alikes_68 rfl (lv_at hl 0 rfl) ?_
        obtain ⟨y5_16, hy4_16, hy7_16, he16⟩ := ok_X11 hok ha0
        refine th_get hx hb (ly_X11 hE) hown hK hP ha0.1 he16 rfl 11 (by decide) (wd_370 hE) (fun _ h9 => h9) rfl dX11_alikes_69 ?_
        refine lv_aload_n hx hb dX11_alikes_72 rfl (lv_at hl 0 rfl) ?_
        refine th_get hx hb (ly_X11 hE) hown hK hP ha0.1 he16 rfl 12 (by decide) (wd_371 hE) (fun _ h9 => h9) rfl dX11_alikes_73 ?_
        refine tc_i hAL hS hA (va_runV (As := [.ref (gR G a0 11), .ref (gR G a0 12)]) (rest := []) ⟨hx, hb, hml, hown, noTs⟩ (t_X11_isForm l dC dI H.size G cs tt mm a0 ha0 (gR G a0 11) ((wt_X11_11 hWT ha0)) (gR G a0 12) ((wt_X11_12 hWT ha0))) ⟨cbE 2 (wd_1067 hE) (wd_115 hE) (wd_1064 hE) rfl rfl (by decide +kernel) ⟨Nat.le_of_ble_eq_true rfl, Nat.le_of_ble_eq_true rfl⟩, (wd_1066 hE), (wd_37 hE)⟩ ⟨PT.blind, th_recv hK hP ha0.1 he16 rfl, (th_pre (av := [.ref a0, .ref (gR G a0 11), .ref (gR G a0 12)]) trivial hK hP hok hnd hWT hE)⟩ rfl rfl hl.1 rfl (lv_room (Nat.le_of_ble_eq_true rfl)) dX11_alikes_76 ⟨Nat.le_of_ble_eq_true rfl, Nat.le_of_ble_eq_true rfl⟩) (fun r17 f17 H locs hr17 hok hP hS => ?_)
        refine lv_if_eq (tgt := 88) hx hb dX11_alikes_79 (by decide) (fun c18 => ?_) (fun c18 => ?_)
        · obtain ⟨z19, ez19⟩ : ∃ z : Int32, z = w3_7 + 1 := ⟨_, rfl⟩
          refine lv_iinc (v := z19) (lv' := [(3, .int z19), (0, .ref a0), (1, .int v1), (2, .int w2_7)]) hx hb dX11_alikes_88 hl (k := 3) rfl (by rw [ez19]; rfl) (by decide) rfl (fun ls hl => ?_)
          have ic19 : z19.toInt = w3_7.toInt + 1 := by rw [ez19]; exact ic_up (by have := i_rng r3; have := i_rng w3_7; have := i_rng r10; have := i_rng r13; have := i_rng r17; simp only [i_lt, i_le, i_eq, ti_m9, ti_m1, ti_0, ti_1, ti_2, ti_3, ti_4, ti_5, ti_6, ti_7, ti_9, ti_12, ti_20, ti_99, ti_700, ti_24, ti_156, ti_72, ti_8, ti_60, ti_543, ti_10, ti_33, ti_51, ti_178, ti_119, ti_111, ti_114, ti_100, ti_32, ti_62, ti_59, ti_48, ti_701, ti_97, ti_122, ti_57, ti_73, ti_128, ti_61] at c4 hlo7 c11 c14 c18 ⊢; omega)
          refine lv_goto (tgt := 41) hx hb dX11_alikes_91 (by decide) ?_
          exact ih7 _ f17 _ _ _ (by have := i_rng z19; first | omega | (simp only [i_lt, i_le, i_eq, ti_m9, ti_m1, ti_0, ti_1, ti_2, ti_3, ti_4, ti_5, ti_6, ti_7, ti_9, ti_12, ti_20, ti_99, ti_700, ti_24, ti_156, ti_72, ti_8, ti_60, ti_543, ti_10, ti_33, ti_51, ti_178, ti_119, ti_111, ti_114, ti_100, ti_32, ti_62, ti_59, ti_48, ti_701, ti_97, ti_122, ti_57, ti_73, ti_128, ti_61, ic19] at c4 hlo7 c11 c14 c18 ic19 ⊢; omega)) ⟨hok, hP, hS, w2_7, z19, rfl, (by first | omega | (simp only [i_lt, i_le, i_eq, ti_m9, ti_m1, ti_0, ti_1, ti_2, ti_3, ti_4, ti_5, ti_6, ti_7, ti_9, ti_12, ti_20, ti_99, ti_700, ti_24, ti_156, ti_72, ti_8, ti_60, ti_543, ti_10, ti_33, ti_51, ti_178, ti_119, ti_111, ti_114, ti_100, ti_32, ti_62, ti_59, ti_48, ti_701, ti_97, ti_122, ti_57, ti_73, ti_128, ti_61, ic19] at c4 hlo7 c11 c14 c18 ⊢; omega)), lv_sub hl [1, 2, 3, 0] rfl⟩
        · refine lv_iload_n hx hb dX11_alikes_82 rfl (lv_at hl 2 rfl) ?_
          refine lv_iconst (v := 1) hx hb dX11_alikes_83 (by decide) ?_
          refine lv_iload_n hx hb dX11_alikes_84 rfl (lv_at hl 3 rfl) ?_
          refine lv_ishl hx hb dX11_alikes_85 ?_
          refine lv_topi (fun x20 _ => ?_)
          refine lv_ior hx hb dX11_alikes_86 ?_
          refine lv_topi (fun x21 _ => ?_)
          refine lv_istore_n (lv' := [(2, .int x21), (0, .ref a0), (1, .int v1), (3, .int w3_7)]) hx hb dX11_alikes_87 rfl hl (by decide) rfl (fun ls hl => ?_)
          obtain ⟨z22, ez22⟩ : ∃ z : Int32, z = w3_7 + 1 := ⟨_, rfl⟩
          refine lv_iinc (v := z22) (lv' := [(3, .int z22), (2, .int x21), (0, .ref a0), (1, .int v1)]) hx hb dX11_alikes_88 hl (k := 3) rfl (by rw [ez22]; rfl) (by decide) rfl (fun ls hl => ?_)
          have ic22 : z22.toInt = w3_7.toInt + 1 := by rw [ez22]; exact ic_up (by have := i_rng r3; have := i_rng w3_7; have := i_rng r10; have := i_rng r13; have := i_rng r17; simp only [i_lt, i_le, i_eq, ti_m9, ti_m1, ti_0, ti_1, ti_2, ti_3, ti_4, ti_5, ti_6, ti_7, ti_9, ti_12, ti_20, ti_99, ti_700, ti_24, ti_156, ti_72, ti_8, ti_60, ti_543, ti_10, ti_33, ti_51, ti_178, ti_119, ti_111, ti_114, ti_100, ti_32, ti_62, ti_59, ti_48, ti_701, ti_97, ti_122, ti_57, ti_73, ti_128, ti_61] at c4 hlo7 c11 c14 c18 ⊢; omega)
          refine lv_goto (tgt := 41) hx hb dX11_alikes_91 (by decide) ?_
          exact ih7 _ f17 _ _ _ (by have := i_rng z22; first | omega | (simp only [i_lt, i_le, i_eq, ti_m9, ti_m1, ti_0, ti_1, ti_2, ti_3, ti_4, ti_5, ti_6, ti_7, ti_9, ti_12, ti_20, ti_99, ti_700, ti_24, ti_156, ti_72, ti_8, ti_60, ti_543, ti_10, ti_33, ti_51, ti_178, ti_119, ti_111, ti_114, ti_100, ti_32, ti_62, ti_59, ti_48, ti_701, ti_97, ti_122, ti_57, ti_73, ti_128, ti_61, ic22] at c4 hlo7 c11 c14 c18 ic22 ⊢; omega)) ⟨hok, hP, hS, x21, z22, rfl, (by first | omega | (simp only [i_lt, i_le, i_eq, ti_m9, ti_m1, ti_0, ti_1, ti_2, ti_3, ti_4, ti_5, ti_6, ti_7, ti_9, ti_12, ti_20, ti_99, ti_700, ti_24, ti_156, ti_72, ti_8, ti_60, ti_543, ti_10, ti_33, ti_51, ti_178, ti_119, ti_111, ti_114, ti_100, ti_32, ti_62, ti_59, ti_48, ti_701, ti_97, ti_122, ti_57, ti_73, ti_128, ti_61, ic22] at c4 hlo7 c11 c14 c18 ⊢; omega)), lv_sub hl [2, 3, 1, 0] rfl⟩
  · refine lv_aload_n hx hb dX11_alikes_15 rfl (lv_at hl 0 rfl) ?_
    refine lv_iconst (v := 2) hx hb dX11_alikes_16 (by decide) ?_
    obtain ⟨y5_23, hy4_23, hy7_23, he23⟩ := ok_X11 hok ha0
    refine tc_i hAL hS hA (va_runV (As := [.int 2]) (rest := []) ⟨hx, hb, hml, hown, noTs⟩ (t_X11_fail l dC dI H.size G cs tt mm a0 ha0 2) ⟨cbE 1 (wd_436 hE) (wd_115 hE) (wd_433 hE) rfl rfl (by decide +kernel) ⟨Nat.le_of_ble_eq_true rfl, Nat.le_of_ble_eq_true rfl⟩, (wd_435 hE), (wd_1 hE)⟩ ⟨PT.blind, th_recv hK hP ha0.1 he23 rfl, (th_pre (av := [.ref a0, .int 2]) trivial hK hP hok hnd hWT hE)⟩ rfl rfl hl.1 rfl (lv_room (Nat.le_of_ble_eq_true rfl)) dX11_alikes_17 ⟨Nat.le_of_ble_eq_true rfl, Nat.le_of_ble_eq_true rfl⟩) (fun r24 f24 H locs hr24 hok hP hS => ?_)
    subst hr24
    exact W.iret (v := -1) hx hb hr (fun t ht hW => ⟨⟨-1, f24, rfl, trivial, hok, by rw [ht]; exact hP⟩, hS.F ht⟩) hS.2.2 dX11_alikes_20

set_option maxHeartbeats 4000000 in
set_option maxRecDepth 100000 in
theorem t_X11_twin (l : Launch) (dC : Nat → ClassId) (dI : Nat → Nat → Nat) (sz : Nat) (G : GT) (cs : Nat → ClassId) (tt mm : Nat) (a0 : Nat) (ha0 : Ty G a0 11) (v1 : Int32) : Met l yX11_twin [.code yX11_twin cX11_twin 3 (some .int)] ({ frames := 6, cells := 0, slots := 0, locals := 240 }) (PT [.ref a0, .int v1] sz dC dI G cs tt mm (fun _ => True)) (va_Qi (fun (r : Int32) (u : Nat → va_E) => True) (BT dC dI G cs tt mm) (AT G sz)) 0 0 (AT G sz) := by
  refine Met.ofW (cc := cX11_twin) (maxL := 3) (ret := (some .int)) (by decide) rfl ?_
  intro p e s m args below meth c s₁ B hml hv
  obtain ⟨rfl, hsz, ⟨f0, hok, hP, hX⟩, hK, hnd, hWT, hE⟩ := hv
  have hx := B.exec
  have hb := B.bytes
  have hr := B.returns
  have hown : s.vm.findClass RX11 = some m.cls := findClass_of_methodNamed B.named
  have hlocks := B.notSynchronized
  subst hsz
  have hAL : ∀ a, a ∈ gL G → AT G s.heap.size a := fun a h => Or.inl h
  have hA : ∀ q : Nat, s.heap.size ≤ q → AT G s.heap.size q := fun q h => Or.inr h
  have hS : va_S (AT G s.heap.size) s.heap s.heap [] := va_S.rf
  have hl := lv_entry ([.ref a0, .int v1]) (n := 3) (Nat.le_of_ble_eq_true rfl)
  rw [lg_entry_eq]
  generalize (lg_sl ([.ref a0, .int v1]) ++ List.replicate (3 - (lg_sl ([.ref a0, .int v1])).length) Slot.unset).toArray = ls at hl ⊢
  have hl : lv_has ls 3 [(0, .ref a0), (1, .int v1)] := hl
  refine lv_aload_n hx hb dX11_twin_0 rfl (lv_at hl 0 rfl) ?_
  obtain ⟨y5_1, hy4_1, hy7_1, he1⟩ := ok_X11 hok ha0
  refine th_get hx hb (ly_X11 hE) hown hK hP ha0.1 he1 rfl 0 (by decide) (wd_359 hE) (fun _ h9 => h9) rfl dX11_twin_1 ?_
  refine lv_iload_n hx hb dX11_twin_4 rfl (lv_at hl 1 rfl) ?_
  refine lv_aload_n hx hb dX11_twin_5 rfl (lv_at hl 0 rfl) ?_
  refine th_get hx hb (ly_X11 hE) hown hK hP ha0.1 he1 rfl 10 (by decide) (wd_369 hE) (fun _ h9 => h9) rfl dX11_twin_6 ?_
  have he2 := ok_X7 hok (wt_X11_0 hWT ha0)
  refine tc_i hAL hS hA (va_runV (As := [.int v1, .ref (gR G a0 10)]) (rest := []) ⟨hx, hb, hml, hown, noTs⟩ (t_X7_readWord l dC dI s.heap.size G cs tt mm (gR G a0 0) ((wt_X11_0 hWT ha0)) v1 (gR G a0 10) ((wt_X11_10 hWT ha0))) ⟨cbE 2 (wd_817 hE) (wd_116 hE) (wd_814 hE) rfl rfl (by decide +kernel) ⟨Nat.le_of_ble_eq_true rfl, Nat.le_of_ble_eq_true rfl⟩, (wd_815 hE), (wd_816 hE)⟩ ⟨PT.blind, th_recv hK hP (wt_X11_0 hWT ha0).1 he2 rfl, (th_pre (av := [.ref (gR G a0 0), .int v1, .ref (gR G a0 10)]) trivial hK hP hok hnd hWT hE)⟩ rfl rfl hl.1 rfl (lv_room (Nat.le_of_ble_eq_true rfl)) dX11_twin_9 ⟨Nat.le_of_ble_eq_true rfl, Nat.le_of_ble_eq_true rfl⟩) (fun r3 f3 H locs hr3 hok hP hS => ?_)
  refine lv_if_ne (tgt := 21) hx hb dX11_twin_12 (by decide) (fun c4 => ?_) (fun c4 => ?_)
  · refine lv_aload_n hx hb dX11_twin_21 rfl (lv_at hl 0 rfl) ?_
    obtain ⟨y5_5, hy4_5, hy7_5, he5⟩ := ok_X11 hok ha0
    refine th_get hx hb (ly_X11 hE) hown hK hP ha0.1 he5 rfl 0 (by decide) (wd_359 hE) (fun _ h9 => h9) rfl dX11_twin_22 ?_
    refine lv_aload_n hx hb dX11_twin_25 rfl (lv_at hl 0 rfl) ?_
    refine th_get hx hb (ly_X11 hE) hown hK hP ha0.1 he5 rfl 10 (by decide) (wd_369 hE) (fun _ h9 => h9) rfl dX11_twin_26 ?_
    refine lv_aload_n hx hb dX11_twin_29 rfl (lv_at hl 0 rfl) ?_
    refine th_get hx hb (ly_X11 hE) hown hK hP ha0.1 he5 rfl 12 (by decide) (wd_371 hE) (fun _ h9 => h9) rfl dX11_twin_30 ?_
    refine tc_i hAL hS hA (va_runS (As := [.ref (gR G a0 0), .ref (gR G a0 10), .ref (gR G a0 12)]) (rest := []) ⟨hx, hb, hml, hown, noTs⟩ (t_X2_reduce l dC dI H.size G cs tt mm (gR G a0 0) ((wt_X11_0 hWT ha0)) (gR G a0 10) ((wt_X11_10 hWT ha0)) (gR G a0 12) ((wt_X11_12 hWT ha0))) ⟨cbE 3 (wd_837 hE) (wd_134 hE) (wd_835 hE) rfl rfl (by decide +kernel) ⟨Nat.le_of_ble_eq_true rfl, Nat.le_of_ble_eq_true rfl⟩, (wd_836 hE)⟩ ⟨PT.blind, (th_pre (av := [.ref (gR G a0 0), .ref (gR G a0 10), .ref (gR G a0 12)]) trivial hK hP hok hnd hWT hE)⟩ rfl rfl hl.1 rfl (lv_room (Nat.le_of_ble_eq_true rfl)) dX11_twin_33 ⟨Nat.le_of_ble_eq_true rfl, Nat.le_of_ble_eq_true rfl⟩) (fun r6 f6 H locs hr6 hok hP hS => ?_)
    refine lv_pop hx hb dX11_twin_36 rfl ?_
    refine lv_iconst (v := 0) hx hb dX11_twin_37 (by decide) ?_
    refine lv_istore_n (lv' := [(2, .int 0), (0, .ref a0), (1, .int v1)]) hx hb dX11_twin_38 rfl hl (by decide) rfl (fun ls hl => ?_)
    refine w_ind (I := fun n f H locs ls => OKT G cs tt mm f ∧ va_P (dC, dI) vwCl (va_pl (gL G) f) H ∧ va_S (AT G s.heap.size) s.heap H locs ∧ ∃ (w2_7 : Int32), n = (2147483647 - w2_7.toInt).toNat ∧ 0 ≤ w2_7 ∧ lv_has ls 3 [(0, .ref a0), (1, .int v1), (2, .int w2_7)]) (fun n f7 H locs ls hI ih7 => ?_) _ f6 _ _ _ ⟨hok, hP, hS, 0, rfl, (by first | omega | (simp only [i_lt, i_le, i_eq, ti_m9, ti_m1, ti_0, ti_1, ti_2, ti_3, ti_4, ti_5, ti_6, ti_7, ti_9, ti_12, ti_20, ti_99, ti_700, ti_24, ti_156, ti_72, ti_8, ti_60, ti_543, ti_10, ti_33, ti_51, ti_178, ti_119, ti_111, ti_114, ti_100, ti_32, ti_62, ti_59, ti_48, ti_701, ti_97, ti_122, ti_57, ti_73, ti_128, ti_61] at c4 ⊢; omega)), lv_sub hl [1, 2, 0] rfl⟩
    obtain ⟨hok, hP, hS, w2_7, hmu7, hlo7, hl⟩ := hI
    subst hmu7
    refine lv_iload_n hx hb dX11_twin_39 rfl (lv_at hl 2 rfl) ?_
    refine lv_aload_n hx hb dX11_twin_40 rfl (lv_at hl 0 rfl) ?_
    obtain ⟨y5_8, hy4_8, hy7_8, he8⟩ := ok_X11 hok ha0
    refine th_get hx hb (ly_X11 hE) hown hK hP ha0.1 he8 rfl 0 (by decide) (wd_359 hE) (fun _ h9 => h9) rfl dX11_twin_41 ?_
    have he9 := ok_X7 hok (wt_X11_0 hWT ha0)
    refine vp_callSi (va_Run.run (va_runV (As := []) (rest := [.int w2_7]) ⟨hx, hb, hml, hown, noTs⟩ (t_X7_words l dC dI H.size G cs tt mm (gR G a0 0) ((wt_X11_0 hWT ha0))) ⟨cbE 0 (wd_700 hE) (wd_116 hE) (wd_744 hE) rfl rfl (by decide +kernel) ⟨Nat.le_of_ble_eq_true rfl, Nat.le_of_ble_eq_true rfl⟩, (wd_698 hE), (wd_699 hE)⟩ ⟨PT.blind, th_recv hK hP (wt_X11_0 hWT ha0).1 he9 rfl, (th_pre (av := [.ref (gR G a0 0)]) trivial hK hP hok hnd hWT hE)⟩ rfl rfl hl.1 rfl (lv_room (Nat.le_of_ble_eq_true rfl)) dX11_twin_44 ⟨Nat.le_of_ble_eq_true rfl, Nat.le_of_ble_eq_true rfl⟩)) (fun r10 hr10 => ?_)
    refine lv_icmp_ge (tgt := 97) hx hb dX11_twin_47 (by decide) (fun c11 => ?_) (fun c11 => ?_)
    · refine lv_aload_n hx hb dX11_twin_97 rfl (lv_at hl 0 rfl) ?_
      refine lv_iconst (v := 5) hx hb dX11_twin_98 (by decide) ?_
      refine tc_i hAL hS hA (va_runV (As := [.int 5]) (rest := []) ⟨hx, hb, hml, hown, noTs⟩ (t_X11_fail l dC dI H.size G cs tt mm a0 ha0 5) ⟨cbE 1 (wd_436 hE) (wd_115 hE) (wd_433 hE) rfl rfl (by decide +kernel) ⟨Nat.le_of_ble_eq_true rfl, Nat.le_of_ble_eq_true rfl⟩, (wd_435 hE), (wd_1 hE)⟩ ⟨PT.blind, th_recv hK hP ha0.1 he8 rfl, (th_pre (av := [.ref a0, .int 5]) trivial hK hP hok hnd hWT hE)⟩ rfl rfl hl.1 rfl (lv_room (Nat.le_of_ble_eq_true rfl)) dX11_twin_99 ⟨Nat.le_of_ble_eq_true rfl, Nat.le_of_ble_eq_true rfl⟩) (fun r12 f12 H locs hr12 hok hP hS => ?_)
      subst hr12
      exact W.iret (v := -1) hx hb hr (fun t ht hW => ⟨⟨-1, f12, rfl, trivial, hok, by rw [ht]; exact hP⟩, hS.F ht⟩) hS.2.2 dX11_twin_102
    · refine lv_iload_n hx hb dX11_twin_50 rfl (lv_at hl 2 rfl) ?_
      refine lv_iload_n hx hb dX11_twin_51 rfl (lv_at hl 1 rfl) ?_
      refine lv_icmp_eq (tgt := 91) hx hb dX11_twin_52 (by decide) (fun c13 => ?_) (fun c13 => ?_)
      · obtain ⟨z14, ez14⟩ : ∃ z : Int32, z = w2_7 + 1 := ⟨_, rfl⟩
        refine lv_iinc (v := z14) (lv' := [(2, .int z14), (0, .ref a0), (1, .int v1)]) hx hb dX11_twin_91 hl (k := 2) rfl (by rw [ez14]; rfl) (by decide) rfl (fun ls hl => ?_)
        have ic14 : z14.toInt = w2_7.toInt + 1 := by rw [ez14]; exact ic_up (by have := i_rng r3; have := i_rng w2_7; have := i_rng r10; have := i_rng v1; simp only [i_lt, i_le, i_eq, ti_m9, ti_m1, ti_0, ti_1, ti_2, ti_3, ti_4, ti_5, ti_6, ti_7, ti_9, ti_12, ti_20, ti_99, ti_700, ti_24, ti_156, ti_72, ti_8, ti_60, ti_543, ti_10, ti_33, ti_51, ti_178, ti_119, ti_111, ti_114, ti_100, ti_32, ti_62, ti_59, ti_48, ti_701, ti_97, ti_122, ti_57, ti_73, ti_128, ti_61] at c4 hlo7 c11 c13 ⊢; omega)
        refine lv_goto (tgt := 39) hx hb dX11_twin_94 (by decide) ?_
        exact ih7 _ f7 _ _ _ (by have := i_rng z14; first | omega | (simp only [i_lt, i_le, i_eq, ti_m9, ti_m1, ti_0, ti_1, ti_2, ti_3, ti_4, ti_5, ti_6, ti_7, ti_9, ti_12, ti_20, ti_99, ti_700, ti_24, ti_156, ti_72, ti_8, ti_60, ti_543, ti_10, ti_33, ti_51, ti_178, ti_119, ti_111, ti_114, ti_100, ti_32, ti_62, ti_59, ti_48, ti_701, ti_97, ti_122, ti_57, ti_73, ti_128, ti_61, ic14] at c4 hlo7 c11 c13 ic14 ⊢; omega)) ⟨hok, hP, hS, z14, rfl, (by first | omega | (simp only [i_lt, i_le, i_eq, ti_m9, ti_m1, ti_0, ti_1, ti_2, ti_3, ti_4, ti_5, ti_6, ti_7, ti_9, ti_12, ti_20, ti_99, ti_700, ti_24, ti_156, ti_72, ti_8, ti_60, ti_543, ti_10, ti_33, ti_51, ti_178, ti_119, ti_111, ti_114, ti_100, ti_32, ti_62, ti_59, ti_48, ti_701, ti_97, ti_122, ti_57, ti_73, ti_128, ti_61, ic14] at c4 hlo7 c11 c13 ⊢; omega)), lv_sub hl [1, 2, 0] rfl⟩
      · refine lv_aload_n hx hb dX11_twin_55 rfl (lv_at hl 0 rfl) ?_
        refine th_get hx hb (ly_X11 hE) hown hK hP ha0.1 he8 rfl 0 (by decide) (wd_359 hE) (fun _ h9 => h9) rfl dX11_twin_56 ?_
        refine lv_iload_n hx hb dX11_twin_59 rfl (lv_at hl 2 rfl) ?_
        refine lv_aload_n hx hb dX11_twin_60 rfl (lv_at hl 0 rfl) ?_
        refine th_get hx hb (ly_X11 hE) hown hK hP ha0.1 he8 rfl 11 (by decide) (wd_370 hE) (fun _ h9 => h9) rfl dX11_twin_61 ?_
        refine tc_i hAL hS hA (va_runV (As := [.int w2_7, .ref (gR G a0 11)]) (rest := []) ⟨hx, hb, hml, hown, noTs⟩ (t_X7_readWord l dC dI H.size G cs tt mm (gR G a0 0) ((wt_X11_0 hWT ha0)) w2_7 (gR G a0 11) ((wt_X11_11 hWT ha0))) ⟨cbE 2 (wd_817 hE) (wd_116 hE) (wd_814 hE) rfl rfl (by decide +kernel) ⟨Nat.le_of_ble_eq_true rfl, Nat.le_of_ble_eq_true rfl⟩, (wd_815 hE), (wd_816 hE)⟩ ⟨PT.blind, th_recv hK hP (wt_X11_0 hWT ha0).1 he9 rfl, (th_pre (av := [.ref (gR G a0 0), .int w2_7, .ref (gR G a0 11)]) trivial hK hP hok hnd hWT hE)⟩ rfl rfl hl.1 rfl (lv_room (Nat.le_of_ble_eq_true rfl)) dX11_twin_64 ⟨Nat.le_of_ble_eq_true rfl, Nat.le_of_ble_eq_true rfl⟩) (fun r15 f15 H locs hr15 hok hP hS => ?_)
        refine lv_if_eq (tgt := 91) hx hb dX11_twin_67 (by decide) (fun c16 => ?_) (fun c16 => ?_)
        · obtain ⟨z17, ez17⟩ : ∃ z : Int32, z = w2_7 + 1 := ⟨_, rfl⟩
          refine lv_iinc (v := z17) (lv' := [(2, .int z17), (0, .ref a0), (1, .int v1)]) hx hb dX11_twin_91 hl (k := 2) rfl (by rw [ez17]; rfl) (by decide) rfl (fun ls hl => ?_)
          have ic17 : z17.toInt = w2_7.toInt + 1 := by rw [ez17]; exact ic_up (by have := i_rng r3; have := i_rng w2_7; have := i_rng r10; have := i_rng v1; have := i_rng r15; simp only [i_lt, i_le, i_eq, ti_m9, ti_m1, ti_0, ti_1, ti_2, ti_3, ti_4, ti_5, ti_6, ti_7, ti_9, ti_12, ti_20, ti_99, ti_700, ti_24, ti_156, ti_72, ti_8, ti_60, ti_543, ti_10, ti_33, ti_51, ti_178, ti_119, ti_111, ti_114, ti_100, ti_32, ti_62, ti_59, ti_48, ti_701, ti_97, ti_122, ti_57, ti_73, ti_128, ti_61] at c4 hlo7 c11 c13 c16 ⊢; omega)
          refine lv_goto (tgt := 39) hx hb dX11_twin_94 (by decide) ?_
          exact ih7 _ f15 _ _ _ (by have := i_rng z17; first | omega | (simp only [i_lt, i_le, i_eq, ti_m9, ti_m1, ti_0, ti_1, ti_2, ti_3, ti_4, ti_5, ti_6, ti_7, ti_9, ti_12, ti_20, ti_99, ti_700, ti_24, ti_156, ti_72, ti_8, ti_60, ti_543, ti_10, ti_33, ti_51, ti_178, ti_119, ti_111, ti_114, ti_100, ti_32, ti_62, ti_59, ti_48, ti_701, ti_97, ti_122, ti_57, ti_73, ti_128, ti_61, ic17] at c4 hlo7 c11 c13 c16 ic17 ⊢; omega)) ⟨hok, hP, hS, z17, rfl, (by first | omega | (simp only [i_lt, i_le, i_eq, ti_m9, ti_m1, ti_0, ti_1, ti_2, ti_3, ti_4, ti_5, ti_6, ti_7, ti_9, ti_12, ti_20, ti_99, ti_700, ti_24, ti_156, ti_72, ti_8, ti_60, ti_543, ti_10, ti_33, ti_51, ti_178, ti_119, ti_111, ti_114, ti_100, ti_32, ti_62, ti_59, ti_48, ti_701, ti_97, ti_122, ti_57, ti_73, ti_128, ti_61, ic17] at c4 hlo7 c11 c13 c16 ⊢; omega)), lv_sub hl [1, 2, 0] rfl⟩
        · refine lv_aload_n hx hb dX11_twin_70 rfl (lv_at hl 0 rfl) ?_
          refine lv_aload_n hx hb dX11_twin_71 rfl (lv_at hl 0 rfl) ?_
          obtain ⟨y5_18, hy4_18, hy7_18, he18⟩ := ok_X11 hok ha0
          refine th_get hx hb (ly_X11 hE) hown hK hP ha0.1 he18 rfl 11 (by decide) (wd_370 hE) (fun _ h9 => h9) rfl dX11_twin_72 ?_
          refine lv_aload_n hx hb dX11_twin_75 rfl (lv_at hl 0 rfl) ?_
          refine th_get hx hb (ly_X11 hE) hown hK hP ha0.1 he18 rfl 12 (by decide) (wd_371 hE) (fun _ h9 => h9) rfl dX11_twin_76 ?_
          refine tc_i hAL hS hA (va_runV (As := [.ref (gR G a0 11), .ref (gR G a0 12)]) (rest := []) ⟨hx, hb, hml, hown, noTs⟩ (t_X11_isForm l dC dI H.size G cs tt mm a0 ha0 (gR G a0 11) ((wt_X11_11 hWT ha0)) (gR G a0 12) ((wt_X11_12 hWT ha0))) ⟨cbE 2 (wd_1067 hE) (wd_115 hE) (wd_1064 hE) rfl rfl (by decide +kernel) ⟨Nat.le_of_ble_eq_true rfl, Nat.le_of_ble_eq_true rfl⟩, (wd_1066 hE), (wd_37 hE)⟩ ⟨PT.blind, th_recv hK hP ha0.1 he18 rfl, (th_pre (av := [.ref a0, .ref (gR G a0 11), .ref (gR G a0 12)]) trivial hK hP hok hnd hWT hE)⟩ rfl rfl hl.1 rfl (lv_room (Nat.le_of_ble_eq_true rfl)) dX11_twin_79 ⟨Nat.le_of_ble_eq_true rfl, Nat.le_of_ble_eq_true rfl⟩) (fun r19 f19 H locs hr19 hok hP hS => ?_)
          refine lv_if_eq (tgt := 91) hx hb dX11_twin_82 (by decide) (fun c20 => ?_) (fun c20 => ?_)
          · obtain ⟨z21, ez21⟩ : ∃ z : Int32, z = w2_7 + 1 := ⟨_, rfl⟩
            refine lv_iinc (v := z21) (lv' := [(2, .int z21), (0, .ref a0), (1, .int v1)]) hx hb dX11_twin_91 hl (k := 2) rfl (by rw [ez21]; rfl) (by decide) rfl (fun ls hl => ?_)
            have ic21 : z21.toInt = w2_7.toInt + 1 := by rw [ez21]; exact ic_up (by have := i_rng r3; have := i_rng w2_7; have := i_rng r10; have := i_rng v1; have := i_rng r15; have := i_rng r19; simp only [i_lt, i_le, i_eq, ti_m9, ti_m1, ti_0, ti_1, ti_2, ti_3, ti_4, ti_5, ti_6, ti_7, ti_9, ti_12, ti_20, ti_99, ti_700, ti_24, ti_156, ti_72, ti_8, ti_60, ti_543, ti_10, ti_33, ti_51, ti_178, ti_119, ti_111, ti_114, ti_100, ti_32, ti_62, ti_59, ti_48, ti_701, ti_97, ti_122, ti_57, ti_73, ti_128, ti_61] at c4 hlo7 c11 c13 c16 c20 ⊢; omega)
            refine lv_goto (tgt := 39) hx hb dX11_twin_94 (by decide) ?_
            exact ih7 _ f19 _ _ _ (by have := i_rng z21; first | omega | (simp only [i_lt, i_le, i_eq, ti_m9, ti_m1, ti_0, ti_1, ti_2, ti_3, ti_4, ti_5, ti_6, ti_7, ti_9, ti_12, ti_20, ti_99, ti_700, ti_24, ti_156, ti_72, ti_8, ti_60, ti_543, ti_10, ti_33, ti_51, ti_178, ti_119, ti_111, ti_114, ti_100, ti_32, ti_62, ti_59, ti_48, ti_701, ti_97, ti_122, ti_57, ti_73, ti_128, ti_61, ic21] at c4 hlo7 c11 c13 c16 c20 ic21 ⊢; omega)) ⟨hok, hP, hS, z21, rfl, (by first | omega | (simp only [i_lt, i_le, i_eq, ti_m9, ti_m1, ti_0, ti_1, ti_2, ti_3, ti_4, ti_5, ti_6, ti_7, ti_9, ti_12, ti_20, ti_99, ti_700, ti_24, ti_156, ti_72, ti_8, ti_60, ti_543, ti_10, ti_33, ti_51, ti_178, ti_119, ti_111, ti_114, ti_100, ti_32, ti_62, ti_59, ti_48, ti_701, ti_97, ti_122, ti_57, ti_73, ti_128, ti_61, ic21] at c4 hlo7 c11 c13 c16 c20 ⊢; omega)), lv_sub hl [1, 2, 0] rfl⟩
          · refine lv_aload_n hx hb dX11_twin_85 rfl (lv_at hl 0 rfl) ?_
            refine lv_iload_n hx hb dX11_twin_86 rfl (lv_at hl 2 rfl) ?_
            obtain ⟨y5_22, hy4_22, hy7_22, he22⟩ := ok_X11 hok ha0
            refine tc_i hAL hS hA (va_runV (As := [.int w2_7]) (rest := []) ⟨hx, hb, hml, hown, noTs⟩ (t_X11_answer l dC dI H.size G cs tt mm a0 ha0 w2_7) ⟨cbE 1 (wd_748 hE) (wd_115 hE) (wd_745 hE) rfl rfl (by decide +kernel) ⟨Nat.le_of_ble_eq_true rfl, Nat.le_of_ble_eq_true rfl⟩, (wd_747 hE), (wd_23 hE)⟩ ⟨PT.blind, th_recv hK hP ha0.1 he22 rfl, (th_pre (av := [.ref a0, .int w2_7]) trivial hK hP hok hnd hWT hE)⟩ rfl rfl hl.1 rfl (lv_room (Nat.le_of_ble_eq_true rfl)) dX11_twin_87 ⟨Nat.le_of_ble_eq_true rfl, Nat.le_of_ble_eq_true rfl⟩) (fun r23 f23 H locs hr23 hok hP hS => ?_)
            refine W.eq (g2 := F0 m 90 ls [.int w2_7]) (by rw [hr23]) ?_
            exact W.iret (v := w2_7) hx hb hr (fun t ht hW => ⟨⟨w2_7, f23, rfl, trivial, hok, by rw [ht]; exact hP⟩, hS.F ht⟩) hS.2.2 dX11_twin_90
  · refine lv_aload_n hx hb dX11_twin_15 rfl (lv_at hl 0 rfl) ?_
    refine lv_iconst (v := 2) hx hb dX11_twin_16 (by decide) ?_
    obtain ⟨y5_24, hy4_24, hy7_24, he24⟩ := ok_X11 hok ha0
    refine tc_i hAL hS hA (va_runV (As := [.int 2]) (rest := []) ⟨hx, hb, hml, hown, noTs⟩ (t_X11_fail l dC dI H.size G cs tt mm a0 ha0 2) ⟨cbE 1 (wd_436 hE) (wd_115 hE) (wd_433 hE) rfl rfl (by decide +kernel) ⟨Nat.le_of_ble_eq_true rfl, Nat.le_of_ble_eq_true rfl⟩, (wd_435 hE), (wd_1 hE)⟩ ⟨PT.blind, th_recv hK hP ha0.1 he24 rfl, (th_pre (av := [.ref a0, .int 2]) trivial hK hP hok hnd hWT hE)⟩ rfl rfl hl.1 rfl (lv_room (Nat.le_of_ble_eq_true rfl)) dX11_twin_17 ⟨Nat.le_of_ble_eq_true rfl, Nat.le_of_ble_eq_true rfl⟩) (fun r25 f25 H locs hr25 hok hP hS => ?_)
    subst hr25
    exact W.iret (v := -1) hx hb hr (fun t ht hW => ⟨⟨-1, f25, rfl, trivial, hok, by rw [ht]; exact hP⟩, hS.F ht⟩) hS.2.2 dX11_twin_20
