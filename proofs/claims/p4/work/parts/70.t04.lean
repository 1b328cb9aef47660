set_option maxHeartbeats 4000000 in
set_option maxRecDepth 100000 in
theorem t_X3_copyFrom (l : Launch) (dC : Nat → ClassId) (dI : Nat → Nat → Nat) (sz : Nat) (G : GT) (cs : Nat → ClassId) (tt mm : Nat) (a0 : Nat) (ha0 : Ty G a0 3) (a1 : Nat) (ha1 : Ty G a1 3) : Met l yX3_copyFrom [.code yX3_copyFrom cX3_copyFrom 4 none] ({ frames := 3, cells := 0, slots := 0, locals := 120 }) (PT [.ref a0, .ref a1] sz dC dI G cs tt mm (fun _ => True)) (va_Qv (fun (u : Nat → va_E) => True) (BT dC dI G cs tt mm) (AT G sz)) 0 0 (AT G sz) := by
  refine Met.ofW (cc := cX3_copyFrom) (maxL := 4) (ret := none) (by decide) rfl ?_
  intro p e s m args below meth c s₁ B hml hv
  obtain ⟨rfl, hsz, ⟨f0, hok, hP, hX⟩, hK, hnd, hWT, hE⟩ := hv
  have hx := B.exec
  have hb := B.bytes
  have hr := B.returns
  have hown : s.vm.findClass RX3 = some m.cls := findClass_of_methodNamed B.named
  have hlocks := B.notSynchronized
  subst hsz
  have hAL : ∀ a, a ∈ gL G → AT G s.heap.size a := fun a h => Or.inl h
  have hA : ∀ q : Nat, s.heap.size ≤ q → AT G s.heap.size q := fun q h => Or.inr h
  have hS : va_S (AT G s.heap.size) s.heap s.heap [] := va_S.rf
  have hl := lv_entry ([.ref a0, .ref a1]) (n := 4) (Nat.le_of_ble_eq_true rfl)
  rw [lg_entry_eq]
  generalize (lg_sl ([.ref a0, .ref a1]) ++ List.replicate (4 - (lg_sl ([.ref a0, .ref a1])).length) Slot.unset).toArray = ls at hl ⊢
  have hl : lv_has ls 4 [(0, .ref a0), (1, .ref a1)] := hl
  refine lv_aload_n hx hb dX3_copyFrom_0 rfl (lv_at hl 0 rfl) ?_
  refine lv_iconst (v := 0) hx hb dX3_copyFrom_1 (by decide) ?_
  obtain ⟨y1_1, y2_1, he1⟩ := ok_X3 hok ha0
  refine th_put (v := .int 0) (ty := .int) hx hb (ly_X3 hE) tyX3 tyX3_ok nmX3 hown hK hP hnd hAL hS ha0.1 he1 rfl 1 (by decide) (wd_164 hE) (fun _ h9 => h9) rfl (by decide +kernel) rfl rfl (Nat.le_of_ble_eq_true rfl) (up_X3 hok ha0 ⟨0, y2_1, rfl⟩) dX3_copyFrom_2 (fun f2 H locs hfa2 hfo2 hok hP hS => ?_)
  refine lv_aload_n hx hb dX3_copyFrom_5 rfl (lv_at hl 0 rfl) ?_
  refine lv_iconst (v := 0) hx hb dX3_copyFrom_6 (by decide) ?_
  refine th_put (v := .int 0) (ty := .int) hx hb (ly_X3 hE) tyX3 tyX3_ok nmX3 hown hK hP hnd hAL hS ha0.1 hfa2 rfl 2 (by decide) (wd_165 hE) (fun _ h9 => h9) rfl (by decide +kernel) rfl rfl (Nat.le_of_ble_eq_true rfl) (up_X3 hok ha0 ⟨0, 0, rfl⟩) dX3_copyFrom_7 (fun f3 H locs hfa3 hfo3 hok hP hS => ?_)
  refine lv_iconst (v := 0) hx hb dX3_copyFrom_10 (by decide) ?_
  refine lv_istore_n (lv' := [(2, .int 0), (0, .ref a0), (1, .ref a1)]) hx hb dX3_copyFrom_11 rfl hl (by decide) rfl (fun ls hl => ?_)
  refine w_ind (I := fun n f H locs ls => OKT G cs tt mm f ∧ va_P (dC, dI) vwCl (va_pl (gL G) f) H ∧ va_S (AT G s.heap.size) s.heap H locs ∧ ∃ (w2_4 : Int32), n = (2147483647 - w2_4.toInt).toNat ∧ 0 ≤ w2_4 ∧ lv_has ls 4 [(0, .ref a0), (1, .ref a1), (2, .int w2_4)]) (fun n f4 H locs ls hI ih4 => ?_) _ f3 _ _ _ ⟨hok, hP, hS, 0, rfl, (by first | omega | (simp only [i_lt, i_le, i_eq, ti_m9, ti_m1, ti_0, ti_1, ti_2, ti_3, ti_4, ti_5, ti_6, ti_7, ti_9, ti_12, ti_20, ti_99, ti_700, ti_24, ti_156, ti_72, ti_8, ti_60, ti_543, ti_10, ti_33, ti_51, ti_178, ti_119, ti_111, ti_114, ti_100, ti_32, ti_62, ti_59, ti_48, ti_701, ti_97, ti_122, ti_57, ti_73, ti_128]; omega)), lv_sub hl [1, 2, 0] rfl⟩
  obtain ⟨hok, hP, hS, w2_4, hmu4, hlo4, hl⟩ := hI
  subst hmu4
  refine lv_iload_n hx hb dX3_copyFrom_12 rfl (lv_at hl 2 rfl) ?_
  refine lv_aload_n hx hb dX3_copyFrom_13 rfl (lv_at hl 1 rfl) ?_
  obtain ⟨y1_5, y2_5, he5⟩ := ok_X3 hok ha1
  refine th_get hx hb (ly_X3 hE) hown hK hP ha1.1 he5 rfl 2 (by decide) (wd_165 hE) (fun _ h9 => h9) rfl dX3_copyFrom_14 ?_
  refine lv_icmp_ge (tgt := 41) hx hb dX3_copyFrom_17 (by decide) (fun c6 => ?_) (fun c6 => ?_)
  · exact W.vret hx hb hr (fun t ht hW => ⟨⟨f4, rfl, trivial, hok, by rw [ht]; exact hP⟩, hS.F ht⟩) hS.2.2 dX3_copyFrom_41
  · refine lv_aload_n hx hb dX3_copyFrom_20 rfl (lv_at hl 1 rfl) ?_
    refine lv_iload_n hx hb dX3_copyFrom_21 rfl (lv_at hl 2 rfl) ?_
    refine va_csq (va_Run.run (va_runV (As := [.int w2_4]) (rest := []) ⟨hx, hb, hml, hown, noTs⟩ (t_X3_slot l dC dI H.size G cs tt mm a1 ha1 w2_4) ⟨cbE 1 (wd_730 hE) (wd_117 hE) (wd_727 hE) rfl rfl (by decide +kernel) ⟨Nat.le_of_ble_eq_true rfl, Nat.le_of_ble_eq_true rfl⟩, (wd_729 hE), (wd_22 hE)⟩ ⟨PT.blind, th_recv hK hP ha1.1 he5 rfl, (th_pre (av := [.ref a1, .int w2_4]) trivial hK hP hok hnd hWT hE)⟩ rfl rfl hl.1 rfl (lv_room (Nat.le_of_ble_eq_true rfl)) dX3_copyFrom_22 ⟨Nat.le_of_ble_eq_true rfl, Nat.le_of_ble_eq_true rfl⟩)) (fun r7 hr7 => ?_)
    rcases hr7 with rfl | ⟨q7, rfl, hq7⟩
    · refine W.eq (g2 := F0 m 25 ls [.null]) rfl ?_
      refine lv_astore_nN (lv' := [(3, .null), (0, .ref a0), (1, .ref a1), (2, .int w2_4)]) hx hb dX3_copyFrom_25 rfl hl (by decide) rfl (fun ls hl => ?_)
      refine lv_aload_nN hx hb dX3_copyFrom_26 rfl (lv_at hl 0 rfl) ?_
      refine lv_ifnullN (tgt := 35) hx hb dX3_copyFrom_27 (by decide) ?_
      obtain ⟨z8, ez8⟩ : ∃ z : Int32, z = w2_4 + 1 := ⟨_, rfl⟩
      refine lv_iinc (v := z8) (lv' := [(2, .int z8), (3, .null), (0, .ref a0), (1, .ref a1)]) hx hb dX3_copyFrom_35 hl (k := 3) rfl (by rw [ez8]; rfl) (by decide) rfl (fun ls hl => ?_)
      have ic8 : z8.toInt = w2_4.toInt + 1 := by rw [ez8]; exact ic_up (by have := i_rng w2_4; have := i_rng y2_5; simp only [i_lt, i_le, i_eq, ti_m9, ti_m1, ti_0, ti_1, ti_2, ti_3, ti_4, ti_5, ti_6, ti_7, ti_9, ti_12, ti_20, ti_99, ti_700, ti_24, ti_156, ti_72, ti_8, ti_60, ti_543, ti_10, ti_33, ti_51, ti_178, ti_119, ti_111, ti_114, ti_100, ti_32, ti_62, ti_59, ti_48, ti_701, ti_97, ti_122, ti_57, ti_73, ti_128] at hlo4 c6 ⊢; omega)
      refine lv_goto (tgt := 12) hx hb dX3_copyFrom_38 (by decide) ?_
      exact ih4 _ f4 _ _ _ (by have := i_rng z8; first | omega | (simp only [i_lt, i_le, i_eq, ti_m9, ti_m1, ti_0, ti_1, ti_2, ti_3, ti_4, ti_5, ti_6, ti_7, ti_9, ti_12, ti_20, ti_99, ti_700, ti_24, ti_156, ti_72, ti_8, ti_60, ti_543, ti_10, ti_33, ti_51, ti_178, ti_119, ti_111, ti_114, ti_100, ti_32, ti_62, ti_59, ti_48, ti_701, ti_97, ti_122, ti_57, ti_73, ti_128, ic8] at hlo4 c6 ic8 ⊢; omega)) ⟨hok, hP, hS, z8, rfl, (by first | omega | (simp only [i_lt, i_le, i_eq, ti_m9, ti_m1, ti_0, ti_1, ti_2, ti_3, ti_4, ti_5, ti_6, ti_7, ti_9, ti_12, ti_20, ti_99, ti_700, ti_24, ti_156, ti_72, ti_8, ti_60, ti_543, ti_10, ti_33, ti_51, ti_178, ti_119, ti_111, ti_114, ti_100, ti_32, ti_62, ti_59, ti_48, ti_701, ti_97, ti_122, ti_57, ti_73, ti_128, ic8] at hlo4 c6 ⊢; omega)), lv_sub hl [2, 3, 0] rfl⟩
    · refine W.eq (g2 := F0 m 25 ls [.ref q7]) rfl ?_
      refine lv_astore_n (lv' := [(3, .ref q7), (0, .ref a0), (1, .ref a1), (2, .int w2_4)]) hx hb dX3_copyFrom_25 rfl hl (by decide) rfl (fun ls hl => ?_)
      refine lv_aload_n hx hb dX3_copyFrom_26 rfl (lv_at hl 0 rfl) ?_
      refine lv_ifnull hx hb dX3_copyFrom_27 ?_
      refine lv_aload_n hx hb dX3_copyFrom_30 rfl (lv_at hl 1 rfl) ?_
      refine lv_aload_n hx hb dX3_copyFrom_31 rfl (lv_at hl 0 rfl) ?_
      obtain ⟨y1_9, y2_9, he9⟩ := ok_X3 hok ha0
      refine tc_v hAL hS hA (va_runV (As := [.ref q7]) (rest := []) ⟨hx, hb, hml, hown, noTs⟩ (t_X3_push l dC dI H.size G cs tt mm a0 ha0 q7 hq7) ⟨cbE 1 (wd_725 hE) (wd_117 hE) (wd_1055 hE) rfl rfl (by decide +kernel) ⟨Nat.le_of_ble_eq_true rfl, Nat.le_of_ble_eq_true rfl⟩, (wd_723 hE), (wd_724 hE)⟩ ⟨PT.blind, th_recv hK hP ha0.1 he9 rfl, (th_pre (av := [.ref a0, .ref q7]) trivial hK hP hok hnd hWT hE)⟩ rfl rfl hl.1 rfl (lv_room (Nat.le_of_ble_eq_true rfl)) dX3_copyFrom_32 ⟨Nat.le_of_ble_eq_true rfl, Nat.le_of_ble_eq_true rfl⟩) (fun f10 H locs hr10 hok hP hS => ?_)
      obtain ⟨z11, ez11⟩ : ∃ z : Int32, z = w2_4 + 1 := ⟨_, rfl⟩
      refine lv_iinc (v := z11) (lv' := [(2, .int z11), (3, .ref q7), (0, .ref a0), (1, .ref a1)]) hx hb dX3_copyFrom_35 hl (k := 3) rfl (by rw [ez11]; rfl) (by decide) rfl (fun ls hl => ?_)
      have ic11 : z11.toInt = w2_4.toInt + 1 := by rw [ez11]; exact ic_up (by have := i_rng w2_4; have := i_rng y2_5; simp only [i_lt, i_le, i_eq, ti_m9, ti_m1, ti_0, ti_1, ti_2, ti_3, ti_4, ti_5, ti_6, ti_7, ti_9, ti_12, ti_20, ti_99, ti_700, ti_24, ti_156, ti_72, ti_8, ti_60, ti_543, ti_10, ti_33, ti_51, ti_178, ti_119, ti_111, ti_114, ti_100, ti_32, ti_62, ti_59, ti_48, ti_701, ti_97, ti_122, ti_57, ti_73, ti_128] at hlo4 c6 ⊢; omega)
      refine lv_goto (tgt := 12) hx hb dX3_copyFrom_38 (by decide) ?_
      exact ih4 _ f10 _ _ _ (by have := i_rng z11; first | omega | (simp only [i_lt, i_le, i_eq, ti_m9, ti_m1, ti_0, ti_1, ti_2, ti_3, ti_4, ti_5, ti_6, ti_7, ti_9, ti_12, ti_20, ti_99, ti_700, ti_24, ti_156, ti_72, ti_8, ti_60, ti_543, ti_10, ti_33, ti_51, ti_178, ti_119, ti_111, ti_114, ti_100, ti_32, ti_62, ti_59, ti_48, ti_701, ti_97, ti_122, ti_57, ti_73, ti_128, ic11] at hlo4 c6 ic11 ⊢; omega)) ⟨hok, hP, hS, z11, rfl, (by first | omega | (simp only [i_lt, i_le, i_eq, ti_m9, ti_m1, ti_0, ti_1, ti_2, ti_3, ti_4, ti_5, ti_6, ti_7, ti_9, ti_12, ti_20, ti_99, ti_700, ti_24, ti_156, ti_72, ti_8, ti_60, ti_543, ti_10, ti_33, ti_51, ti_178, ti_119, ti_111, ti_114, ti_100, ti_32, ti_62, ti_59, ti_48, ti_701, ti_97, ti_122, ti_57, ti_73, ti_128, ic11] at hlo4 c6 ⊢; omega)), lv_sub hl [2, 3, 0] rfl⟩

set_option maxHeartbeats 4000000 in
set_option maxRecDepth 100000 in
theorem t_X11_greatestDivisor (l : Launch) (dC : Nat → ClassId) (dI : Nat → Nat → Nat) (sz : Nat) (G : GT) (cs : Nat → ClassId) (tt mm : Nat) (v0 : Int64) (v1 : Int64) : Met l yX11_greatestDivisor [.code yX11_greatestDivisor cX11_greatestDivisor 11 (some .long)] ({ frames := 1, cells := 0, slots := 0, locals := 40 }) (PT [.long v0, .long v1] sz dC dI G cs tt mm (fun _ => True)) (vp_Sl (fun (r : Int64) => True)) 0 0 (fun _ => False) := by
  refine Met.ofW (cc := cX11_greatestDivisor) (maxL := 11) (ret := (some .long)) (by decide) rfl ?_
  intro p e s m args below meth c s₁ B hml hv
  obtain ⟨rfl, hsz, ⟨f0, hok, hP, hX⟩, hK, hnd, hWT, hE⟩ := hv
  have hx := B.exec
  have hb := B.bytes
  have hr := B.returns
  have hown : s.vm.findClass RX11 = some m.cls := findClass_of_methodNamed B.named
  have hlocks := B.notSynchronized
  subst hsz
  have hl := lv_entry ([.long v0, .long v1]) (n := 11) (Nat.le_of_ble_eq_true rfl)
  rw [lg_entry_eq]
  generalize (lg_sl ([.long v0, .long v1]) ++ List.replicate (11 - (lg_sl ([.long v0, .long v1])).length) Slot.unset).toArray = ls at hl ⊢
  have hl : lv_has ls 11 [(0, .long v0), (2, .long v1)] := hl
  refine lv_lload_n hx hb dX11_greatestDivisor_0 rfl (lv_at hl 0 rfl) ?_
  refine va_mabs_long hx hb (by rw [hml]; exact hl.1.symm) hown (wd_1090 hE) (wd_1091 hE) (wd_128 hE) (wd_1092 hE) (Nat.le_of_ble_eq_true rfl) (Nat.le_of_ble_eq_true rfl) (Nat.le_of_ble_eq_true rfl) (Nat.le_of_ble_eq_true rfl) dX11_greatestDivisor_1 ?_
  refine lv_topl (fun x1 ex1 => ?_)
  refine lv_lstore (lv' := [(4, .long x1), (0, .long v0), (2, .long v1)]) hx hb dX11_greatestDivisor_4 hl (by decide) rfl (fun ls hl => ?_)
  refine lv_lload_n hx hb dX11_greatestDivisor_6 rfl (lv_at hl 2 rfl) ?_
  refine va_mabs_long hx hb (by rw [hml]; exact hl.1.symm) hown (wd_1090 hE) (wd_1091 hE) (wd_128 hE) (wd_1092 hE) (Nat.le_of_ble_eq_true rfl) (Nat.le_of_ble_eq_true rfl) (Nat.le_of_ble_eq_true rfl) (Nat.le_of_ble_eq_true rfl) dX11_greatestDivisor_7 ?_
  refine lv_topl (fun x2 ex2 => ?_)
  refine lv_lstore (lv' := [(6, .long x2), (4, .long x1), (0, .long v0), (2, .long v1)]) hx hb dX11_greatestDivisor_10 hl (by decide) rfl (fun ls hl => ?_)
  refine lv_iconst (v := 0) hx hb dX11_greatestDivisor_12 (by decide) ?_
  refine lv_istore (lv' := [(8, .int 0), (6, .long x2), (4, .long x1), (0, .long v0), (2, .long v1)]) hx hb dX11_greatestDivisor_13 hl (by decide) rfl (fun ls hl => ?_)
  refine w_indP (I := fun n ls => ∃ (w4_3 : Int64) (w6_3 : Int64) (w8_3 : Int32), n = (2147483647 - w8_3.toInt).toNat ∧ 0 ≤ w8_3 ∧ lv_has ls 11 [(0, .long v0), (2, .long v1), (4, .long w4_3), (6, .long w6_3), (8, .int w8_3)]) (fun n ls hI ih3 => ?_) _ _ ⟨x1, x2, 0, rfl, (by first | omega | (simp only [i_lt, i_le, i_eq, ti_m9, ti_m1, ti_0, ti_1, ti_2, ti_3, ti_4, ti_5, ti_6, ti_7, ti_9, ti_12, ti_20, ti_99, ti_700, ti_24, ti_156, ti_72, ti_8, ti_60, ti_543, ti_10, ti_33, ti_51, ti_178, ti_119, ti_111, ti_114, ti_100, ti_32, ti_62, ti_59, ti_48, ti_701, ti_97, ti_122, ti_57, ti_73, ti_128]; omega)), lv_sub hl [3, 4, 2, 1, 0] rfl⟩
  obtain ⟨w4_3, w6_3, w8_3, hmu3, hlo3, hl⟩ := hI
  subst hmu3
  refine lv_iload hx hb dX11_greatestDivisor_15 (lv_at hl 4 rfl) ?_
  refine lv_sipush (v := 128) hx hb dX11_greatestDivisor_17 (by decide) ?_
  refine lv_icmp_ge (tgt := 51) hx hb dX11_greatestDivisor_20 (by decide) (fun c4 => ?_) (fun c4 => ?_)
  · refine lv_lload hx hb dX11_greatestDivisor_51 (lv_at hl 2 rfl) ?_
    exact W.lret (v := w4_3) hx hb hr (fun t ht hW => ⟨w4_3, rfl, trivial, ht⟩) (fun _ h => absurd h List.not_mem_nil) dX11_greatestDivisor_53
  · refine lv_lload hx hb dX11_greatestDivisor_23 (lv_at hl 3 rfl) ?_
    refine lv_lconst (v := 0) hx hb dX11_greatestDivisor_25 (by decide) ?_
    refine W.lcmp hx hb dX11_greatestDivisor_26 ?_
    refine lv_topi (fun x5 ex5 => ?_)
    refine lv_if_le (tgt := 51) hx hb dX11_greatestDivisor_27 (by decide) (fun c6 => ?_) (fun c6 => ?_)
    · refine lv_lload hx hb dX11_greatestDivisor_51 (lv_at hl 2 rfl) ?_
      exact W.lret (v := w4_3) hx hb hr (fun t ht hW => ⟨w4_3, rfl, trivial, ht⟩) (fun _ h => absurd h List.not_mem_nil) dX11_greatestDivisor_53
    · have nz7 : ¬ w6_3 = 0 := lc_gt0 ex5 (by simp only [i_lt, i_le, i_eq, ti_m9, ti_m1, ti_0, ti_1, ti_2, ti_3, ti_4, ti_5, ti_6, ti_7, ti_9, ti_12, ti_20, ti_99, ti_700, ti_24, ti_156, ti_72, ti_8, ti_60, ti_543, ti_10, ti_33, ti_51, ti_178, ti_119, ti_111, ti_114, ti_100, ti_32, ti_62, ti_59, ti_48, ti_701, ti_97, ti_122, ti_57, ti_73, ti_128] at c6 ⊢; omega)
      refine lv_lload hx hb dX11_greatestDivisor_30 (lv_at hl 2 rfl) ?_
      refine lv_lload hx hb dX11_greatestDivisor_32 (lv_at hl 3 rfl) ?_
      refine lv_lrem hx hb dX11_greatestDivisor_34 nz7 ?_
      refine lv_topl (fun x8 _ => ?_)
      refine lv_lstore (lv' := [(9, .long x8), (0, .long v0), (2, .long v1), (4, .long w4_3), (6, .long w6_3), (8, .int w8_3)]) hx hb dX11_greatestDivisor_35 hl (by decide) rfl (fun ls hl => ?_)
      refine lv_lload hx hb dX11_greatestDivisor_37 (lv_at hl 4 rfl) ?_
      refine lv_lstore (lv' := [(4, .long w6_3), (9, .long x8), (0, .long v0), (2, .long v1), (6, .long w6_3), (8, .int w8_3)]) hx hb dX11_greatestDivisor_39 hl (by decide) rfl (fun ls hl => ?_)
      refine lv_lload hx hb dX11_greatestDivisor_41 (lv_at hl 1 rfl) ?_
      refine lv_lstore (lv' := [(6, .long x8), (4, .long w6_3), (9, .long x8), (0, .long v0), (2, .long v1), (8, .int w8_3)]) hx hb dX11_greatestDivisor_43 hl (by decide) rfl (fun ls hl => ?_)
      obtain ⟨z9, ez9⟩ : ∃ z : Int32, z = w8_3 + 1 := ⟨_, rfl⟩
      refine lv_iinc (v := z9) (lv' := [(8, .int z9), (6, .long x8), (4, .long w6_3), (9, .long x8), (0, .long v0), (2, .long v1)]) hx hb dX11_greatestDivisor_45 hl (k := 5) rfl (by rw [ez9]; rfl) (by decide) rfl (fun ls hl => ?_)
      have ic9 : z9.toInt = w8_3.toInt + 1 := by rw [ez9]; exact ic_up (by have := i_rng w8_3; have := i_rng x5; simp only [i_lt, i_le, i_eq, ti_m9, ti_m1, ti_0, ti_1, ti_2, ti_3, ti_4, ti_5, ti_6, ti_7, ti_9, ti_12, ti_20, ti_99, ti_700, ti_24, ti_156, ti_72, ti_8, ti_60, ti_543, ti_10, ti_33, ti_51, ti_178, ti_119, ti_111, ti_114, ti_100, ti_32, ti_62, ti_59, ti_48, ti_701, ti_97, ti_122, ti_57, ti_73, ti_128] at hlo3 c4 c6 ⊢; omega)
      refine lv_goto (tgt := 15) hx hb dX11_greatestDivisor_48 (by decide) ?_
      exact ih3 _ _ (by have := i_rng z9; first | omega | (simp only [i_lt, i_le, i_eq, ti_m9, ti_m1, ti_0, ti_1, ti_2, ti_3, ti_4, ti_5, ti_6, ti_7, ti_9, ti_12, ti_20, ti_99, ti_700, ti_24, ti_156, ti_72, ti_8, ti_60, ti_543, ti_10, ti_33, ti_51, ti_178, ti_119, ti_111, ti_114, ti_100, ti_32, ti_62, ti_59, ti_48, ti_701, ti_97, ti_122, ti_57, ti_73, ti_128, ic9] at hlo3 c4 c6 ic9 ⊢; omega)) ⟨w6_3, x8, z9, rfl, (by first | omega | (simp only [i_lt, i_le, i_eq, ti_m9, ti_m1, ti_0, ti_1, ti_2, ti_3, ti_4, ti_5, ti_6, ti_7, ti_9, ti_12, ti_20, ti_99, ti_700, ti_24, ti_156, ti_72, ti_8, ti_60, ti_543, ti_10, ti_33, ti_51, ti_178, ti_119, ti_111, ti_114, ti_100, ti_32, ti_62, ti_59, ti_48, ti_701, ti_97, ti_122, ti_57, ti_73, ti_128, ic9] at hlo3 c4 c6 ⊢; omega)), lv_sub hl [4, 5, 2, 1, 0] rfl⟩

set_option maxHeartbeats 4000000 in
set_option maxRecDepth 100000 in
theorem t_X11_orderIn (l : Launch) (dC : Nat → ClassId) (dI : Nat → Nat → Nat) (sz : Nat) (G : GT) (cs : Nat → ClassId) (tt mm : Nat) (v0 : Int32) (v1 : Int32) : Met l yX11_orderIn [.code yX11_orderIn cX11_orderIn 2 (some .int)] ({ frames := 2, cells := 0, slots := 0, locals := 80 }) (PT [.int v0, .int v1] sz dC dI G cs tt mm (fun _ => True)) (vp_Si (fun (r : Int32) => True)) 0 0 (fun _ => False) := by
  refine Met.ofW (cc := cX11_orderIn) (maxL := 2) (ret := (some .int)) (by decide) rfl ?_
  intro p e s m args below meth c s₁ B hml hv
  obtain ⟨rfl, hsz, ⟨f0, hok, hP, hX⟩, hK, hnd, hWT, hE⟩ := hv
  have hx := B.exec
  have hb := B.bytes
  have hr := B.returns
  have hown : s.vm.findClass RX11 = some m.cls := findClass_of_methodNamed B.named
  have hlocks := B.notSynchronized
  subst hsz
  have hl := lv_entry ([.int v0, .int v1]) (n := 2) (Nat.le_of_ble_eq_true rfl)
  rw [lg_entry_eq]
  generalize (lg_sl ([.int v0, .int v1]) ++ List.replicate (2 - (lg_sl ([.int v0, .int v1])).length) Slot.unset).toArray = ls at hl ⊢
  have hl : lv_has ls 2 [(0, .int v0), (1, .int v1)] := hl
  refine lv_iload_n hx hb dX11_orderIn_0 rfl (lv_at hl 1 rfl) ?_
  refine lv_iload_n hx hb dX11_orderIn_1 rfl (lv_at hl 0 rfl) ?_
  refine lv_i2l hx hb dX11_orderIn_2 rfl ?_
  refine lv_topl (fun x1 _ => ?_)
  refine lv_iload_n hx hb dX11_orderIn_3 rfl (lv_at hl 1 rfl) ?_
  refine lv_i2l hx hb dX11_orderIn_4 rfl ?_
  refine lv_topl (fun x2 _ => ?_)
  refine vp_callSl (va_Run.run (va_runS (As := [.long x1, .long x2]) (rest := [.int v1]) ⟨hx, hb, hml, hown, noTs⟩ (t_X11_greatestDivisor l dC dI s.heap.size G cs tt mm x1 x2) ⟨cbE 2 (wd_1089 hE) (wd_115 hE) (wd_1087 hE) rfl rfl (by decide +kernel) ⟨Nat.le_of_ble_eq_true rfl, Nat.le_of_ble_eq_true rfl⟩, (wd_1088 hE)⟩ ⟨PT.blind, (th_pre (av := [.long x1, .long x2]) trivial hK hP hok hnd hWT hE)⟩ rfl rfl hl.1 rfl (lv_room (Nat.le_of_ble_eq_true rfl)) dX11_orderIn_5 ⟨Nat.le_of_ble_eq_true rfl, Nat.le_of_ble_eq_true rfl⟩)) (fun r3 hr3 => ?_)
  refine lv_l2i hx hb dX11_orderIn_8 rfl ?_
  refine lv_topi (fun x4 _ => ?_)
  refine vp_callSi (va_Run.run (va_runS (As := [.int v1, .int x4]) (rest := []) ⟨hx, hb, hml, hown, noTs⟩ (t_X11_share l dC dI s.heap.size G cs tt mm v1 x4) ⟨cbE 2 (wd_620 hE) (wd_115 hE) (wd_1093 hE) rfl rfl (by decide +kernel) ⟨Nat.le_of_ble_eq_true rfl, Nat.le_of_ble_eq_true rfl⟩, (wd_619 hE)⟩ ⟨PT.blind, (th_pre (av := [.int v1, .int x4]) trivial hK hP hok hnd hWT hE)⟩ rfl rfl hl.1 rfl (lv_room (Nat.le_of_ble_eq_true rfl)) dX11_orderIn_9 ⟨Nat.le_of_ble_eq_true rfl, Nat.le_of_ble_eq_true rfl⟩)) (fun r5 hr5 => ?_)
  exact W.iret (v := r5) hx hb hr (fun t ht hW => ⟨r5, rfl, trivial, ht⟩) (fun _ h => absurd h List.not_mem_nil) dX11_orderIn_12

set_option maxHeartbeats 4000000 in
set_option maxRecDepth 100000 in
theorem t_J7_fill_53178 (l : Launch) (dC : Nat → ClassId) (dI : Nat → Nat → Nat) (sz : Nat) (G : GT) (cs : Nat → ClassId) (tt mm : Nat) (a0 : Nat) (ha0 : Ty G a0 21) (na0 : Nat) (hna0 : gN G a0 = na0) (hma0 : na0 ≤ 1000) (v1 : Int32) : Met l yJ7_fill_53178 [.code yJ7_fill_53178 cJ7_fill_53178 4 none] ({ frames := 0, cells := 0, slots := 0, locals := 0 }) (PT [.ref a0, .int v1] sz dC dI G cs tt mm (fun _ => True)) (va_Qv (fun (u : Nat → va_E) => True) (BT dC dI G cs tt mm) (AT G sz)) 0 0 (AT G sz) := by
  refine Met.ofW (cc := cJ7_fill_53178) (maxL := 4) (ret := none) (by decide) rfl ?_
  intro p e s m args below meth c s₁ B hml hv
  obtain ⟨rfl, hsz, ⟨f0, hok, hP, hX⟩, hK, hnd, hWT, hE⟩ := hv
  have hx := B.exec
  have hb := B.bytes
  have hr := B.returns
  have hown : s.vm.findClass RJ7 = some m.cls := findClass_of_methodNamed B.named
  have hlocks := B.notSynchronized
  subst hsz
  have hAL : ∀ a, a ∈ gL G → AT G s.heap.size a := fun a h => Or.inl h
  have hA : ∀ q : Nat, s.heap.size ≤ q → AT G s.heap.size q := fun q h => Or.inr h
  have hS : va_S (AT G s.heap.size) s.heap s.heap [] := va_S.rf
  have hl := lv_entry ([.ref a0, .int v1]) (n := 4) (Nat.le_of_ble_eq_true rfl)
  rw [lg_entry_eq]
  generalize (lg_sl ([.ref a0, .int v1]) ++ List.replicate (4 - (lg_sl ([.ref a0, .int v1])).length) Slot.unset).toArray = ls at hl ⊢
  have hl : lv_has ls 4 [(0, .ref a0), (1, .int v1)] := hl
  refine lv_iconst (v := 0) hx hb dJ7_fill_53178_0 (by decide) ?_
  refine lv_istore_n (lv' := [(2, .int 0), (0, .ref a0), (1, .int v1)]) hx hb dJ7_fill_53178_1 rfl hl (by decide) rfl (fun ls hl => ?_)
  refine lv_aload_n hx hb dJ7_fill_53178_2 rfl (lv_at hl 1 rfl) ?_
  refine th_len1 hx hb hK hP hok (n := na0) hna0 (Or.inl ha0) dJ7_fill_53178_3 ?_
  refine lv_istore_n (lv' := [(3, .int (nI na0)), (2, .int 0), (0, .ref a0), (1, .int v1)]) hx hb dJ7_fill_53178_4 rfl hl (by decide) rfl (fun ls hl => ?_)
  refine w_ind (I := fun n f H locs ls => OKT G cs tt mm f ∧ va_P (dC, dI) vwCl (va_pl (gL G) f) H ∧ va_S (AT G s.heap.size) s.heap H locs ∧ ∃ (w2_1 : Int32), n = (2147483647 - w2_1.toInt).toNat ∧ 0 ≤ w2_1 ∧ lv_has ls 4 [(0, .ref a0), (1, .int v1), (2, .int w2_1), (3, .int (nI na0))]) (fun n f1 H locs ls hI ih1 => ?_) _ f0 _ _ _ ⟨hok, hP, hS, 0, rfl, (by first | omega | (simp only [i_lt, i_le, i_eq, ti_m9, ti_m1, ti_0, ti_1, ti_2, ti_3, ti_4, ti_5, ti_6, ti_7, ti_9, ti_12, ti_20, ti_99, ti_700, ti_24, ti_156, ti_72, ti_8, ti_60, ti_543, ti_10, ti_33, ti_51, ti_178, ti_119, ti_111, ti_114, ti_100, ti_32, ti_62, ti_59, ti_48, ti_701, ti_97, ti_122, ti_57, ti_73, ti_128]; omega)), lv_sub hl [2, 3, 1, 0] rfl⟩
  obtain ⟨hok, hP, hS, w2_1, hmu1, hlo1, hl⟩ := hI
  subst hmu1
  refine lv_iload_n hx hb dJ7_fill_53178_5 rfl (lv_at hl 2 rfl) ?_
  refine lv_iload_n hx hb dJ7_fill_53178_6 rfl (lv_at hl 3 rfl) ?_
  have nt2 : (nI na0).toInt = ((na0 : Nat) : Int) := nI_toInt (by omega)
  refine lv_icmp_ge (tgt := 20) hx hb dJ7_fill_53178_7 (by decide) (fun c3 => ?_) (fun c3 => ?_)
  · exact W.vret hx hb hr (fun t ht hW => ⟨⟨f1, rfl, trivial, hok, by rw [ht]; exact hP⟩, hS.F ht⟩) hS.2.2 dJ7_fill_53178_20
  · refine lv_aload_n hx hb dJ7_fill_53178_10 rfl (lv_at hl 0 rfl) ?_
    refine lv_iload_n hx hb dJ7_fill_53178_11 rfl (lv_at hl 2 rfl) ?_
    refine lv_iload_n hx hb dJ7_fill_53178_12 rfl (lv_at hl 1 rfl) ?_
    refine th_iast hx hb hK hP hok hnd hAL hS ha0 (n := na0) hna0 (vp_in_iff.mpr (by first | omega | (simp only [i_lt, i_le, i_eq, ti_m9, ti_m1, ti_0, ti_1, ti_2, ti_3, ti_4, ti_5, ti_6, ti_7, ti_9, ti_12, ti_20, ti_99, ti_700, ti_24, ti_156, ti_72, ti_8, ti_60, ti_543, ti_10, ti_33, ti_51, ti_178, ti_119, ti_111, ti_114, ti_100, ti_32, ti_62, ti_59, ti_48, ti_701, ti_97, ti_122, ti_57, ti_73, ti_128, nt2] at hlo1 c3 ⊢; omega))) dJ7_fill_53178_13 (fun f4 H locs hfo4 hok hP hS => ?_)
    obtain ⟨z5, ez5⟩ : ∃ z : Int32, z = w2_1 + 1 := ⟨_, rfl⟩
    refine lv_iinc (v := z5) (lv' := [(2, .int z5), (0, .ref a0), (1, .int v1), (3, .int (nI na0))]) hx hb dJ7_fill_53178_14 hl (k := 2) rfl (by rw [ez5]; rfl) (by decide) rfl (fun ls hl => ?_)
    have ic5 : z5.toInt = w2_1.toInt + 1 := by rw [ez5]; exact ic_up (by have := i_rng w2_1; have := i_rng (nI na0); simp only [i_lt, i_le, i_eq, ti_m9, ti_m1, ti_0, ti_1, ti_2, ti_3, ti_4, ti_5, ti_6, ti_7, ti_9, ti_12, ti_20, ti_99, ti_700, ti_24, ti_156, ti_72, ti_8, ti_60, ti_543, ti_10, ti_33, ti_51, ti_178, ti_119, ti_111, ti_114, ti_100, ti_32, ti_62, ti_59, ti_48, ti_701, ti_97, ti_122, ti_57, ti_73, ti_128, nt2] at hlo1 c3 ⊢; omega)
    refine lv_goto (tgt := 5) hx hb dJ7_fill_53178_17 (by decide) ?_
    exact ih1 _ f4 _ _ _ (by have := i_rng z5; first | omega | (simp only [i_lt, i_le, i_eq, ti_m9, ti_m1, ti_0, ti_1, ti_2, ti_3, ti_4, ti_5, ti_6, ti_7, ti_9, ti_12, ti_20, ti_99, ti_700, ti_24, ti_156, ti_72, ti_8, ti_60, ti_543, ti_10, ti_33, ti_51, ti_178, ti_119, ti_111, ti_114, ti_100, ti_32, ti_62, ti_59, ti_48, ti_701, ti_97, ti_122, ti_57, ti_73, ti_128, nt2, ic5] at hlo1 c3 ic5 ⊢; omega)) ⟨hok, hP, hS, z5, rfl, (by first | omega | (simp only [i_lt, i_le, i_eq, ti_m9, ti_m1, ti_0, ti_1, ti_2, ti_3, ti_4, ti_5, ti_6, ti_7, ti_9, ti_12, ti_20, ti_99, ti_700, ti_24, ti_156, ti_72, ti_8, ti_60, ti_543, ti_10, ti_33, ti_51, ti_178, ti_119, ti_111, ti_114, ti_100, ti_32, ti_62, ti_59, ti_48, ti_701, ti_97, ti_122, ti_57, ti_73, ti_128, nt2, ic5] at hlo1 c3 ⊢; omega)), lv_sub hl [1, 2, 0, 3] rfl⟩

set_option maxHeartbeats 4000000 in
set_option maxRecDepth 100000 in
theorem t_X4_setFar (l : Launch) (dC : Nat → ClassId) (dI : Nat → Nat → Nat) (sz : Nat) (G : GT) (cs : Nat → ClassId) (tt mm : Nat) (a0 : Nat) (ha0 : Ty G a0 4) (v1 : Int32) (v2 : Int32) : Met l yX4_setFar [.code yX4_setFar cX4_setFar 3 none] ({ frames := 0, cells := 0, slots := 0, locals := 0 }) (PT [.ref a0, .int v1, .int v2] sz dC dI G cs tt mm (fun _ => True)) (va_Qv (fun (u : Nat → va_E) => True) (BT dC dI G cs tt mm) (AT G sz)) 0 0 (AT G sz) := by
  refine Met.ofW (cc := cX4_setFar) (maxL := 3) (ret := none) (by decide) rfl ?_
  intro p e s m args below meth c s₁ B hml hv
  obtain ⟨rfl, hsz, ⟨f0, hok, hP, hX⟩, hK, hnd, hWT, hE⟩ := hv
  have hx := B.exec
  have hb := B.bytes
  have hr := B.returns
  have hown : s.vm.findClass RX4 = some m.cls := findClass_of_methodNamed B.named
  have hlocks := B.notSynchronized
  subst hsz
  have hAL : ∀ a, a ∈ gL G → AT G s.heap.size a := fun a h => Or.inl h
  have hA : ∀ q : Nat, s.heap.size ≤ q → AT G s.heap.size q := fun q h => Or.inr h
  have hS : va_S (AT G s.heap.size) s.heap s.heap [] := va_S.rf
  have hl := lv_entry ([.ref a0, .int v1, .int v2]) (n := 3) (Nat.le_of_ble_eq_true rfl)
  rw [lg_entry_eq]
  generalize (lg_sl ([.ref a0, .int v1, .int v2]) ++ List.replicate (3 - (lg_sl ([.ref a0, .int v1, .int v2])).length) Slot.unset).toArray = ls at hl ⊢
  have hl : lv_has ls 3 [(0, .ref a0), (1, .int v1), (2, .int v2)] := hl
  refine lv_iload_n hx hb dX4_setFar_0 rfl (lv_at hl 1 rfl) ?_
  refine lv_if_lt (tgt := 20) hx hb dX4_setFar_1 (by decide) (fun c1 => ?_) (fun c1 => ?_)
  · exact W.vret hx hb hr (fun t ht hW => ⟨⟨f0, rfl, trivial, hok, by rw [ht]; exact hP⟩, hS.F ht⟩) hS.2.2 dX4_setFar_20
  · refine lv_iload_n hx hb dX4_setFar_4 rfl (lv_at hl 1 rfl) ?_
    refine lv_aload_n hx hb dX4_setFar_5 rfl (lv_at hl 0 rfl) ?_
    obtain ⟨y6_2, y7_2, he2⟩ := ok_X4 hok ha0
    refine th_get hx hb (ly_X4 hE) hown hK hP ha0.1 he2 rfl 5 (by decide) (wd_310 hE) (fun _ h9 => h9) rfl dX4_setFar_6 ?_
    refine th_len1 hx hb hK hP hok (n := 6) (wl_X4_5 hWT ha0) (Or.inl (wt_X4_5 hWT ha0)) dX4_setFar_9 ?_
    refine W.eq (g2 := F0 m 10 ls [.int 6, .int v1]) rfl ?_
    refine lv_icmp_ge (tgt := 20) hx hb dX4_setFar_10 (by decide) (fun c3 => ?_) (fun c3 => ?_)
    · exact W.vret hx hb hr (fun t ht hW => ⟨⟨f0, rfl, trivial, hok, by rw [ht]; exact hP⟩, hS.F ht⟩) hS.2.2 dX4_setFar_20
    · refine lv_aload_n hx hb dX4_setFar_13 rfl (lv_at hl 0 rfl) ?_
      refine th_get hx hb (ly_X4 hE) hown hK hP ha0.1 he2 rfl 5 (by decide) (wd_310 hE) (fun _ h9 => h9) rfl dX4_setFar_14 ?_
      refine lv_iload_n hx hb dX4_setFar_17 rfl (lv_at hl 1 rfl) ?_
      refine lv_iload_n hx hb dX4_setFar_18 rfl (lv_at hl 2 rfl) ?_
      refine th_iast hx hb hK hP hok hnd hAL hS (wt_X4_5 hWT ha0) (n := 6) (wl_X4_5 hWT ha0) (vp_in_iff.mpr (by first | omega | (simp only [i_lt, i_le, i_eq, ti_m9, ti_m1, ti_0, ti_1, ti_2, ti_3, ti_4, ti_5, ti_6, ti_7, ti_9, ti_12, ti_20, ti_99, ti_700, ti_24, ti_156, ti_72, ti_8, ti_60, ti_543, ti_10, ti_33, ti_51, ti_178, ti_119, ti_111, ti_114, ti_100, ti_32, ti_62, ti_59, ti_48, ti_701, ti_97, ti_122, ti_57, ti_73, ti_128] at c1 c3 ⊢; omega))) dX4_setFar_19 (fun f4 H locs hfo4 hok hP hS => ?_)
      have he5 := (hfo4 a0 (Ty.ne ha0 (wt_X4_5 hWT ha0) (by decide))).trans he2
      exact W.vret hx hb hr (fun t ht hW => ⟨⟨f4, rfl, trivial, hok, by rw [ht]; exact hP⟩, hS.F ht⟩) hS.2.2 dX4_setFar_20

set_option maxHeartbeats 4000000 in
set_option maxRecDepth 100000 in
theorem t_X4_farOf (l : Launch) (dC : Nat → ClassId) (dI : Nat → Nat → Nat) (sz : Nat) (G : GT) (cs : Nat → ClassId) (tt mm : Nat) (a0 : Nat) (ha0 : Ty G a0 4) (v1 : Int32) : Met l yX4_farOf [.code yX4_farOf cX4_farOf 2 (some .int)] ({ frames := 0, cells := 0, slots := 0, locals := 0 }) (PT [.ref a0, .int v1] sz dC dI G cs tt mm (fun _ => True)) (vp_Si (fun (r : Int32) => True)) 0 0 (fun _ => False) := by
  refine Met.ofW (cc := cX4_farOf) (maxL := 2) (ret := (some .int)) (by decide) rfl ?_
  intro p e s m args below meth c s₁ B hml hv
  obtain ⟨rfl, hsz, ⟨f0, hok, hP, hX⟩, hK, hnd, hWT, hE⟩ := hv
  have hx := B.exec
  have hb := B.bytes
  have hr := B.returns
  have hown : s.vm.findClass RX4 = some m.cls := findClass_of_methodNamed B.named
  have hlocks := B.notSynchronized
  subst hsz
  have hl := lv_entry ([.ref a0, .int v1]) (n := 2) (Nat.le_of_ble_eq_true rfl)
  rw [lg_entry_eq]
  generalize (lg_sl ([.ref a0, .int v1]) ++ List.replicate (2 - (lg_sl ([.ref a0, .int v1])).length) Slot.unset).toArray = ls at hl ⊢
  have hl : lv_has ls 2 [(0, .ref a0), (1, .int v1)] := hl
  refine lv_iload_n hx hb dX4_farOf_0 rfl (lv_at hl 1 rfl) ?_
  refine lv_if_lt (tgt := 13) hx hb dX4_farOf_1 (by decide) (fun c1 => ?_) (fun c1 => ?_)
  · refine lv_iconst (v := -1) hx hb dX4_farOf_13 (by decide) ?_
    refine lv_goto (tgt := 23) hx hb dX4_farOf_14 (by decide) ?_
    exact W.iret (v := -1) hx hb hr (fun t ht hW => ⟨-1, rfl, trivial, ht⟩) (fun _ h => absurd h List.not_mem_nil) dX4_farOf_23
  · refine lv_iload_n hx hb dX4_farOf_4 rfl (lv_at hl 1 rfl) ?_
    refine lv_aload_n hx hb dX4_farOf_5 rfl (lv_at hl 0 rfl) ?_
    obtain ⟨y6_2, y7_2, he2⟩ := ok_X4 hok ha0
    refine th_get hx hb (ly_X4 hE) hown hK hP ha0.1 he2 rfl 5 (by decide) (wd_310 hE) (fun _ h9 => h9) rfl dX4_farOf_6 ?_
    refine th_len1 hx hb hK hP hok (n := 6) (wl_X4_5 hWT ha0) (Or.inl (wt_X4_5 hWT ha0)) dX4_farOf_9 ?_
    refine W.eq (g2 := F0 m 10 ls [.int 6, .int v1]) rfl ?_
    refine lv_icmp_lt (tgt := 17) hx hb dX4_farOf_10 (by decide) (fun c3 => ?_) (fun c3 => ?_)
    · refine lv_aload_n hx hb dX4_farOf_17 rfl (lv_at hl 0 rfl) ?_
      refine th_get hx hb (ly_X4 hE) hown hK hP ha0.1 he2 rfl 5 (by decide) (wd_310 hE) (fun _ h9 => h9) rfl dX4_farOf_18 ?_
      refine lv_iload_n hx hb dX4_farOf_21 rfl (lv_at hl 1 rfl) ?_
      refine th_iald hx hb hK hP hok (wt_X4_5 hWT ha0) (n := 6) (wl_X4_5 hWT ha0) (vp_in_iff.mpr (by first | omega | (simp only [i_lt, i_le, i_eq, ti_m9, ti_m1, ti_0, ti_1, ti_2, ti_3, ti_4, ti_5, ti_6, ti_7, ti_9, ti_12, ti_20, ti_99, ti_700, ti_24, ti_156, ti_72, ti_8, ti_60, ti_543, ti_10, ti_33, ti_51, ti_178, ti_119, ti_111, ti_114, ti_100, ti_32, ti_62, ti_59, ti_48, ti_701, ti_97, ti_122, ti_57, ti_73, ti_128] at c1 c3 ⊢; omega))) dX4_farOf_22 (fun x4 => ?_)
      exact W.iret (v := x4) hx hb hr (fun t ht hW => ⟨x4, rfl, trivial, ht⟩) (fun _ h => absurd h List.not_mem_nil) dX4_farOf_23
    · refine lv_iconst (v := -1) hx hb dX4_farOf_13 (by decide) ?_
      refine lv_goto (tgt := 23) hx hb dX4_farOf_14 (by decide) ?_
      exact W.iret (v := -1) hx hb hr (fun t ht hW => ⟨-1, rfl, trivial, ht⟩) (fun _ h => absurd h List.not_mem_nil) dX4_farOf_23

set_option maxHeartbeats 4000000 in
set_option maxRecDepth 100000 in
theorem t_X4_spread (l : Launch) (dC : Nat → ClassId) (dI : Nat → Nat → Nat) (sz : Nat) (G : GT) (cs : Nat → ClassId) (tt mm : Nat) (a0 : Nat) (ha0 : Ty G a0 4) (a1 : Nat) (ha1 : Ty G a1 7) : Met l yX4_spread [.code yX4_spread cX4_spread 5 none] ({ frames := 3, cells := 0, slots := 0, locals := 120 }) (PT [.ref a0, .ref a1] sz dC dI G cs tt mm (fun _ => True)) (va_Qv (fun (u : Nat → va_E) => True) (BT dC dI G cs tt mm) (AT G sz)) 0 0 (AT G sz) := by
  refine Met.ofW (cc := cX4_spread) (maxL := 5) (ret := none) (by decide) rfl ?_
  intro p e s m args below meth c s₁ B hml hv
  obtain ⟨rfl, hsz, ⟨f0, hok, hP, hX⟩, hK, hnd, hWT, hE⟩ := hv
  have hx := B.exec
  have hb := B.bytes
  have hr := B.returns
  have hown : s.vm.findClass RX4 = some m.cls := findClass_of_methodNamed B.named
  have hlocks := B.notSynchronized
  subst hsz
  have hAL : ∀ a, a ∈ gL G → AT G s.heap.size a := fun a h => Or.inl h
  have hA : ∀ q : Nat, s.heap.size ≤ q → AT G s.heap.size q := fun q h => Or.inr h
  have hS : va_S (AT G s.heap.size) s.heap s.heap [] := va_S.rf
  have hl := lv_entry ([.ref a0, .ref a1]) (n := 5) (Nat.le_of_ble_eq_true rfl)
  rw [lg_entry_eq]
  generalize (lg_sl ([.ref a0, .ref a1]) ++ List.replicate (5 - (lg_sl ([.ref a0, .ref a1])).length) Slot.unset).toArray = ls at hl ⊢
  have hl : lv_has ls 5 [(0, .ref a0), (1, .ref a1)] := hl
  refine lv_aload_n hx hb dX4_spread_0 rfl (lv_at hl 0 rfl) ?_
  obtain ⟨y6_1, y7_1, he1⟩ := ok_X4 hok ha0
  refine th_get hx hb (ly_X4 hE) hown hK hP ha0.1 he1 rfl 0 (by decide) (wd_305 hE) (fun _ h9 => h9) rfl dX4_spread_1 ?_
  refine lv_iconst (v := 0) hx hb dX4_spread_4 (by decide) ?_
  obtain ⟨y2_2, y3_2, hy3_2, he2⟩ := ok_X10 hok (wt_X4_0 hWT ha0)
  refine vp_callSi (va_Run.run (va_runV (As := [.int 0]) (rest := []) ⟨hx, hb, hml, hown, noTs⟩ (t_X10_numberAt l dC dI s.heap.size G cs tt mm (gR G a0 0) ((wt_X4_0 hWT ha0)) 0) ⟨cbE 1 (wd_717 hE) (wd_120 hE) (wd_1112 hE) rfl rfl (by decide +kernel) ⟨Nat.le_of_ble_eq_true rfl, Nat.le_of_ble_eq_true rfl⟩, (wd_715 hE), (wd_716 hE)⟩ ⟨PT.blind, th_recv hK hP (wt_X4_0 hWT ha0).1 he2 rfl, (th_pre (av := [.ref (gR G a0 0), .int 0]) trivial hK hP hok hnd hWT hE)⟩ rfl rfl hl.1 rfl (lv_room (Nat.le_of_ble_eq_true rfl)) dX4_spread_5 ⟨Nat.le_of_ble_eq_true rfl, Nat.le_of_ble_eq_true rfl⟩)) (fun r3 hr3 => ?_)
  refine lv_aload_n hx hb dX4_spread_8 rfl (lv_at hl 1 rfl) ?_
  refine lv_aload_n hx hb dX4_spread_9 rfl (lv_at hl 0 rfl) ?_
  refine th_get hx hb (ly_X4 hE) hown hK hP ha0.1 he1 rfl 0 (by decide) (wd_305 hE) (fun _ h9 => h9) rfl dX4_spread_10 ?_
  refine vp_callSi (va_Run.run (va_runV (As := []) (rest := [.ref a1, .int r3]) ⟨hx, hb, hml, hown, noTs⟩ (t_X10_begin l dC dI s.heap.size G cs tt mm (gR G a0 0) ((wt_X4_0 hWT ha0))) ⟨cbE 0 (wd_713 hE) (wd_120 hE) (wd_1113 hE) rfl rfl (by decide +kernel) ⟨Nat.le_of_ble_eq_true rfl, Nat.le_of_ble_eq_true rfl⟩, (wd_711 hE), (wd_712 hE)⟩ ⟨PT.blind, th_recv hK hP (wt_X4_0 hWT ha0).1 he2 rfl, (th_pre (av := [.ref (gR G a0 0)]) trivial hK hP hok hnd hWT hE)⟩ rfl rfl hl.1 rfl (lv_room (Nat.le_of_ble_eq_true rfl)) dX4_spread_13 ⟨Nat.le_of_ble_eq_true rfl, Nat.le_of_ble_eq_true rfl⟩)) (fun r4 hr4 => ?_)
  have he5 := ok_X7 hok ha1
  refine vp_callSi (va_Run.run (va_runV (As := [.int r4]) (rest := [.int r3]) ⟨hx, hb, hml, hown, noTs⟩ (t_X7_orderAt l dC dI s.heap.size G cs tt mm a1 ha1 r4) ⟨cbE 1 (wd_614 hE) (wd_116 hE) (wd_1114 hE) rfl rfl (by decide +kernel) ⟨Nat.le_of_ble_eq_true rfl, Nat.le_of_ble_eq_true rfl⟩, (wd_612 hE), (wd_613 hE)⟩ ⟨PT.blind, th_recv hK hP ha1.1 he5 rfl, (th_pre (av := [.ref a1, .int r4]) trivial hK hP hok hnd hWT hE)⟩ rfl rfl hl.1 rfl (lv_room (Nat.le_of_ble_eq_true rfl)) dX4_spread_16 ⟨Nat.le_of_ble_eq_true rfl, Nat.le_of_ble_eq_true rfl⟩)) (fun r6 hr6 => ?_)
  refine vp_callSi (va_Run.run (va_runSN (As := [.int r3, .int r6]) (rest := []) ⟨hx, hb, hml, hown, noTs⟩ (t_X11_orderIn l dC dI s.heap.size G cs tt mm r3 r6) ⟨cnE 2 (wd_1086 hE) (wd_115 hE) (wd_1115 hE) rfl rfl (by decide +kernel) ⟨Nat.le_of_ble_eq_true rfl, Nat.le_of_ble_eq_true rfl⟩, (wd_1085 hE), trivial⟩ ⟨PT.blind, (th_pre (av := [.int r3, .int r6]) trivial hK hP hok hnd hWT hE)⟩ rfl rfl hl.1 rfl (lv_room (Nat.le_of_ble_eq_true rfl)) dX4_spread_19 ⟨Nat.le_of_ble_eq_true rfl, Nat.le_of_ble_eq_true rfl⟩)) (fun r7 hr7 => ?_)
  refine lv_istore_n (lv' := [(2, .int r7), (0, .ref a0), (1, .ref a1)]) hx hb dX4_spread_22 rfl hl (by decide) rfl (fun ls hl => ?_)
  refine lv_aload_n hx hb dX4_spread_23 rfl (lv_at hl 1 rfl) ?_
  refine th_get hx hb (ly_X4 hE) hown hK hP ha0.1 he1 rfl 5 (by decide) (wd_310 hE) (fun _ h9 => h9) rfl dX4_spread_24 ?_
  refine lv_iconst (v := -1) hx hb dX4_spread_27 (by decide) ?_
  refine tc_v hAL hS hA (va_runS (As := [.ref (gR G a0 5), .int (-1)]) (rest := []) ⟨hx, hb, hml, hown, noTs⟩ (t_J7_fill_53178 l dC dI s.heap.size G cs tt mm (gR G a0 5) ((wt_X4_5 hWT ha0)) 6 ((wl_X4_5 hWT ha0)) (by omega) (-1)) ⟨cbE 2 (wd_447 hE) (wd_127 hE) (wd_1116 hE) rfl rfl (by decide +kernel) ⟨Nat.le_of_ble_eq_true rfl, Nat.le_of_ble_eq_true rfl⟩, (wd_446 hE)⟩ ⟨PT.blind, (th_pre (av := [.ref (gR G a0 5), .int (-1)]) trivial hK hP hok hnd hWT hE)⟩ rfl rfl hl.1 rfl (lv_room (Nat.le_of_ble_eq_true rfl)) dX4_spread_28 ⟨Nat.le_of_ble_eq_true rfl, Nat.le_of_ble_eq_true rfl⟩) (fun f8 H locs hr8 hok hP hS => ?_)
  refine lv_aload_n hx hb dX4_spread_31 rfl (lv_at hl 1 rfl) ?_
  refine lv_aload_n hx hb dX4_spread_32 rfl (lv_at hl 1 rfl) ?_
  obtain ⟨y6_9, y7_9, he9⟩ := ok_X4 hok ha0
  refine th_get hx hb (ly_X4 hE) hown hK hP ha0.1 he9 rfl 0 (by decide) (wd_305 hE) (fun _ h9 => h9) rfl dX4_spread_33 ?_
  obtain ⟨y2_10, y3_10, hy3_10, he10⟩ := ok_X10 hok (wt_X4_0 hWT ha0)
  refine vp_callSi (va_Run.run (va_runV (As := []) (rest := [.ref a0]) ⟨hx, hb, hml, hown, noTs⟩ (t_X10_begin l dC dI H.size G cs tt mm (gR G a0 0) ((wt_X4_0 hWT ha0))) ⟨cbE 0 (wd_713 hE) (wd_120 hE) (wd_1113 hE) rfl rfl (by decide +kernel) ⟨Nat.le_of_ble_eq_true rfl, Nat.le_of_ble_eq_true rfl⟩, (wd_711 hE), (wd_712 hE)⟩ ⟨PT.blind, th_recv hK hP (wt_X4_0 hWT ha0).1 he10 rfl, (th_pre (av := [.ref (gR G a0 0)]) trivial hK hP hok hnd hWT hE)⟩ rfl rfl hl.1 rfl (lv_room (Nat.le_of_ble_eq_true rfl)) dX4_spread_36 ⟨Nat.le_of_ble_eq_true rfl, Nat.le_of_ble_eq_true rfl⟩)) (fun r11 hr11 => ?_)
  refine lv_iconst (v := 0) hx hb dX4_spread_39 (by decide) ?_
  refine tc_v hAL hS hA (va_runV (As := [.int r11, .int 0]) (rest := []) ⟨hx, hb, hml, hown, noTs⟩ (t_X4_setFar l dC dI H.size G cs tt mm a0 ha0 r11 0) ⟨cbE 2 (wd_1120 hE) (wd_122 hE) (wd_1117 hE) rfl rfl (by decide +kernel) ⟨Nat.le_of_ble_eq_true rfl, Nat.le_of_ble_eq_true rfl⟩, (wd_1119 hE), (wd_41 hE)⟩ ⟨PT.blind, th_recv hK hP ha0.1 he9 rfl, (th_pre (av := [.ref a0, .int r11, .int 0]) trivial hK hP hok hnd hWT hE)⟩ rfl rfl hl.1 rfl (lv_room (Nat.le_of_ble_eq_true rfl)) dX4_spread_40 ⟨Nat.le_of_ble_eq_true rfl, Nat.le_of_ble_eq_true rfl⟩) (fun f12 H locs hr12 hok hP hS => ?_)
  refine lv_iconst (v := 1) hx hb dX4_spread_43 (by decide) ?_
  refine lv_istore_n (lv' := [(3, .int 1), (2, .int r7), (0, .ref a0), (1, .ref a1)]) hx hb dX4_spread_44 rfl hl (by decide) rfl (fun ls hl => ?_)
  refine w_ind (I := fun n f H locs ls => OKT G cs tt mm f ∧ va_P (dC, dI) vwCl (va_pl (gL G) f) H ∧ va_S (AT G s.heap.size) s.heap H locs ∧ ∃ (w3_13 : Int32), n = (2147483647 - w3_13.toInt).toNat ∧ 1 ≤ w3_13 ∧ lv_has ls 5 [(0, .ref a0), (1, .ref a1), (2, .int r7), (3, .int w3_13)]) (fun n f13 H locs ls hI ih13 => ?_) _ f12 _ _ _ ⟨hok, hP, hS, 1, rfl, (by first | omega | (simp only [i_lt, i_le, i_eq, ti_m9, ti_m1, ti_0, ti_1, ti_2, ti_3, ti_4, ti_5, ti_6, ti_7, ti_9, ti_12, ti_20, ti_99, ti_700, ti_24, ti_156, ti_72, ti_8, ti_60, ti_543, ti_10, ti_33, ti_51, ti_178, ti_119, ti_111, ti_114, ti_100, ti_32, ti_62, ti_59, ti_48, ti_701, ti_97, ti_122, ti_57, ti_73, ti_128]; omega)), lv_sub hl [2, 3, 1, 0] rfl⟩
  obtain ⟨hok, hP, hS, w3_13, hmu13, hlo13, hl⟩ := hI
  subst hmu13
  refine lv_iload_n hx hb dX4_spread_45 rfl (lv_at hl 3 rfl) ?_
  refine lv_bipush (v := 6) hx hb dX4_spread_46 (by decide) ?_
  refine lv_icmp_ge (tgt := 131) hx hb dX4_spread_48 (by decide) (fun c14 => ?_) (fun c14 => ?_)
  · exact W.vret hx hb hr (fun t ht hW => ⟨⟨f13, rfl, trivial, hok, by rw [ht]; exact hP⟩, hS.F ht⟩) hS.2.2 dX4_spread_131
  · refine lv_iconst (v := 0) hx hb dX4_spread_51 (by decide) ?_
    refine lv_istore (lv' := [(4, .int 0), (0, .ref a0), (1, .ref a1), (2, .int r7), (3, .int w3_13)]) hx hb dX4_spread_52 hl (by decide) rfl (fun ls hl => ?_)
    refine w_ind (I := fun n f H locs ls => OKT G cs tt mm f ∧ va_P (dC, dI) vwCl (va_pl (gL G) f) H ∧ va_S (AT G s.heap.size) s.heap H locs ∧ ∃ (w4_15 : Int32), n = (2147483647 - w4_15.toInt).toNat ∧ 0 ≤ w4_15 ∧ lv_has ls 5 [(0, .ref a0), (1, .ref a1), (2, .int r7), (3, .int w3_13), (4, .int w4_15)]) (fun n f15 H locs ls hI ih15 => ?_) _ f13 _ _ _ ⟨hok, hP, hS, 0, rfl, (by first | omega | (simp only [i_lt, i_le, i_eq, ti_m9, ti_m1, ti_0, ti_1, ti_2, ti_3, ti_4, ti_5, ti_6, ti_7, ti_9, ti_12, ti_20, ti_99, ti_700, ti_24, ti_156, ti_72, ti_8, ti_60, ti_543, ti_10, ti_33, ti_51, ti_178, ti_119, ti_111, ti_114, ti_100, ti_32, ti_62, ti_59, ti_48, ti_701, ti_97, ti_122, ti_57, ti_73, ti_128] at hlo13 c14 ⊢; omega)), lv_sub hl [1, 2, 3, 4, 0] rfl⟩
    obtain ⟨hok, hP, hS, w4_15, hmu15, hlo15, hl⟩ := hI
    subst hmu15
    refine lv_iload hx hb dX4_spread_54 (lv_at hl 4 rfl) ?_
    refine lv_aload_n hx hb dX4_spread_56 rfl (lv_at hl 1 rfl) ?_
    have he16 := ok_X7 hok ha1
    refine vp_callSi (va_Run.run (va_runV (As := []) (rest := [.int w4_15]) ⟨hx, hb, hml, hown, noTs⟩ (t_X7_stepKinds l dC dI H.size G cs tt mm a1 ha1) ⟨cbE 0 (wd_783 hE) (wd_116 hE) (wd_1121 hE) rfl rfl (by decide +kernel) ⟨Nat.le_of_ble_eq_true rfl, Nat.le_of_ble_eq_true rfl⟩, (wd_781 hE), (wd_782 hE)⟩ ⟨PT.blind, th_recv hK hP ha1.1 he16 rfl, (th_pre (av := [.ref a1]) trivial hK hP hok hnd hWT hE)⟩ rfl rfl hl.1 rfl (lv_room (Nat.le_of_ble_eq_true rfl)) dX4_spread_57 ⟨Nat.le_of_ble_eq_true rfl, Nat.le_of_ble_eq_true rfl⟩)) (fun r17 hr17 => ?_)
    refine lv_icmp_ge (tgt := 125) hx hb dX4_spread_60 (by decide) (fun c18 => ?_) (fun c18 => ?_)
    · obtain ⟨z19, ez19⟩ : ∃ z : Int32, z = w3_13 + 1 := ⟨_, rfl⟩
      refine lv_iinc (v := z19) (lv' := [(3, .int z19), (0, .ref a0), (1, .ref a1), (2, .int r7), (4, .int w4_15)]) hx hb dX4_spread_125 hl (k := 3) rfl (by rw [ez19]; rfl) (by decide) rfl (fun ls hl => ?_)
      have ic19 : z19.toInt = w3_13.toInt + 1 := by rw [ez19]; exact ic_up (by have := i_rng w3_13; have := i_rng w4_15; have := i_rng r17; simp only [i_lt, i_le, i_eq, ti_m9, ti_m1, ti_0, ti_1, ti_2, ti_3, ti_4, ti_5, ti_6, ti_7, ti_9, ti_12, ti_20, ti_99, ti_700, ti_24, ti_156, ti_72, ti_8, ti_60, ti_543, ti_10, ti_33, ti_51, ti_178, ti_119, ti_111, ti_114, ti_100, ti_32, ti_62, ti_59, ti_48, ti_701, ti_97, ti_122, ti_57, ti_73, ti_128] at hlo13 c14 hlo15 c18 ⊢; omega)
      refine lv_goto (tgt := 45) hx hb dX4_spread_128 (by decide) ?_
      exact ih13 _ f15 _ _ _ (by have := i_rng z19; first | omega | (simp only [i_lt, i_le, i_eq, ti_m9, ti_m1, ti_0, ti_1, ti_2, ti_3, ti_4, ti_5, ti_6, ti_7, ti_9, ti_12, ti_20, ti_99, ti_700, ti_24, ti_156, ti_72, ti_8, ti_60, ti_543, ti_10, ti_33, ti_51, ti_178, ti_119, ti_111, ti_114, ti_100, ti_32, ti_62, ti_59, ti_48, ti_701, ti_97, ti_122, ti_57, ti_73, ti_128, ic19] at hlo13 c14 hlo15 c18 ic19 ⊢; omega)) ⟨hok, hP, hS, z19, rfl, (by first | omega | (simp only [i_lt, i_le, i_eq, ti_m9, ti_m1, ti_0, ti_1, ti_2, ti_3, ti_4, ti_5, ti_6, ti_7, ti_9, ti_12, ti_20, ti_99, ti_700, ti_24, ti_156, ti_72, ti_8, ti_60, ti_543, ti_10, ti_33, ti_51, ti_178, ti_119, ti_111, ti_114, ti_100, ti_32, ti_62, ti_59, ti_48, ti_701, ti_97, ti_122, ti_57, ti_73, ti_128, ic19] at hlo13 c14 hlo15 c18 ⊢; omega)), lv_sub hl [1, 2, 3, 0] rfl⟩
    · refine lv_aload_n hx hb dX4_spread_63 rfl (lv_at hl 0 rfl) ?_
      refine lv_aload_n hx hb dX4_spread_64 rfl (lv_at hl 1 rfl) ?_
      refine lv_iload hx hb dX4_spread_65 (lv_at hl 4 rfl) ?_
      refine vp_callSi (va_Run.run (va_runV (As := [.int w4_15]) (rest := [.ref a0]) ⟨hx, hb, hml, hown, noTs⟩ (t_X7_fromVertex l dC dI H.size G cs tt mm a1 ha1 w4_15) ⟨cbE 1 (wd_677 hE) (wd_116 hE) (wd_1122 hE) rfl rfl (by decide +kernel) ⟨Nat.le_of_ble_eq_true rfl, Nat.le_of_ble_eq_true rfl⟩, (wd_675 hE), (wd_676 hE)⟩ ⟨PT.blind, th_recv hK hP ha1.1 he16 rfl, (th_pre (av := [.ref a1, .int w4_15]) trivial hK hP hok hnd hWT hE)⟩ rfl rfl hl.1 rfl (lv_room (Nat.le_of_ble_eq_true rfl)) dX4_spread_67 ⟨Nat.le_of_ble_eq_true rfl, Nat.le_of_ble_eq_true rfl⟩)) (fun r20 hr20 => ?_)
      obtain ⟨y6_21, y7_21, he21⟩ := ok_X4 hok ha0
      refine vp_callSi (va_Run.run (va_runV (As := [.int r20]) (rest := []) ⟨hx, hb, hml, hown, noTs⟩ (t_X4_farOf l dC dI H.size G cs tt mm a0 ha0 r20) ⟨cbE 1 (wd_1126 hE) (wd_122 hE) (wd_1123 hE) rfl rfl (by decide +kernel) ⟨Nat.le_of_ble_eq_true rfl, Nat.le_of_ble_eq_true rfl⟩, (wd_1125 hE), (wd_42 hE)⟩ ⟨PT.blind, th_recv hK hP ha0.1 he21 rfl, (th_pre (av := [.ref a0, .int r20]) trivial hK hP hok hnd hWT hE)⟩ rfl rfl hl.1 rfl (lv_room (Nat.le_of_ble_eq_true rfl)) dX4_spread_70 ⟨Nat.le_of_ble_eq_true rfl, Nat.le_of_ble_eq_true rfl⟩)) (fun r22 hr22 => ?_)
      refine lv_iload_n hx hb dX4_spread_73 rfl (lv_at hl 3 rfl) ?_
      refine lv_iconst (v := 1) hx hb dX4_spread_74 (by decide) ?_
      obtain ⟨j23, hj23, rfl⟩ : ∃ j : Nat, j ≤ 5 ∧ w3_13 = nI j := i_nat (by first | omega | (simp only [i_lt, i_le, i_eq, ti_m9, ti_m1, ti_0, ti_1, ti_2, ti_3, ti_4, ti_5, ti_6, ti_7, ti_9, ti_12, ti_20, ti_99, ti_700, ti_24, ti_156, ti_72, ti_8, ti_60, ti_543, ti_10, ti_33, ti_51, ti_178, ti_119, ti_111, ti_114, ti_100, ti_32, ti_62, ti_59, ti_48, ti_701, ti_97, ti_122, ti_57, ti_73, ti_128] at hlo13 c14 hlo15 c18 ⊢; omega)) (by first | omega | (simp only [i_lt, i_le, i_eq, ti_m9, ti_m1, ti_0, ti_1, ti_2, ti_3, ti_4, ti_5, ti_6, ti_7, ti_9, ti_12, ti_20, ti_99, ti_700, ti_24, ti_156, ti_72, ti_8, ti_60, ti_543, ti_10, ti_33, ti_51, ti_178, ti_119, ti_111, ti_114, ti_100, ti_32, ti_62, ti_59, ti_48, ti_701, ti_97, ti_122, ti_57, ti_73, ti_128] at hlo13 c14 hlo15 c18 ⊢; omega))
      have nt24 : (nI j23).toInt = ((j23 : Nat) : Int) := nI_toInt (by omega)
      refine lv_isub hx hb dX4_spread_75 ?_
      refine W.eq (g2 := F0 m 76 ls [.int (nI (j23 - 1)), .int r22]) (congrArg (fun z : Int32 => F0 m 76 ls (.int z :: [.int r22])) (pk_sub (a := j23) (b := 1) (by first | omega | (simp only [i_lt, i_le, i_eq, ti_m9, ti_m1, ti_0, ti_1, ti_2, ti_3, ti_4, ti_5, ti_6, ti_7, ti_9, ti_12, ti_20, ti_99, ti_700, ti_24, ti_156, ti_72, ti_8, ti_60, ti_543, ti_10, ti_33, ti_51, ti_178, ti_119, ti_111, ti_114, ti_100, ti_32, ti_62, ti_59, ti_48, ti_701, ti_97, ti_122, ti_57, ti_73, ti_128, nt24] at hlo13 c14 hlo15 c18 ⊢; omega)))) ?_
      have nt25 : (nI (j23 - 1)).toInt = ((j23 - 1 : Nat) : Int) := nI_toInt (by omega)
      refine lv_icmp_ne (tgt := 119) hx hb dX4_spread_76 (by decide) (fun c26 => ?_) (fun c26 => ?_)
      · obtain ⟨z27, ez27⟩ : ∃ z : Int32, z = w4_15 + 1 := ⟨_, rfl⟩
        refine lv_iinc (v := z27) (lv' := [(4, .int z27), (0, .ref a0), (1, .ref a1), (2, .int r7), (3, .int (nI j23))]) hx hb dX4_spread_119 hl (k := 4) rfl (by rw [ez27]; rfl) (by decide) rfl (fun ls hl => ?_)
        have ic27 : z27.toInt = w4_15.toInt + 1 := by rw [ez27]; exact ic_up (by have := i_rng (nI j23); have := i_rng w4_15; have := i_rng r17; have := i_rng r22; have := i_rng (nI (j23 - 1)); simp only [i_lt, i_le, i_eq, ti_m9, ti_m1, ti_0, ti_1, ti_2, ti_3, ti_4, ti_5, ti_6, ti_7, ti_9, ti_12, ti_20, ti_99, ti_700, ti_24, ti_156, ti_72, ti_8, ti_60, ti_543, ti_10, ti_33, ti_51, ti_178, ti_119, ti_111, ti_114, ti_100, ti_32, ti_62, ti_59, ti_48, ti_701, ti_97, ti_122, ti_57, ti_73, ti_128, nt24, nt25] at hlo13 c14 hlo15 c18 c26 ⊢; omega)
        refine lv_goto (tgt := 54) hx hb dX4_spread_122 (by decide) ?_
        exact ih15 _ f15 _ _ _ (by have := i_rng z27; first | omega | (simp only [i_lt, i_le, i_eq, ti_m9, ti_m1, ti_0, ti_1, ti_2, ti_3, ti_4, ti_5, ti_6, ti_7, ti_9, ti_12, ti_20, ti_99, ti_700, ti_24, ti_156, ti_72, ti_8, ti_60, ti_543, ti_10, ti_33, ti_51, ti_178, ti_119, ti_111, ti_114, ti_100, ti_32, ti_62, ti_59, ti_48, ti_701, ti_97, ti_122, ti_57, ti_73, ti_128, nt24, nt25, ic27] at hlo13 c14 hlo15 c18 c26 ic27 ⊢; omega)) ⟨hok, hP, hS, z27, rfl, (by first | omega | (simp only [i_lt, i_le, i_eq, ti_m9, ti_m1, ti_0, ti_1, ti_2, ti_3, ti_4, ti_5, ti_6, ti_7, ti_9, ti_12, ti_20, ti_99, ti_700, ti_24, ti_156, ti_72, ti_8, ti_60, ti_543, ti_10, ti_33, ti_51, ti_178, ti_119, ti_111, ti_114, ti_100, ti_32, ti_62, ti_59, ti_48, ti_701, ti_97, ti_122, ti_57, ti_73, ti_128, nt24, nt25, ic27] at hlo13 c14 hlo15 c18 c26 ⊢; omega)), lv_sub hl [1, 2, 3, 4, 0] rfl⟩
      · refine lv_aload_n hx hb dX4_spread_79 rfl (lv_at hl 0 rfl) ?_
        refine lv_aload_n hx hb dX4_spread_80 rfl (lv_at hl 1 rfl) ?_
        refine lv_iload hx hb dX4_spread_81 (lv_at hl 4 rfl) ?_
        refine vp_callSi (va_Run.run (va_runV (As := [.int w4_15]) (rest := [.ref a0]) ⟨hx, hb, hml, hown, noTs⟩ (t_X7_toVertex l dC dI H.size G cs tt mm a1 ha1 w4_15) ⟨cbE 1 (wd_692 hE) (wd_116 hE) (wd_1127 hE) rfl rfl (by decide +kernel) ⟨Nat.le_of_ble_eq_true rfl, Nat.le_of_ble_eq_true rfl⟩, (wd_690 hE), (wd_691 hE)⟩ ⟨PT.blind, th_recv hK hP ha1.1 he16 rfl, (th_pre (av := [.ref a1, .int w4_15]) trivial hK hP hok hnd hWT hE)⟩ rfl rfl hl.1 rfl (lv_room (Nat.le_of_ble_eq_true rfl)) dX4_spread_83 ⟨Nat.le_of_ble_eq_true rfl, Nat.le_of_ble_eq_true rfl⟩)) (fun r28 hr28 => ?_)
        refine vp_callSi (va_Run.run (va_runV (As := [.int r28]) (rest := []) ⟨hx, hb, hml, hown, noTs⟩ (t_X4_farOf l dC dI H.size G cs tt mm a0 ha0 r28) ⟨cbE 1 (wd_1126 hE) (wd_122 hE) (wd_1123 hE) rfl rfl (by decide +kernel) ⟨Nat.le_of_ble_eq_true rfl, Nat.le_of_ble_eq_true rfl⟩, (wd_1125 hE), (wd_42 hE)⟩ ⟨PT.blind, th_recv hK hP ha0.1 he21 rfl, (th_pre (av := [.ref a0, .int r28]) trivial hK hP hok hnd hWT hE)⟩ rfl rfl hl.1 rfl (lv_room (Nat.le_of_ble_eq_true rfl)) dX4_spread_86 ⟨Nat.le_of_ble_eq_true rfl, Nat.le_of_ble_eq_true rfl⟩)) (fun r29 hr29 => ?_)
        refine lv_iconst (v := -1) hx hb dX4_spread_89 (by decide) ?_
        refine lv_icmp_ne (tgt := 119) hx hb dX4_spread_90 (by decide) (fun c30 => ?_) (fun c30 => ?_)
        · obtain ⟨z31, ez31⟩ : ∃ z : Int32, z = w4_15 + 1 := ⟨_, rfl⟩
          refine lv_iinc (v := z31) (lv' := [(4, .int z31), (0, .ref a0), (1, .ref a1), (2, .int r7), (3, .int (nI j23))]) hx hb dX4_spread_119 hl (k := 4) rfl (by rw [ez31]; rfl) (by decide) rfl (fun ls hl => ?_)
          have ic31 : z31.toInt = w4_15.toInt + 1 := by rw [ez31]; exact ic_up (by have := i_rng (nI j23); have := i_rng w4_15; have := i_rng r17; have := i_rng r22; have := i_rng (nI (j23 - 1)); have := i_rng r29; simp only [i_lt, i_le, i_eq, ti_m9, ti_m1, ti_0, ti_1, ti_2, ti_3, ti_4, ti_5, ti_6, ti_7, ti_9, ti_12, ti_20, ti_99, ti_700, ti_24, ti_156, ti_72, ti_8, ti_60, ti_543, ti_10, ti_33, ti_51, ti_178, ti_119, ti_111, ti_114, ti_100, ti_32, ti_62, ti_59, ti_48, ti_701, ti_97, ti_122, ti_57, ti_73, ti_128, nt24, nt25] at hlo13 c14 hlo15 c18 c26 c30 ⊢; omega)
          refine lv_goto (tgt := 54) hx hb dX4_spread_122 (by decide) ?_
          exact ih15 _ f15 _ _ _ (by have := i_rng z31; first | omega | (simp only [i_lt, i_le, i_eq, ti_m9, ti_m1, ti_0, ti_1, ti_2, ti_3, ti_4, ti_5, ti_6, ti_7, ti_9, ti_12, ti_20, ti_99, ti_700, ti_24, ti_156, ti_72, ti_8, ti_60, ti_543, ti_10, ti_33, ti_51, ti_178, ti_119, ti_111, ti_114, ti_100, ti_32, ti_62, ti_59, ti_48, ti_701, ti_97, ti_122, ti_57, ti_73, ti_128, nt24, nt25, ic31] at hlo13 c14 hlo15 c18 c26 c30 ic31 ⊢; omega)) ⟨hok, hP, hS, z31, rfl, (by first | omega | (simp only [i_lt, i_le, i_eq, ti_m9, ti_m1, ti_0, ti_1, ti_2, ti_3, ti_4, ti_5, ti_6, ti_7, ti_9, ti_12, ti_20, ti_99, ti_700, ti_24, ti_156, ti_72, ti_8, ti_60, ti_543, ti_10, ti_33, ti_51, ti_178, ti_119, ti_111, ti_114, ti_100, ti_32, ti_62, ti_59, ti_48, ti_701, ti_97, ti_122, ti_57, ti_73, ti_128, nt24, nt25, ic31] at hlo13 c14 hlo15 c18 c26 c30 ⊢; omega)), lv_sub hl [1, 2, 3, 4, 0] rfl⟩
        · refine lv_aload_n hx hb dX4_spread_93 rfl (lv_at hl 1 rfl) ?_
          refine lv_iload hx hb dX4_spread_94 (lv_at hl 4 rfl) ?_
          refine lv_iconst (v := 1) hx hb dX4_spread_96 (by decide) ?_
          refine lv_ishr hx hb dX4_spread_97 ?_
          refine lv_topi (fun x32 _ => ?_)
          refine vp_callSi (va_Run.run (va_runV (As := [.int x32]) (rest := []) ⟨hx, hb, hml, hown, noTs⟩ (t_X7_common l dC dI H.size G cs tt mm a1 ha1 x32) ⟨cbE 1 (wd_806 hE) (wd_116 hE) (wd_1128 hE) rfl rfl (by decide +kernel) ⟨Nat.le_of_ble_eq_true rfl, Nat.le_of_ble_eq_true rfl⟩, (wd_804 hE), (wd_805 hE)⟩ ⟨PT.blind, th_recv hK hP ha1.1 he16 rfl, (th_pre (av := [.ref a1, .int x32]) trivial hK hP hok hnd hWT hE)⟩ rfl rfl hl.1 rfl (lv_room (Nat.le_of_ble_eq_true rfl)) dX4_spread_98 ⟨Nat.le_of_ble_eq_true rfl, Nat.le_of_ble_eq_true rfl⟩)) (fun r33 hr33 => ?_)
          refine lv_iload_n hx hb dX4_spread_101 rfl (lv_at hl 2 rfl) ?_
          refine vp_callSi (va_Run.run (va_runSN (As := [.int r33, .int r7]) (rest := []) ⟨hx, hb, hml, hown, noTs⟩ (t_X11_rest l dC dI H.size G cs tt mm r33 r7) ⟨cnE 2 (wd_617 hE) (wd_115 hE) (wd_1129 hE) rfl rfl (by decide +kernel) ⟨Nat.le_of_ble_eq_true rfl, Nat.le_of_ble_eq_true rfl⟩, (wd_616 hE), trivial⟩ ⟨PT.blind, (th_pre (av := [.int r33, .int r7]) trivial hK hP hok hnd hWT hE)⟩ rfl rfl hl.1 rfl (lv_room (Nat.le_of_ble_eq_true rfl)) dX4_spread_102 ⟨Nat.le_of_ble_eq_true rfl, Nat.le_of_ble_eq_true rfl⟩)) (fun r34 hr34 => ?_)
          obtain ⟨hra34, hrb34⟩ := hr34
          refine lv_if_ne (tgt := 119) hx hb dX4_spread_105 (by decide) (fun c35 => ?_) (fun c35 => ?_)
          · obtain ⟨z36, ez36⟩ : ∃ z : Int32, z = w4_15 + 1 := ⟨_, rfl⟩
            refine lv_iinc (v := z36) (lv' := [(4, .int z36), (0, .ref a0), (1, .ref a1), (2, .int r7), (3, .int (nI j23))]) hx hb dX4_spread_119 hl (k := 4) rfl (by rw [ez36]; rfl) (by decide) rfl (fun ls hl => ?_)
            have ic36 : z36.toInt = w4_15.toInt + 1 := by rw [ez36]; exact ic_up (by have := i_rng (nI j23); have := i_rng w4_15; have := i_rng r17; have := i_rng r22; have := i_rng (nI (j23 - 1)); have := i_rng r29; have := i_rng r34; simp only [i_lt, i_le, i_eq, ti_m9, ti_m1, ti_0, ti_1, ti_2, ti_3, ti_4, ti_5, ti_6, ti_7, ti_9, ti_12, ti_20, ti_99, ti_700, ti_24, ti_156, ti_72, ti_8, ti_60, ti_543, ti_10, ti_33, ti_51, ti_178, ti_119, ti_111, ti_114, ti_100, ti_32, ti_62, ti_59, ti_48, ti_701, ti_97, ti_122, ti_57, ti_73, ti_128, nt24, nt25] at hlo13 c14 hlo15 c18 c26 c30 hra34 hrb34 c35 ⊢; omega)
            refine lv_goto (tgt := 54) hx hb dX4_spread_122 (by decide) ?_
            exact ih15 _ f15 _ _ _ (by have := i_rng z36; first | omega | (simp only [i_lt, i_le, i_eq, ti_m9, ti_m1, ti_0, ti_1, ti_2, ti_3, ti_4, ti_5, ti_6, ti_7, ti_9, ti_12, ti_20, ti_99, ti_700, ti_24, ti_156, ti_72, ti_8, ti_60, ti_543, ti_10, ti_33, ti_51, ti_178, ti_119, ti_111, ti_114, ti_100, ti_32, ti_62, ti_59, ti_48, ti_701, ti_97, ti_122, ti_57, ti_73, ti_128, nt24, nt25, ic36] at hlo13 c14 hlo15 c18 c26 c30 hra34 hrb34 c35 ic36 ⊢; omega)) ⟨hok, hP, hS, z36, rfl, (by first | omega | (simp only [i_lt, i_le, i_eq, ti_m9, ti_m1, ti_0, ti_1, ti_2, ti_3, ti_4, ti_5, ti_6, ti_7, ti_9, ti_12, ti_20, ti_99, ti_700, ti_24, ti_156, ti_72, ti_8, ti_60, ti_543, ti_10, ti_33, ti_51, ti_178, ti_119, ti_111, ti_114, ti_100, ti_32, ti_62, ti_59, ti_48, ti_701, ti_97, ti_122, ti_57, ti_73, ti_128, nt24, nt25, ic36] at hlo13 c14 hlo15 c18 c26 c30 hra34 hrb34 c35 ⊢; omega)), lv_sub hl [1, 2, 3, 4, 0] rfl⟩
          · refine lv_aload_n hx hb dX4_spread_108 rfl (lv_at hl 0 rfl) ?_
            refine lv_aload_n hx hb dX4_spread_109 rfl (lv_at hl 1 rfl) ?_
            refine lv_iload hx hb dX4_spread_110 (lv_at hl 4 rfl) ?_
            refine vp_callSi (va_Run.run (va_runV (As := [.int w4_15]) (rest := [.ref a0]) ⟨hx, hb, hml, hown, noTs⟩ (t_X7_toVertex l dC dI H.size G cs tt mm a1 ha1 w4_15) ⟨cbE 1 (wd_692 hE) (wd_116 hE) (wd_1127 hE) rfl rfl (by decide +kernel) ⟨Nat.le_of_ble_eq_true rfl, Nat.le_of_ble_eq_true rfl⟩, (wd_690 hE), (wd_691 hE)⟩ ⟨PT.blind, th_recv hK hP ha1.1 he16 rfl, (th_pre (av := [.ref a1, .int w4_15]) trivial hK hP hok hnd hWT hE)⟩ rfl rfl hl.1 rfl (lv_room (Nat.le_of_ble_eq_true rfl)) dX4_spread_112 ⟨Nat.le_of_ble_eq_true rfl, Nat.le_of_ble_eq_true rfl⟩)) (fun r37 hr37 => ?_)
            refine lv_iload_n hx hb dX4_spread_115 rfl (lv_at hl 3 rfl) ?_
            refine tc_v hAL hS hA (va_runV (As := [.int r37, .int (nI j23)]) (rest := []) ⟨hx, hb, hml, hown, noTs⟩ (t_X4_setFar l dC dI H.size G cs tt mm a0 ha0 r37 (nI j23)) ⟨cbE 2 (wd_1120 hE) (wd_122 hE) (wd_1117 hE) rfl rfl (by decide +kernel) ⟨Nat.le_of_ble_eq_true rfl, Nat.le_of_ble_eq_true rfl⟩, (wd_1119 hE), (wd_41 hE)⟩ ⟨PT.blind, th_recv hK hP ha0.1 he21 rfl, (th_pre (av := [.ref a0, .int r37, .int (nI j23)]) trivial hK hP hok hnd hWT hE)⟩ rfl rfl hl.1 rfl (lv_room (Nat.le_of_ble_eq_true rfl)) dX4_spread_116 ⟨Nat.le_of_ble_eq_true rfl, Nat.le_of_ble_eq_true rfl⟩) (fun f38 H locs hr38 hok hP hS => ?_)
            obtain ⟨z39, ez39⟩ : ∃ z : Int32, z = w4_15 + 1 := ⟨_, rfl⟩
            refine lv_iinc (v := z39) (lv' := [(4, .int z39), (0, .ref a0), (1, .ref a1), (2, .int r7), (3, .int (nI j23))]) hx hb dX4_spread_119 hl (k := 4) rfl (by rw [ez39]; rfl) (by decide) rfl (fun ls hl => ?_)
            have ic39 : z39.toInt = w4_15.toInt + 1 := by rw [ez39]; exact ic_up (by have := i_rng (nI j23); have := i_rng w4_15; have := i_rng r17; have := i_rng r22; have := i_rng (nI (j23 - 1)); have := i_rng r29; have := i_rng r34; simp only [i_lt, i_le, i_eq, ti_m9, ti_m1, ti_0, ti_1, ti_2, ti_3, ti_4, ti_5, ti_6, ti_7, ti_9, ti_12, ti_20, ti_99, ti_700, ti_24, ti_156, ti_72, ti_8, ti_60, ti_543, ti_10, ti_33, ti_51, ti_178, ti_119, ti_111, ti_114, ti_100, ti_32, ti_62, ti_59, ti_48, ti_701, ti_97, ti_122, ti_57, ti_73, ti_128, nt24, nt25] at hlo13 c14 hlo15 c18 c26 c30 hra34 hrb34 c35 ⊢; omega)
            refine lv_goto (tgt := 54) hx hb dX4_spread_122 (by decide) ?_
            exact ih15 _ f38 _ _ _ (by have := i_rng z39; first | omega | (simp only [i_lt, i_le, i_eq, ti_m9, ti_m1, ti_0, ti_1, ti_2, ti_3, ti_4, ti_5, ti_6, ti_7, ti_9, ti_12, ti_20, ti_99, ti_700, ti_24, ti_156, ti_72, ti_8, ti_60, ti_543, ti_10, ti_33, ti_51, ti_178, ti_119, ti_111, ti_114, ti_100, ti_32, ti_62, ti_59, ti_48, ti_701, ti_97, ti_122, ti_57, ti_73, ti_128, nt24, nt25, ic39] at hlo13 c14 hlo15 c18 c26 c30 hra34 hrb34 c35 ic39 ⊢; omega)) ⟨hok, hP, hS, z39, rfl, (by first | omega | (simp only [i_lt, i_le, i_eq, ti_m9, ti_m1, ti_0, ti_1, ti_2, ti_3, ti_4, ti_5, ti_6, ti_7, ti_9, ti_12, ti_20, ti_99, ti_700, ti_24, ti_156, ti_72, ti_8, ti_60, ti_543, ti_10, ti_33, ti_51, ti_178, ti_119, ti_111, ti_114, ti_100, ti_32, ti_62, ti_59, ti_48, ti_701, ti_97, ti_122, ti_57, ti_73, ti_128, nt24, nt25, ic39] at hlo13 c14 hlo15 c18 c26 c30 hra34 hrb34 c35 ⊢; omega)), lv_sub hl [1, 2, 3, 4, 0] rfl⟩

set_option maxHeartbeats 4000000 in
set_option maxRecDepth 100000 in
theorem t_X4_start (l : Launch) (dC : Nat → ClassId) (dI : Nat → Nat → Nat) (sz : Nat) (G : GT) (cs : Nat → ClassId) (tt mm : Nat) (a0 : Nat) (ha0 : Ty G a0 4) (a1 : Nat) (ha1 : Ty G a1 7) (a2 : Nat) (ha2 : Ty G a2 10) : Met l yX4_start [.code yX4_start cX4_start 3 none] ({ frames := 5, cells := 0, slots := 0, locals := 200 }) (PT [.ref a0, .ref a1, .ref a2] sz dC dI G cs tt mm (fun _ => True)) (va_Qv (fun (u : Nat → va_E) => True) (BT dC dI G cs tt mm) (AT G sz)) 0 0 (AT G sz) := by
  refine Met.ofW (cc := cX4_start) (maxL := 3) (ret := none) (by decide) rfl ?_
  intro p e s m args below meth c s₁ B hml hv
  obtain ⟨rfl, hsz, ⟨f0, hok, hP, hX⟩, hK, hnd, hWT, hE⟩ := hv
  have hx := B.exec
  have hb := B.bytes
  have hr := B.returns
  have hown : s.vm.findClass RX4 = some m.cls := findClass_of_methodNamed B.named
  have hlocks := B.notSynchronized
  subst hsz
  have hAL : ∀ a, a ∈ gL G → AT G s.heap.size a := fun a h => Or.inl h
  have hA : ∀ q : Nat, s.heap.size ≤ q → AT G s.heap.size q := fun q h => Or.inr h
  have hS : va_S (AT G s.heap.size) s.heap s.heap [] := va_S.rf
  have hl := lv_entry ([.ref a0, .ref a1, .ref a2]) (n := 3) (Nat.le_of_ble_eq_true rfl)
  rw [lg_entry_eq]
  generalize (lg_sl ([.ref a0, .ref a1, .ref a2]) ++ List.replicate (3 - (lg_sl ([.ref a0, .ref a1, .ref a2])).length) Slot.unset).toArray = ls at hl ⊢
  have hl : lv_has ls 3 [(0, .ref a0), (1, .ref a1), (2, .ref a2)] := hl
  refine lv_aload_n hx hb dX4_start_0 rfl (lv_at hl 1 rfl) ?_
  refine lv_aload_n hx hb dX4_start_1 rfl (lv_at hl 2 rfl) ?_
  refine lv_aload_n hx hb dX4_start_2 rfl (lv_at hl 0 rfl) ?_
  obtain ⟨y6_1, y7_1, he1⟩ := ok_X4 hok ha0
  refine th_get hx hb (ly_X4 hE) hown hK hP ha0.1 he1 rfl 0 (by decide) (wd_305 hE) (fun _ h9 => h9) rfl dX4_start_3 ?_
  refine lv_aload_n hx hb dX4_start_6 rfl (lv_at hl 0 rfl) ?_
  refine th_get hx hb (ly_X4 hE) hown hK hP ha0.1 he1 rfl 3 (by decide) (wd_308 hE) (fun _ h9 => h9) rfl dX4_start_7 ?_
  refine tc_v hAL hS hA (va_runS (As := [.ref a1, .ref a2, .ref (gR G a0 0), .ref (gR G a0 3)]) (rest := []) ⟨hx, hb, hml, hown, noTs⟩ (t_X2_shrink l dC dI s.heap.size G cs tt mm a1 ha1 a2 ha2 (gR G a0 0) ((wt_X4_0 hWT ha0)) (gR G a0 3) ((wt_X4_3 hWT ha0))) ⟨cbE 4 (wd_962 hE) (wd_134 hE) (wd_1106 hE) rfl rfl (by decide +kernel) ⟨Nat.le_of_ble_eq_true rfl, Nat.le_of_ble_eq_true rfl⟩, (wd_961 hE)⟩ ⟨PT.blind, (th_pre (av := [.ref a1, .ref a2, .ref (gR G a0 0), .ref (gR G a0 3)]) trivial hK hP hok hnd hWT hE)⟩ rfl rfl hl.1 rfl (lv_room (Nat.le_of_ble_eq_true rfl)) dX4_start_10 ⟨Nat.le_of_ble_eq_true rfl, Nat.le_of_ble_eq_true rfl⟩) (fun f2 H locs hr2 hok hP hS => ?_)
  refine lv_aload_n hx hb dX4_start_13 rfl (lv_at hl 0 rfl) ?_
  obtain ⟨y6_3, y7_3, he3⟩ := ok_X4 hok ha0
  refine th_get hx hb (ly_X4 hE) hown hK hP ha0.1 he3 rfl 0 (by decide) (wd_305 hE) (fun _ h9 => h9) rfl dX4_start_14 ?_
  obtain ⟨y2_4, y3_4, hy3_4, he4⟩ := ok_X10 hok (wt_X4_0 hWT ha0)
  refine vp_callSi (va_Run.run (va_runV (As := []) (rest := []) ⟨hx, hb, hml, hown, noTs⟩ (t_X10_size l dC dI H.size G cs tt mm (gR G a0 0) ((wt_X4_0 hWT ha0)) y2_4 y3_4) ⟨cbE 0 (wd_666 hE) (wd_120 hE) (wd_1107 hE) rfl rfl (by decide +kernel) ⟨Nat.le_of_ble_eq_true rfl, Nat.le_of_ble_eq_true rfl⟩, (wd_664 hE), (wd_665 hE)⟩ ⟨PT.blind, th_recv hK hP (wt_X4_0 hWT ha0).1 he4 rfl, (th_pre (av := [.ref (gR G a0 0)]) he4 hK hP hok hnd hWT hE)⟩ rfl rfl hl.1 rfl (lv_room (Nat.le_of_ble_eq_true rfl)) dX4_start_17 ⟨Nat.le_of_ble_eq_true rfl, Nat.le_of_ble_eq_true rfl⟩)) (fun r5 hr5 => ?_)
  subst hr5
  have nt6 : (nI y3_4).toInt = ((y3_4 : Nat) : Int) := nI_toInt (by omega)
  refine lv_if_ne (tgt := 28) hx hb dX4_start_20 (by decide) (fun c7 => ?_) (fun c7 => ?_)
  · exact W.vret hx hb hr (fun t ht hW => ⟨⟨f2, rfl, trivial, hok, by rw [ht]; exact hP⟩, hS.F ht⟩) hS.2.2 dX4_start_28
  · refine lv_aload_n hx hb dX4_start_23 rfl (lv_at hl 0 rfl) ?_
    refine lv_aload_n hx hb dX4_start_24 rfl (lv_at hl 1 rfl) ?_
    refine tc_v hAL hS hA (va_runV (As := [.ref a1]) (rest := []) ⟨hx, hb, hml, hown, noTs⟩ (t_X4_spread l dC dI H.size G cs tt mm a0 ha0 a1 ha1) ⟨cbE 1 (wd_1111 hE) (wd_122 hE) (wd_1108 hE) rfl rfl (by decide +kernel) ⟨Nat.le_of_ble_eq_true rfl, Nat.le_of_ble_eq_true rfl⟩, (wd_1110 hE), (wd_40 hE)⟩ ⟨PT.blind, th_recv hK hP ha0.1 he3 rfl, (th_pre (av := [.ref a0, .ref a1]) trivial hK hP hok hnd hWT hE)⟩ rfl rfl hl.1 rfl (lv_room (Nat.le_of_ble_eq_true rfl)) dX4_start_25 ⟨Nat.le_of_ble_eq_true rfl, Nat.le_of_ble_eq_true rfl⟩) (fun f8 H locs hr8 hok hP hS => ?_)
    exact W.vret hx hb hr (fun t ht hW => ⟨⟨f8, rfl, trivial, hok, by rw [ht]; exact hP⟩, hS.F ht⟩) hS.2.2 dX4_start_28

set_option maxHeartbeats 4000000 in
set_option maxRecDepth 100000 in
theorem t_X4_begunBehind (l : Launch) (dC : Nat → ClassId) (dI : Nat → Nat → Nat) (sz : Nat) (G : GT) (cs : Nat → ClassId) (tt mm : Nat) (a0 : Nat) (ha0 : Ty G a0 4) : Met l yX4_begunBehind [.code yX4_begunBehind cX4_begunBehind 1 (some .int)] ({ frames := 0, cells := 0, slots := 0, locals := 0 }) (PT [.ref a0] sz dC dI G cs tt mm (fun _ => True)) (vp_Si (fun (r : Int32) => True)) 0 0 (fun _ => False) := by
  refine Met.ofW (cc := cX4_begunBehind) (maxL := 1) (ret := (some .int)) (by decide) rfl ?_
  intro p e s m args below meth c s₁ B hml hv
  obtain ⟨rfl, hsz, ⟨f0, hok, hP, hX⟩, hK, hnd, hWT, hE⟩ := hv
  have hx := B.exec
  have hb := B.bytes
  have hr := B.returns
  have hown : s.vm.findClass RX4 = some m.cls := findClass_of_methodNamed B.named
  have hlocks := B.notSynchronized
  subst hsz
  have hl := lv_entry ([.ref a0]) (n := 1) (Nat.le_of_ble_eq_true rfl)
  rw [lg_entry_eq]
  generalize (lg_sl ([.ref a0]) ++ List.replicate (1 - (lg_sl ([.ref a0])).length) Slot.unset).toArray = ls at hl ⊢
  have hl : lv_has ls 1 [(0, .ref a0)] := hl
  refine lv_aload_n hx hb dX4_begunBehind_0 rfl (lv_at hl 0 rfl) ?_
  obtain ⟨y6_1, y7_1, he1⟩ := ok_X4 hok ha0
  refine th_get hx hb (ly_X4 hE) hown hK hP ha0.1 he1 rfl 6 (by decide) (wd_311 hE) (fun _ h9 => h9) rfl dX4_begunBehind_1 ?_
  exact W.iret (v := y6_1) hx hb hr (fun t ht hW => ⟨y6_1, rfl, trivial, ht⟩) (fun _ h => absurd h List.not_mem_nil) dX4_begunBehind_4

set_option maxHeartbeats 4000000 in
set_option maxRecDepth 100000 in
theorem t_X4_numberTaken (l : Launch) (dC : Nat → ClassId) (dI : Nat → Nat → Nat) (sz : Nat) (G : GT) (cs : Nat → ClassId) (tt mm : Nat) (a0 : Nat) (ha0 : Ty G a0 4) : Met l yX4_numberTaken [.code yX4_numberTaken cX4_numberTaken 1 (some .int)] ({ frames := 0, cells := 0, slots := 0, locals := 0 }) (PT [.ref a0] sz dC dI G cs tt mm (fun _ => True)) (vp_Si (fun (r : Int32) => True)) 0 0 (fun _ => False) := by
  refine Met.ofW (cc := cX4_numberTaken) (maxL := 1) (ret := (some .int)) (by decide) rfl ?_
  intro p e s m args below meth c s₁ B hml hv
  obtain ⟨rfl, hsz, ⟨f0, hok, hP, hX⟩, hK, hnd, hWT, hE⟩ := hv
  have hx := B.exec
  have hb := B.bytes
  have hr := B.returns
  have hown : s.vm.findClass RX4 = some m.cls := findClass_of_methodNamed B.named
  have hlocks := B.notSynchronized
  subst hsz
  have hl := lv_entry ([.ref a0]) (n := 1) (Nat.le_of_ble_eq_true rfl)
  rw [lg_entry_eq]
  generalize (lg_sl ([.ref a0]) ++ List.replicate (1 - (lg_sl ([.ref a0])).length) Slot.unset).toArray = ls at hl ⊢
  have hl : lv_has ls 1 [(0, .ref a0)] := hl
  refine lv_aload_n hx hb dX4_numberTaken_0 rfl (lv_at hl 0 rfl) ?_
  obtain ⟨y6_1, y7_1, he1⟩ := ok_X4 hok ha0
  refine th_get hx hb (ly_X4 hE) hown hK hP ha0.1 he1 rfl 7 (by decide) (wd_312 hE) (fun _ h9 => h9) rfl dX4_numberTaken_1 ?_
  exact W.iret (v := y7_1) hx hb hr (fun t ht hW => ⟨y7_1, rfl, trivial, ht⟩) (fun _ h => absurd h List.not_mem_nil) dX4_numberTaken_4

set_option maxHeartbeats 4000000 in
set_option maxRecDepth 100000 in
theorem t_X4_reachesNumber (l : Launch) (dC : Nat → ClassId) (dI : Nat → Nat → Nat) (sz : Nat) (G : GT) (cs : Nat → ClassId) (tt mm : Nat) (a0 : Nat) (ha0 : Ty G a0 4) (a1 : Nat) (ha1 : Ty G a1 7) : Met l yX4_reachesNumber [.code yX4_reachesNumber cX4_reachesNumber 4 (some .boolean)] ({ frames := 1, cells := 0, slots := 0, locals := 40 }) (PT [.ref a0, .ref a1] sz dC dI G cs tt mm (fun _ => True)) (va_Qi (fun (r : Int32) (u : Nat → va_E) => r = 0 ∨ r = 1) (BT dC dI G cs tt mm) (AT G sz)) 0 0 (AT G sz) := by
  refine Met.ofW (cc := cX4_reachesNumber) (maxL := 4) (ret := (some .boolean)) (by decide) rfl ?_
  intro p e s m args below meth c s₁ B hml hv
  obtain ⟨rfl, hsz, ⟨f0, hok, hP, hX⟩, hK, hnd, hWT, hE⟩ := hv
  have hx := B.exec
  have hb := B.bytes
  have hr := B.returns
  have hown : s.vm.findClass RX4 = some m.cls := findClass_of_methodNamed B.named
  have hlocks := B.notSynchronized
  subst hsz
  have hAL : ∀ a, a ∈ gL G → AT G s.heap.size a := fun a h => Or.inl h
  have hA : ∀ q : Nat, s.heap.size ≤ q → AT G s.heap.size q := fun q h => Or.inr h
  have hS : va_S (AT G s.heap.size) s.heap s.heap [] := va_S.rf
  have hl := lv_entry ([.ref a0, .ref a1]) (n := 4) (Nat.le_of_ble_eq_true rfl)
  rw [lg_entry_eq]
  generalize (lg_sl ([.ref a0, .ref a1]) ++ List.replicate (4 - (lg_sl ([.ref a0, .ref a1])).length) Slot.unset).toArray = ls at hl ⊢
  have hl : lv_has ls 4 [(0, .ref a0), (1, .ref a1)] := hl
  refine lv_aload_n hx hb dX4_reachesNumber_0 rfl (lv_at hl 0 rfl) ?_
  obtain ⟨y6_1, y7_1, he1⟩ := ok_X4 hok ha0
  refine th_get hx hb (ly_X4 hE) hown hK hP ha0.1 he1 rfl 1 (by decide) (wd_306 hE) (fun _ h9 => h9) rfl dX4_reachesNumber_1 ?_
  refine lv_iconst (v := 0) hx hb dX4_reachesNumber_4 (by decide) ?_
  obtain ⟨y2_2, y3_2, hy3_2, he2⟩ := ok_X10 hok (wt_X4_1 hWT ha0)
  refine vp_callSi (va_Run.run (va_runV (As := [.int 0]) (rest := []) ⟨hx, hb, hml, hown, noTs⟩ (t_X10_numberAt l dC dI s.heap.size G cs tt mm (gR G a0 1) ((wt_X4_1 hWT ha0)) 0) ⟨cbE 1 (wd_717 hE) (wd_120 hE) (wd_1112 hE) rfl rfl (by decide +kernel) ⟨Nat.le_of_ble_eq_true rfl, Nat.le_of_ble_eq_true rfl⟩, (wd_715 hE), (wd_716 hE)⟩ ⟨PT.blind, th_recv hK hP (wt_X4_1 hWT ha0).1 he2 rfl, (th_pre (av := [.ref (gR G a0 1), .int 0]) trivial hK hP hok hnd hWT hE)⟩ rfl rfl hl.1 rfl (lv_room (Nat.le_of_ble_eq_true rfl)) dX4_reachesNumber_5 ⟨Nat.le_of_ble_eq_true rfl, Nat.le_of_ble_eq_true rfl⟩)) (fun r3 hr3 => ?_)
  refine lv_aload_n hx hb dX4_reachesNumber_8 rfl (lv_at hl 1 rfl) ?_
  refine lv_aload_n hx hb dX4_reachesNumber_9 rfl (lv_at hl 0 rfl) ?_
  refine th_get hx hb (ly_X4 hE) hown hK hP ha0.1 he1 rfl 0 (by decide) (wd_305 hE) (fun _ h9 => h9) rfl dX4_reachesNumber_10 ?_
  obtain ⟨y2_4, y3_4, hy3_4, he4⟩ := ok_X10 hok (wt_X4_0 hWT ha0)
  refine vp_callSi (va_Run.run (va_runV (As := []) (rest := [.ref a1, .int r3]) ⟨hx, hb, hml, hown, noTs⟩ (t_X10_begin l dC dI s.heap.size G cs tt mm (gR G a0 0) ((wt_X4_0 hWT ha0))) ⟨cbE 0 (wd_713 hE) (wd_120 hE) (wd_1113 hE) rfl rfl (by decide +kernel) ⟨Nat.le_of_ble_eq_true rfl, Nat.le_of_ble_eq_true rfl⟩, (wd_711 hE), (wd_712 hE)⟩ ⟨PT.blind, th_recv hK hP (wt_X4_0 hWT ha0).1 he4 rfl, (th_pre (av := [.ref (gR G a0 0)]) trivial hK hP hok hnd hWT hE)⟩ rfl rfl hl.1 rfl (lv_room (Nat.le_of_ble_eq_true rfl)) dX4_reachesNumber_13 ⟨Nat.le_of_ble_eq_true rfl, Nat.le_of_ble_eq_true rfl⟩)) (fun r5 hr5 => ?_)
  have he6 := ok_X7 hok ha1
  refine vp_callSi (va_Run.run (va_runV (As := [.int r5]) (rest := [.int r3]) ⟨hx, hb, hml, hown, noTs⟩ (t_X7_orderAt l dC dI s.heap.size G cs tt mm a1 ha1 r5) ⟨cbE 1 (wd_614 hE) (wd_116 hE) (wd_1114 hE) rfl rfl (by decide +kernel) ⟨Nat.le_of_ble_eq_true rfl, Nat.le_of_ble_eq_true rfl⟩, (wd_612 hE), (wd_613 hE)⟩ ⟨PT.blind, th_recv hK hP ha1.1 he6 rfl, (th_pre (av := [.ref a1, .int r5]) trivial hK hP hok hnd hWT hE)⟩ rfl rfl hl.1 rfl (lv_room (Nat.le_of_ble_eq_true rfl)) dX4_reachesNumber_16 ⟨Nat.le_of_ble_eq_true rfl, Nat.le_of_ble_eq_true rfl⟩)) (fun r7 hr7 => ?_)
  refine lv_imul hx hb dX4_reachesNumber_19 ?_
  refine lv_topi (fun x8 ex8 => ?_)
  refine lv_istore_n (lv' := [(2, .int x8), (0, .ref a0), (1, .ref a1)]) hx hb dX4_reachesNumber_20 rfl hl (by decide) rfl (fun ls hl => ?_)
  refine lv_aload_n hx hb dX4_reachesNumber_21 rfl (lv_at hl 1 rfl) ?_
  refine th_get hx hb (ly_X4 hE) hown hK hP ha0.1 he1 rfl 0 (by decide) (wd_305 hE) (fun _ h9 => h9) rfl dX4_reachesNumber_22 ?_
  refine lv_iconst (v := 0) hx hb dX4_reachesNumber_25 (by decide) ?_
  refine vp_callSi (va_Run.run (va_runV (As := [.int 0]) (rest := []) ⟨hx, hb, hml, hown, noTs⟩ (t_X10_numberAt l dC dI s.heap.size G cs tt mm (gR G a0 0) ((wt_X4_0 hWT ha0)) 0) ⟨cbE 1 (wd_717 hE) (wd_120 hE) (wd_1112 hE) rfl rfl (by decide +kernel) ⟨Nat.le_of_ble_eq_true rfl, Nat.le_of_ble_eq_true rfl⟩, (wd_715 hE), (wd_716 hE)⟩ ⟨PT.blind, th_recv hK hP (wt_X4_0 hWT ha0).1 he4 rfl, (th_pre (av := [.ref (gR G a0 0), .int 0]) trivial hK hP hok hnd hWT hE)⟩ rfl rfl hl.1 rfl (lv_room (Nat.le_of_ble_eq_true rfl)) dX4_reachesNumber_26 ⟨Nat.le_of_ble_eq_true rfl, Nat.le_of_ble_eq_true rfl⟩)) (fun r9 hr9 => ?_)
  refine lv_aload_n hx hb dX4_reachesNumber_29 rfl (lv_at hl 2 rfl) ?_
  refine lv_aload_n hx hb dX4_reachesNumber_30 rfl (lv_at hl 1 rfl) ?_
  refine th_get hx hb (ly_X4 hE) hown hK hP ha0.1 he1 rfl 1 (by decide) (wd_306 hE) (fun _ h9 => h9) rfl dX4_reachesNumber_31 ?_
  refine vp_callSi (va_Run.run (va_runV (As := []) (rest := [.ref a1, .int r9]) ⟨hx, hb, hml, hown, noTs⟩ (t_X10_begin l dC dI s.heap.size G cs tt mm (gR G a0 1) ((wt_X4_1 hWT ha0))) ⟨cbE 0 (wd_713 hE) (wd_120 hE) (wd_1113 hE) rfl rfl (by decide +kernel) ⟨Nat.le_of_ble_eq_true rfl, Nat.le_of_ble_eq_true rfl⟩, (wd_711 hE), (wd_712 hE)⟩ ⟨PT.blind, th_recv hK hP (wt_X4_1 hWT ha0).1 he2 rfl, (th_pre (av := [.ref (gR G a0 1)]) trivial hK hP hok hnd hWT hE)⟩ rfl rfl hl.1 rfl (lv_room (Nat.le_of_ble_eq_true rfl)) dX4_reachesNumber_34 ⟨Nat.le_of_ble_eq_true rfl, Nat.le_of_ble_eq_true rfl⟩)) (fun r10 hr10 => ?_)
  refine vp_callSi (va_Run.run (va_runV (As := [.int r10]) (rest := [.int r9]) ⟨hx, hb, hml, hown, noTs⟩ (t_X7_orderAt l dC dI s.heap.size G cs tt mm a1 ha1 r10) ⟨cbE 1 (wd_614 hE) (wd_116 hE) (wd_1114 hE) rfl rfl (by decide +kernel) ⟨Nat.le_of_ble_eq_true rfl, Nat.le_of_ble_eq_true rfl⟩, (wd_612 hE), (wd_613 hE)⟩ ⟨PT.blind, th_recv hK hP ha1.1 he6 rfl, (th_pre (av := [.ref a1, .int r10]) trivial hK hP hok hnd hWT hE)⟩ rfl rfl hl.1 rfl (lv_room (Nat.le_of_ble_eq_true rfl)) dX4_reachesNumber_37 ⟨Nat.le_of_ble_eq_true rfl, Nat.le_of_ble_eq_true rfl⟩)) (fun r11 hr11 => ?_)
  refine lv_imul hx hb dX4_reachesNumber_40 ?_
  refine lv_topi (fun x12 ex12 => ?_)
  refine lv_istore_n (lv' := [(3, .int x12), (2, .int x8), (0, .ref a0), (1, .ref a1)]) hx hb dX4_reachesNumber_41 rfl hl (by decide) rfl (fun ls hl => ?_)
  refine lv_aload_n hx hb dX4_reachesNumber_42 rfl (lv_at hl 2 rfl) ?_
  refine lv_aload_n hx hb dX4_reachesNumber_43 rfl (lv_at hl 2 rfl) ?_
  refine lv_aload_n hx hb dX4_reachesNumber_44 rfl (lv_at hl 2 rfl) ?_
  refine th_get hx hb (ly_X4 hE) hown hK hP ha0.1 he1 rfl 1 (by decide) (wd_306 hE) (fun _ h9 => h9) rfl dX4_reachesNumber_45 ?_
  refine vp_callSi (va_Run.run (va_runV (As := []) (rest := [.ref a0, .ref a0]) ⟨hx, hb, hml, hown, noTs⟩ (t_X10_begin l dC dI s.heap.size G cs tt mm (gR G a0 1) ((wt_X4_1 hWT ha0))) ⟨cbE 0 (wd_713 hE) (wd_120 hE) (wd_1113 hE) rfl rfl (by decide +kernel) ⟨Nat.le_of_ble_eq_true rfl, Nat.le_of_ble_eq_true rfl⟩, (wd_711 hE), (wd_712 hE)⟩ ⟨PT.blind, th_recv hK hP (wt_X4_1 hWT ha0).1 he2 rfl, (th_pre (av := [.ref (gR G a0 1)]) trivial hK hP hok hnd hWT hE)⟩ rfl rfl hl.1 rfl (lv_room (Nat.le_of_ble_eq_true rfl)) dX4_reachesNumber_48 ⟨Nat.le_of_ble_eq_true rfl, Nat.le_of_ble_eq_true rfl⟩)) (fun r13 hr13 => ?_)
  refine vp_callSi (va_Run.run (va_runV (As := [.int r13]) (rest := [.ref a0]) ⟨hx, hb, hml, hown, noTs⟩ (t_X4_farOf l dC dI s.heap.size G cs tt mm a0 ha0 r13) ⟨cbE 1 (wd_1126 hE) (wd_122 hE) (wd_1123 hE) rfl rfl (by decide +kernel) ⟨Nat.le_of_ble_eq_true rfl, Nat.le_of_ble_eq_true rfl⟩, (wd_1125 hE), (wd_42 hE)⟩ ⟨PT.blind, th_recv hK hP ha0.1 he1 rfl, (th_pre (av := [.ref a0, .int r13]) trivial hK hP hok hnd hWT hE)⟩ rfl rfl hl.1 rfl (lv_room (Nat.le_of_ble_eq_true rfl)) dX4_reachesNumber_51 ⟨Nat.le_of_ble_eq_true rfl, Nat.le_of_ble_eq_true rfl⟩)) (fun r14 hr14 => ?_)
  refine th_put (v := .int r14) (ty := .int) hx hb (ly_X4 hE) tyX4 tyX4_ok nmX4 hown hK hP hnd hAL hS ha0.1 he1 rfl 6 (by decide) (wd_311 hE) (fun _ h9 => h9) rfl (by decide +kernel) rfl rfl (Nat.le_of_ble_eq_true rfl) (up_X4 hok ha0 ⟨r14, y7_1, rfl⟩) dX4_reachesNumber_54 (fun f15 H locs hfa15 hfo15 hok hP hS => ?_)
  have he16 := (hfo15 (gR G a0 1) (Ty.ne (wt_X4_1 hWT ha0) ha0 (by decide))).trans he2
  have he17 := (hfo15 (gR G a0 0) (Ty.ne (wt_X4_0 hWT ha0) ha0 (by decide))).trans he4
  have he18 := (hfo15 a1 (Ty.ne ha1 ha0 (by decide))).trans he6
  refine lv_aload_n hx hb dX4_reachesNumber_57 rfl (lv_at hl 2 rfl) ?_
  refine lv_iconst (v := 0) hx hb dX4_reachesNumber_58 (by decide) ?_
  refine th_put (v := .int 0) (ty := .int) hx hb (ly_X4 hE) tyX4 tyX4_ok nmX4 hown hK hP hnd hAL hS ha0.1 hfa15 rfl 7 (by decide) (wd_312 hE) (fun _ h9 => h9) rfl (by decide +kernel) rfl rfl (Nat.le_of_ble_eq_true rfl) (up_X4 hok ha0 ⟨r14, 0, rfl⟩) dX4_reachesNumber_59 (fun f19 H locs hfa19 hfo19 hok hP hS => ?_)
  have he20 := (hfo19 (gR G a0 1) (Ty.ne (wt_X4_1 hWT ha0) ha0 (by decide))).trans he16
  have he21 := (hfo19 (gR G a0 0) (Ty.ne (wt_X4_0 hWT ha0) ha0 (by decide))).trans he17
  have he22 := (hfo19 a1 (Ty.ne ha1 ha0 (by decide))).trans he18
  refine lv_aload_n hx hb dX4_reachesNumber_62 rfl (lv_at hl 2 rfl) ?_
  refine th_get hx hb (ly_X4 hE) hown hK hP ha0.1 hfa19 rfl 6 (by decide) (wd_311 hE) (fun _ h9 => h9) rfl dX4_reachesNumber_63 ?_
  refine lv_if_lt (tgt := 78) hx hb dX4_reachesNumber_66 (by decide) (fun c23 => ?_) (fun c23 => ?_)
  · refine lv_iconst (v := 0) hx hb dX4_reachesNumber_78 (by decide) ?_
    exact W.zret (v := 0) hx hb hr rfl (fun t ht hW => ⟨⟨0, f19, rfl, Or.inl rfl, hok, by rw [ht]; exact hP⟩, hS.F ht⟩) hS.2.2 dX4_reachesNumber_79
  · refine lv_iload_n hx hb dX4_reachesNumber_69 rfl (lv_at hl 1 rfl) ?_
    refine lv_iload_n hx hb dX4_reachesNumber_70 rfl (lv_at hl 0 rfl) ?_
    refine lv_icmp_ne (tgt := 78) hx hb dX4_reachesNumber_71 (by decide) (fun c24 => ?_) (fun c24 => ?_)
    · refine lv_iconst (v := 0) hx hb dX4_reachesNumber_78 (by decide) ?_
      exact W.zret (v := 0) hx hb hr rfl (fun t ht hW => ⟨⟨0, f19, rfl, Or.inl rfl, hok, by rw [ht]; exact hP⟩, hS.F ht⟩) hS.2.2 dX4_reachesNumber_79
    · refine lv_iconst (v := 1) hx hb dX4_reachesNumber_74 (by decide) ?_
      refine lv_goto (tgt := 79) hx hb dX4_reachesNumber_75 (by decide) ?_
      exact W.zret (v := 1) hx hb hr rfl (fun t ht hW => ⟨⟨1, f19, rfl, Or.inr rfl, hok, by rw [ht]; exact hP⟩, hS.F ht⟩) hS.2.2 dX4_reachesNumber_79

set_option maxHeartbeats 4000000 in
set_option maxRecDepth 100000 in
theorem t_X4_findNumber (l : Launch) (dC : Nat → ClassId) (dI : Nat → Nat → Nat) (sz : Nat) (G : GT) (cs : Nat → ClassId) (tt mm : Nat) (a0 : Nat) (ha0 : Ty G a0 4) (a1 : Nat) (ha1 : Ty G a1 7) : Met l yX4_findNumber [.code yX4_findNumber cX4_findNumber 6 (some .boolean)] ({ frames := 2, cells := 0, slots := 0, locals := 80 }) (PT [.ref a0, .ref a1] sz dC dI G cs tt mm (fun _ => True)) (va_Qi (fun (r : Int32) (u : Nat → va_E) => r = 0 ∨ r = 1) (BT dC dI G cs tt mm) (AT G sz)) 0 0 (AT G sz) := by
  refine Met.ofW (cc := cX4_findNumber) (maxL := 6) (ret := (some .boolean)) (by decide) rfl ?_
  intro p e s m args below meth c s₁ B hml hv
  obtain ⟨rfl, hsz, ⟨f0, hok, hP, hX⟩, hK, hnd, hWT, hE⟩ := hv
  have hx := B.exec
  have hb := B.bytes
  have hr := B.returns
  have hown : s.vm.findClass RX4 = some m.cls := findClass_of_methodNamed B.named
  have hlocks := B.notSynchronized
  subst hsz
  have hAL : ∀ a, a ∈ gL G → AT G s.heap.size a := fun a h => Or.inl h
  have hA : ∀ q : Nat, s.heap.size ≤ q → AT G s.heap.size q := fun q h => Or.inr h
  have hS : va_S (AT G s.heap.size) s.heap s.heap [] := va_S.rf
  have hl := lv_entry ([.ref a0, .ref a1]) (n := 6) (Nat.le_of_ble_eq_true rfl)
  rw [lg_entry_eq]
  generalize (lg_sl ([.ref a0, .ref a1]) ++ List.replicate (6 - (lg_sl ([.ref a0, .ref a1])).length) Slot.unset).toArray = ls at hl ⊢
  have hl : lv_has ls 6 [(0, .ref a0), (1, .ref a1)] := hl
  refine lv_aload_n hx hb dX4_findNumber_0 rfl (lv_at hl 1 rfl) ?_
  refine lv_aload_n hx hb dX4_findNumber_1 rfl (lv_at hl 0 rfl) ?_
  obtain ⟨y6_1, y7_1, he1⟩ := ok_X4 hok ha0
  refine th_get hx hb (ly_X4 hE) hown hK hP ha0.1 he1 rfl 2 (by decide) (wd_307 hE) (fun _ h9 => h9) rfl dX4_findNumber_2 ?_
  obtain ⟨y2_2, y3_2, hy3_2, he2⟩ := ok_X10 hok (wt_X4_2 hWT ha0)
  refine vp_callSi (va_Run.run (va_runV (As := []) (rest := [.ref a1]) ⟨hx, hb, hml, hown, noTs⟩ (t_X10_begin l dC dI s.heap.size G cs tt mm (gR G a0 2) ((wt_X4_2 hWT ha0))) ⟨cbE 0 (wd_713 hE) (wd_120 hE) (wd_1113 hE) rfl rfl (by decide +kernel) ⟨Nat.le_of_ble_eq_true rfl, Nat.le_of_ble_eq_true rfl⟩, (wd_711 hE), (wd_712 hE)⟩ ⟨PT.blind, th_recv hK hP (wt_X4_2 hWT ha0).1 he2 rfl, (th_pre (av := [.ref (gR G a0 2)]) trivial hK hP hok hnd hWT hE)⟩ rfl rfl hl.1 rfl (lv_room (Nat.le_of_ble_eq_true rfl)) dX4_findNumber_5 ⟨Nat.le_of_ble_eq_true rfl, Nat.le_of_ble_eq_true rfl⟩)) (fun r3 hr3 => ?_)
  have he4 := ok_X7 hok ha1
  refine vp_callSi (va_Run.run (va_runV (As := [.int r3]) (rest := []) ⟨hx, hb, hml, hown, noTs⟩ (t_X7_orderAt l dC dI s.heap.size G cs tt mm a1 ha1 r3) ⟨cbE 1 (wd_614 hE) (wd_116 hE) (wd_1114 hE) rfl rfl (by decide +kernel) ⟨Nat.le_of_ble_eq_true rfl, Nat.le_of_ble_eq_true rfl⟩, (wd_612 hE), (wd_613 hE)⟩ ⟨PT.blind, th_recv hK hP ha1.1 he4 rfl, (th_pre (av := [.ref a1, .int r3]) trivial hK hP hok hnd hWT hE)⟩ rfl rfl hl.1 rfl (lv_room (Nat.le_of_ble_eq_true rfl)) dX4_findNumber_8 ⟨Nat.le_of_ble_eq_true rfl, Nat.le_of_ble_eq_true rfl⟩)) (fun r5 hr5 => ?_)
  refine lv_istore_n (lv' := [(2, .int r5), (0, .ref a0), (1, .ref a1)]) hx hb dX4_findNumber_11 rfl hl (by decide) rfl (fun ls hl => ?_)
  refine lv_aload_n hx hb dX4_findNumber_12 rfl (lv_at hl 1 rfl) ?_
  refine th_get hx hb (ly_X4 hE) hown hK hP ha0.1 he1 rfl 2 (by decide) (wd_307 hE) (fun _ h9 => h9) rfl dX4_findNumber_13 ?_
  refine lv_iconst (v := 0) hx hb dX4_findNumber_16 (by decide) ?_
  refine vp_callSi (va_Run.run (va_runV (As := [.int 0]) (rest := []) ⟨hx, hb, hml, hown, noTs⟩ (t_X10_numberAt l dC dI s.heap.size G cs tt mm (gR G a0 2) ((wt_X4_2 hWT ha0)) 0) ⟨cbE 1 (wd_717 hE) (wd_120 hE) (wd_1112 hE) rfl rfl (by decide +kernel) ⟨Nat.le_of_ble_eq_true rfl, Nat.le_of_ble_eq_true rfl⟩, (wd_715 hE), (wd_716 hE)⟩ ⟨PT.blind, th_recv hK hP (wt_X4_2 hWT ha0).1 he2 rfl, (th_pre (av := [.ref (gR G a0 2), .int 0]) trivial hK hP hok hnd hWT hE)⟩ rfl rfl hl.1 rfl (lv_room (Nat.le_of_ble_eq_true rfl)) dX4_findNumber_17 ⟨Nat.le_of_ble_eq_true rfl, Nat.le_of_ble_eq_true rfl⟩)) (fun r6 hr6 => ?_)
  refine lv_istore_n (lv' := [(3, .int r6), (2, .int r5), (0, .ref a0), (1, .ref a1)]) hx hb dX4_findNumber_20 rfl hl (by decide) rfl (fun ls hl => ?_)
  refine lv_aload_n hx hb dX4_findNumber_21 rfl (lv_at hl 2 rfl) ?_
  refine th_get hx hb (ly_X4 hE) hown hK hP ha0.1 he1 rfl 2 (by decide) (wd_307 hE) (fun _ h9 => h9) rfl dX4_findNumber_22 ?_
  refine vp_callSi (va_Run.run (va_runV (As := []) (rest := []) ⟨hx, hb, hml, hown, noTs⟩ (t_X10_lastNumber l dC dI s.heap.size G cs tt mm (gR G a0 2) ((wt_X4_2 hWT ha0))) ⟨cbE 0 (wd_649 hE) (wd_120 hE) (wd_1160 hE) rfl rfl (by decide +kernel) ⟨Nat.le_of_ble_eq_true rfl, Nat.le_of_ble_eq_true rfl⟩, (wd_647 hE), (wd_648 hE)⟩ ⟨PT.blind, th_recv hK hP (wt_X4_2 hWT ha0).1 he2 rfl, (th_pre (av := [.ref (gR G a0 2)]) trivial hK hP hok hnd hWT hE)⟩ rfl rfl hl.1 rfl (lv_room (Nat.le_of_ble_eq_true rfl)) dX4_findNumber_25 ⟨Nat.le_of_ble_eq_true rfl, Nat.le_of_ble_eq_true rfl⟩)) (fun r7 hr7 => ?_)
  refine lv_istore (lv' := [(4, .int r7), (3, .int r6), (2, .int r5), (0, .ref a0), (1, .ref a1)]) hx hb dX4_findNumber_28 hl (by decide) rfl (fun ls hl => ?_)
  refine lv_iconst (v := 0) hx hb dX4_findNumber_30 (by decide) ?_
  refine lv_istore (lv' := [(5, .int 0), (4, .int r7), (3, .int r6), (2, .int r5), (0, .ref a0), (1, .ref a1)]) hx hb dX4_findNumber_31 hl (by decide) rfl (fun ls hl => ?_)
  refine w_ind (I := fun n f H locs ls => OKT G cs tt mm f ∧ va_P (dC, dI) vwCl (va_pl (gL G) f) H ∧ va_S (AT G s.heap.size) s.heap H locs ∧ ∃ (w5_8 : Int32), n = (2147483647 - w5_8.toInt).toNat ∧ 0 ≤ w5_8 ∧ lv_has ls 6 [(0, .ref a0), (1, .ref a1), (2, .int r5), (3, .int r6), (4, .int r7), (5, .int w5_8)]) (fun n f8 H locs ls hI ih8 => ?_) _ f0 _ _ _ ⟨hok, hP, hS, 0, rfl, (by first | omega | (simp only [i_lt, i_le, i_eq, ti_m9, ti_m1, ti_0, ti_1, ti_2, ti_3, ti_4, ti_5, ti_6, ti_7, ti_9, ti_12, ti_20, ti_99, ti_700, ti_24, ti_156, ti_72, ti_8, ti_60, ti_543, ti_10, ti_33, ti_51, ti_178, ti_119, ti_111, ti_114, ti_100, ti_32, ti_62, ti_59, ti_48, ti_701, ti_97, ti_122, ti_57, ti_73, ti_128]; omega)), lv_sub hl [4, 5, 3, 2, 1, 0] rfl⟩
  obtain ⟨hok, hP, hS, w5_8, hmu8, hlo8, hl⟩ := hI
  subst hmu8
  refine lv_iload hx hb dX4_findNumber_33 (lv_at hl 5 rfl) ?_
  refine lv_iload_n hx hb dX4_findNumber_35 rfl (lv_at hl 2 rfl) ?_
  refine lv_icmp_ge (tgt := 106) hx hb dX4_findNumber_36 (by decide) (fun c9 => ?_) (fun c9 => ?_)
  · refine lv_iconst (v := 0) hx hb dX4_findNumber_106 (by decide) ?_
    exact W.zret (v := 0) hx hb hr rfl (fun t ht hW => ⟨⟨0, f8, rfl, Or.inl rfl, hok, by rw [ht]; exact hP⟩, hS.F ht⟩) hS.2.2 dX4_findNumber_107
  · refine lv_aload_n hx hb dX4_findNumber_39 rfl (lv_at hl 0 rfl) ?_
    obtain ⟨y6_10, y7_10, he10⟩ := ok_X4 hok ha0
    refine th_get hx hb (ly_X4 hE) hown hK hP ha0.1 he10 rfl 2 (by decide) (wd_307 hE) (fun _ h9 => h9) rfl dX4_findNumber_40 ?_
    refine lv_iconst (v := 0) hx hb dX4_findNumber_43 (by decide) ?_
    refine lv_iload_n hx hb dX4_findNumber_44 rfl (lv_at hl 3 rfl) ?_
    refine lv_iload hx hb dX4_findNumber_45 (lv_at hl 5 rfl) ?_
    refine lv_isub hx hb dX4_findNumber_47 ?_
    refine lv_topi (fun x11 ex11 => ?_)
    refine lv_iload_n hx hb dX4_findNumber_48 rfl (lv_at hl 2 rfl) ?_
    refine vp_callSi (va_Run.run (va_runSN (As := [.int x11, .int r5]) (rest := [.int 0, .ref (gR G a0 2)]) ⟨hx, hb, hml, hown, noTs⟩ (t_X11_rest l dC dI H.size G cs tt mm x11 r5) ⟨cnE 2 (wd_617 hE) (wd_115 hE) (wd_1129 hE) rfl rfl (by decide +kernel) ⟨Nat.le_of_ble_eq_true rfl, Nat.le_of_ble_eq_true rfl⟩, (wd_616 hE), trivial⟩ ⟨PT.blind, (th_pre (av := [.int x11, .int r5]) trivial hK hP hok hnd hWT hE)⟩ rfl rfl hl.1 rfl (lv_room (Nat.le_of_ble_eq_true rfl)) dX4_findNumber_49 ⟨Nat.le_of_ble_eq_true rfl, Nat.le_of_ble_eq_true rfl⟩)) (fun r12 hr12 => ?_)
    obtain ⟨hra12, hrb12⟩ := hr12
    obtain ⟨y2_13, y3_13, hy3_13, he13⟩ := ok_X10 hok (wt_X4_2 hWT ha0)
    refine tc_v hAL hS hA (va_runV (As := [.int 0, .int r12]) (rest := []) ⟨hx, hb, hml, hown, noTs⟩ (t_X10_putNumber l dC dI H.size G cs tt mm (gR G a0 2) ((wt_X4_2 hWT ha0)) 0 r12) ⟨cbE 2 (wd_654 hE) (wd_120 hE) (wd_1161 hE) rfl rfl (by decide +kernel) ⟨Nat.le_of_ble_eq_true rfl, Nat.le_of_ble_eq_true rfl⟩, (wd_652 hE), (wd_653 hE)⟩ ⟨PT.blind, th_recv hK hP (wt_X4_2 hWT ha0).1 he13 rfl, (th_pre (av := [.ref (gR G a0 2), .int 0, .int r12]) trivial hK hP hok hnd hWT hE)⟩ rfl rfl hl.1 rfl (lv_room (Nat.le_of_ble_eq_true rfl)) dX4_findNumber_52 ⟨Nat.le_of_ble_eq_true rfl, Nat.le_of_ble_eq_true rfl⟩) (fun f14 H locs hr14 hok hP hS => ?_)
    refine lv_aload_n hx hb dX4_findNumber_55 rfl (lv_at hl 0 rfl) ?_
    obtain ⟨y6_15, y7_15, he15⟩ := ok_X4 hok ha0
    refine th_get hx hb (ly_X4 hE) hown hK hP ha0.1 he15 rfl 2 (by decide) (wd_307 hE) (fun _ h9 => h9) rfl dX4_findNumber_56 ?_
    refine lv_aload_n hx hb dX4_findNumber_59 rfl (lv_at hl 0 rfl) ?_
    refine th_get hx hb (ly_X4 hE) hown hK hP ha0.1 he15 rfl 2 (by decide) (wd_307 hE) (fun _ h9 => h9) rfl dX4_findNumber_60 ?_
    obtain ⟨y2_16, y3_16, hy3_16, he16⟩ := ok_X10 hok (wt_X4_2 hWT ha0)
    refine vp_callSi (va_Run.run (va_runV (As := []) (rest := [.ref (gR G a0 2)]) ⟨hx, hb, hml, hown, noTs⟩ (t_X10_size l dC dI H.size G cs tt mm (gR G a0 2) ((wt_X4_2 hWT ha0)) y2_16 y3_16) ⟨cbE 0 (wd_666 hE) (wd_120 hE) (wd_1107 hE) rfl rfl (by decide +kernel) ⟨Nat.le_of_ble_eq_true rfl, Nat.le_of_ble_eq_true rfl⟩, (wd_664 hE), (wd_665 hE)⟩ ⟨PT.blind, th_recv hK hP (wt_X4_2 hWT ha0).1 he16 rfl, (th_pre (av := [.ref (gR G a0 2)]) he16 hK hP hok hnd hWT hE)⟩ rfl rfl hl.1 rfl (lv_room (Nat.le_of_ble_eq_true rfl)) dX4_findNumber_63 ⟨Nat.le_of_ble_eq_true rfl, Nat.le_of_ble_eq_true rfl⟩)) (fun r17 hr17 => ?_)
    subst hr17
    refine lv_iload hx hb dX4_findNumber_66 (lv_at hl 4 rfl) ?_
    refine lv_iload hx hb dX4_findNumber_68 (lv_at hl 5 rfl) ?_
    refine lv_iadd hx hb dX4_findNumber_70 ?_
    refine lv_topi (fun x18 ex18 => ?_)
    refine lv_iload_n hx hb dX4_findNumber_71 rfl (lv_at hl 2 rfl) ?_
    refine vp_callSi (va_Run.run (va_runSN (As := [.int x18, .int r5]) (rest := [.int (nI y3_16), .ref (gR G a0 2)]) ⟨hx, hb, hml, hown, noTs⟩ (t_X11_rest l dC dI H.size G cs tt mm x18 r5) ⟨cnE 2 (wd_617 hE) (wd_115 hE) (wd_1129 hE) rfl rfl (by decide +kernel) ⟨Nat.le_of_ble_eq_true rfl, Nat.le_of_ble_eq_true rfl⟩, (wd_616 hE), trivial⟩ ⟨PT.blind, (th_pre (av := [.int x18, .int r5]) trivial hK hP hok hnd hWT hE)⟩ rfl rfl hl.1 rfl (lv_room (Nat.le_of_ble_eq_true rfl)) dX4_findNumber_72 ⟨Nat.le_of_ble_eq_true rfl, Nat.le_of_ble_eq_true rfl⟩)) (fun r19 hr19 => ?_)
    obtain ⟨hra19, hrb19⟩ := hr19
    refine tc_v hAL hS hA (va_runV (As := [.int (nI y3_16), .int r19]) (rest := []) ⟨hx, hb, hml, hown, noTs⟩ (t_X10_putNumber l dC dI H.size G cs tt mm (gR G a0 2) ((wt_X4_2 hWT ha0)) (nI y3_16) r19) ⟨cbE 2 (wd_654 hE) (wd_120 hE) (wd_1161 hE) rfl rfl (by decide +kernel) ⟨Nat.le_of_ble_eq_true rfl, Nat.le_of_ble_eq_true rfl⟩, (wd_652 hE), (wd_653 hE)⟩ ⟨PT.blind, th_recv hK hP (wt_X4_2 hWT ha0).1 he16 rfl, (th_pre (av := [.ref (gR G a0 2), .int (nI y3_16), .int r19]) trivial hK hP hok hnd hWT hE)⟩ rfl rfl hl.1 rfl (lv_room (Nat.le_of_ble_eq_true rfl)) dX4_findNumber_75 ⟨Nat.le_of_ble_eq_true rfl, Nat.le_of_ble_eq_true rfl⟩) (fun f20 H locs hr20 hok hP hS => ?_)
    refine lv_aload_n hx hb dX4_findNumber_78 rfl (lv_at hl 0 rfl) ?_
    obtain ⟨y6_21, y7_21, he21⟩ := ok_X4 hok ha0
    refine th_get hx hb (ly_X4 hE) hown hK hP ha0.1 he21 rfl 4 (by decide) (wd_309 hE) (fun _ h9 => h9) rfl dX4_findNumber_79 ?_
    refine lv_aload_n hx hb dX4_findNumber_82 rfl (lv_at hl 0 rfl) ?_
    refine th_get hx hb (ly_X4 hE) hown hK hP ha0.1 he21 rfl 2 (by decide) (wd_307 hE) (fun _ h9 => h9) rfl dX4_findNumber_83 ?_
    obtain ⟨y4_22, hy4_22, he22⟩ := ok_X0 hok (wt_X4_4 hWT ha0)
    refine vp_callSi (va_Run.run (va_runV (As := [.ref (gR G a0 2)]) (rest := []) ⟨hx, hb, hml, hown, noTs⟩ (t_X0_hits l dC dI H.size G cs tt mm (gR G a0 4) ((wt_X4_4 hWT ha0)) (gR G a0 2) ((wt_X4_2 hWT ha0))) ⟨cbE 1 (wd_1165 hE) (wd_123 hE) (wd_1162 hE) rfl rfl (by decide +kernel) ⟨Nat.le_of_ble_eq_true rfl, Nat.le_of_ble_eq_true rfl⟩, (wd_1163 hE), (wd_1164 hE)⟩ ⟨PT.blind, th_recv hK hP (wt_X4_4 hWT ha0).1 he22 rfl, (th_pre (av := [.ref (gR G a0 4), .ref (gR G a0 2)]) trivial hK hP hok hnd hWT hE)⟩ rfl rfl hl.1 rfl (lv_room (Nat.le_of_ble_eq_true rfl)) dX4_findNumber_86 ⟨Nat.le_of_ble_eq_true rfl, Nat.le_of_ble_eq_true rfl⟩)) (fun r23 hr23 => ?_)
    refine lv_if_eq (tgt := 100) hx hb dX4_findNumber_89 (by decide) (fun c24 => ?_) (fun c24 => ?_)
    · obtain ⟨z25, ez25⟩ : ∃ z : Int32, z = w5_8 + 1 := ⟨_, rfl⟩
      refine lv_iinc (v := z25) (lv' := [(5, .int z25), (0, .ref a0), (1, .ref a1), (2, .int r5), (3, .int r6), (4, .int r7)]) hx hb dX4_findNumber_100 hl (k := 5) rfl (by rw [ez25]; rfl) (by decide) rfl (fun ls hl => ?_)
      have ic25 : z25.toInt = w5_8.toInt + 1 := by rw [ez25]; exact ic_up (by have := i_rng w5_8; have := i_rng r5; have := i_rng r12; have := i_rng r19; have := i_rng r23; simp only [i_lt, i_le, i_eq, ti_m9, ti_m1, ti_0, ti_1, ti_2, ti_3, ti_4, ti_5, ti_6, ti_7, ti_9, ti_12, ti_20, ti_99, ti_700, ti_24, ti_156, ti_72, ti_8, ti_60, ti_543, ti_10, ti_33, ti_51, ti_178, ti_119, ti_111, ti_114, ti_100, ti_32, ti_62, ti_59, ti_48, ti_701, ti_97, ti_122, ti_57, ti_73, ti_128] at hlo8 c9 hra12 hrb12 hra19 hrb19 c24 ⊢; omega)
      refine lv_goto (tgt := 33) hx hb dX4_findNumber_103 (by decide) ?_
      exact ih8 _ f20 _ _ _ (by have := i_rng z25; first | omega | (simp only [i_lt, i_le, i_eq, ti_m9, ti_m1, ti_0, ti_1, ti_2, ti_3, ti_4, ti_5, ti_6, ti_7, ti_9, ti_12, ti_20, ti_99, ti_700, ti_24, ti_156, ti_72, ti_8, ti_60, ti_543, ti_10, ti_33, ti_51, ti_178, ti_119, ti_111, ti_114, ti_100, ti_32, ti_62, ti_59, ti_48, ti_701, ti_97, ti_122, ti_57, ti_73, ti_128, ic25] at hlo8 c9 hra12 hrb12 hra19 hrb19 c24 ic25 ⊢; omega)) ⟨hok, hP, hS, z25, rfl, (by first | omega | (simp only [i_lt, i_le, i_eq, ti_m9, ti_m1, ti_0, ti_1, ti_2, ti_3, ti_4, ti_5, ti_6, ti_7, ti_9, ti_12, ti_20, ti_99, ti_700, ti_24, ti_156, ti_72, ti_8, ti_60, ti_543, ti_10, ti_33, ti_51, ti_178, ti_119, ti_111, ti_114, ti_100, ti_32, ti_62, ti_59, ti_48, ti_701, ti_97, ti_122, ti_57, ti_73, ti_128, ic25] at hlo8 c9 hra12 hrb12 hra19 hrb19 c24 ⊢; omega)), lv_sub hl [1, 2, 3, 4, 5, 0] rfl⟩
    · refine lv_aload_n hx hb dX4_findNumber_92 rfl (lv_at hl 0 rfl) ?_
      refine lv_iload hx hb dX4_findNumber_93 (lv_at hl 5 rfl) ?_
      refine th_put (v := .int w5_8) (ty := .int) hx hb (ly_X4 hE) tyX4 tyX4_ok nmX4 hown hK hP hnd hAL hS ha0.1 he21 rfl 7 (by decide) (wd_312 hE) (fun _ h9 => h9) rfl (by decide +kernel) rfl rfl (Nat.le_of_ble_eq_true rfl) (up_X4 hok ha0 ⟨y6_21, w5_8, rfl⟩) dX4_findNumber_95 (fun f26 H locs hfa26 hfo26 hok hP hS => ?_)
      have he27 := (hfo26 (gR G a0 4) (Ty.ne (wt_X4_4 hWT ha0) ha0 (by decide))).trans he22
      refine lv_iconst (v := 1) hx hb dX4_findNumber_98 (by decide) ?_
      exact W.zret (v := 1) hx hb hr rfl (fun t ht hW => ⟨⟨1, f26, rfl, Or.inr rfl, hok, by rw [ht]; exact hP⟩, hS.F ht⟩) hS.2.2 dX4_findNumber_99

set_option maxHeartbeats 4000000 in
set_option maxRecDepth 100000 in
theorem t_X4_reachesSteps (l : Launch) (dC : Nat → ClassId) (dI : Nat → Nat → Nat) (sz : Nat) (G : GT) (cs : Nat → ClassId) (tt mm : Nat) (a0 : Nat) (ha0 : Ty G a0 4) (a1 : Nat) (ha1 : Ty G a1 7) : Met l yX4_reachesSteps [.code yX4_reachesSteps cX4_reachesSteps 3 (some .boolean)] ({ frames := 3, cells := 0, slots := 0, locals := 120 }) (PT [.ref a0, .ref a1] sz dC dI G cs tt mm (fun _ => True)) (va_Qi (fun (r : Int32) (u : Nat → va_E) => r = 0 ∨ r = 1) (BT dC dI G cs tt mm) (AT G sz)) 0 0 (AT G sz) := by
  refine Met.ofW (cc := cX4_reachesSteps) (maxL := 3) (ret := (some .boolean)) (by decide) rfl ?_
  intro p e s m args below meth c s₁ B hml hv
  obtain ⟨rfl, hsz, ⟨f0, hok, hP, hX⟩, hK, hnd, hWT, hE⟩ := hv
  have hx := B.exec
  have hb := B.bytes
  have hr := B.returns
  have hown : s.vm.findClass RX4 = some m.cls := findClass_of_methodNamed B.named
  have hlocks := B.notSynchronized
  subst hsz
  have hAL : ∀ a, a ∈ gL G → AT G s.heap.size a := fun a h => Or.inl h
  have hA : ∀ q : Nat, s.heap.size ≤ q → AT G s.heap.size q := fun q h => Or.inr h
  have hS : va_S (AT G s.heap.size) s.heap s.heap [] := va_S.rf
  have hl := lv_entry ([.ref a0, .ref a1]) (n := 3) (Nat.le_of_ble_eq_true rfl)
  rw [lg_entry_eq]
  generalize (lg_sl ([.ref a0, .ref a1]) ++ List.replicate (3 - (lg_sl ([.ref a0, .ref a1])).length) Slot.unset).toArray = ls at hl ⊢
  have hl : lv_has ls 3 [(0, .ref a0), (1, .ref a1)] := hl
  refine lv_aload_n hx hb dX4_reachesSteps_0 rfl (lv_at hl 0 rfl) ?_
  obtain ⟨y6_1, y7_1, he1⟩ := ok_X4 hok ha0
  refine th_get hx hb (ly_X4 hE) hown hK hP ha0.1 he1 rfl 4 (by decide) (wd_309 hE) (fun _ h9 => h9) rfl dX4_reachesSteps_1 ?_
  refine lv_aload_n hx hb dX4_reachesSteps_4 rfl (lv_at hl 1 rfl) ?_
  refine lv_aload_n hx hb dX4_reachesSteps_5 rfl (lv_at hl 0 rfl) ?_
  refine th_get hx hb (ly_X4 hE) hown hK hP ha0.1 he1 rfl 1 (by decide) (wd_306 hE) (fun _ h9 => h9) rfl dX4_reachesSteps_6 ?_
  obtain ⟨y4_2, hy4_2, he2⟩ := ok_X0 hok (wt_X4_4 hWT ha0)
  refine tc_v hAL hS hA (va_runV (As := [.ref a1, .ref (gR G a0 1)]) (rest := []) ⟨hx, hb, hml, hown, noTs⟩ (t_X0_aim l dC dI s.heap.size G cs tt mm (gR G a0 4) ((wt_X4_4 hWT ha0)) a1 ha1 (gR G a0 1) ((wt_X4_1 hWT ha0))) ⟨cbE 2 (wd_1145 hE) (wd_123 hE) (wd_1142 hE) rfl rfl (by decide +kernel) ⟨Nat.le_of_ble_eq_true rfl, Nat.le_of_ble_eq_true rfl⟩, (wd_1143 hE), (wd_1144 hE)⟩ ⟨PT.blind, th_recv hK hP (wt_X4_4 hWT ha0).1 he2 rfl, (th_pre (av := [.ref (gR G a0 4), .ref a1, .ref (gR G a0 1)]) trivial hK hP hok hnd hWT hE)⟩ rfl rfl hl.1 rfl (lv_room (Nat.le_of_ble_eq_true rfl)) dX4_reachesSteps_9 ⟨Nat.le_of_ble_eq_true rfl, Nat.le_of_ble_eq_true rfl⟩) (fun f3 H locs hr3 hok hP hS => ?_)
  refine lv_iconst (v := 0) hx hb dX4_reachesSteps_12 (by decide) ?_
  refine lv_istore_n (lv' := [(2, .int 0), (0, .ref a0), (1, .ref a1)]) hx hb dX4_reachesSteps_13 rfl hl (by decide) rfl (fun ls hl => ?_)
  refine w_ind (I := fun n f H locs ls => OKT G cs tt mm f ∧ va_P (dC, dI) vwCl (va_pl (gL G) f) H ∧ va_S (AT G s.heap.size) s.heap H locs ∧ ∃ (w2_4 : Int32), n = (2147483647 - w2_4.toInt).toNat ∧ 0 ≤ w2_4 ∧ lv_has ls 3 [(0, .ref a0), (1, .ref a1), (2, .int w2_4)]) (fun n f4 H locs ls hI ih4 => ?_) _ f3 _ _ _ ⟨hok, hP, hS, 0, rfl, (by first | omega | (simp only [i_lt, i_le, i_eq, ti_m9, ti_m1, ti_0, ti_1, ti_2, ti_3, ti_4, ti_5, ti_6, ti_7, ti_9, ti_12, ti_20, ti_99, ti_700, ti_24, ti_156, ti_72, ti_8, ti_60, ti_543, ti_10, ti_33, ti_51, ti_178, ti_119, ti_111, ti_114, ti_100, ti_32, ti_62, ti_59, ti_48, ti_701, ti_97, ti_122, ti_57, ti_73, ti_128]; omega)), lv_sub hl [1, 2, 0] rfl⟩
  obtain ⟨hok, hP, hS, w2_4, hmu4, hlo4, hl⟩ := hI
  subst hmu4
  refine lv_iload_n hx hb dX4_reachesSteps_14 rfl (lv_at hl 2 rfl) ?_
  refine lv_aload_n hx hb dX4_reachesSteps_15 rfl (lv_at hl 0 rfl) ?_
  obtain ⟨y6_5, y7_5, he5⟩ := ok_X4 hok ha0
  refine th_get hx hb (ly_X4 hE) hown hK hP ha0.1 he5 rfl 0 (by decide) (wd_305 hE) (fun _ h9 => h9) rfl dX4_reachesSteps_16 ?_
  obtain ⟨y2_6, y3_6, hy3_6, he6⟩ := ok_X10 hok (wt_X4_0 hWT ha0)
  refine vp_callSi (va_Run.run (va_runV (As := []) (rest := [.int w2_4]) ⟨hx, hb, hml, hown, noTs⟩ (t_X10_size l dC dI H.size G cs tt mm (gR G a0 0) ((wt_X4_0 hWT ha0)) y2_6 y3_6) ⟨cbE 0 (wd_666 hE) (wd_120 hE) (wd_1107 hE) rfl rfl (by decide +kernel) ⟨Nat.le_of_ble_eq_true rfl, Nat.le_of_ble_eq_true rfl⟩, (wd_664 hE), (wd_665 hE)⟩ ⟨PT.blind, th_recv hK hP (wt_X4_0 hWT ha0).1 he6 rfl, (th_pre (av := [.ref (gR G a0 0)]) he6 hK hP hok hnd hWT hE)⟩ rfl rfl hl.1 rfl (lv_room (Nat.le_of_ble_eq_true rfl)) dX4_reachesSteps_19 ⟨Nat.le_of_ble_eq_true rfl, Nat.le_of_ble_eq_true rfl⟩)) (fun r7 hr7 => ?_)
  subst hr7
  have nt8 : (nI y3_6).toInt = ((y3_6 : Nat) : Int) := nI_toInt (by omega)
  refine lv_icmp_ge (tgt := 73) hx hb dX4_reachesSteps_22 (by decide) (fun c9 => ?_) (fun c9 => ?_)
  · refine lv_iconst (v := 0) hx hb dX4_reachesSteps_73 (by decide) ?_
    exact W.zret (v := 0) hx hb hr rfl (fun t ht hW => ⟨⟨0, f4, rfl, Or.inl rfl, hok, by rw [ht]; exact hP⟩, hS.F ht⟩) hS.2.2 dX4_reachesSteps_74
  · refine lv_aload_n hx hb dX4_reachesSteps_25 rfl (lv_at hl 1 rfl) ?_
    refine lv_aload_n hx hb dX4_reachesSteps_26 rfl (lv_at hl 0 rfl) ?_
    refine th_get hx hb (ly_X4 hE) hown hK hP ha0.1 he5 rfl 0 (by decide) (wd_305 hE) (fun _ h9 => h9) rfl dX4_reachesSteps_27 ?_
    refine lv_iload_n hx hb dX4_reachesSteps_30 rfl (lv_at hl 2 rfl) ?_
    refine lv_aload_n hx hb dX4_reachesSteps_31 rfl (lv_at hl 0 rfl) ?_
    refine th_get hx hb (ly_X4 hE) hown hK hP ha0.1 he5 rfl 2 (by decide) (wd_307 hE) (fun _ h9 => h9) rfl dX4_reachesSteps_32 ?_
    refine tc_v hAL hS hA (va_runS (As := [.ref a1, .ref (gR G a0 0), .int w2_4, .ref (gR G a0 2)]) (rest := []) ⟨hx, hb, hml, hown, noTs⟩ (t_X2_beginBehind l dC dI H.size G cs tt mm a1 ha1 (gR G a0 0) ((wt_X4_0 hWT ha0)) w2_4 (gR G a0 2) ((wt_X4_2 hWT ha0))) ⟨cbE 4 (wd_1154 hE) (wd_134 hE) (wd_1152 hE) rfl rfl (by decide +kernel) ⟨Nat.le_of_ble_eq_true rfl, Nat.le_of_ble_eq_true rfl⟩, (wd_1153 hE)⟩ ⟨PT.blind, (th_pre (av := [.ref a1, .ref (gR G a0 0), .int w2_4, .ref (gR G a0 2)]) trivial hK hP hok hnd hWT hE)⟩ rfl rfl hl.1 rfl (lv_room (Nat.le_of_ble_eq_true rfl)) dX4_reachesSteps_35 ⟨Nat.le_of_ble_eq_true rfl, Nat.le_of_ble_eq_true rfl⟩) (fun f10 H locs hr10 hok hP hS => ?_)
    refine lv_aload_n hx hb dX4_reachesSteps_38 rfl (lv_at hl 0 rfl) ?_
    obtain ⟨y6_11, y7_11, he11⟩ := ok_X4 hok ha0
    refine th_get hx hb (ly_X4 hE) hown hK hP ha0.1 he11 rfl 2 (by decide) (wd_307 hE) (fun _ h9 => h9) rfl dX4_reachesSteps_39 ?_
    refine lv_aload_n hx hb dX4_reachesSteps_42 rfl (lv_at hl 0 rfl) ?_
    refine th_get hx hb (ly_X4 hE) hown hK hP ha0.1 he11 rfl 1 (by decide) (wd_306 hE) (fun _ h9 => h9) rfl dX4_reachesSteps_43 ?_
    obtain ⟨y2_12, y3_12, hy3_12, he12⟩ := ok_X10 hok (wt_X4_2 hWT ha0)
    refine vp_callSi (va_Run.run (va_runV (As := [.ref (gR G a0 1)]) (rest := []) ⟨hx, hb, hml, hown, noTs⟩ (t_X10_sameSteps l dC dI H.size G cs tt mm (gR G a0 2) ((wt_X4_2 hWT ha0)) (gR G a0 1) ((wt_X4_1 hWT ha0))) ⟨cbE 1 (wd_881 hE) (wd_120 hE) (wd_1155 hE) rfl rfl (by decide +kernel) ⟨Nat.le_of_ble_eq_true rfl, Nat.le_of_ble_eq_true rfl⟩, (wd_879 hE), (wd_880 hE)⟩ ⟨PT.blind, th_recv hK hP (wt_X4_2 hWT ha0).1 he12 rfl, (th_pre (av := [.ref (gR G a0 2), .ref (gR G a0 1)]) trivial hK hP hok hnd hWT hE)⟩ rfl rfl hl.1 rfl (lv_room (Nat.le_of_ble_eq_true rfl)) dX4_reachesSteps_46 ⟨Nat.le_of_ble_eq_true rfl, Nat.le_of_ble_eq_true rfl⟩)) (fun r13 hr13 => ?_)
    refine lv_if_eq (tgt := 67) hx hb dX4_reachesSteps_49 (by decide) (fun c14 => ?_) (fun c14 => ?_)
    · obtain ⟨z15, ez15⟩ : ∃ z : Int32, z = w2_4 + 1 := ⟨_, rfl⟩
      refine lv_iinc (v := z15) (lv' := [(2, .int z15), (0, .ref a0), (1, .ref a1)]) hx hb dX4_reachesSteps_67 hl (k := 2) rfl (by rw [ez15]; rfl) (by decide) rfl (fun ls hl => ?_)
      have ic15 : z15.toInt = w2_4.toInt + 1 := by rw [ez15]; exact ic_up (by have := i_rng w2_4; have := i_rng (nI y3_6); have := i_rng r13; simp only [i_lt, i_le, i_eq, ti_m9, ti_m1, ti_0, ti_1, ti_2, ti_3, ti_4, ti_5, ti_6, ti_7, ti_9, ti_12, ti_20, ti_99, ti_700, ti_24, ti_156, ti_72, ti_8, ti_60, ti_543, ti_10, ti_33, ti_51, ti_178, ti_119, ti_111, ti_114, ti_100, ti_32, ti_62, ti_59, ti_48, ti_701, ti_97, ti_122, ti_57, ti_73, ti_128, nt8] at hlo4 c9 c14 ⊢; omega)
      refine lv_goto (tgt := 14) hx hb dX4_reachesSteps_70 (by decide) ?_
      exact ih4 _ f10 _ _ _ (by have := i_rng z15; first | omega | (simp only [i_lt, i_le, i_eq, ti_m9, ti_m1, ti_0, ti_1, ti_2, ti_3, ti_4, ti_5, ti_6, ti_7, ti_9, ti_12, ti_20, ti_99, ti_700, ti_24, ti_156, ti_72, ti_8, ti_60, ti_543, ti_10, ti_33, ti_51, ti_178, ti_119, ti_111, ti_114, ti_100, ti_32, ti_62, ti_59, ti_48, ti_701, ti_97, ti_122, ti_57, ti_73, ti_128, nt8, ic15] at hlo4 c9 c14 ic15 ⊢; omega)) ⟨hok, hP, hS, z15, rfl, (by first | omega | (simp only [i_lt, i_le, i_eq, ti_m9, ti_m1, ti_0, ti_1, ti_2, ti_3, ti_4, ti_5, ti_6, ti_7, ti_9, ti_12, ti_20, ti_99, ti_700, ti_24, ti_156, ti_72, ti_8, ti_60, ti_543, ti_10, ti_33, ti_51, ti_178, ti_119, ti_111, ti_114, ti_100, ti_32, ti_62, ti_59, ti_48, ti_701, ti_97, ti_122, ti_57, ti_73, ti_128, nt8, ic15] at hlo4 c9 c14 ⊢; omega)), lv_sub hl [1, 2, 0] rfl⟩
    · refine lv_aload_n hx hb dX4_reachesSteps_52 rfl (lv_at hl 0 rfl) ?_
      refine lv_aload_n hx hb dX4_reachesSteps_53 rfl (lv_at hl 1 rfl) ?_
      refine tc_i hAL hS hA (va_runV (As := [.ref a1]) (rest := []) ⟨hx, hb, hml, hown, noTs⟩ (t_X4_findNumber l dC dI H.size G cs tt mm a0 ha0 a1 ha1) ⟨cbE 1 (wd_1159 hE) (wd_122 hE) (wd_1156 hE) rfl rfl (by decide +kernel) ⟨Nat.le_of_ble_eq_true rfl, Nat.le_of_ble_eq_true rfl⟩, (wd_1158 hE), (wd_45 hE)⟩ ⟨PT.blind, th_recv hK hP ha0.1 he11 rfl, (th_pre (av := [.ref a0, .ref a1]) trivial hK hP hok hnd hWT hE)⟩ rfl rfl hl.1 rfl (lv_room (Nat.le_of_ble_eq_true rfl)) dX4_reachesSteps_54 ⟨Nat.le_of_ble_eq_true rfl, Nat.le_of_ble_eq_true rfl⟩) (fun r16 f16 H locs hr16 hok hP hS => ?_)
      refine lv_if_eq (tgt := 67) hx hb dX4_reachesSteps_57 (by decide) (fun c17 => ?_) (fun c17 => ?_)
      · obtain ⟨z18, ez18⟩ : ∃ z : Int32, z = w2_4 + 1 := ⟨_, rfl⟩
        refine lv_iinc (v := z18) (lv' := [(2, .int z18), (0, .ref a0), (1, .ref a1)]) hx hb dX4_reachesSteps_67 hl (k := 2) rfl (by rw [ez18]; rfl) (by decide) rfl (fun ls hl => ?_)
        have ic18 : z18.toInt = w2_4.toInt + 1 := by rw [ez18]; exact ic_up (by have := i_rng w2_4; have := i_rng (nI y3_6); have := i_rng r13; have := i_rng r16; simp only [i_lt, i_le, i_eq, ti_m9, ti_m1, ti_0, ti_1, ti_2, ti_3, ti_4, ti_5, ti_6, ti_7, ti_9, ti_12, ti_20, ti_99, ti_700, ti_24, ti_156, ti_72, ti_8, ti_60, ti_543, ti_10, ti_33, ti_51, ti_178, ti_119, ti_111, ti_114, ti_100, ti_32, ti_62, ti_59, ti_48, ti_701, ti_97, ti_122, ti_57, ti_73, ti_128, nt8] at hlo4 c9 c14 c17 ⊢; omega)
        refine lv_goto (tgt := 14) hx hb dX4_reachesSteps_70 (by decide) ?_
        exact ih4 _ f16 _ _ _ (by have := i_rng z18; first | omega | (simp only [i_lt, i_le, i_eq, ti_m9, ti_m1, ti_0, ti_1, ti_2, ti_3, ti_4, ti_5, ti_6, ti_7, ti_9, ti_12, ti_20, ti_99, ti_700, ti_24, ti_156, ti_72, ti_8, ti_60, ti_543, ti_10, ti_33, ti_51, ti_178, ti_119, ti_111, ti_114, ti_100, ti_32, ti_62, ti_59, ti_48, ti_701, ti_97, ti_122, ti_57, ti_73, ti_128, nt8, ic18] at hlo4 c9 c14 c17 ic18 ⊢; omega)) ⟨hok, hP, hS, z18, rfl, (by first | omega | (simp only [i_lt, i_le, i_eq, ti_m9, ti_m1, ti_0, ti_1, ti_2, ti_3, ti_4, ti_5, ti_6, ti_7, ti_9, ti_12, ti_20, ti_99, ti_700, ti_24, ti_156, ti_72, ti_8, ti_60, ti_543, ti_10, ti_33, ti_51, ti_178, ti_119, ti_111, ti_114, ti_100, ti_32, ti_62, ti_59, ti_48, ti_701, ti_97, ti_122, ti_57, ti_73, ti_128, nt8, ic18] at hlo4 c9 c14 c17 ⊢; omega)), lv_sub hl [1, 2, 0] rfl⟩
      · refine lv_aload_n hx hb dX4_reachesSteps_60 rfl (lv_at hl 0 rfl) ?_
        refine lv_iload_n hx hb dX4_reachesSteps_61 rfl (lv_at hl 2 rfl) ?_
        obtain ⟨y6_19, y7_19, he19⟩ := ok_X4 hok ha0
        refine th_put (v := .int w2_4) (ty := .int) hx hb (ly_X4 hE) tyX4 tyX4_ok nmX4 hown hK hP hnd hAL hS ha0.1 he19 rfl 6 (by decide) (wd_311 hE) (fun _ h9 => h9) rfl (by decide +kernel) rfl rfl (Nat.le_of_ble_eq_true rfl) (up_X4 hok ha0 ⟨w2_4, y7_19, rfl⟩) dX4_reachesSteps_62 (fun f20 H locs hfa20 hfo20 hok hP hS => ?_)
        refine lv_iconst (v := 1) hx hb dX4_reachesSteps_65 (by decide) ?_
        exact W.zret (v := 1) hx hb hr rfl (fun t ht hW => ⟨⟨1, f20, rfl, Or.inr rfl, hok, by rw [ht]; exact hP⟩, hS.F ht⟩) hS.2.2 dX4_reachesSteps_66

set_option maxHeartbeats 4000000 in
set_option maxRecDepth 100000 in
theorem t_X4_reaches (l : Launch) (dC : Nat → ClassId) (dI : Nat → Nat → Nat) (sz : Nat) (G : GT) (cs : Nat → ClassId) (tt mm : Nat) (a0 : Nat) (ha0 : Ty G a0 4) (a1 : Nat) (ha1 : Ty G a1 7) (a2 : Nat) (ha2 : Ty G a2 10) : Met l yX4_reaches [.code yX4_reaches cX4_reaches 3 (some .boolean)] ({ frames := 5, cells := 0, slots := 0, locals := 200 }) (PT [.ref a0, .ref a1, .ref a2] sz dC dI G cs tt mm (fun _ => True)) (va_Qi (fun (r : Int32) (u : Nat → va_E) => r = 0 ∨ r = 1) (BT dC dI G cs tt mm) (AT G sz)) 0 0 (AT G sz) := by
  refine Met.ofW (cc := cX4_reaches) (maxL := 3) (ret := (some .boolean)) (by decide) rfl ?_
  intro p e s m args below meth c s₁ B hml hv
  obtain ⟨rfl, hsz, ⟨f0, hok, hP, hX⟩, hK, hnd, hWT, hE⟩ := hv
  have hx := B.exec
  have hb := B.bytes
  have hr := B.returns
  have hown : s.vm.findClass RX4 = some m.cls := findClass_of_methodNamed B.named
  have hlocks := B.notSynchronized
  subst hsz
  have hAL : ∀ a, a ∈ gL G → AT G s.heap.size a := fun a h => Or.inl h
  have hA : ∀ q : Nat, s.heap.size ≤ q → AT G s.heap.size q := fun q h => Or.inr h
  have hS : va_S (AT G s.heap.size) s.heap s.heap [] := va_S.rf
  have hl := lv_entry ([.ref a0, .ref a1, .ref a2]) (n := 3) (Nat.le_of_ble_eq_true rfl)
  rw [lg_entry_eq]
  generalize (lg_sl ([.ref a0, .ref a1, .ref a2]) ++ List.replicate (3 - (lg_sl ([.ref a0, .ref a1, .ref a2])).length) Slot.unset).toArray = ls at hl ⊢
  have hl : lv_has ls 3 [(0, .ref a0), (1, .ref a1), (2, .ref a2)] := hl
  refine lv_aload_n hx hb dX4_reaches_0 rfl (lv_at hl 1 rfl) ?_
  refine lv_aload_n hx hb dX4_reaches_1 rfl (lv_at hl 2 rfl) ?_
  refine lv_aload_n hx hb dX4_reaches_2 rfl (lv_at hl 0 rfl) ?_
  obtain ⟨y6_1, y7_1, he1⟩ := ok_X4 hok ha0
  refine th_get hx hb (ly_X4 hE) hown hK hP ha0.1 he1 rfl 1 (by decide) (wd_306 hE) (fun _ h9 => h9) rfl dX4_reaches_3 ?_
  refine lv_aload_n hx hb dX4_reaches_6 rfl (lv_at hl 0 rfl) ?_
  refine th_get hx hb (ly_X4 hE) hown hK hP ha0.1 he1 rfl 3 (by decide) (wd_308 hE) (fun _ h9 => h9) rfl dX4_reaches_7 ?_
  refine tc_v hAL hS hA (va_runS (As := [.ref a1, .ref a2, .ref (gR G a0 1), .ref (gR G a0 3)]) (rest := []) ⟨hx, hb, hml, hown, noTs⟩ (t_X2_shrink l dC dI s.heap.size G cs tt mm a1 ha1 a2 ha2 (gR G a0 1) ((wt_X4_1 hWT ha0)) (gR G a0 3) ((wt_X4_3 hWT ha0))) ⟨cbE 4 (wd_962 hE) (wd_134 hE) (wd_1106 hE) rfl rfl (by decide +kernel) ⟨Nat.le_of_ble_eq_true rfl, Nat.le_of_ble_eq_true rfl⟩, (wd_961 hE)⟩ ⟨PT.blind, (th_pre (av := [.ref a1, .ref a2, .ref (gR G a0 1), .ref (gR G a0 3)]) trivial hK hP hok hnd hWT hE)⟩ rfl rfl hl.1 rfl (lv_room (Nat.le_of_ble_eq_true rfl)) dX4_reaches_10 ⟨Nat.le_of_ble_eq_true rfl, Nat.le_of_ble_eq_true rfl⟩) (fun f2 H locs hr2 hok hP hS => ?_)
  refine lv_aload_n hx hb dX4_reaches_13 rfl (lv_at hl 0 rfl) ?_
  obtain ⟨y6_3, y7_3, he3⟩ := ok_X4 hok ha0
  refine th_get hx hb (ly_X4 hE) hown hK hP ha0.1 he3 rfl 1 (by decide) (wd_306 hE) (fun _ h9 => h9) rfl dX4_reaches_14 ?_
  obtain ⟨y2_4, y3_4, hy3_4, he4⟩ := ok_X10 hok (wt_X4_1 hWT ha0)
  refine vp_callSi (va_Run.run (va_runV (As := []) (rest := []) ⟨hx, hb, hml, hown, noTs⟩ (t_X10_size l dC dI H.size G cs tt mm (gR G a0 1) ((wt_X4_1 hWT ha0)) y2_4 y3_4) ⟨cbE 0 (wd_666 hE) (wd_120 hE) (wd_1107 hE) rfl rfl (by decide +kernel) ⟨Nat.le_of_ble_eq_true rfl, Nat.le_of_ble_eq_true rfl⟩, (wd_664 hE), (wd_665 hE)⟩ ⟨PT.blind, th_recv hK hP (wt_X4_1 hWT ha0).1 he4 rfl, (th_pre (av := [.ref (gR G a0 1)]) he4 hK hP hok hnd hWT hE)⟩ rfl rfl hl.1 rfl (lv_room (Nat.le_of_ble_eq_true rfl)) dX4_reaches_17 ⟨Nat.le_of_ble_eq_true rfl, Nat.le_of_ble_eq_true rfl⟩)) (fun r5 hr5 => ?_)
  subst hr5
  refine lv_aload_n hx hb dX4_reaches_20 rfl (lv_at hl 0 rfl) ?_
  refine th_get hx hb (ly_X4 hE) hown hK hP ha0.1 he3 rfl 0 (by decide) (wd_305 hE) (fun _ h9 => h9) rfl dX4_reaches_21 ?_
  obtain ⟨y2_6, y3_6, hy3_6, he6⟩ := ok_X10 hok (wt_X4_0 hWT ha0)
  refine vp_callSi (va_Run.run (va_runV (As := []) (rest := [.int (nI y3_4)]) ⟨hx, hb, hml, hown, noTs⟩ (t_X10_size l dC dI H.size G cs tt mm (gR G a0 0) ((wt_X4_0 hWT ha0)) y2_6 y3_6) ⟨cbE 0 (wd_666 hE) (wd_120 hE) (wd_1107 hE) rfl rfl (by decide +kernel) ⟨Nat.le_of_ble_eq_true rfl, Nat.le_of_ble_eq_true rfl⟩, (wd_664 hE), (wd_665 hE)⟩ ⟨PT.blind, th_recv hK hP (wt_X4_0 hWT ha0).1 he6 rfl, (th_pre (av := [.ref (gR G a0 0)]) he6 hK hP hok hnd hWT hE)⟩ rfl rfl hl.1 rfl (lv_room (Nat.le_of_ble_eq_true rfl)) dX4_reaches_24 ⟨Nat.le_of_ble_eq_true rfl, Nat.le_of_ble_eq_true rfl⟩)) (fun r7 hr7 => ?_)
  subst hr7
  have nt8 : (nI y3_4).toInt = ((y3_4 : Nat) : Int) := nI_toInt (by omega)
  have nt9 : (nI y3_6).toInt = ((y3_6 : Nat) : Int) := nI_toInt (by omega)
  refine lv_icmp_eq (tgt := 32) hx hb dX4_reaches_27 (by decide) (fun c10 => ?_) (fun c10 => ?_)
  · refine lv_aload_n hx hb dX4_reaches_32 rfl (lv_at hl 0 rfl) ?_
    refine th_get hx hb (ly_X4 hE) hown hK hP ha0.1 he3 rfl 0 (by decide) (wd_305 hE) (fun _ h9 => h9) rfl dX4_reaches_33 ?_
    refine vp_callSi (va_Run.run (va_runV (As := []) (rest := []) ⟨hx, hb, hml, hown, noTs⟩ (t_X10_size l dC dI H.size G cs tt mm (gR G a0 0) ((wt_X4_0 hWT ha0)) y2_6 y3_6) ⟨cbE 0 (wd_666 hE) (wd_120 hE) (wd_1107 hE) rfl rfl (by decide +kernel) ⟨Nat.le_of_ble_eq_true rfl, Nat.le_of_ble_eq_true rfl⟩, (wd_664 hE), (wd_665 hE)⟩ ⟨PT.blind, th_recv hK hP (wt_X4_0 hWT ha0).1 he6 rfl, (th_pre (av := [.ref (gR G a0 0)]) he6 hK hP hok hnd hWT hE)⟩ rfl rfl hl.1 rfl (lv_room (Nat.le_of_ble_eq_true rfl)) dX4_reaches_36 ⟨Nat.le_of_ble_eq_true rfl, Nat.le_of_ble_eq_true rfl⟩)) (fun r11 hr11 => ?_)
    subst hr11
    refine lv_if_ne (tgt := 50) hx hb dX4_reaches_39 (by decide) (fun c12 => ?_) (fun c12 => ?_)
    · refine lv_aload_n hx hb dX4_reaches_50 rfl (lv_at hl 0 rfl) ?_
      refine lv_aload_n hx hb dX4_reaches_51 rfl (lv_at hl 1 rfl) ?_
      refine tc_i hAL hS hA (va_runV (As := [.ref a1]) (rest := []) ⟨hx, hb, hml, hown, noTs⟩ (t_X4_reachesSteps l dC dI H.size G cs tt mm a0 ha0 a1 ha1) ⟨cbE 1 (wd_1141 hE) (wd_122 hE) (wd_1138 hE) rfl rfl (by decide +kernel) ⟨Nat.le_of_ble_eq_true rfl, Nat.le_of_ble_eq_true rfl⟩, (wd_1140 hE), (wd_44 hE)⟩ ⟨PT.blind, th_recv hK hP ha0.1 he3 rfl, (th_pre (av := [.ref a0, .ref a1]) trivial hK hP hok hnd hWT hE)⟩ rfl rfl hl.1 rfl (lv_room (Nat.le_of_ble_eq_true rfl)) dX4_reaches_52 ⟨Nat.le_of_ble_eq_true rfl, Nat.le_of_ble_eq_true rfl⟩) (fun r13 f13 H locs hr13 hok hP hS => ?_)
      exact W.zret (v := r13) hx hb hr (z_fit hr13) (fun t ht hW => ⟨⟨r13, f13, rfl, hr13, hok, by rw [ht]; exact hP⟩, hS.F ht⟩) hS.2.2 dX4_reaches_55
    · refine lv_aload_n hx hb dX4_reaches_42 rfl (lv_at hl 0 rfl) ?_
      refine lv_aload_n hx hb dX4_reaches_43 rfl (lv_at hl 1 rfl) ?_
      refine tc_i hAL hS hA (va_runV (As := [.ref a1]) (rest := []) ⟨hx, hb, hml, hown, noTs⟩ (t_X4_reachesNumber l dC dI H.size G cs tt mm a0 ha0 a1 ha1) ⟨cbE 1 (wd_1137 hE) (wd_122 hE) (wd_1134 hE) rfl rfl (by decide +kernel) ⟨Nat.le_of_ble_eq_true rfl, Nat.le_of_ble_eq_true rfl⟩, (wd_1136 hE), (wd_43 hE)⟩ ⟨PT.blind, th_recv hK hP ha0.1 he3 rfl, (th_pre (av := [.ref a0, .ref a1]) trivial hK hP hok hnd hWT hE)⟩ rfl rfl hl.1 rfl (lv_room (Nat.le_of_ble_eq_true rfl)) dX4_reaches_44 ⟨Nat.le_of_ble_eq_true rfl, Nat.le_of_ble_eq_true rfl⟩) (fun r14 f14 H locs hr14 hok hP hS => ?_)
      refine lv_goto (tgt := 55) hx hb dX4_reaches_47 (by decide) ?_
      exact W.zret (v := r14) hx hb hr (z_fit hr14) (fun t ht hW => ⟨⟨r14, f14, rfl, hr14, hok, by rw [ht]; exact hP⟩, hS.F ht⟩) hS.2.2 dX4_reaches_55
  · refine lv_iconst (v := 0) hx hb dX4_reaches_30 (by decide) ?_
    exact W.zret (v := 0) hx hb hr rfl (fun t ht hW => ⟨⟨0, f2, rfl, Or.inl rfl, hok, by rw [ht]; exact hP⟩, hS.F ht⟩) hS.2.2 dX4_reaches_31

