set_option maxHeartbeats 4000000 in
set_option maxRecDepth 100000 in
theorem t_X0_greatestRoot (l : Launch) (dC : Nat → ClassId) (dI : Nat → Nat → Nat) (sz : Nat) (G : GT) (cs : Nat → ClassId) (tt mm : Nat) (a0 : Nat) (ha0 : Ty G a0 1) (a1 : Nat) (ha1 : Ty G a1 7) (a2 : Nat) (ha2 : Ty G a2 10) : Met l yX0_greatestRoot [.code yX0_greatestRoot cX0_greatestRoot 5 (some .int)] ({ frames := 3, cells := 0, slots := 0, locals := 120 }) (PT [.ref a0, .ref a1, .ref a2] sz dC dI G cs tt mm (fun _ => True)) (va_Qi (fun (r : Int32) (u : Nat → va_E) => True) (BT dC dI G cs tt mm) (AT G sz)) 0 0 (AT G sz) := by
  refine Met.ofW (cc := cX0_greatestRoot) (maxL := 5) (ret := (some .int)) (by decide) rfl ?_
  intro p e s m args below meth c s₁ B hml hv
  obtain ⟨rfl, hsz, ⟨f0, hok, hP, hX⟩, hK, hnd, hWT, hE⟩ := hv
  have hx := B.exec
  have hb := B.bytes
  have hr := B.returns
  have hown : s.vm.findClass RX0 = some m.cls := findClass_of_methodNamed B.named
  have hlocks := B.notSynchronized
  subst hsz
  have hAL : ∀ a, a ∈ gL G → AT G s.heap.size a := fun a h => Or.inl h
  have hA : ∀ q : Nat, s.heap.size ≤ q → AT G s.heap.size q := fun q h => Or.inr h
  have hS : va_S (AT G s.heap.size) s.heap s.heap [] := va_S.rf
  have hl := lv_entry ([.ref a0, .ref a1, .ref a2]) (n := 5) (Nat.le_of_ble_eq_true rfl)
  rw [lg_entry_eq]
  generalize (lg_sl ([.ref a0, .ref a1, .ref a2]) ++ List.replicate (5 - (lg_sl ([.ref a0, .ref a1, .ref a2])).length) Slot.unset).toArray = ls at hl ⊢
  have hl : lv_has ls 5 [(0, .ref a0), (1, .ref a1), (2, .ref a2)] := hl
  refine lv_aload_n hx hb dX0_greatestRoot_0 rfl (lv_at hl 2 rfl) ?_
  obtain ⟨y2_1, y3_1, hy3_1, he1⟩ := ok_X10 hok ha2
  refine vp_callSi (va_Run.run (va_runV (As := []) (rest := []) ⟨hx, hb, hml, hown, noTs⟩ (t_X10_size l dC dI s.heap.size G cs tt mm a2 ha2 y2_1 y3_1) ⟨cbE 0 (wd_666 hE) (wd_120 hE) (wd_1146 hE) rfl rfl (by decide +kernel) ⟨Nat.le_of_ble_eq_true rfl, Nat.le_of_ble_eq_true rfl⟩, (wd_664 hE), (wd_665 hE)⟩ ⟨PT.blind, th_recv hK hP ha2.1 he1 rfl, (th_pre (av := [.ref a2]) he1 hK hP hok hnd hWT hE)⟩ rfl rfl hl.1 rfl (lv_room (Nat.le_of_ble_eq_true rfl)) dX0_greatestRoot_1 ⟨Nat.le_of_ble_eq_true rfl, Nat.le_of_ble_eq_true rfl⟩)) (fun r2 hr2 => ?_)
  subst hr2
  refine lv_istore_n (lv' := [(3, .int (nI y3_1)), (0, .ref a0), (1, .ref a1), (2, .ref a2)]) hx hb dX0_greatestRoot_4 rfl hl (by decide) rfl (fun ls hl => ?_)
  refine lv_aload_n hx hb dX0_greatestRoot_5 rfl (lv_at hl 1 rfl) ?_
  refine lv_aload_n hx hb dX0_greatestRoot_6 rfl (lv_at hl 2 rfl) ?_
  refine lv_aload_n hx hb dX0_greatestRoot_7 rfl (lv_at hl 3 rfl) ?_
  obtain ⟨y4_3, hy4_3, he3⟩ := ok_X0 hok ha0
  refine tc_v hAL hS hA (va_runV (As := [.ref a1, .ref a2]) (rest := []) ⟨hx, hb, hml, hown, noTs⟩ (t_X0_aim l dC dI s.heap.size G cs tt mm a0 ha0 a1 ha1 a2 ha2) ⟨cbE 2 (wd_1145 hE) (wd_123 hE) (wd_1220 hE) rfl rfl (by decide +kernel) ⟨Nat.le_of_ble_eq_true rfl, Nat.le_of_ble_eq_true rfl⟩, (wd_1143 hE), (wd_1144 hE)⟩ ⟨PT.blind, th_recv hK hP ha0.1 he3 rfl, (th_pre (av := [.ref a0, .ref a1, .ref a2]) trivial hK hP hok hnd hWT hE)⟩ rfl rfl hl.1 rfl (lv_room (Nat.le_of_ble_eq_true rfl)) dX0_greatestRoot_8 ⟨Nat.le_of_ble_eq_true rfl, Nat.le_of_ble_eq_true rfl⟩) (fun f4 H locs hr4 hok hP hS => ?_)
  refine lv_iload_n hx hb dX0_greatestRoot_11 rfl (lv_at hl 0 rfl) ?_
  refine lv_istore (lv' := [(4, .int (nI y3_1)), (3, .int (nI y3_1)), (0, .ref a0), (1, .ref a1), (2, .ref a2)]) hx hb dX0_greatestRoot_12 hl (by decide) rfl (fun ls hl => ?_)
  have nt6 : (nI y3_1).toInt = ((y3_1 : Nat) : Int) := nI_toInt (by omega)
  refine w_ind (I := fun n f H locs ls => OKT G cs tt mm f ∧ va_P (dC, dI) vwCl (va_pl (gL G) f) H ∧ va_S (AT G s.heap.size) s.heap H locs ∧ ∃ (w4_5 : Int32), n = (w4_5.toInt + 2147483648).toNat ∧ w4_5 ≤ 72 ∧ lv_has ls 5 [(0, .ref a0), (1, .ref a1), (2, .ref a2), (3, .int (nI y3_1)), (4, .int w4_5)]) (fun n f5 H locs ls hI ih5 => ?_) _ f4 _ _ _ ⟨hok, hP, hS, nI y3_1, rfl, (by first | omega | (simp only [i_lt, i_le, i_eq, ti_m9, ti_m1, ti_0, ti_1, ti_2, ti_3, ti_4, ti_5, ti_6, ti_7, ti_9, ti_12, ti_20, ti_99, ti_700, ti_24, ti_156, ti_72, ti_8, ti_60, ti_543, ti_10, ti_33, ti_51, ti_178, ti_119, ti_111, ti_114, ti_100, ti_32, ti_62, ti_59, ti_48, ti_701, ti_97, ti_122, ti_57, ti_73, ti_128, nt6]; omega)), lv_sub hl [2, 3, 4, 1, 0] rfl⟩
  obtain ⟨hok, hP, hS, w4_5, hmu5, hlo5, hl⟩ := hI
  subst hmu5
  refine lv_iload hx hb dX0_greatestRoot_14 (lv_at hl 4 rfl) ?_
  refine lv_iconst (v := 1) hx hb dX0_greatestRoot_16 (by decide) ?_
  refine lv_icmp_le (tgt := 53) hx hb dX0_greatestRoot_17 (by decide) (fun c7 => ?_) (fun c7 => ?_)
  · refine lv_iconst (v := 1) hx hb dX0_greatestRoot_53 (by decide) ?_
    exact W.iret (v := 1) hx hb hr (fun t ht hW => ⟨⟨1, f5, rfl, trivial, hok, by rw [ht]; exact hP⟩, hS.F ht⟩) hS.2.2 dX0_greatestRoot_54
  · refine lv_iload_n hx hb dX0_greatestRoot_20 rfl (lv_at hl 3 rfl) ?_
    refine lv_iload hx hb dX0_greatestRoot_21 (lv_at hl 4 rfl) ?_
    refine vp_callSi (va_Run.run (va_runSN (As := [.int (nI y3_1), .int w4_5]) (rest := []) ⟨hx, hb, hml, hown, noTs⟩ (t_X11_rest l dC dI H.size G cs tt mm (nI y3_1) w4_5) ⟨cnE 2 (wd_617 hE) (wd_115 hE) (wd_1167 hE) rfl rfl (by decide +kernel) ⟨Nat.le_of_ble_eq_true rfl, Nat.le_of_ble_eq_true rfl⟩, (wd_616 hE), trivial⟩ ⟨PT.blind, (th_pre (av := [.int (nI y3_1), .int w4_5]) trivial hK hP hok hnd hWT hE)⟩ rfl rfl hl.1 rfl (lv_room (Nat.le_of_ble_eq_true rfl)) dX0_greatestRoot_23 ⟨Nat.le_of_ble_eq_true rfl, Nat.le_of_ble_eq_true rfl⟩)) (fun r8 hr8 => ?_)
    obtain ⟨hra8, hrb8⟩ := hr8
    refine lv_if_ne (tgt := 47) hx hb dX0_greatestRoot_26 (by decide) (fun c9 => ?_) (fun c9 => ?_)
    · obtain ⟨z10, ez10⟩ : ∃ z : Int32, z = w4_5 + (-1) := ⟨_, rfl⟩
      refine lv_iinc (v := z10) (lv' := [(4, .int z10), (0, .ref a0), (1, .ref a1), (2, .ref a2), (3, .int (nI y3_1))]) hx hb dX0_greatestRoot_47 hl (k := 4) rfl (by rw [ez10]; rfl) (by decide) rfl (fun ls hl => ?_)
      have ic10 : z10.toInt = w4_5.toInt - 1 := by rw [ez10]; exact ic_dn (by have := i_rng w4_5; have := i_rng r8; simp only [i_lt, i_le, i_eq, ti_m9, ti_m1, ti_0, ti_1, ti_2, ti_3, ti_4, ti_5, ti_6, ti_7, ti_9, ti_12, ti_20, ti_99, ti_700, ti_24, ti_156, ti_72, ti_8, ti_60, ti_543, ti_10, ti_33, ti_51, ti_178, ti_119, ti_111, ti_114, ti_100, ti_32, ti_62, ti_59, ti_48, ti_701, ti_97, ti_122, ti_57, ti_73, ti_128, nt6] at hlo5 c7 hra8 hrb8 c9 ⊢; omega)
      refine lv_goto (tgt := 14) hx hb dX0_greatestRoot_50 (by decide) ?_
      exact ih5 _ f5 _ _ _ (by have := i_rng z10; first | omega | (simp only [i_lt, i_le, i_eq, ti_m9, ti_m1, ti_0, ti_1, ti_2, ti_3, ti_4, ti_5, ti_6, ti_7, ti_9, ti_12, ti_20, ti_99, ti_700, ti_24, ti_156, ti_72, ti_8, ti_60, ti_543, ti_10, ti_33, ti_51, ti_178, ti_119, ti_111, ti_114, ti_100, ti_32, ti_62, ti_59, ti_48, ti_701, ti_97, ti_122, ti_57, ti_73, ti_128, nt6, ic10] at hlo5 c7 hra8 hrb8 c9 ic10 ⊢; omega)) ⟨hok, hP, hS, z10, rfl, (by first | omega | (simp only [i_lt, i_le, i_eq, ti_m9, ti_m1, ti_0, ti_1, ti_2, ti_3, ti_4, ti_5, ti_6, ti_7, ti_9, ti_12, ti_20, ti_99, ti_700, ti_24, ti_156, ti_72, ti_8, ti_60, ti_543, ti_10, ti_33, ti_51, ti_178, ti_119, ti_111, ti_114, ti_100, ti_32, ti_62, ti_59, ti_48, ti_701, ti_97, ti_122, ti_57, ti_73, ti_128, nt6, ic10] at hlo5 c7 hra8 hrb8 c9 ⊢; omega)), lv_sub hl [1, 2, 3, 4, 0] rfl⟩
    · refine lv_aload_n hx hb dX0_greatestRoot_29 rfl (lv_at hl 0 rfl) ?_
      refine lv_aload_n hx hb dX0_greatestRoot_30 rfl (lv_at hl 1 rfl) ?_
      refine lv_aload_n hx hb dX0_greatestRoot_31 rfl (lv_at hl 2 rfl) ?_
      refine lv_iload_n hx hb dX0_greatestRoot_32 rfl (lv_at hl 3 rfl) ?_
      refine lv_iload hx hb dX0_greatestRoot_33 (lv_at hl 4 rfl) ?_
      refine vp_callSi (va_Run.run (va_runSN (As := [.int (nI y3_1), .int w4_5]) (rest := [.ref a2, .ref a1, .ref a0]) ⟨hx, hb, hml, hown, noTs⟩ (t_X11_share l dC dI H.size G cs tt mm (nI y3_1) w4_5) ⟨cnE 2 (wd_620 hE) (wd_115 hE) (wd_1168 hE) rfl rfl (by decide +kernel) ⟨Nat.le_of_ble_eq_true rfl, Nat.le_of_ble_eq_true rfl⟩, (wd_619 hE), trivial⟩ ⟨PT.blind, (th_pre (av := [.int (nI y3_1), .int w4_5]) trivial hK hP hok hnd hWT hE)⟩ rfl rfl hl.1 rfl (lv_room (Nat.le_of_ble_eq_true rfl)) dX0_greatestRoot_35 ⟨Nat.le_of_ble_eq_true rfl, Nat.le_of_ble_eq_true rfl⟩)) (fun r11 hr11 => ?_)
      obtain ⟨y4_12, hy4_12, he12⟩ := ok_X0 hok ha0
      refine tc_i hAL hS hA (va_runV (As := [.ref a1, .ref a2, .int r11]) (rest := []) ⟨hx, hb, hml, hown, noTs⟩ (t_X0_isPower l dC dI H.size G cs tt mm a0 ha0 a1 ha1 a2 ha2 r11) ⟨cbE 3 (wd_1224 hE) (wd_123 hE) (wd_1221 hE) rfl rfl (by decide +kernel) ⟨Nat.le_of_ble_eq_true rfl, Nat.le_of_ble_eq_true rfl⟩, (wd_1223 hE), (wd_46 hE)⟩ ⟨PT.blind, th_recv hK hP ha0.1 he12 rfl, (th_pre (av := [.ref a0, .ref a1, .ref a2, .int r11]) trivial hK hP hok hnd hWT hE)⟩ rfl rfl hl.1 rfl (lv_room (Nat.le_of_ble_eq_true rfl)) dX0_greatestRoot_38 ⟨Nat.le_of_ble_eq_true rfl, Nat.le_of_ble_eq_true rfl⟩) (fun r13 f13 H locs hr13 hok hP hS => ?_)
      refine lv_if_eq (tgt := 47) hx hb dX0_greatestRoot_41 (by decide) (fun c14 => ?_) (fun c14 => ?_)
      · obtain ⟨z15, ez15⟩ : ∃ z : Int32, z = w4_5 + (-1) := ⟨_, rfl⟩
        refine lv_iinc (v := z15) (lv' := [(4, .int z15), (0, .ref a0), (1, .ref a1), (2, .ref a2), (3, .int (nI y3_1))]) hx hb dX0_greatestRoot_47 hl (k := 4) rfl (by rw [ez15]; rfl) (by decide) rfl (fun ls hl => ?_)
        have ic15 : z15.toInt = w4_5.toInt - 1 := by rw [ez15]; exact ic_dn (by have := i_rng w4_5; have := i_rng r8; have := i_rng r13; simp only [i_lt, i_le, i_eq, ti_m9, ti_m1, ti_0, ti_1, ti_2, ti_3, ti_4, ti_5, ti_6, ti_7, ti_9, ti_12, ti_20, ti_99, ti_700, ti_24, ti_156, ti_72, ti_8, ti_60, ti_543, ti_10, ti_33, ti_51, ti_178, ti_119, ti_111, ti_114, ti_100, ti_32, ti_62, ti_59, ti_48, ti_701, ti_97, ti_122, ti_57, ti_73, ti_128, nt6] at hlo5 c7 hra8 hrb8 c9 c14 ⊢; omega)
        refine lv_goto (tgt := 14) hx hb dX0_greatestRoot_50 (by decide) ?_
        exact ih5 _ f13 _ _ _ (by have := i_rng z15; first | omega | (simp only [i_lt, i_le, i_eq, ti_m9, ti_m1, ti_0, ti_1, ti_2, ti_3, ti_4, ti_5, ti_6, ti_7, ti_9, ti_12, ti_20, ti_99, ti_700, ti_24, ti_156, ti_72, ti_8, ti_60, ti_543, ti_10, ti_33, ti_51, ti_178, ti_119, ti_111, ti_114, ti_100, ti_32, ti_62, ti_59, ti_48, ti_701, ti_97, ti_122, ti_57, ti_73, ti_128, nt6, ic15] at hlo5 c7 hra8 hrb8 c9 c14 ic15 ⊢; omega)) ⟨hok, hP, hS, z15, rfl, (by first | omega | (simp only [i_lt, i_le, i_eq, ti_m9, ti_m1, ti_0, ti_1, ti_2, ti_3, ti_4, ti_5, ti_6, ti_7, ti_9, ti_12, ti_20, ti_99, ti_700, ti_24, ti_156, ti_72, ti_8, ti_60, ti_543, ti_10, ti_33, ti_51, ti_178, ti_119, ti_111, ti_114, ti_100, ti_32, ti_62, ti_59, ti_48, ti_701, ti_97, ti_122, ti_57, ti_73, ti_128, nt6, ic15] at hlo5 c7 hra8 hrb8 c9 c14 ⊢; omega)), lv_sub hl [1, 2, 3, 4, 0] rfl⟩
      · refine lv_iload hx hb dX0_greatestRoot_44 (lv_at hl 4 rfl) ?_
        exact W.iret (v := w4_5) hx hb hr (fun t ht hW => ⟨⟨w4_5, f13, rfl, trivial, hok, by rw [ht]; exact hP⟩, hS.F ht⟩) hS.2.2 dX0_greatestRoot_46

set_option maxHeartbeats 4000000 in
set_option maxRecDepth 100000 in
theorem t_X1_waysBehind (l : Launch) (dC : Nat → ClassId) (dI : Nat → Nat → Nat) (sz : Nat) (G : GT) (cs : Nat → ClassId) (tt mm : Nat) (a0 : Nat) (ha0 : Ty G a0 2) (v1 : Int32) (v2 : Int32) (hp0 : v1.toInt ≤ 12) : Met l yX1_waysBehind [.code yX1_waysBehind cX1_waysBehind 4 (some .long)] ({ frames := 0, cells := 0, slots := 0, locals := 0 }) (PT [.ref a0, .int v1, .int v2] sz dC dI G cs tt mm (fun _ => True)) (vp_Sl (fun (r : Int64) => True)) 0 0 (fun _ => False) := by
  refine Met.ofW (cc := cX1_waysBehind) (maxL := 4) (ret := (some .long)) (by decide) rfl ?_
  intro p e s m args below meth c s₁ B hml hv
  obtain ⟨rfl, hsz, ⟨f0, hok, hP, hX⟩, hK, hnd, hWT, hE⟩ := hv
  have hx := B.exec
  have hb := B.bytes
  have hr := B.returns
  have hown : s.vm.findClass RX1 = some m.cls := findClass_of_methodNamed B.named
  have hlocks := B.notSynchronized
  subst hsz
  have hl := lv_entry ([.ref a0, .int v1, .int v2]) (n := 4) (Nat.le_of_ble_eq_true rfl)
  rw [lg_entry_eq]
  generalize (lg_sl ([.ref a0, .int v1, .int v2]) ++ List.replicate (4 - (lg_sl ([.ref a0, .int v1, .int v2])).length) Slot.unset).toArray = ls at hl ⊢
  have hl : lv_has ls 4 [(0, .ref a0), (1, .int v1), (2, .int v2)] := hl
  refine lv_iload_n hx hb dX1_waysBehind_0 rfl (lv_at hl 1 rfl) ?_
  refine lv_bipush (v := 12) hx hb dX1_waysBehind_1 (by decide) ?_
  refine lv_imul hx hb dX1_waysBehind_3 ?_
  refine lv_topi (fun x1 ex1 => ?_)
  refine lv_iload_n hx hb dX1_waysBehind_4 rfl (lv_at hl 2 rfl) ?_
  refine lv_iadd hx hb dX1_waysBehind_5 ?_
  refine lv_topi (fun x2 ex2 => ?_)
  refine lv_istore_n (lv' := [(3, .int x2), (0, .ref a0), (1, .int v1), (2, .int v2)]) hx hb dX1_waysBehind_6 rfl hl (by decide) rfl (fun ls hl => ?_)
  refine lv_iload_n hx hb dX1_waysBehind_7 rfl (lv_at hl 2 rfl) ?_
  refine lv_if_lt (tgt := 30) hx hb dX1_waysBehind_8 (by decide) (fun c3 => ?_) (fun c3 => ?_)
  · refine lv_lconst (v := 0) hx hb dX1_waysBehind_30 (by decide) ?_
    refine lv_goto (tgt := 40) hx hb dX1_waysBehind_31 (by decide) ?_
    exact W.lret (v := 0) hx hb hr (fun t ht hW => ⟨0, rfl, trivial, ht⟩) (fun _ h => absurd h List.not_mem_nil) dX1_waysBehind_40
  · refine lv_iload_n hx hb dX1_waysBehind_11 rfl (lv_at hl 3 rfl) ?_
    refine lv_if_lt (tgt := 30) hx hb dX1_waysBehind_12 (by decide) (fun c4 => ?_) (fun c4 => ?_)
    · refine lv_lconst (v := 0) hx hb dX1_waysBehind_30 (by decide) ?_
      refine lv_goto (tgt := 40) hx hb dX1_waysBehind_31 (by decide) ?_
      exact W.lret (v := 0) hx hb hr (fun t ht hW => ⟨0, rfl, trivial, ht⟩) (fun _ h => absurd h List.not_mem_nil) dX1_waysBehind_40
    · refine lv_iload_n hx hb dX1_waysBehind_15 rfl (lv_at hl 3 rfl) ?_
      refine lv_bipush (v := 12) hx hb dX1_waysBehind_16 (by decide) ?_
      refine lv_icmp_ge (tgt := 30) hx hb dX1_waysBehind_18 (by decide) (fun c5 => ?_) (fun c5 => ?_)
      · refine lv_lconst (v := 0) hx hb dX1_waysBehind_30 (by decide) ?_
        refine lv_goto (tgt := 40) hx hb dX1_waysBehind_31 (by decide) ?_
        exact W.lret (v := 0) hx hb hr (fun t ht hW => ⟨0, rfl, trivial, ht⟩) (fun _ h => absurd h List.not_mem_nil) dX1_waysBehind_40
      · refine lv_iload_n hx hb dX1_waysBehind_21 rfl (lv_at hl 0 rfl) ?_
        refine lv_aload_n hx hb dX1_waysBehind_22 rfl (lv_at hl 1 rfl) ?_
        have he6 := ok_X1 hok ha0
        refine th_get hx hb (ly_X1 hE) hown hK hP ha0.1 he6 rfl 0 (by decide) (wd_354 hE) (fun _ h9 => h9) rfl dX1_waysBehind_23 ?_
        refine th_len1 hx hb hK hP hok (n := 156) (wl_X1_0 hWT ha0) (Or.inr (Or.inr (Or.inl (wt_X1_0 hWT ha0)))) dX1_waysBehind_26 ?_
        refine W.eq (g2 := F0 m 27 ls [.int 156, .int x2]) rfl ?_
        refine lv_icmp_lt (tgt := 34) hx hb dX1_waysBehind_27 (by decide) (fun c7 => ?_) (fun c7 => ?_)
        · refine lv_aload_n hx hb dX1_waysBehind_34 rfl (lv_at hl 1 rfl) ?_
          refine th_get hx hb (ly_X1 hE) hown hK hP ha0.1 he6 rfl 0 (by decide) (wd_354 hE) (fun _ h9 => h9) rfl dX1_waysBehind_35 ?_
          refine lv_iload_n hx hb dX1_waysBehind_38 rfl (lv_at hl 0 rfl) ?_
          refine th_lald hx hb hK hP hok (wt_X1_0 hWT ha0) (n := 156) (wl_X1_0 hWT ha0) (ix_lin ex1 ex2 (by first | omega | (simp only [i_lt, i_le, i_eq, ti_m9, ti_m1, ti_0, ti_1, ti_2, ti_3, ti_4, ti_5, ti_6, ti_7, ti_9, ti_12, ti_20, ti_99, ti_700, ti_24, ti_156, ti_72, ti_8, ti_60, ti_543, ti_10, ti_33, ti_51, ti_178, ti_119, ti_111, ti_114, ti_100, ti_32, ti_62, ti_59, ti_48, ti_701, ti_97, ti_122, ti_57, ti_73, ti_128] at hp0 c3 c4 c5 c7 ⊢; omega)) (by first | omega | (simp only [i_lt, i_le, i_eq, ti_m9, ti_m1, ti_0, ti_1, ti_2, ti_3, ti_4, ti_5, ti_6, ti_7, ti_9, ti_12, ti_20, ti_99, ti_700, ti_24, ti_156, ti_72, ti_8, ti_60, ti_543, ti_10, ti_33, ti_51, ti_178, ti_119, ti_111, ti_114, ti_100, ti_32, ti_62, ti_59, ti_48, ti_701, ti_97, ti_122, ti_57, ti_73, ti_128] at hp0 c3 c4 c5 c7 ⊢; omega)) (by first | omega | (simp only [i_lt, i_le, i_eq, ti_m9, ti_m1, ti_0, ti_1, ti_2, ti_3, ti_4, ti_5, ti_6, ti_7, ti_9, ti_12, ti_20, ti_99, ti_700, ti_24, ti_156, ti_72, ti_8, ti_60, ti_543, ti_10, ti_33, ti_51, ti_178, ti_119, ti_111, ti_114, ti_100, ti_32, ti_62, ti_59, ti_48, ti_701, ti_97, ti_122, ti_57, ti_73, ti_128] at hp0 c3 c4 c5 c7 ⊢; omega)) (by first | omega | (simp only [i_lt, i_le, i_eq, ti_m9, ti_m1, ti_0, ti_1, ti_2, ti_3, ti_4, ti_5, ti_6, ti_7, ti_9, ti_12, ti_20, ti_99, ti_700, ti_24, ti_156, ti_72, ti_8, ti_60, ti_543, ti_10, ti_33, ti_51, ti_178, ti_119, ti_111, ti_114, ti_100, ti_32, ti_62, ti_59, ti_48, ti_701, ti_97, ti_122, ti_57, ti_73, ti_128] at hp0 c3 c4 c5 c7 ⊢; omega))) dX1_waysBehind_39 (fun x8 => ?_)
          exact W.lret (v := x8) hx hb hr (fun t ht hW => ⟨x8, rfl, trivial, ht⟩) (fun _ h => absurd h List.not_mem_nil) dX1_waysBehind_40
        · refine lv_lconst (v := 0) hx hb dX1_waysBehind_30 (by decide) ?_
          refine lv_goto (tgt := 40) hx hb dX1_waysBehind_31 (by decide) ?_
          exact W.lret (v := 0) hx hb hr (fun t ht hW => ⟨0, rfl, trivial, ht⟩) (fun _ h => absurd h List.not_mem_nil) dX1_waysBehind_40

set_option maxHeartbeats 4000000 in
set_option maxRecDepth 100000 in
theorem t_X1_setWays (l : Launch) (dC : Nat → ClassId) (dI : Nat → Nat → Nat) (sz : Nat) (G : GT) (cs : Nat → ClassId) (tt mm : Nat) (a0 : Nat) (ha0 : Ty G a0 2) (v1 : Int32) (v2 : Int32) (v3 : Int64) (hp0 : v1.toInt ≤ 12) : Met l yX1_setWays [.code yX1_setWays cX1_setWays 6 none] ({ frames := 0, cells := 0, slots := 0, locals := 0 }) (PT [.ref a0, .int v1, .int v2, .long v3] sz dC dI G cs tt mm (fun _ => True)) (va_Qv (fun (u : Nat → va_E) => True) (BT dC dI G cs tt mm) (AT G sz)) 0 0 (AT G sz) := by
  refine Met.ofW (cc := cX1_setWays) (maxL := 6) (ret := none) (by decide) rfl ?_
  intro p e s m args below meth c s₁ B hml hv
  obtain ⟨rfl, hsz, ⟨f0, hok, hP, hX⟩, hK, hnd, hWT, hE⟩ := hv
  have hx := B.exec
  have hb := B.bytes
  have hr := B.returns
  have hown : s.vm.findClass RX1 = some m.cls := findClass_of_methodNamed B.named
  have hlocks := B.notSynchronized
  subst hsz
  have hAL : ∀ a, a ∈ gL G → AT G s.heap.size a := fun a h => Or.inl h
  have hA : ∀ q : Nat, s.heap.size ≤ q → AT G s.heap.size q := fun q h => Or.inr h
  have hS : va_S (AT G s.heap.size) s.heap s.heap [] := va_S.rf
  have hl := lv_entry ([.ref a0, .int v1, .int v2, .long v3]) (n := 6) (Nat.le_of_ble_eq_true rfl)
  rw [lg_entry_eq]
  generalize (lg_sl ([.ref a0, .int v1, .int v2, .long v3]) ++ List.replicate (6 - (lg_sl ([.ref a0, .int v1, .int v2, .long v3])).length) Slot.unset).toArray = ls at hl ⊢
  have hl : lv_has ls 6 [(0, .ref a0), (1, .int v1), (2, .int v2), (3, .long v3)] := hl
  refine lv_iload_n hx hb dX1_setWays_0 rfl (lv_at hl 1 rfl) ?_
  refine lv_bipush (v := 12) hx hb dX1_setWays_1 (by decide) ?_
  refine lv_imul hx hb dX1_setWays_3 ?_
  refine lv_topi (fun x1 ex1 => ?_)
  refine lv_iload_n hx hb dX1_setWays_4 rfl (lv_at hl 2 rfl) ?_
  refine lv_iadd hx hb dX1_setWays_5 ?_
  refine lv_topi (fun x2 ex2 => ?_)
  refine lv_istore (lv' := [(5, .int x2), (0, .ref a0), (1, .int v1), (2, .int v2), (3, .long v3)]) hx hb dX1_setWays_6 hl (by decide) rfl (fun ls hl => ?_)
  refine lv_iload_n hx hb dX1_setWays_8 rfl (lv_at hl 2 rfl) ?_
  refine lv_if_lt (tgt := 40) hx hb dX1_setWays_9 (by decide) (fun c3 => ?_) (fun c3 => ?_)
  · exact W.vret hx hb hr (fun t ht hW => ⟨⟨f0, rfl, trivial, hok, by rw [ht]; exact hP⟩, hS.F ht⟩) hS.2.2 dX1_setWays_40
  · refine lv_iload_n hx hb dX1_setWays_12 rfl (lv_at hl 3 rfl) ?_
    refine lv_if_lt (tgt := 40) hx hb dX1_setWays_13 (by decide) (fun c4 => ?_) (fun c4 => ?_)
    · exact W.vret hx hb hr (fun t ht hW => ⟨⟨f0, rfl, trivial, hok, by rw [ht]; exact hP⟩, hS.F ht⟩) hS.2.2 dX1_setWays_40
    · refine lv_iload_n hx hb dX1_setWays_16 rfl (lv_at hl 3 rfl) ?_
      refine lv_bipush (v := 12) hx hb dX1_setWays_17 (by decide) ?_
      refine lv_icmp_ge (tgt := 40) hx hb dX1_setWays_19 (by decide) (fun c5 => ?_) (fun c5 => ?_)
      · exact W.vret hx hb hr (fun t ht hW => ⟨⟨f0, rfl, trivial, hok, by rw [ht]; exact hP⟩, hS.F ht⟩) hS.2.2 dX1_setWays_40
      · refine lv_iload hx hb dX1_setWays_22 (lv_at hl 0 rfl) ?_
        refine lv_aload_n hx hb dX1_setWays_24 rfl (lv_at hl 1 rfl) ?_
        have he6 := ok_X1 hok ha0
        refine th_get hx hb (ly_X1 hE) hown hK hP ha0.1 he6 rfl 0 (by decide) (wd_354 hE) (fun _ h9 => h9) rfl dX1_setWays_25 ?_
        refine th_len1 hx hb hK hP hok (n := 156) (wl_X1_0 hWT ha0) (Or.inr (Or.inr (Or.inl (wt_X1_0 hWT ha0)))) dX1_setWays_28 ?_
        refine W.eq (g2 := F0 m 29 ls [.int 156, .int x2]) rfl ?_
        refine lv_icmp_ge (tgt := 40) hx hb dX1_setWays_29 (by decide) (fun c7 => ?_) (fun c7 => ?_)
        · exact W.vret hx hb hr (fun t ht hW => ⟨⟨f0, rfl, trivial, hok, by rw [ht]; exact hP⟩, hS.F ht⟩) hS.2.2 dX1_setWays_40
        · refine lv_aload_n hx hb dX1_setWays_32 rfl (lv_at hl 1 rfl) ?_
          refine th_get hx hb (ly_X1 hE) hown hK hP ha0.1 he6 rfl 0 (by decide) (wd_354 hE) (fun _ h9 => h9) rfl dX1_setWays_33 ?_
          refine lv_iload hx hb dX1_setWays_36 (lv_at hl 0 rfl) ?_
          refine lv_lload_n hx hb dX1_setWays_38 rfl (lv_at hl 4 rfl) ?_
          refine th_last hx hb hK hP hok hnd hAL hS (wt_X1_0 hWT ha0) (n := 156) (wl_X1_0 hWT ha0) (ix_lin ex1 ex2 (by first | omega | (simp only [i_lt, i_le, i_eq, ti_m9, ti_m1, ti_0, ti_1, ti_2, ti_3, ti_4, ti_5, ti_6, ti_7, ti_9, ti_12, ti_20, ti_99, ti_700, ti_24, ti_156, ti_72, ti_8, ti_60, ti_543, ti_10, ti_33, ti_51, ti_178, ti_119, ti_111, ti_114, ti_100, ti_32, ti_62, ti_59, ti_48, ti_701, ti_97, ti_122, ti_57, ti_73, ti_128] at hp0 c3 c4 c5 c7 ⊢; omega)) (by first | omega | (simp only [i_lt, i_le, i_eq, ti_m9, ti_m1, ti_0, ti_1, ti_2, ti_3, ti_4, ti_5, ti_6, ti_7, ti_9, ti_12, ti_20, ti_99, ti_700, ti_24, ti_156, ti_72, ti_8, ti_60, ti_543, ti_10, ti_33, ti_51, ti_178, ti_119, ti_111, ti_114, ti_100, ti_32, ti_62, ti_59, ti_48, ti_701, ti_97, ti_122, ti_57, ti_73, ti_128] at hp0 c3 c4 c5 c7 ⊢; omega)) (by first | omega | (simp only [i_lt, i_le, i_eq, ti_m9, ti_m1, ti_0, ti_1, ti_2, ti_3, ti_4, ti_5, ti_6, ti_7, ti_9, ti_12, ti_20, ti_99, ti_700, ti_24, ti_156, ti_72, ti_8, ti_60, ti_543, ti_10, ti_33, ti_51, ti_178, ti_119, ti_111, ti_114, ti_100, ti_32, ti_62, ti_59, ti_48, ti_701, ti_97, ti_122, ti_57, ti_73, ti_128] at hp0 c3 c4 c5 c7 ⊢; omega)) (by first | omega | (simp only [i_lt, i_le, i_eq, ti_m9, ti_m1, ti_0, ti_1, ti_2, ti_3, ti_4, ti_5, ti_6, ti_7, ti_9, ti_12, ti_20, ti_99, ti_700, ti_24, ti_156, ti_72, ti_8, ti_60, ti_543, ti_10, ti_33, ti_51, ti_178, ti_119, ti_111, ti_114, ti_100, ti_32, ti_62, ti_59, ti_48, ti_701, ti_97, ti_122, ti_57, ti_73, ti_128] at hp0 c3 c4 c5 c7 ⊢; omega))) dX1_setWays_39 (fun f8 H locs hfo8 hok hP hS => ?_)
          have he9 := (hfo8 a0 (Ty.ne ha0 (wt_X1_0 hWT ha0) (by decide))).trans he6
          exact W.vret hx hb hr (fun t ht hW => ⟨⟨f8, rfl, trivial, hok, by rw [ht]; exact hP⟩, hS.F ht⟩) hS.2.2 dX1_setWays_40

set_option maxHeartbeats 4000000 in
set_option maxRecDepth 100000 in
theorem t_X7_stepKinds (l : Launch) (dC : Nat → ClassId) (dI : Nat → Nat → Nat) (sz : Nat) (G : GT) (cs : Nat → ClassId) (tt mm : Nat) (a0 : Nat) (ha0 : Ty G a0 7) : Met l yX7_stepKinds [.code yX7_stepKinds cX7_stepKinds 1 (some .int)] ({ frames := 0, cells := 0, slots := 0, locals := 0 }) (PT [.ref a0] sz dC dI G cs tt mm (fun _ => True)) (vp_Si (fun (r : Int32) => True)) 0 0 (fun _ => False) := by
  refine Met.ofW (cc := cX7_stepKinds) (maxL := 1) (ret := (some .int)) (by decide) rfl ?_
  intro p e s m args below meth c s₁ B hml hv
  obtain ⟨rfl, hsz, ⟨f0, hok, hP, hX⟩, hK, hnd, hWT, hE⟩ := hv
  have hx := B.exec
  have hb := B.bytes
  have hr := B.returns
  have hown : s.vm.findClass RX7 = some m.cls := findClass_of_methodNamed B.named
  have hlocks := B.notSynchronized
  subst hsz
  have hl := lv_entry ([.ref a0]) (n := 1) (Nat.le_of_ble_eq_true rfl)
  rw [lg_entry_eq]
  generalize (lg_sl ([.ref a0]) ++ List.replicate (1 - (lg_sl ([.ref a0])).length) Slot.unset).toArray = ls at hl ⊢
  have hl : lv_has ls 1 [(0, .ref a0)] := hl
  refine lv_iconst (v := 2) hx hb dX7_stepKinds_0 (by decide) ?_
  refine lv_aload_n hx hb dX7_stepKinds_1 rfl (lv_at hl 0 rfl) ?_
  have he1 := ok_X7 hok ha0
  refine th_get hx hb (ly_X7 hE) hown hK hP ha0.1 he1 rfl 0 (by decide) (wd_149 hE) (fun _ h9 => h9) rfl dX7_stepKinds_2 ?_
  refine lv_iconst (v := 1) hx hb dX7_stepKinds_5 (by decide) ?_
  refine th_iald hx hb hK hP hok (wt_X7_0 hWT ha0) (n := 543) (wl_X7_0 hWT ha0) (by unfold vp_in; decide) dX7_stepKinds_6 (fun x2 => ?_)
  refine lv_imul hx hb dX7_stepKinds_7 ?_
  refine lv_topi (fun x3 ex3 => ?_)
  exact W.iret (v := x3) hx hb hr (fun t ht hW => ⟨x3, rfl, trivial, ht⟩) (fun _ h => absurd h List.not_mem_nil) dX7_stepKinds_8

set_option maxHeartbeats 4000000 in
set_option maxRecDepth 100000 in
theorem t_X7_fromVertex (l : Launch) (dC : Nat → ClassId) (dI : Nat → Nat → Nat) (sz : Nat) (G : GT) (cs : Nat → ClassId) (tt mm : Nat) (a0 : Nat) (ha0 : Ty G a0 7) (v1 : Int32) : Met l yX7_fromVertex [.code yX7_fromVertex cX7_fromVertex 2 (some .int)] ({ frames := 1, cells := 0, slots := 0, locals := 40 }) (PT [.ref a0, .int v1] sz dC dI G cs tt mm (fun _ => True)) (vp_Si (fun (r : Int32) => True)) 0 0 (fun _ => False) := by
  refine Met.ofW (cc := cX7_fromVertex) (maxL := 2) (ret := (some .int)) (by decide) rfl ?_
  intro p e s m args below meth c s₁ B hml hv
  obtain ⟨rfl, hsz, ⟨f0, hok, hP, hX⟩, hK, hnd, hWT, hE⟩ := hv
  have hx := B.exec
  have hb := B.bytes
  have hr := B.returns
  have hown : s.vm.findClass RX7 = some m.cls := findClass_of_methodNamed B.named
  have hlocks := B.notSynchronized
  subst hsz
  have hl := lv_entry ([.ref a0, .int v1]) (n := 2) (Nat.le_of_ble_eq_true rfl)
  rw [lg_entry_eq]
  generalize (lg_sl ([.ref a0, .int v1]) ++ List.replicate (2 - (lg_sl ([.ref a0, .int v1])).length) Slot.unset).toArray = ls at hl ⊢
  have hl : lv_has ls 2 [(0, .ref a0), (1, .int v1)] := hl
  refine lv_aload_n hx hb dX7_fromVertex_0 rfl (lv_at hl 0 rfl) ?_
  refine lv_iload_n hx hb dX7_fromVertex_1 rfl (lv_at hl 1 rfl) ?_
  refine lv_iconst (v := 1) hx hb dX7_fromVertex_2 (by decide) ?_
  refine lv_ishr hx hb dX7_fromVertex_3 ?_
  refine lv_topi (fun x1 _ => ?_)
  refine lv_iload_n hx hb dX7_fromVertex_4 rfl (lv_at hl 1 rfl) ?_
  refine vp_callSi (va_Run.run (va_runSN (As := [.int v1]) (rest := [.int x1, .ref a0]) ⟨hx, hb, hml, hown, noTs⟩ (t_X11_isBackwards l dC dI s.heap.size G cs tt mm v1) ⟨cnE 1 (wd_680 hE) (wd_115 hE) (wd_678 hE) rfl rfl (by decide +kernel) ⟨Nat.le_of_ble_eq_true rfl, Nat.le_of_ble_eq_true rfl⟩, (wd_679 hE), trivial⟩ ⟨PT.blind, (th_pre (av := [.int v1]) trivial hK hP hok hnd hWT hE)⟩ rfl rfl hl.1 rfl (lv_room (Nat.le_of_ble_eq_true rfl)) dX7_fromVertex_5 ⟨Nat.le_of_ble_eq_true rfl, Nat.le_of_ble_eq_true rfl⟩)) (fun r2 hr2 => ?_)
  refine lv_if_eq (tgt := 15) hx hb dX7_fromVertex_8 (by decide) (fun c3 => ?_) (fun c3 => ?_)
  · refine lv_iconst (v := 0) hx hb dX7_fromVertex_15 (by decide) ?_
    have he4 := ok_X7 hok ha0
    refine vp_callSi (va_Run.run (va_runV (As := [.int x1, .int 0]) (rest := []) ⟨hx, hb, hml, hown, noTs⟩ (t_X7_edgePart l dC dI s.heap.size G cs tt mm a0 ha0 x1 0) ⟨cbE 2 (wd_684 hE) (wd_116 hE) (wd_681 hE) rfl rfl (by decide +kernel) ⟨Nat.le_of_ble_eq_true rfl, Nat.le_of_ble_eq_true rfl⟩, (wd_682 hE), (wd_683 hE)⟩ ⟨PT.blind, th_recv hK hP ha0.1 he4 rfl, (th_pre (av := [.ref a0, .int x1, .int 0]) trivial hK hP hok hnd hWT hE)⟩ rfl rfl hl.1 rfl (lv_room (Nat.le_of_ble_eq_true rfl)) dX7_fromVertex_16 ⟨Nat.le_of_ble_eq_true rfl, Nat.le_of_ble_eq_true rfl⟩)) (fun r5 hr5 => ?_)
    exact W.iret (v := r5) hx hb hr (fun t ht hW => ⟨r5, rfl, trivial, ht⟩) (fun _ h => absurd h List.not_mem_nil) dX7_fromVertex_19
  · refine lv_iconst (v := 2) hx hb dX7_fromVertex_11 (by decide) ?_
    refine lv_goto (tgt := 16) hx hb dX7_fromVertex_12 (by decide) ?_
    have he6 := ok_X7 hok ha0
    refine vp_callSi (va_Run.run (va_runV (As := [.int x1, .int 2]) (rest := []) ⟨hx, hb, hml, hown, noTs⟩ (t_X7_edgePart l dC dI s.heap.size G cs tt mm a0 ha0 x1 2) ⟨cbE 2 (wd_684 hE) (wd_116 hE) (wd_681 hE) rfl rfl (by decide +kernel) ⟨Nat.le_of_ble_eq_true rfl, Nat.le_of_ble_eq_true rfl⟩, (wd_682 hE), (wd_683 hE)⟩ ⟨PT.blind, th_recv hK hP ha0.1 he6 rfl, (th_pre (av := [.ref a0, .int x1, .int 2]) trivial hK hP hok hnd hWT hE)⟩ rfl rfl hl.1 rfl (lv_room (Nat.le_of_ble_eq_true rfl)) dX7_fromVertex_16 ⟨Nat.le_of_ble_eq_true rfl, Nat.le_of_ble_eq_true rfl⟩)) (fun r7 hr7 => ?_)
    exact W.iret (v := r7) hx hb hr (fun t ht hW => ⟨r7, rfl, trivial, ht⟩) (fun _ h => absurd h List.not_mem_nil) dX7_fromVertex_19

set_option maxHeartbeats 4000000 in
set_option maxRecDepth 100000 in
theorem t_X11_opposite (l : Launch) (dC : Nat → ClassId) (dI : Nat → Nat → Nat) (sz : Nat) (G : GT) (cs : Nat → ClassId) (tt mm : Nat) (v0 : Int32) : Met l yX11_opposite [.code yX11_opposite cX11_opposite 1 (some .int)] ({ frames := 0, cells := 0, slots := 0, locals := 0 }) (PT [.int v0] sz dC dI G cs tt mm (fun _ => True)) (vp_Si (fun (r : Int32) => True)) 0 0 (fun _ => False) := by
  refine Met.ofW (cc := cX11_opposite) (maxL := 1) (ret := (some .int)) (by decide) rfl ?_
  intro p e s m args below meth c s₁ B hml hv
  obtain ⟨rfl, hsz, ⟨f0, hok, hP, hX⟩, hK, hnd, hWT, hE⟩ := hv
  have hx := B.exec
  have hb := B.bytes
  have hr := B.returns
  have hown : s.vm.findClass RX11 = some m.cls := findClass_of_methodNamed B.named
  have hlocks := B.notSynchronized
  subst hsz
  have hl := lv_entry ([.int v0]) (n := 1) (Nat.le_of_ble_eq_true rfl)
  rw [lg_entry_eq]
  generalize (lg_sl ([.int v0]) ++ List.replicate (1 - (lg_sl ([.int v0])).length) Slot.unset).toArray = ls at hl ⊢
  have hl : lv_has ls 1 [(0, .int v0)] := hl
  refine lv_iload_n hx hb dX11_opposite_0 rfl (lv_at hl 0 rfl) ?_
  refine lv_iconst (v := 1) hx hb dX11_opposite_1 (by decide) ?_
  refine lv_ixor hx hb dX11_opposite_2 ?_
  refine lv_topi (fun x1 _ => ?_)
  exact W.iret (v := x1) hx hb hr (fun t ht hW => ⟨x1, rfl, trivial, ht⟩) (fun _ h => absurd h List.not_mem_nil) dX11_opposite_3

set_option maxHeartbeats 4000000 in
set_option maxRecDepth 100000 in
theorem t_X11_bit (l : Launch) (dC : Nat → ClassId) (dI : Nat → Nat → Nat) (sz : Nat) (G : GT) (cs : Nat → ClassId) (tt mm : Nat) (v0 : Int32) : Met l yX11_bit [.code yX11_bit cX11_bit 1 (some .int)] ({ frames := 0, cells := 0, slots := 0, locals := 0 }) (PT [.int v0] sz dC dI G cs tt mm (fun _ => True)) (vp_Si (fun (r : Int32) => True)) 0 0 (fun _ => False) := by
  refine Met.ofW (cc := cX11_bit) (maxL := 1) (ret := (some .int)) (by decide) rfl ?_
  intro p e s m args below meth c s₁ B hml hv
  obtain ⟨rfl, hsz, ⟨f0, hok, hP, hX⟩, hK, hnd, hWT, hE⟩ := hv
  have hx := B.exec
  have hb := B.bytes
  have hr := B.returns
  have hown : s.vm.findClass RX11 = some m.cls := findClass_of_methodNamed B.named
  have hlocks := B.notSynchronized
  subst hsz
  have hl := lv_entry ([.int v0]) (n := 1) (Nat.le_of_ble_eq_true rfl)
  rw [lg_entry_eq]
  generalize (lg_sl ([.int v0]) ++ List.replicate (1 - (lg_sl ([.int v0])).length) Slot.unset).toArray = ls at hl ⊢
  have hl : lv_has ls 1 [(0, .int v0)] := hl
  refine lv_iload_n hx hb dX11_bit_0 rfl (lv_at hl 0 rfl) ?_
  refine lv_if_eq (tgt := 8) hx hb dX11_bit_1 (by decide) (fun c1 => ?_) (fun c1 => ?_)
  · refine lv_iconst (v := 0) hx hb dX11_bit_8 (by decide) ?_
    exact W.iret (v := 0) hx hb hr (fun t ht hW => ⟨0, rfl, trivial, ht⟩) (fun _ h => absurd h List.not_mem_nil) dX11_bit_9
  · refine lv_iconst (v := 1) hx hb dX11_bit_4 (by decide) ?_
    refine lv_goto (tgt := 9) hx hb dX11_bit_5 (by decide) ?_
    exact W.iret (v := 1) hx hb hr (fun t ht hW => ⟨1, rfl, trivial, ht⟩) (fun _ h => absurd h List.not_mem_nil) dX11_bit_9

set_option maxHeartbeats 4000000 in
set_option maxRecDepth 100000 in
theorem t_X7_widthBehind (l : Launch) (dC : Nat → ClassId) (dI : Nat → Nat → Nat) (sz : Nat) (G : GT) (cs : Nat → ClassId) (tt mm : Nat) (a0 : Nat) (ha0 : Ty G a0 7) (v1 : Int32) (v2 : Int32) : Met l yX7_widthBehind [.code yX7_widthBehind cX7_widthBehind 3 (some .int)] ({ frames := 2, cells := 0, slots := 0, locals := 80 }) (PT [.ref a0, .int v1, .int v2] sz dC dI G cs tt mm (fun _ => True)) (vp_Si (fun (r : Int32) => True)) 0 0 (fun _ => False) := by
  refine Met.ofW (cc := cX7_widthBehind) (maxL := 3) (ret := (some .int)) (by decide) rfl ?_
  intro p e s m args below meth c s₁ B hml hv
  obtain ⟨rfl, hsz, ⟨f0, hok, hP, hX⟩, hK, hnd, hWT, hE⟩ := hv
  have hx := B.exec
  have hb := B.bytes
  have hr := B.returns
  have hown : s.vm.findClass RX7 = some m.cls := findClass_of_methodNamed B.named
  have hlocks := B.notSynchronized
  subst hsz
  have hl := lv_entry ([.ref a0, .int v1, .int v2]) (n := 3) (Nat.le_of_ble_eq_true rfl)
  rw [lg_entry_eq]
  generalize (lg_sl ([.ref a0, .int v1, .int v2]) ++ List.replicate (3 - (lg_sl ([.ref a0, .int v1, .int v2])).length) Slot.unset).toArray = ls at hl ⊢
  have hl : lv_has ls 3 [(0, .ref a0), (1, .int v1), (2, .int v2)] := hl
  refine lv_aload_n hx hb dX7_widthBehind_0 rfl (lv_at hl 0 rfl) ?_
  refine lv_iload_n hx hb dX7_widthBehind_1 rfl (lv_at hl 2 rfl) ?_
  have he1 := ok_X7 hok ha0
  refine vp_callSi (va_Run.run (va_runV (As := [.int v2]) (rest := []) ⟨hx, hb, hml, hown, noTs⟩ (t_X7_fromIndex l dC dI s.heap.size G cs tt mm a0 ha0 v2) ⟨cbE 1 (wd_855 hE) (wd_116 hE) (wd_1000 hE) rfl rfl (by decide +kernel) ⟨Nat.le_of_ble_eq_true rfl, Nat.le_of_ble_eq_true rfl⟩, (wd_853 hE), (wd_854 hE)⟩ ⟨PT.blind, th_recv hK hP ha0.1 he1 rfl, (th_pre (av := [.ref a0, .int v2]) trivial hK hP hok hnd hWT hE)⟩ rfl rfl hl.1 rfl (lv_room (Nat.le_of_ble_eq_true rfl)) dX7_widthBehind_2 ⟨Nat.le_of_ble_eq_true rfl, Nat.le_of_ble_eq_true rfl⟩)) (fun r2 hr2 => ?_)
  refine lv_iload_n hx hb dX7_widthBehind_5 rfl (lv_at hl 2 rfl) ?_
  refine lv_iload_n hx hb dX7_widthBehind_6 rfl (lv_at hl 1 rfl) ?_
  refine vp_callSi (va_Run.run (va_runSN (As := [.int v1]) (rest := [.int v2, .int r2]) ⟨hx, hb, hml, hown, noTs⟩ (t_X11_opposite l dC dI s.heap.size G cs tt mm v1) ⟨cnE 1 (wd_865 hE) (wd_115 hE) (wd_1001 hE) rfl rfl (by decide +kernel) ⟨Nat.le_of_ble_eq_true rfl, Nat.le_of_ble_eq_true rfl⟩, (wd_864 hE), trivial⟩ ⟨PT.blind, (th_pre (av := [.int v1]) trivial hK hP hok hnd hWT hE)⟩ rfl rfl hl.1 rfl (lv_room (Nat.le_of_ble_eq_true rfl)) dX7_widthBehind_7 ⟨Nat.le_of_ble_eq_true rfl, Nat.le_of_ble_eq_true rfl⟩)) (fun r3 hr3 => ?_)
  refine lv_icmp_ne (tgt := 17) hx hb dX7_widthBehind_10 (by decide) (fun c4 => ?_) (fun c4 => ?_)
  · refine lv_iconst (v := 0) hx hb dX7_widthBehind_17 (by decide) ?_
    refine vp_callSi (va_Run.run (va_runSN (As := [.int 0]) (rest := [.int r2]) ⟨hx, hb, hml, hown, noTs⟩ (t_X11_bit l dC dI s.heap.size G cs tt mm 0) ⟨cnE 1 (wd_669 hE) (wd_115 hE) (wd_1002 hE) rfl rfl (by decide +kernel) ⟨Nat.le_of_ble_eq_true rfl, Nat.le_of_ble_eq_true rfl⟩, (wd_668 hE), trivial⟩ ⟨PT.blind, (th_pre (av := [.int 0]) trivial hK hP hok hnd hWT hE)⟩ rfl rfl hl.1 rfl (lv_room (Nat.le_of_ble_eq_true rfl)) dX7_widthBehind_18 ⟨Nat.le_of_ble_eq_true rfl, Nat.le_of_ble_eq_true rfl⟩)) (fun r5 hr5 => ?_)
    refine lv_isub hx hb dX7_widthBehind_21 ?_
    refine lv_topi (fun x6 ex6 => ?_)
    exact W.iret (v := x6) hx hb hr (fun t ht hW => ⟨x6, rfl, trivial, ht⟩) (fun _ h => absurd h List.not_mem_nil) dX7_widthBehind_22
  · refine lv_iconst (v := 1) hx hb dX7_widthBehind_13 (by decide) ?_
    refine lv_goto (tgt := 18) hx hb dX7_widthBehind_14 (by decide) ?_
    refine vp_callSi (va_Run.run (va_runSN (As := [.int 1]) (rest := [.int r2]) ⟨hx, hb, hml, hown, noTs⟩ (t_X11_bit l dC dI s.heap.size G cs tt mm 1) ⟨cnE 1 (wd_669 hE) (wd_115 hE) (wd_1002 hE) rfl rfl (by decide +kernel) ⟨Nat.le_of_ble_eq_true rfl, Nat.le_of_ble_eq_true rfl⟩, (wd_668 hE), trivial⟩ ⟨PT.blind, (th_pre (av := [.int 1]) trivial hK hP hok hnd hWT hE)⟩ rfl rfl hl.1 rfl (lv_room (Nat.le_of_ble_eq_true rfl)) dX7_widthBehind_18 ⟨Nat.le_of_ble_eq_true rfl, Nat.le_of_ble_eq_true rfl⟩)) (fun r7 hr7 => ?_)
    refine lv_isub hx hb dX7_widthBehind_21 ?_
    refine lv_topi (fun x8 ex8 => ?_)
    exact W.iret (v := x8) hx hb hr (fun t ht hW => ⟨x8, rfl, trivial, ht⟩) (fun _ h => absurd h List.not_mem_nil) dX7_widthBehind_22

set_option maxHeartbeats 4000000 in
set_option maxRecDepth 100000 in
theorem t_X11_atMostTold (l : Launch) (dC : Nat → ClassId) (dI : Nat → Nat → Nat) (sz : Nat) (G : GT) (cs : Nat → ClassId) (tt mm : Nat) (v0 : Int64) : Met l yX11_atMostTold [.code yX11_atMostTold cX11_atMostTold 2 (some .long)] ({ frames := 1, cells := 0, slots := 0, locals := 40 }) (PT [.long v0] sz dC dI G cs tt mm (fun _ => True)) (vp_Sl (fun (r : Int64) => True)) 0 0 (fun _ => False) := by
  refine Met.ofW (cc := cX11_atMostTold) (maxL := 2) (ret := (some .long)) (by decide) rfl ?_
  intro p e s m args below meth c s₁ B hml hv
  obtain ⟨rfl, hsz, ⟨f0, hok, hP, hX⟩, hK, hnd, hWT, hE⟩ := hv
  have hx := B.exec
  have hb := B.bytes
  have hr := B.returns
  have hown : s.vm.findClass RX11 = some m.cls := findClass_of_methodNamed B.named
  have hlocks := B.notSynchronized
  subst hsz
  have hl := lv_entry ([.long v0]) (n := 2) (Nat.le_of_ble_eq_true rfl)
  rw [lg_entry_eq]
  generalize (lg_sl ([.long v0]) ++ List.replicate (2 - (lg_sl ([.long v0])).length) Slot.unset).toArray = ls at hl ⊢
  have hl : lv_has ls 2 [(0, .long v0)] := hl
  refine lv_lload_n hx hb dX11_atMostTold_0 rfl (lv_at hl 0 rfl) ?_
  refine lv_ldc2 (v := 1000000000000) hx hb hown (wd_1010 hE) dX11_atMostTold_1 ?_
  refine va_mmin_long hx hb (by rw [hml]; exact hl.1.symm) hown (wd_1011 hE) (wd_1012 hE) (wd_128 hE) (wd_1013 hE) (Nat.le_of_ble_eq_true rfl) (Nat.le_of_ble_eq_true rfl) (Nat.le_of_ble_eq_true rfl) (Nat.le_of_ble_eq_true rfl) dX11_atMostTold_4 ?_
  refine lv_topl (fun x1 ex1 => ?_)
  exact W.lret (v := x1) hx hb hr (fun t ht hW => ⟨x1, rfl, trivial, ht⟩) (fun _ h => absurd h List.not_mem_nil) dX11_atMostTold_7

set_option maxHeartbeats 4000000 in
set_option maxRecDepth 100000 in
theorem t_X1_waysFrom (l : Launch) (dC : Nat → ClassId) (dI : Nat → Nat → Nat) (sz : Nat) (G : GT) (cs : Nat → ClassId) (tt mm : Nat) (a0 : Nat) (ha0 : Ty G a0 2) (a1 : Nat) (ha1 : Ty G a1 7) (v2 : Int32) (v3 : Int32) (v4 : Int32) (hp0 : 1 ≤ v4.toInt) (hp1 : v4.toInt ≤ 12) : Met l yX1_waysFrom [.code yX1_waysFrom cX1_waysFrom 8 (some .long)] ({ frames := 3, cells := 0, slots := 0, locals := 120 }) (PT [.ref a0, .ref a1, .int v2, .int v3, .int v4] sz dC dI G cs tt mm (fun _ => True)) (vp_Sl (fun (r : Int64) => True)) 0 0 (fun _ => False) := by
  refine Met.ofW (cc := cX1_waysFrom) (maxL := 8) (ret := (some .long)) (by decide) rfl ?_
  intro p e s m args below meth c s₁ B hml hv
  obtain ⟨rfl, hsz, ⟨f0, hok, hP, hX⟩, hK, hnd, hWT, hE⟩ := hv
  have hx := B.exec
  have hb := B.bytes
  have hr := B.returns
  have hown : s.vm.findClass RX1 = some m.cls := findClass_of_methodNamed B.named
  have hlocks := B.notSynchronized
  subst hsz
  have hl := lv_entry ([.ref a0, .ref a1, .int v2, .int v3, .int v4]) (n := 8) (Nat.le_of_ble_eq_true rfl)
  rw [lg_entry_eq]
  generalize (lg_sl ([.ref a0, .ref a1, .int v2, .int v3, .int v4]) ++ List.replicate (8 - (lg_sl ([.ref a0, .ref a1, .int v2, .int v3, .int v4])).length) Slot.unset).toArray = ls at hl ⊢
  have hl : lv_has ls 8 [(0, .ref a0), (1, .ref a1), (2, .int v2), (3, .int v3), (4, .int v4)] := hl
  refine lv_lconst (v := 0) hx hb dX1_waysFrom_0 (by decide) ?_
  refine lv_lstore (lv' := [(5, .long 0), (0, .ref a0), (1, .ref a1), (2, .int v2), (3, .int v3), (4, .int v4)]) hx hb dX1_waysFrom_1 hl (by decide) rfl (fun ls hl => ?_)
  refine lv_iconst (v := 0) hx hb dX1_waysFrom_3 (by decide) ?_
  refine lv_istore (lv' := [(7, .int 0), (5, .long 0), (0, .ref a0), (1, .ref a1), (2, .int v2), (3, .int v3), (4, .int v4)]) hx hb dX1_waysFrom_4 hl (by decide) rfl (fun ls hl => ?_)
  refine w_indP (I := fun n ls => ∃ (w5_1 : Int64) (w7_1 : Int32), n = (2147483647 - w7_1.toInt).toNat ∧ 0 ≤ w7_1 ∧ lv_has ls 8 [(0, .ref a0), (1, .ref a1), (2, .int v2), (3, .int v3), (4, .int v4), (5, .long w5_1), (7, .int w7_1)]) (fun n ls hI ih1 => ?_) _ _ ⟨0, 0, rfl, (by first | omega | (simp only [i_lt, i_le, i_eq, ti_m9, ti_m1, ti_0, ti_1, ti_2, ti_3, ti_4, ti_5, ti_6, ti_7, ti_9, ti_12, ti_20, ti_99, ti_700, ti_24, ti_156, ti_72, ti_8, ti_60, ti_543, ti_10, ti_33, ti_51, ti_178, ti_119, ti_111, ti_114, ti_100, ti_32, ti_62, ti_59, ti_48, ti_701, ti_97, ti_122, ti_57, ti_73, ti_128] at hp0 hp1 ⊢; omega)), lv_sub hl [2, 3, 4, 5, 6, 1, 0] rfl⟩
  obtain ⟨w5_1, w7_1, hmu1, hlo1, hl⟩ := hI
  subst hmu1
  refine lv_iload hx hb dX1_waysFrom_6 (lv_at hl 6 rfl) ?_
  refine lv_aload_n hx hb dX1_waysFrom_8 rfl (lv_at hl 1 rfl) ?_
  have he2 := ok_X7 hok ha1
  refine vp_callSi (va_Run.run (va_runV (As := []) (rest := [.int w7_1]) ⟨hx, hb, hml, hown, noTs⟩ (t_X7_stepKinds l dC dI s.heap.size G cs tt mm a1 ha1) ⟨cbE 0 (wd_783 hE) (wd_116 hE) (wd_985 hE) rfl rfl (by decide +kernel) ⟨Nat.le_of_ble_eq_true rfl, Nat.le_of_ble_eq_true rfl⟩, (wd_781 hE), (wd_782 hE)⟩ ⟨PT.blind, th_recv hK hP ha1.1 he2 rfl, (th_pre (av := [.ref a1]) trivial hK hP hok hnd hWT hE)⟩ rfl rfl hl.1 rfl (lv_room (Nat.le_of_ble_eq_true rfl)) dX1_waysFrom_9 ⟨Nat.le_of_ble_eq_true rfl, Nat.le_of_ble_eq_true rfl⟩)) (fun r3 hr3 => ?_)
  refine lv_icmp_ge (tgt := 58) hx hb dX1_waysFrom_12 (by decide) (fun c4 => ?_) (fun c4 => ?_)
  · refine lv_lload hx hb dX1_waysFrom_58 (lv_at hl 5 rfl) ?_
    exact W.lret (v := w5_1) hx hb hr (fun t ht hW => ⟨w5_1, rfl, trivial, ht⟩) (fun _ h => absurd h List.not_mem_nil) dX1_waysFrom_60
  · refine lv_aload_n hx hb dX1_waysFrom_15 rfl (lv_at hl 1 rfl) ?_
    refine lv_iload hx hb dX1_waysFrom_16 (lv_at hl 6 rfl) ?_
    refine vp_callSi (va_Run.run (va_runV (As := [.int w7_1]) (rest := []) ⟨hx, hb, hml, hown, noTs⟩ (t_X7_fromVertex l dC dI s.heap.size G cs tt mm a1 ha1 w7_1) ⟨cbE 1 (wd_677 hE) (wd_116 hE) (wd_995 hE) rfl rfl (by decide +kernel) ⟨Nat.le_of_ble_eq_true rfl, Nat.le_of_ble_eq_true rfl⟩, (wd_675 hE), (wd_676 hE)⟩ ⟨PT.blind, th_recv hK hP ha1.1 he2 rfl, (th_pre (av := [.ref a1, .int w7_1]) trivial hK hP hok hnd hWT hE)⟩ rfl rfl hl.1 rfl (lv_room (Nat.le_of_ble_eq_true rfl)) dX1_waysFrom_18 ⟨Nat.le_of_ble_eq_true rfl, Nat.le_of_ble_eq_true rfl⟩)) (fun r5 hr5 => ?_)
    refine lv_iload_n hx hb dX1_waysFrom_21 rfl (lv_at hl 2 rfl) ?_
    refine lv_icmp_ne (tgt := 52) hx hb dX1_waysFrom_22 (by decide) (fun c6 => ?_) (fun c6 => ?_)
    · obtain ⟨z7, ez7⟩ : ∃ z : Int32, z = w7_1 + 1 := ⟨_, rfl⟩
      refine lv_iinc (v := z7) (lv' := [(7, .int z7), (0, .ref a0), (1, .ref a1), (2, .int v2), (3, .int v3), (4, .int v4), (5, .long w5_1)]) hx hb dX1_waysFrom_52 hl (k := 6) rfl (by rw [ez7]; rfl) (by decide) rfl (fun ls hl => ?_)
      have ic7 : z7.toInt = w7_1.toInt + 1 := by rw [ez7]; exact ic_up (by have := i_rng w7_1; have := i_rng r3; have := i_rng r5; have := i_rng v2; simp only [i_lt, i_le, i_eq, ti_m9, ti_m1, ti_0, ti_1, ti_2, ti_3, ti_4, ti_5, ti_6, ti_7, ti_9, ti_12, ti_20, ti_99, ti_700, ti_24, ti_156, ti_72, ti_8, ti_60, ti_543, ti_10, ti_33, ti_51, ti_178, ti_119, ti_111, ti_114, ti_100, ti_32, ti_62, ti_59, ti_48, ti_701, ti_97, ti_122, ti_57, ti_73, ti_128] at hp0 hp1 hlo1 c4 c6 ⊢; omega)
      refine lv_goto (tgt := 6) hx hb dX1_waysFrom_55 (by decide) ?_
      exact ih1 _ _ (by have := i_rng z7; first | omega | (simp only [i_lt, i_le, i_eq, ti_m9, ti_m1, ti_0, ti_1, ti_2, ti_3, ti_4, ti_5, ti_6, ti_7, ti_9, ti_12, ti_20, ti_99, ti_700, ti_24, ti_156, ti_72, ti_8, ti_60, ti_543, ti_10, ti_33, ti_51, ti_178, ti_119, ti_111, ti_114, ti_100, ti_32, ti_62, ti_59, ti_48, ti_701, ti_97, ti_122, ti_57, ti_73, ti_128, ic7] at hp0 hp1 hlo1 c4 c6 ic7 ⊢; omega)) ⟨w5_1, z7, rfl, (by first | omega | (simp only [i_lt, i_le, i_eq, ti_m9, ti_m1, ti_0, ti_1, ti_2, ti_3, ti_4, ti_5, ti_6, ti_7, ti_9, ti_12, ti_20, ti_99, ti_700, ti_24, ti_156, ti_72, ti_8, ti_60, ti_543, ti_10, ti_33, ti_51, ti_178, ti_119, ti_111, ti_114, ti_100, ti_32, ti_62, ti_59, ti_48, ti_701, ti_97, ti_122, ti_57, ti_73, ti_128, ic7] at hp0 hp1 hlo1 c4 c6 ⊢; omega)), lv_sub hl [1, 2, 3, 4, 5, 6, 0] rfl⟩
    · refine lv_lload hx hb dX1_waysFrom_25 (lv_at hl 5 rfl) ?_
      refine lv_aload_n hx hb dX1_waysFrom_27 rfl (lv_at hl 1 rfl) ?_
      refine lv_iload_n hx hb dX1_waysFrom_28 rfl (lv_at hl 3 rfl) ?_
      refine lv_iload hx hb dX1_waysFrom_29 (lv_at hl 6 rfl) ?_
      refine vp_callSi (va_Run.run (va_runV (As := [.int v3, .int w7_1]) (rest := [.long w5_1]) ⟨hx, hb, hml, hown, noTs⟩ (t_X7_widthBehind l dC dI s.heap.size G cs tt mm a1 ha1 v3 w7_1) ⟨cbE 2 (wd_999 hE) (wd_116 hE) (wd_996 hE) rfl rfl (by decide +kernel) ⟨Nat.le_of_ble_eq_true rfl, Nat.le_of_ble_eq_true rfl⟩, (wd_997 hE), (wd_998 hE)⟩ ⟨PT.blind, th_recv hK hP ha1.1 he2 rfl, (th_pre (av := [.ref a1, .int v3, .int w7_1]) trivial hK hP hok hnd hWT hE)⟩ rfl rfl hl.1 rfl (lv_room (Nat.le_of_ble_eq_true rfl)) dX1_waysFrom_31 ⟨Nat.le_of_ble_eq_true rfl, Nat.le_of_ble_eq_true rfl⟩)) (fun r8 hr8 => ?_)
      refine lv_i2l hx hb dX1_waysFrom_34 rfl ?_
      refine lv_topl (fun x9 _ => ?_)
      refine lv_aload_n hx hb dX1_waysFrom_35 rfl (lv_at hl 0 rfl) ?_
      refine lv_iload hx hb dX1_waysFrom_36 (lv_at hl 4 rfl) ?_
      refine lv_iconst (v := 1) hx hb dX1_waysFrom_38 (by decide) ?_
      obtain ⟨j10, hj10, rfl⟩ : ∃ j : Nat, j ≤ 12 ∧ v4 = nI j := i_nat (by first | omega | (simp only [i_lt, i_le, i_eq, ti_m9, ti_m1, ti_0, ti_1, ti_2, ti_3, ti_4, ti_5, ti_6, ti_7, ti_9, ti_12, ti_20, ti_99, ti_700, ti_24, ti_156, ti_72, ti_8, ti_60, ti_543, ti_10, ti_33, ti_51, ti_178, ti_119, ti_111, ti_114, ti_100, ti_32, ti_62, ti_59, ti_48, ti_701, ti_97, ti_122, ti_57, ti_73, ti_128] at hp0 hp1 hlo1 c4 c6 ⊢; omega)) (by first | omega | (simp only [i_lt, i_le, i_eq, ti_m9, ti_m1, ti_0, ti_1, ti_2, ti_3, ti_4, ti_5, ti_6, ti_7, ti_9, ti_12, ti_20, ti_99, ti_700, ti_24, ti_156, ti_72, ti_8, ti_60, ti_543, ti_10, ti_33, ti_51, ti_178, ti_119, ti_111, ti_114, ti_100, ti_32, ti_62, ti_59, ti_48, ti_701, ti_97, ti_122, ti_57, ti_73, ti_128] at hp0 hp1 hlo1 c4 c6 ⊢; omega))
      have nt11 : (nI j10).toInt = ((j10 : Nat) : Int) := nI_toInt (by omega)
      refine lv_isub hx hb dX1_waysFrom_39 ?_
      refine W.eq (g2 := F0 m 40 ls [.int (nI (j10 - 1)), .ref a0, .long x9, .long w5_1]) (congrArg (fun z : Int32 => F0 m 40 ls (.int z :: [.ref a0, .long x9, .long w5_1])) (pk_sub (a := j10) (b := 1) (by first | omega | (simp only [i_lt, i_le, i_eq, ti_m9, ti_m1, ti_0, ti_1, ti_2, ti_3, ti_4, ti_5, ti_6, ti_7, ti_9, ti_12, ti_20, ti_99, ti_700, ti_24, ti_156, ti_72, ti_8, ti_60, ti_543, ti_10, ti_33, ti_51, ti_178, ti_119, ti_111, ti_114, ti_100, ti_32, ti_62, ti_59, ti_48, ti_701, ti_97, ti_122, ti_57, ti_73, ti_128, nt11] at hp0 hp1 hlo1 c4 c6 ⊢; omega)))) ?_
      refine lv_iload hx hb dX1_waysFrom_40 (lv_at hl 6 rfl) ?_
      have nt12 : (nI (j10 - 1)).toInt = ((j10 - 1 : Nat) : Int) := nI_toInt (by omega)
      have he13 := ok_X1 hok ha0
      refine vp_callSl (va_Run.run (va_runV (As := [.int (nI (j10 - 1)), .int w7_1]) (rest := [.long x9, .long w5_1]) ⟨hx, hb, hml, hown, noTs⟩ (t_X1_waysBehind l dC dI s.heap.size G cs tt mm a0 ha0 (nI (j10 - 1)) w7_1 (by first | omega | (simp only [i_lt, i_le, i_eq, ti_m9, ti_m1, ti_0, ti_1, ti_2, ti_3, ti_4, ti_5, ti_6, ti_7, ti_9, ti_12, ti_20, ti_99, ti_700, ti_24, ti_156, ti_72, ti_8, ti_60, ti_543, ti_10, ti_33, ti_51, ti_178, ti_119, ti_111, ti_114, ti_100, ti_32, ti_62, ti_59, ti_48, ti_701, ti_97, ti_122, ti_57, ti_73, ti_128, nt11, nt12] at hp0 hp1 hlo1 c4 c6 ⊢; omega))) ⟨cbE 2 (wd_1006 hE) (wd_125 hE) (wd_1003 hE) rfl rfl (by decide +kernel) ⟨Nat.le_of_ble_eq_true rfl, Nat.le_of_ble_eq_true rfl⟩, (wd_1005 hE), (wd_35 hE)⟩ ⟨PT.blind, th_recv hK hP ha0.1 he13 rfl, (th_pre (av := [.ref a0, .int (nI (j10 - 1)), .int w7_1]) trivial hK hP hok hnd hWT hE)⟩ rfl rfl hl.1 rfl (lv_room (Nat.le_of_ble_eq_true rfl)) dX1_waysFrom_42 ⟨Nat.le_of_ble_eq_true rfl, Nat.le_of_ble_eq_true rfl⟩)) (fun r14 hr14 => ?_)
      refine lv_lmul hx hb dX1_waysFrom_45 ?_
      refine lv_topl (fun x15 _ => ?_)
      refine lv_ladd hx hb dX1_waysFrom_46 ?_
      refine lv_topl (fun x16 _ => ?_)
      refine vp_callSl (va_Run.run (va_runSN (As := [.long x16]) (rest := []) ⟨hx, hb, hml, hown, noTs⟩ (t_X11_atMostTold l dC dI s.heap.size G cs tt mm x16) ⟨cnE 1 (wd_1009 hE) (wd_115 hE) (wd_1007 hE) rfl rfl (by decide +kernel) ⟨Nat.le_of_ble_eq_true rfl, Nat.le_of_ble_eq_true rfl⟩, (wd_1008 hE), trivial⟩ ⟨PT.blind, (th_pre (av := [.long x16]) trivial hK hP hok hnd hWT hE)⟩ rfl rfl hl.1 rfl (lv_room (Nat.le_of_ble_eq_true rfl)) dX1_waysFrom_47 ⟨Nat.le_of_ble_eq_true rfl, Nat.le_of_ble_eq_true rfl⟩)) (fun r17 hr17 => ?_)
      refine lv_lstore (lv' := [(5, .long r17), (0, .ref a0), (1, .ref a1), (2, .int v2), (3, .int v3), (4, .int (nI j10)), (7, .int w7_1)]) hx hb dX1_waysFrom_50 hl (by decide) rfl (fun ls hl => ?_)
      obtain ⟨z18, ez18⟩ : ∃ z : Int32, z = w7_1 + 1 := ⟨_, rfl⟩
      refine lv_iinc (v := z18) (lv' := [(7, .int z18), (5, .long r17), (0, .ref a0), (1, .ref a1), (2, .int v2), (3, .int v3), (4, .int (nI j10))]) hx hb dX1_waysFrom_52 hl (k := 6) rfl (by rw [ez18]; rfl) (by decide) rfl (fun ls hl => ?_)
      have ic18 : z18.toInt = w7_1.toInt + 1 := by rw [ez18]; exact ic_up (by have := i_rng w7_1; have := i_rng r3; have := i_rng r5; have := i_rng v2; simp only [i_lt, i_le, i_eq, ti_m9, ti_m1, ti_0, ti_1, ti_2, ti_3, ti_4, ti_5, ti_6, ti_7, ti_9, ti_12, ti_20, ti_99, ti_700, ti_24, ti_156, ti_72, ti_8, ti_60, ti_543, ti_10, ti_33, ti_51, ti_178, ti_119, ti_111, ti_114, ti_100, ti_32, ti_62, ti_59, ti_48, ti_701, ti_97, ti_122, ti_57, ti_73, ti_128, nt11, nt12] at hp0 hp1 hlo1 c4 c6 ⊢; omega)
      refine lv_goto (tgt := 6) hx hb dX1_waysFrom_55 (by decide) ?_
      exact ih1 _ _ (by have := i_rng z18; first | omega | (simp only [i_lt, i_le, i_eq, ti_m9, ti_m1, ti_0, ti_1, ti_2, ti_3, ti_4, ti_5, ti_6, ti_7, ti_9, ti_12, ti_20, ti_99, ti_700, ti_24, ti_156, ti_72, ti_8, ti_60, ti_543, ti_10, ti_33, ti_51, ti_178, ti_119, ti_111, ti_114, ti_100, ti_32, ti_62, ti_59, ti_48, ti_701, ti_97, ti_122, ti_57, ti_73, ti_128, nt11, nt12, ic18] at hp0 hp1 hlo1 c4 c6 ic18 ⊢; omega)) ⟨r17, z18, rfl, (by first | omega | (simp only [i_lt, i_le, i_eq, ti_m9, ti_m1, ti_0, ti_1, ti_2, ti_3, ti_4, ti_5, ti_6, ti_7, ti_9, ti_12, ti_20, ti_99, ti_700, ti_24, ti_156, ti_72, ti_8, ti_60, ti_543, ti_10, ti_33, ti_51, ti_178, ti_119, ti_111, ti_114, ti_100, ti_32, ti_62, ti_59, ti_48, ti_701, ti_97, ti_122, ti_57, ti_73, ti_128, nt11, nt12, ic18] at hp0 hp1 hlo1 c4 c6 ⊢; omega)), lv_sub hl [2, 3, 4, 5, 6, 1, 0] rfl⟩

set_option maxHeartbeats 4000000 in
set_option maxRecDepth 100000 in
theorem t_X1_fillLoops (l : Launch) (dC : Nat → ClassId) (dI : Nat → Nat → Nat) (sz : Nat) (G : GT) (cs : Nat → ClassId) (tt mm : Nat) (a0 : Nat) (ha0 : Ty G a0 2) (a1 : Nat) (ha1 : Ty G a1 7) (v2 : Int32) (v3 : Int32) (hp0 : 0 ≤ v3.toInt) (hp1 : v3.toInt ≤ 12) : Met l yX1_fillLoops [.code yX1_fillLoops cX1_fillLoops 7 none] ({ frames := 4, cells := 0, slots := 0, locals := 160 }) (PT [.ref a0, .ref a1, .int v2, .int v3] sz dC dI G cs tt mm (fun _ => True)) (va_Qv (fun (u : Nat → va_E) => True) (BT dC dI G cs tt mm) (AT G sz)) 0 0 (AT G sz) := by
  refine Met.ofW (cc := cX1_fillLoops) (maxL := 7) (ret := none) (by decide) rfl ?_
  intro p e s m args below meth c s₁ B hml hv
  obtain ⟨rfl, hsz, ⟨f0, hok, hP, hX⟩, hK, hnd, hWT, hE⟩ := hv
  have hx := B.exec
  have hb := B.bytes
  have hr := B.returns
  have hown : s.vm.findClass RX1 = some m.cls := findClass_of_methodNamed B.named
  have hlocks := B.notSynchronized
  subst hsz
  have hAL : ∀ a, a ∈ gL G → AT G s.heap.size a := fun a h => Or.inl h
  have hA : ∀ q : Nat, s.heap.size ≤ q → AT G s.heap.size q := fun q h => Or.inr h
  have hS : va_S (AT G s.heap.size) s.heap s.heap [] := va_S.rf
  have hl := lv_entry ([.ref a0, .ref a1, .int v2, .int v3]) (n := 7) (Nat.le_of_ble_eq_true rfl)
  rw [lg_entry_eq]
  generalize (lg_sl ([.ref a0, .ref a1, .int v2, .int v3]) ++ List.replicate (7 - (lg_sl ([.ref a0, .ref a1, .int v2, .int v3])).length) Slot.unset).toArray = ls at hl ⊢
  have hl : lv_has ls 7 [(0, .ref a0), (1, .ref a1), (2, .int v2), (3, .int v3)] := hl
  refine lv_aload_n hx hb dX1_fillLoops_0 rfl (lv_at hl 1 rfl) ?_
  refine lv_iload_n hx hb dX1_fillLoops_1 rfl (lv_at hl 2 rfl) ?_
  have he1 := ok_X7 hok ha1
  refine vp_callSi (va_Run.run (va_runV (As := [.int v2]) (rest := []) ⟨hx, hb, hml, hown, noTs⟩ (t_X7_orderAt l dC dI s.heap.size G cs tt mm a1 ha1 v2) ⟨cbE 1 (wd_614 hE) (wd_116 hE) (wd_984 hE) rfl rfl (by decide +kernel) ⟨Nat.le_of_ble_eq_true rfl, Nat.le_of_ble_eq_true rfl⟩, (wd_612 hE), (wd_613 hE)⟩ ⟨PT.blind, th_recv hK hP ha1.1 he1 rfl, (th_pre (av := [.ref a1, .int v2]) trivial hK hP hok hnd hWT hE)⟩ rfl rfl hl.1 rfl (lv_room (Nat.le_of_ble_eq_true rfl)) dX1_fillLoops_2 ⟨Nat.le_of_ble_eq_true rfl, Nat.le_of_ble_eq_true rfl⟩)) (fun r2 hr2 => ?_)
  refine lv_istore (lv' := [(4, .int r2), (0, .ref a0), (1, .ref a1), (2, .int v2), (3, .int v3)]) hx hb dX1_fillLoops_5 hl (by decide) rfl (fun ls hl => ?_)
  refine lv_iconst (v := 0) hx hb dX1_fillLoops_7 (by decide) ?_
  refine lv_istore (lv' := [(5, .int 0), (4, .int r2), (0, .ref a0), (1, .ref a1), (2, .int v2), (3, .int v3)]) hx hb dX1_fillLoops_8 hl (by decide) rfl (fun ls hl => ?_)
  refine w_ind (I := fun n f H locs ls => OKT G cs tt mm f ∧ va_P (dC, dI) vwCl (va_pl (gL G) f) H ∧ va_S (AT G s.heap.size) s.heap H locs ∧ ∃ (w5_3 : Int32), n = (2147483647 - w5_3.toInt).toNat ∧ 0 ≤ w5_3 ∧ lv_has ls 7 [(0, .ref a0), (1, .ref a1), (2, .int v2), (3, .int v3), (4, .int r2), (5, .int w5_3)]) (fun n f3 H locs ls hI ih3 => ?_) _ f0 _ _ _ ⟨hok, hP, hS, 0, rfl, (by first | omega | (simp only [i_lt, i_le, i_eq, ti_m9, ti_m1, ti_0, ti_1, ti_2, ti_3, ti_4, ti_5, ti_6, ti_7, ti_9, ti_12, ti_20, ti_99, ti_700, ti_24, ti_156, ti_72, ti_8, ti_60, ti_543, ti_10, ti_33, ti_51, ti_178, ti_119, ti_111, ti_114, ti_100, ti_32, ti_62, ti_59, ti_48, ti_701, ti_97, ti_122, ti_57, ti_73, ti_128] at hp0 hp1 ⊢; omega)), lv_sub hl [2, 3, 4, 5, 1, 0] rfl⟩
  obtain ⟨hok, hP, hS, w5_3, hmu3, hlo3, hl⟩ := hI
  subst hmu3
  refine lv_iload hx hb dX1_fillLoops_10 (lv_at hl 5 rfl) ?_
  refine lv_aload_n hx hb dX1_fillLoops_12 rfl (lv_at hl 1 rfl) ?_
  have he4 := ok_X7 hok ha1
  refine vp_callSi (va_Run.run (va_runV (As := []) (rest := [.int w5_3]) ⟨hx, hb, hml, hown, noTs⟩ (t_X7_stepKinds l dC dI H.size G cs tt mm a1 ha1) ⟨cbE 0 (wd_783 hE) (wd_116 hE) (wd_985 hE) rfl rfl (by decide +kernel) ⟨Nat.le_of_ble_eq_true rfl, Nat.le_of_ble_eq_true rfl⟩, (wd_781 hE), (wd_782 hE)⟩ ⟨PT.blind, th_recv hK hP ha1.1 he4 rfl, (th_pre (av := [.ref a1]) trivial hK hP hok hnd hWT hE)⟩ rfl rfl hl.1 rfl (lv_room (Nat.le_of_ble_eq_true rfl)) dX1_fillLoops_13 ⟨Nat.le_of_ble_eq_true rfl, Nat.le_of_ble_eq_true rfl⟩)) (fun r5 hr5 => ?_)
  refine lv_icmp_ge (tgt := 49) hx hb dX1_fillLoops_16 (by decide) (fun c6 => ?_) (fun c6 => ?_)
  · refine lv_iconst (v := 1) hx hb dX1_fillLoops_49 (by decide) ?_
    refine lv_istore (lv' := [(5, .int 1), (0, .ref a0), (1, .ref a1), (2, .int v2), (3, .int v3), (4, .int r2)]) hx hb dX1_fillLoops_50 hl (by decide) rfl (fun ls hl => ?_)
    refine w_ind (I := fun n f H locs ls => OKT G cs tt mm f ∧ va_P (dC, dI) vwCl (va_pl (gL G) f) H ∧ va_S (AT G s.heap.size) s.heap H locs ∧ ∃ (w5_7 : Int32), n = (2147483647 - w5_7.toInt).toNat ∧ 1 ≤ w5_7 ∧ lv_has ls 7 [(0, .ref a0), (1, .ref a1), (2, .int v2), (3, .int v3), (4, .int r2), (5, .int w5_7)]) (fun n f7 H locs ls hI ih7 => ?_) _ f3 _ _ _ ⟨hok, hP, hS, 1, rfl, (by first | omega | (simp only [i_lt, i_le, i_eq, ti_m9, ti_m1, ti_0, ti_1, ti_2, ti_3, ti_4, ti_5, ti_6, ti_7, ti_9, ti_12, ti_20, ti_99, ti_700, ti_24, ti_156, ti_72, ti_8, ti_60, ti_543, ti_10, ti_33, ti_51, ti_178, ti_119, ti_111, ti_114, ti_100, ti_32, ti_62, ti_59, ti_48, ti_701, ti_97, ti_122, ti_57, ti_73, ti_128] at hp0 hp1 hlo3 c6 ⊢; omega)), lv_sub hl [1, 2, 3, 4, 5, 0] rfl⟩
    obtain ⟨hok, hP, hS, w5_7, hmu7, hlo7, hl⟩ := hI
    subst hmu7
    refine lv_iload hx hb dX1_fillLoops_52 (lv_at hl 5 rfl) ?_
    refine lv_iload_n hx hb dX1_fillLoops_54 rfl (lv_at hl 3 rfl) ?_
    refine lv_icmp_ge (tgt := 105) hx hb dX1_fillLoops_55 (by decide) (fun c8 => ?_) (fun c8 => ?_)
    · exact W.vret hx hb hr (fun t ht hW => ⟨⟨f7, rfl, trivial, hok, by rw [ht]; exact hP⟩, hS.F ht⟩) hS.2.2 dX1_fillLoops_105
    · refine lv_iconst (v := 0) hx hb dX1_fillLoops_58 (by decide) ?_
      refine lv_istore (lv' := [(6, .int 0), (0, .ref a0), (1, .ref a1), (2, .int v2), (3, .int v3), (4, .int r2), (5, .int w5_7)]) hx hb dX1_fillLoops_59 hl (by decide) rfl (fun ls hl => ?_)
      refine w_ind (I := fun n f H locs ls => OKT G cs tt mm f ∧ va_P (dC, dI) vwCl (va_pl (gL G) f) H ∧ va_S (AT G s.heap.size) s.heap H locs ∧ ∃ (w6_9 : Int32), n = (2147483647 - w6_9.toInt).toNat ∧ 0 ≤ w6_9 ∧ lv_has ls 7 [(0, .ref a0), (1, .ref a1), (2, .int v2), (3, .int v3), (4, .int r2), (5, .int w5_7), (6, .int w6_9)]) (fun n f9 H locs ls hI ih9 => ?_) _ f7 _ _ _ ⟨hok, hP, hS, 0, rfl, (by first | omega | (simp only [i_lt, i_le, i_eq, ti_m9, ti_m1, ti_0, ti_1, ti_2, ti_3, ti_4, ti_5, ti_6, ti_7, ti_9, ti_12, ti_20, ti_99, ti_700, ti_24, ti_156, ti_72, ti_8, ti_60, ti_543, ti_10, ti_33, ti_51, ti_178, ti_119, ti_111, ti_114, ti_100, ti_32, ti_62, ti_59, ti_48, ti_701, ti_97, ti_122, ti_57, ti_73, ti_128] at hp0 hp1 hlo3 c6 hlo7 c8 ⊢; omega)), lv_sub hl [1, 2, 3, 4, 5, 6, 0] rfl⟩
      obtain ⟨hok, hP, hS, w6_9, hmu9, hlo9, hl⟩ := hI
      subst hmu9
      refine lv_iload hx hb dX1_fillLoops_61 (lv_at hl 6 rfl) ?_
      refine lv_aload_n hx hb dX1_fillLoops_63 rfl (lv_at hl 1 rfl) ?_
      have he10 := ok_X7 hok ha1
      refine vp_callSi (va_Run.run (va_runV (As := []) (rest := [.int w6_9]) ⟨hx, hb, hml, hown, noTs⟩ (t_X7_stepKinds l dC dI H.size G cs tt mm a1 ha1) ⟨cbE 0 (wd_783 hE) (wd_116 hE) (wd_985 hE) rfl rfl (by decide +kernel) ⟨Nat.le_of_ble_eq_true rfl, Nat.le_of_ble_eq_true rfl⟩, (wd_781 hE), (wd_782 hE)⟩ ⟨PT.blind, th_recv hK hP ha1.1 he10 rfl, (th_pre (av := [.ref a1]) trivial hK hP hok hnd hWT hE)⟩ rfl rfl hl.1 rfl (lv_room (Nat.le_of_ble_eq_true rfl)) dX1_fillLoops_64 ⟨Nat.le_of_ble_eq_true rfl, Nat.le_of_ble_eq_true rfl⟩)) (fun r11 hr11 => ?_)
      refine lv_icmp_ge (tgt := 99) hx hb dX1_fillLoops_67 (by decide) (fun c12 => ?_) (fun c12 => ?_)
      · obtain ⟨z13, ez13⟩ : ∃ z : Int32, z = w5_7 + 1 := ⟨_, rfl⟩
        refine lv_iinc (v := z13) (lv' := [(5, .int z13), (0, .ref a0), (1, .ref a1), (2, .int v2), (3, .int v3), (4, .int r2), (6, .int w6_9)]) hx hb dX1_fillLoops_99 hl (k := 5) rfl (by rw [ez13]; rfl) (by decide) rfl (fun ls hl => ?_)
        have ic13 : z13.toInt = w5_7.toInt + 1 := by rw [ez13]; exact ic_up (by have := i_rng w5_3; have := i_rng r5; have := i_rng w5_7; have := i_rng v3; have := i_rng w6_9; have := i_rng r11; simp only [i_lt, i_le, i_eq, ti_m9, ti_m1, ti_0, ti_1, ti_2, ti_3, ti_4, ti_5, ti_6, ti_7, ti_9, ti_12, ti_20, ti_99, ti_700, ti_24, ti_156, ti_72, ti_8, ti_60, ti_543, ti_10, ti_33, ti_51, ti_178, ti_119, ti_111, ti_114, ti_100, ti_32, ti_62, ti_59, ti_48, ti_701, ti_97, ti_122, ti_57, ti_73, ti_128] at hp0 hp1 hlo3 c6 hlo7 c8 hlo9 c12 ⊢; omega)
        refine lv_goto (tgt := 52) hx hb dX1_fillLoops_102 (by decide) ?_
        exact ih7 _ f9 _ _ _ (by have := i_rng z13; first | omega | (simp only [i_lt, i_le, i_eq, ti_m9, ti_m1, ti_0, ti_1, ti_2, ti_3, ti_4, ti_5, ti_6, ti_7, ti_9, ti_12, ti_20, ti_99, ti_700, ti_24, ti_156, ti_72, ti_8, ti_60, ti_543, ti_10, ti_33, ti_51, ti_178, ti_119, ti_111, ti_114, ti_100, ti_32, ti_62, ti_59, ti_48, ti_701, ti_97, ti_122, ti_57, ti_73, ti_128, ic13] at hp0 hp1 hlo3 c6 hlo7 c8 hlo9 c12 ic13 ⊢; omega)) ⟨hok, hP, hS, z13, rfl, (by first | omega | (simp only [i_lt, i_le, i_eq, ti_m9, ti_m1, ti_0, ti_1, ti_2, ti_3, ti_4, ti_5, ti_6, ti_7, ti_9, ti_12, ti_20, ti_99, ti_700, ti_24, ti_156, ti_72, ti_8, ti_60, ti_543, ti_10, ti_33, ti_51, ti_178, ti_119, ti_111, ti_114, ti_100, ti_32, ti_62, ti_59, ti_48, ti_701, ti_97, ti_122, ti_57, ti_73, ti_128, ic13] at hp0 hp1 hlo3 c6 hlo7 c8 hlo9 c12 ⊢; omega)), lv_sub hl [1, 2, 3, 4, 5, 0] rfl⟩
      · refine lv_aload_n hx hb dX1_fillLoops_70 rfl (lv_at hl 0 rfl) ?_
        refine lv_iload hx hb dX1_fillLoops_71 (lv_at hl 5 rfl) ?_
        refine lv_iload hx hb dX1_fillLoops_73 (lv_at hl 6 rfl) ?_
        refine lv_aload_n hx hb dX1_fillLoops_75 rfl (lv_at hl 0 rfl) ?_
        refine lv_aload_n hx hb dX1_fillLoops_76 rfl (lv_at hl 1 rfl) ?_
        refine lv_aload_n hx hb dX1_fillLoops_77 rfl (lv_at hl 1 rfl) ?_
        refine lv_iload hx hb dX1_fillLoops_78 (lv_at hl 6 rfl) ?_
        refine vp_callSi (va_Run.run (va_runV (As := [.int w6_9]) (rest := [.ref a1, .ref a0, .int w6_9, .int w5_7, .ref a0]) ⟨hx, hb, hml, hown, noTs⟩ (t_X7_toVertex l dC dI H.size G cs tt mm a1 ha1 w6_9) ⟨cbE 1 (wd_692 hE) (wd_116 hE) (wd_986 hE) rfl rfl (by decide +kernel) ⟨Nat.le_of_ble_eq_true rfl, Nat.le_of_ble_eq_true rfl⟩, (wd_690 hE), (wd_691 hE)⟩ ⟨PT.blind, th_recv hK hP ha1.1 he10 rfl, (th_pre (av := [.ref a1, .int w6_9]) trivial hK hP hok hnd hWT hE)⟩ rfl rfl hl.1 rfl (lv_room (Nat.le_of_ble_eq_true rfl)) dX1_fillLoops_80 ⟨Nat.le_of_ble_eq_true rfl, Nat.le_of_ble_eq_true rfl⟩)) (fun r14 hr14 => ?_)
        refine lv_iload hx hb dX1_fillLoops_83 (lv_at hl 6 rfl) ?_
        refine lv_iload hx hb dX1_fillLoops_85 (lv_at hl 5 rfl) ?_
        have he15 := ok_X1 hok ha0
        refine vp_callSl (va_Run.run (va_runV (As := [.ref a1, .int r14, .int w6_9, .int w5_7]) (rest := [.int w6_9, .int w5_7, .ref a0]) ⟨hx, hb, hml, hown, noTs⟩ (t_X1_waysFrom l dC dI H.size G cs tt mm a0 ha0 a1 ha1 r14 w6_9 w5_7 (by first | omega | (simp only [i_lt, i_le, i_eq, ti_m9, ti_m1, ti_0, ti_1, ti_2, ti_3, ti_4, ti_5, ti_6, ti_7, ti_9, ti_12, ti_20, ti_99, ti_700, ti_24, ti_156, ti_72, ti_8, ti_60, ti_543, ti_10, ti_33, ti_51, ti_178, ti_119, ti_111, ti_114, ti_100, ti_32, ti_62, ti_59, ti_48, ti_701, ti_97, ti_122, ti_57, ti_73, ti_128] at hp0 hp1 hlo3 c6 hlo7 c8 hlo9 c12 ⊢; omega)) (by first | omega | (simp only [i_lt, i_le, i_eq, ti_m9, ti_m1, ti_0, ti_1, ti_2, ti_3, ti_4, ti_5, ti_6, ti_7, ti_9, ti_12, ti_20, ti_99, ti_700, ti_24, ti_156, ti_72, ti_8, ti_60, ti_543, ti_10, ti_33, ti_51, ti_178, ti_119, ti_111, ti_114, ti_100, ti_32, ti_62, ti_59, ti_48, ti_701, ti_97, ti_122, ti_57, ti_73, ti_128] at hp0 hp1 hlo3 c6 hlo7 c8 hlo9 c12 ⊢; omega))) ⟨cbE 4 (wd_994 hE) (wd_125 hE) (wd_991 hE) rfl rfl (by decide +kernel) ⟨Nat.le_of_ble_eq_true rfl, Nat.le_of_ble_eq_true rfl⟩, (wd_993 hE), (wd_34 hE)⟩ ⟨PT.blind, th_recv hK hP ha0.1 he15 rfl, (th_pre (av := [.ref a0, .ref a1, .int r14, .int w6_9, .int w5_7]) trivial hK hP hok hnd hWT hE)⟩ rfl rfl hl.1 rfl (lv_room (Nat.le_of_ble_eq_true rfl)) dX1_fillLoops_87 ⟨Nat.le_of_ble_eq_true rfl, Nat.le_of_ble_eq_true rfl⟩)) (fun r16 hr16 => ?_)
        refine tc_v hAL hS hA (va_runV (As := [.int w5_7, .int w6_9, .long r16]) (rest := []) ⟨hx, hb, hml, hown, noTs⟩ (t_X1_setWays l dC dI H.size G cs tt mm a0 ha0 w5_7 w6_9 r16 (by first | omega | (simp only [i_lt, i_le, i_eq, ti_m9, ti_m1, ti_0, ti_1, ti_2, ti_3, ti_4, ti_5, ti_6, ti_7, ti_9, ti_12, ti_20, ti_99, ti_700, ti_24, ti_156, ti_72, ti_8, ti_60, ti_543, ti_10, ti_33, ti_51, ti_178, ti_119, ti_111, ti_114, ti_100, ti_32, ti_62, ti_59, ti_48, ti_701, ti_97, ti_122, ti_57, ti_73, ti_128] at hp0 hp1 hlo3 c6 hlo7 c8 hlo9 c12 ⊢; omega))) ⟨cbE 3 (wd_990 hE) (wd_125 hE) (wd_987 hE) rfl rfl (by decide +kernel) ⟨Nat.le_of_ble_eq_true rfl, Nat.le_of_ble_eq_true rfl⟩, (wd_989 hE), (wd_33 hE)⟩ ⟨PT.blind, th_recv hK hP ha0.1 he15 rfl, (th_pre (av := [.ref a0, .int w5_7, .int w6_9, .long r16]) trivial hK hP hok hnd hWT hE)⟩ rfl rfl hl.1 rfl (lv_room (Nat.le_of_ble_eq_true rfl)) dX1_fillLoops_90 ⟨Nat.le_of_ble_eq_true rfl, Nat.le_of_ble_eq_true rfl⟩) (fun f17 H locs hr17 hok hP hS => ?_)
        obtain ⟨z18, ez18⟩ : ∃ z : Int32, z = w6_9 + 1 := ⟨_, rfl⟩
        refine lv_iinc (v := z18) (lv' := [(6, .int z18), (0, .ref a0), (1, .ref a1), (2, .int v2), (3, .int v3), (4, .int r2), (5, .int w5_7)]) hx hb dX1_fillLoops_93 hl (k := 6) rfl (by rw [ez18]; rfl) (by decide) rfl (fun ls hl => ?_)
        have ic18 : z18.toInt = w6_9.toInt + 1 := by rw [ez18]; exact ic_up (by have := i_rng w5_3; have := i_rng r5; have := i_rng w5_7; have := i_rng v3; have := i_rng w6_9; have := i_rng r11; simp only [i_lt, i_le, i_eq, ti_m9, ti_m1, ti_0, ti_1, ti_2, ti_3, ti_4, ti_5, ti_6, ti_7, ti_9, ti_12, ti_20, ti_99, ti_700, ti_24, ti_156, ti_72, ti_8, ti_60, ti_543, ti_10, ti_33, ti_51, ti_178, ti_119, ti_111, ti_114, ti_100, ti_32, ti_62, ti_59, ti_48, ti_701, ti_97, ti_122, ti_57, ti_73, ti_128] at hp0 hp1 hlo3 c6 hlo7 c8 hlo9 c12 ⊢; omega)
        refine lv_goto (tgt := 61) hx hb dX1_fillLoops_96 (by decide) ?_
        exact ih9 _ f17 _ _ _ (by have := i_rng z18; first | omega | (simp only [i_lt, i_le, i_eq, ti_m9, ti_m1, ti_0, ti_1, ti_2, ti_3, ti_4, ti_5, ti_6, ti_7, ti_9, ti_12, ti_20, ti_99, ti_700, ti_24, ti_156, ti_72, ti_8, ti_60, ti_543, ti_10, ti_33, ti_51, ti_178, ti_119, ti_111, ti_114, ti_100, ti_32, ti_62, ti_59, ti_48, ti_701, ti_97, ti_122, ti_57, ti_73, ti_128, ic18] at hp0 hp1 hlo3 c6 hlo7 c8 hlo9 c12 ic18 ⊢; omega)) ⟨hok, hP, hS, z18, rfl, (by first | omega | (simp only [i_lt, i_le, i_eq, ti_m9, ti_m1, ti_0, ti_1, ti_2, ti_3, ti_4, ti_5, ti_6, ti_7, ti_9, ti_12, ti_20, ti_99, ti_700, ti_24, ti_156, ti_72, ti_8, ti_60, ti_543, ti_10, ti_33, ti_51, ti_178, ti_119, ti_111, ti_114, ti_100, ti_32, ti_62, ti_59, ti_48, ti_701, ti_97, ti_122, ti_57, ti_73, ti_128, ic18] at hp0 hp1 hlo3 c6 hlo7 c8 hlo9 c12 ⊢; omega)), lv_sub hl [1, 2, 3, 4, 5, 6, 0] rfl⟩
  · refine lv_aload_n hx hb dX1_fillLoops_19 rfl (lv_at hl 0 rfl) ?_
    refine lv_iconst (v := 0) hx hb dX1_fillLoops_20 (by decide) ?_
    refine lv_iload hx hb dX1_fillLoops_21 (lv_at hl 5 rfl) ?_
    refine lv_aload_n hx hb dX1_fillLoops_23 rfl (lv_at hl 1 rfl) ?_
    refine lv_iload hx hb dX1_fillLoops_24 (lv_at hl 5 rfl) ?_
    refine vp_callSi (va_Run.run (va_runV (As := [.int w5_3]) (rest := [.int w5_3, .int 0, .ref a0]) ⟨hx, hb, hml, hown, noTs⟩ (t_X7_toVertex l dC dI H.size G cs tt mm a1 ha1 w5_3) ⟨cbE 1 (wd_692 hE) (wd_116 hE) (wd_986 hE) rfl rfl (by decide +kernel) ⟨Nat.le_of_ble_eq_true rfl, Nat.le_of_ble_eq_true rfl⟩, (wd_690 hE), (wd_691 hE)⟩ ⟨PT.blind, th_recv hK hP ha1.1 he4 rfl, (th_pre (av := [.ref a1, .int w5_3]) trivial hK hP hok hnd hWT hE)⟩ rfl rfl hl.1 rfl (lv_room (Nat.le_of_ble_eq_true rfl)) dX1_fillLoops_26 ⟨Nat.le_of_ble_eq_true rfl, Nat.le_of_ble_eq_true rfl⟩)) (fun r19 hr19 => ?_)
    refine lv_iload_n hx hb dX1_fillLoops_29 rfl (lv_at hl 2 rfl) ?_
    refine lv_icmp_ne (tgt := 39) hx hb dX1_fillLoops_30 (by decide) (fun c20 => ?_) (fun c20 => ?_)
    · refine lv_lconst (v := 0) hx hb dX1_fillLoops_39 (by decide) ?_
      have he21 := ok_X1 hok ha0
      refine tc_v hAL hS hA (va_runV (As := [.int 0, .int w5_3, .long 0]) (rest := []) ⟨hx, hb, hml, hown, noTs⟩ (t_X1_setWays l dC dI H.size G cs tt mm a0 ha0 0 w5_3 0 (by first | omega | (simp only [i_lt, i_le, i_eq, ti_m9, ti_m1, ti_0, ti_1, ti_2, ti_3, ti_4, ti_5, ti_6, ti_7, ti_9, ti_12, ti_20, ti_99, ti_700, ti_24, ti_156, ti_72, ti_8, ti_60, ti_543, ti_10, ti_33, ti_51, ti_178, ti_119, ti_111, ti_114, ti_100, ti_32, ti_62, ti_59, ti_48, ti_701, ti_97, ti_122, ti_57, ti_73, ti_128] at hp0 hp1 hlo3 c6 c20 ⊢; omega))) ⟨cbE 3 (wd_990 hE) (wd_125 hE) (wd_987 hE) rfl rfl (by decide +kernel) ⟨Nat.le_of_ble_eq_true rfl, Nat.le_of_ble_eq_true rfl⟩, (wd_989 hE), (wd_33 hE)⟩ ⟨PT.blind, th_recv hK hP ha0.1 he21 rfl, (th_pre (av := [.ref a0, .int 0, .int w5_3, .long 0]) trivial hK hP hok hnd hWT hE)⟩ rfl rfl hl.1 rfl (lv_room (Nat.le_of_ble_eq_true rfl)) dX1_fillLoops_40 ⟨Nat.le_of_ble_eq_true rfl, Nat.le_of_ble_eq_true rfl⟩) (fun f22 H locs hr22 hok hP hS => ?_)
      obtain ⟨z23, ez23⟩ : ∃ z : Int32, z = w5_3 + 1 := ⟨_, rfl⟩
      refine lv_iinc (v := z23) (lv' := [(5, .int z23), (0, .ref a0), (1, .ref a1), (2, .int v2), (3, .int v3), (4, .int r2)]) hx hb dX1_fillLoops_43 hl (k := 5) rfl (by rw [ez23]; rfl) (by decide) rfl (fun ls hl => ?_)
      have ic23 : z23.toInt = w5_3.toInt + 1 := by rw [ez23]; exact ic_up (by have := i_rng w5_3; have := i_rng r5; have := i_rng r19; have := i_rng v2; simp only [i_lt, i_le, i_eq, ti_m9, ti_m1, ti_0, ti_1, ti_2, ti_3, ti_4, ti_5, ti_6, ti_7, ti_9, ti_12, ti_20, ti_99, ti_700, ti_24, ti_156, ti_72, ti_8, ti_60, ti_543, ti_10, ti_33, ti_51, ti_178, ti_119, ti_111, ti_114, ti_100, ti_32, ti_62, ti_59, ti_48, ti_701, ti_97, ti_122, ti_57, ti_73, ti_128] at hp0 hp1 hlo3 c6 c20 ⊢; omega)
      refine lv_goto (tgt := 10) hx hb dX1_fillLoops_46 (by decide) ?_
      exact ih3 _ f22 _ _ _ (by have := i_rng z23; first | omega | (simp only [i_lt, i_le, i_eq, ti_m9, ti_m1, ti_0, ti_1, ti_2, ti_3, ti_4, ti_5, ti_6, ti_7, ti_9, ti_12, ti_20, ti_99, ti_700, ti_24, ti_156, ti_72, ti_8, ti_60, ti_543, ti_10, ti_33, ti_51, ti_178, ti_119, ti_111, ti_114, ti_100, ti_32, ti_62, ti_59, ti_48, ti_701, ti_97, ti_122, ti_57, ti_73, ti_128, ic23] at hp0 hp1 hlo3 c6 c20 ic23 ⊢; omega)) ⟨hok, hP, hS, z23, rfl, (by first | omega | (simp only [i_lt, i_le, i_eq, ti_m9, ti_m1, ti_0, ti_1, ti_2, ti_3, ti_4, ti_5, ti_6, ti_7, ti_9, ti_12, ti_20, ti_99, ti_700, ti_24, ti_156, ti_72, ti_8, ti_60, ti_543, ti_10, ti_33, ti_51, ti_178, ti_119, ti_111, ti_114, ti_100, ti_32, ti_62, ti_59, ti_48, ti_701, ti_97, ti_122, ti_57, ti_73, ti_128, ic23] at hp0 hp1 hlo3 c6 c20 ⊢; omega)), lv_sub hl [1, 2, 3, 4, 5, 0] rfl⟩
    · refine lv_iload hx hb dX1_fillLoops_33 (lv_at hl 4 rfl) ?_
      refine lv_i2l hx hb dX1_fillLoops_35 rfl ?_
      refine lv_topl (fun x24 _ => ?_)
      refine lv_goto (tgt := 40) hx hb dX1_fillLoops_36 (by decide) ?_
      have he25 := ok_X1 hok ha0
      refine tc_v hAL hS hA (va_runV (As := [.int 0, .int w5_3, .long x24]) (rest := []) ⟨hx, hb, hml, hown, noTs⟩ (t_X1_setWays l dC dI H.size G cs tt mm a0 ha0 0 w5_3 x24 (by first | omega | (simp only [i_lt, i_le, i_eq, ti_m9, ti_m1, ti_0, ti_1, ti_2, ti_3, ti_4, ti_5, ti_6, ti_7, ti_9, ti_12, ti_20, ti_99, ti_700, ti_24, ti_156, ti_72, ti_8, ti_60, ti_543, ti_10, ti_33, ti_51, ti_178, ti_119, ti_111, ti_114, ti_100, ti_32, ti_62, ti_59, ti_48, ti_701, ti_97, ti_122, ti_57, ti_73, ti_128] at hp0 hp1 hlo3 c6 c20 ⊢; omega))) ⟨cbE 3 (wd_990 hE) (wd_125 hE) (wd_987 hE) rfl rfl (by decide +kernel) ⟨Nat.le_of_ble_eq_true rfl, Nat.le_of_ble_eq_true rfl⟩, (wd_989 hE), (wd_33 hE)⟩ ⟨PT.blind, th_recv hK hP ha0.1 he25 rfl, (th_pre (av := [.ref a0, .int 0, .int w5_3, .long x24]) trivial hK hP hok hnd hWT hE)⟩ rfl rfl hl.1 rfl (lv_room (Nat.le_of_ble_eq_true rfl)) dX1_fillLoops_40 ⟨Nat.le_of_ble_eq_true rfl, Nat.le_of_ble_eq_true rfl⟩) (fun f26 H locs hr26 hok hP hS => ?_)
      obtain ⟨z27, ez27⟩ : ∃ z : Int32, z = w5_3 + 1 := ⟨_, rfl⟩
      refine lv_iinc (v := z27) (lv' := [(5, .int z27), (0, .ref a0), (1, .ref a1), (2, .int v2), (3, .int v3), (4, .int r2)]) hx hb dX1_fillLoops_43 hl (k := 5) rfl (by rw [ez27]; rfl) (by decide) rfl (fun ls hl => ?_)
      have ic27 : z27.toInt = w5_3.toInt + 1 := by rw [ez27]; exact ic_up (by have := i_rng w5_3; have := i_rng r5; have := i_rng r19; have := i_rng v2; simp only [i_lt, i_le, i_eq, ti_m9, ti_m1, ti_0, ti_1, ti_2, ti_3, ti_4, ti_5, ti_6, ti_7, ti_9, ti_12, ti_20, ti_99, ti_700, ti_24, ti_156, ti_72, ti_8, ti_60, ti_543, ti_10, ti_33, ti_51, ti_178, ti_119, ti_111, ti_114, ti_100, ti_32, ti_62, ti_59, ti_48, ti_701, ti_97, ti_122, ti_57, ti_73, ti_128] at hp0 hp1 hlo3 c6 c20 ⊢; omega)
      refine lv_goto (tgt := 10) hx hb dX1_fillLoops_46 (by decide) ?_
      exact ih3 _ f26 _ _ _ (by have := i_rng z27; first | omega | (simp only [i_lt, i_le, i_eq, ti_m9, ti_m1, ti_0, ti_1, ti_2, ti_3, ti_4, ti_5, ti_6, ti_7, ti_9, ti_12, ti_20, ti_99, ti_700, ti_24, ti_156, ti_72, ti_8, ti_60, ti_543, ti_10, ti_33, ti_51, ti_178, ti_119, ti_111, ti_114, ti_100, ti_32, ti_62, ti_59, ti_48, ti_701, ti_97, ti_122, ti_57, ti_73, ti_128, ic27] at hp0 hp1 hlo3 c6 c20 ic27 ⊢; omega)) ⟨hok, hP, hS, z27, rfl, (by first | omega | (simp only [i_lt, i_le, i_eq, ti_m9, ti_m1, ti_0, ti_1, ti_2, ti_3, ti_4, ti_5, ti_6, ti_7, ti_9, ti_12, ti_20, ti_99, ti_700, ti_24, ti_156, ti_72, ti_8, ti_60, ti_543, ti_10, ti_33, ti_51, ti_178, ti_119, ti_111, ti_114, ti_100, ti_32, ti_62, ti_59, ti_48, ti_701, ti_97, ti_122, ti_57, ti_73, ti_128, ic27] at hp0 hp1 hlo3 c6 c20 ⊢; omega)), lv_sub hl [1, 2, 3, 4, 5, 0] rfl⟩

set_option maxHeartbeats 4000000 in
set_option maxRecDepth 100000 in
theorem t_X1_loops (l : Launch) (dC : Nat → ClassId) (dI : Nat → Nat → Nat) (sz : Nat) (G : GT) (cs : Nat → ClassId) (tt mm : Nat) (a0 : Nat) (ha0 : Ty G a0 2) (a1 : Nat) (ha1 : Ty G a1 7) (v2 : Int32) (v3 : Int32) (hp0 : 0 ≤ v3.toInt) (hp1 : v3.toInt ≤ 12) : Met l yX1_loops [.code yX1_loops cX1_loops 4 (some .long)] ({ frames := 5, cells := 0, slots := 0, locals := 200 }) (PT [.ref a0, .ref a1, .int v2, .int v3] sz dC dI G cs tt mm (fun _ => True)) (va_Ql (fun (r : Int64) (u : Nat → va_E) => True) (BT dC dI G cs tt mm) (AT G sz)) 0 0 (AT G sz) := by
  refine Met.ofW (cc := cX1_loops) (maxL := 4) (ret := (some .long)) (by decide) rfl ?_
  intro p e s m args below meth c s₁ B hml hv
  obtain ⟨rfl, hsz, ⟨f0, hok, hP, hX⟩, hK, hnd, hWT, hE⟩ := hv
  have hx := B.exec
  have hb := B.bytes
  have hr := B.returns
  have hown : s.vm.findClass RX1 = some m.cls := findClass_of_methodNamed B.named
  have hlocks := B.notSynchronized
  subst hsz
  have hAL : ∀ a, a ∈ gL G → AT G s.heap.size a := fun a h => Or.inl h
  have hA : ∀ q : Nat, s.heap.size ≤ q → AT G s.heap.size q := fun q h => Or.inr h
  have hS : va_S (AT G s.heap.size) s.heap s.heap [] := va_S.rf
  have hl := lv_entry ([.ref a0, .ref a1, .int v2, .int v3]) (n := 4) (Nat.le_of_ble_eq_true rfl)
  rw [lg_entry_eq]
  generalize (lg_sl ([.ref a0, .ref a1, .int v2, .int v3]) ++ List.replicate (4 - (lg_sl ([.ref a0, .ref a1, .int v2, .int v3])).length) Slot.unset).toArray = ls at hl ⊢
  have hl : lv_has ls 4 [(0, .ref a0), (1, .ref a1), (2, .int v2), (3, .int v3)] := hl
  refine lv_aload_n hx hb dX1_loops_0 rfl (lv_at hl 0 rfl) ?_
  refine lv_aload_n hx hb dX1_loops_1 rfl (lv_at hl 1 rfl) ?_
  refine lv_iload_n hx hb dX1_loops_2 rfl (lv_at hl 2 rfl) ?_
  refine lv_iload_n hx hb dX1_loops_3 rfl (lv_at hl 3 rfl) ?_
  have he1 := ok_X1 hok ha0
  refine tc_v hAL hS hA (va_runV (As := [.ref a1, .int v2, .int v3]) (rest := []) ⟨hx, hb, hml, hown, noTs⟩ (t_X1_fillLoops l dC dI s.heap.size G cs tt mm a0 ha0 a1 ha1 v2 v3 (by first | omega | (simp only [i_lt, i_le, i_eq, ti_m9, ti_m1, ti_0, ti_1, ti_2, ti_3, ti_4, ti_5, ti_6, ti_7, ti_9, ti_12, ti_20, ti_99, ti_700, ti_24, ti_156, ti_72, ti_8, ti_60, ti_543, ti_10, ti_33, ti_51, ti_178, ti_119, ti_111, ti_114, ti_100, ti_32, ti_62, ti_59, ti_48, ti_701, ti_97, ti_122, ti_57, ti_73, ti_128] at hp0 hp1 ⊢; omega)) (by first | omega | (simp only [i_lt, i_le, i_eq, ti_m9, ti_m1, ti_0, ti_1, ti_2, ti_3, ti_4, ti_5, ti_6, ti_7, ti_9, ti_12, ti_20, ti_99, ti_700, ti_24, ti_156, ti_72, ti_8, ti_60, ti_543, ti_10, ti_33, ti_51, ti_178, ti_119, ti_111, ti_114, ti_100, ti_32, ti_62, ti_59, ti_48, ti_701, ti_97, ti_122, ti_57, ti_73, ti_128] at hp0 hp1 ⊢; omega))) ⟨cbE 3 (wd_983 hE) (wd_125 hE) (wd_980 hE) rfl rfl (by decide +kernel) ⟨Nat.le_of_ble_eq_true rfl, Nat.le_of_ble_eq_true rfl⟩, (wd_982 hE), (wd_32 hE)⟩ ⟨PT.blind, th_recv hK hP ha0.1 he1 rfl, (th_pre (av := [.ref a0, .ref a1, .int v2, .int v3]) trivial hK hP hok hnd hWT hE)⟩ rfl rfl hl.1 rfl (lv_room (Nat.le_of_ble_eq_true rfl)) dX1_loops_4 ⟨Nat.le_of_ble_eq_true rfl, Nat.le_of_ble_eq_true rfl⟩) (fun f2 H locs hr2 hok hP hS => ?_)
  refine lv_iload_n hx hb dX1_loops_7 rfl (lv_at hl 3 rfl) ?_
  refine lv_iconst (v := 1) hx hb dX1_loops_8 (by decide) ?_
  refine lv_icmp_ge (tgt := 21) hx hb dX1_loops_9 (by decide) (fun c3 => ?_) (fun c3 => ?_)
  · refine lv_aload_n hx hb dX1_loops_21 rfl (lv_at hl 0 rfl) ?_
    refine lv_aload_n hx hb dX1_loops_22 rfl (lv_at hl 1 rfl) ?_
    refine lv_iload_n hx hb dX1_loops_23 rfl (lv_at hl 2 rfl) ?_
    refine lv_bipush (v := 12) hx hb dX1_loops_24 (by decide) ?_
    refine lv_iload_n hx hb dX1_loops_26 rfl (lv_at hl 3 rfl) ?_
    have he4 := ok_X1 hok ha0
    refine vp_callSl (va_Run.run (va_runV (As := [.ref a1, .int v2, .int 12, .int v3]) (rest := []) ⟨hx, hb, hml, hown, noTs⟩ (t_X1_waysFrom l dC dI H.size G cs tt mm a0 ha0 a1 ha1 v2 12 v3 (by first | omega | (simp only [i_lt, i_le, i_eq, ti_m9, ti_m1, ti_0, ti_1, ti_2, ti_3, ti_4, ti_5, ti_6, ti_7, ti_9, ti_12, ti_20, ti_99, ti_700, ti_24, ti_156, ti_72, ti_8, ti_60, ti_543, ti_10, ti_33, ti_51, ti_178, ti_119, ti_111, ti_114, ti_100, ti_32, ti_62, ti_59, ti_48, ti_701, ti_97, ti_122, ti_57, ti_73, ti_128] at hp0 hp1 c3 ⊢; omega)) (by first | omega | (simp only [i_lt, i_le, i_eq, ti_m9, ti_m1, ti_0, ti_1, ti_2, ti_3, ti_4, ti_5, ti_6, ti_7, ti_9, ti_12, ti_20, ti_99, ti_700, ti_24, ti_156, ti_72, ti_8, ti_60, ti_543, ti_10, ti_33, ti_51, ti_178, ti_119, ti_111, ti_114, ti_100, ti_32, ti_62, ti_59, ti_48, ti_701, ti_97, ti_122, ti_57, ti_73, ti_128] at hp0 hp1 c3 ⊢; omega))) ⟨cbE 4 (wd_994 hE) (wd_125 hE) (wd_991 hE) rfl rfl (by decide +kernel) ⟨Nat.le_of_ble_eq_true rfl, Nat.le_of_ble_eq_true rfl⟩, (wd_993 hE), (wd_34 hE)⟩ ⟨PT.blind, th_recv hK hP ha0.1 he4 rfl, (th_pre (av := [.ref a0, .ref a1, .int v2, .int 12, .int v3]) trivial hK hP hok hnd hWT hE)⟩ rfl rfl hl.1 rfl (lv_room (Nat.le_of_ble_eq_true rfl)) dX1_loops_27 ⟨Nat.le_of_ble_eq_true rfl, Nat.le_of_ble_eq_true rfl⟩)) (fun r5 hr5 => ?_)
    exact W.lret (v := r5) hx hb hr (fun t ht hW => ⟨⟨r5, f2, rfl, trivial, hok, by rw [ht]; exact hP⟩, hS.F ht⟩) hS.2.2 dX1_loops_30
  · refine lv_aload_n hx hb dX1_loops_12 rfl (lv_at hl 1 rfl) ?_
    refine lv_iload_n hx hb dX1_loops_13 rfl (lv_at hl 2 rfl) ?_
    have he6 := ok_X7 hok ha1
    refine vp_callSi (va_Run.run (va_runV (As := [.int v2]) (rest := []) ⟨hx, hb, hml, hown, noTs⟩ (t_X7_orderAt l dC dI H.size G cs tt mm a1 ha1 v2) ⟨cbE 1 (wd_614 hE) (wd_116 hE) (wd_984 hE) rfl rfl (by decide +kernel) ⟨Nat.le_of_ble_eq_true rfl, Nat.le_of_ble_eq_true rfl⟩, (wd_612 hE), (wd_613 hE)⟩ ⟨PT.blind, th_recv hK hP ha1.1 he6 rfl, (th_pre (av := [.ref a1, .int v2]) trivial hK hP hok hnd hWT hE)⟩ rfl rfl hl.1 rfl (lv_room (Nat.le_of_ble_eq_true rfl)) dX1_loops_14 ⟨Nat.le_of_ble_eq_true rfl, Nat.le_of_ble_eq_true rfl⟩)) (fun r7 hr7 => ?_)
    refine lv_i2l hx hb dX1_loops_17 rfl ?_
    refine lv_topl (fun x8 _ => ?_)
    refine lv_goto (tgt := 30) hx hb dX1_loops_18 (by decide) ?_
    exact W.lret (v := x8) hx hb hr (fun t ht hW => ⟨⟨x8, f2, rfl, trivial, hok, by rw [ht]; exact hP⟩, hS.F ht⟩) hS.2.2 dX1_loops_30

set_option maxHeartbeats 4000000 in
set_option maxRecDepth 100000 in
theorem t_X7_common (l : Launch) (dC : Nat → ClassId) (dI : Nat → Nat → Nat) (sz : Nat) (G : GT) (cs : Nat → ClassId) (tt mm : Nat) (a0 : Nat) (ha0 : Ty G a0 7) (v1 : Int32) : Met l yX7_common [.code yX7_common cX7_common 2 (some .int)] ({ frames := 1, cells := 0, slots := 0, locals := 40 }) (PT [.ref a0, .int v1] sz dC dI G cs tt mm (fun _ => True)) (vp_Si (fun (r : Int32) => True)) 0 0 (fun _ => False) := by
  refine Met.ofW (cc := cX7_common) (maxL := 2) (ret := (some .int)) (by decide) rfl ?_
  intro p e s m args below meth c s₁ B hml hv
  obtain ⟨rfl, hsz, ⟨f0, hok, hP, hX⟩, hK, hnd, hWT, hE⟩ := hv
  have hx := B.exec
  have hb := B.bytes
  have hr := B.returns
  have hown : s.vm.findClass RX7 = some m.cls := findClass_of_methodNamed B.named
  have hlocks := B.notSynchronized
  subst hsz
  have hl := lv_entry ([.ref a0, .int v1]) (n := 2) (Nat.le_of_ble_eq_true rfl)
  rw [lg_entry_eq]
  generalize (lg_sl ([.ref a0, .int v1]) ++ List.replicate (2 - (lg_sl ([.ref a0, .int v1])).length) Slot.unset).toArray = ls at hl ⊢
  have hl : lv_has ls 2 [(0, .ref a0), (1, .int v1)] := hl
  refine lv_aload_n hx hb dX7_common_0 rfl (lv_at hl 0 rfl) ?_
  refine lv_aload_n hx hb dX7_common_1 rfl (lv_at hl 0 rfl) ?_
  refine lv_iload_n hx hb dX7_common_2 rfl (lv_at hl 1 rfl) ?_
  refine lv_iconst (v := 0) hx hb dX7_common_3 (by decide) ?_
  have he1 := ok_X7 hok ha0
  refine vp_callSi (va_Run.run (va_runV (As := [.int v1, .int 0]) (rest := [.ref a0]) ⟨hx, hb, hml, hown, noTs⟩ (t_X7_edgePart l dC dI s.heap.size G cs tt mm a0 ha0 v1 0) ⟨cbE 2 (wd_684 hE) (wd_116 hE) (wd_681 hE) rfl rfl (by decide +kernel) ⟨Nat.le_of_ble_eq_true rfl, Nat.le_of_ble_eq_true rfl⟩, (wd_682 hE), (wd_683 hE)⟩ ⟨PT.blind, th_recv hK hP ha0.1 he1 rfl, (th_pre (av := [.ref a0, .int v1, .int 0]) trivial hK hP hok hnd hWT hE)⟩ rfl rfl hl.1 rfl (lv_room (Nat.le_of_ble_eq_true rfl)) dX7_common_4 ⟨Nat.le_of_ble_eq_true rfl, Nat.le_of_ble_eq_true rfl⟩)) (fun r2 hr2 => ?_)
  refine vp_callSi (va_Run.run (va_runV (As := [.int r2]) (rest := []) ⟨hx, hb, hml, hown, noTs⟩ (t_X7_orderAt l dC dI s.heap.size G cs tt mm a0 ha0 r2) ⟨cbE 1 (wd_614 hE) (wd_116 hE) (wd_807 hE) rfl rfl (by decide +kernel) ⟨Nat.le_of_ble_eq_true rfl, Nat.le_of_ble_eq_true rfl⟩, (wd_612 hE), (wd_613 hE)⟩ ⟨PT.blind, th_recv hK hP ha0.1 he1 rfl, (th_pre (av := [.ref a0, .int r2]) trivial hK hP hok hnd hWT hE)⟩ rfl rfl hl.1 rfl (lv_room (Nat.le_of_ble_eq_true rfl)) dX7_common_7 ⟨Nat.le_of_ble_eq_true rfl, Nat.le_of_ble_eq_true rfl⟩)) (fun r3 hr3 => ?_)
  refine lv_aload_n hx hb dX7_common_10 rfl (lv_at hl 0 rfl) ?_
  refine lv_iload_n hx hb dX7_common_11 rfl (lv_at hl 1 rfl) ?_
  refine lv_iconst (v := 1) hx hb dX7_common_12 (by decide) ?_
  refine vp_callSi (va_Run.run (va_runV (As := [.int v1, .int 1]) (rest := [.int r3]) ⟨hx, hb, hml, hown, noTs⟩ (t_X7_edgePart l dC dI s.heap.size G cs tt mm a0 ha0 v1 1) ⟨cbE 2 (wd_684 hE) (wd_116 hE) (wd_681 hE) rfl rfl (by decide +kernel) ⟨Nat.le_of_ble_eq_true rfl, Nat.le_of_ble_eq_true rfl⟩, (wd_682 hE), (wd_683 hE)⟩ ⟨PT.blind, th_recv hK hP ha0.1 he1 rfl, (th_pre (av := [.ref a0, .int v1, .int 1]) trivial hK hP hok hnd hWT hE)⟩ rfl rfl hl.1 rfl (lv_room (Nat.le_of_ble_eq_true rfl)) dX7_common_13 ⟨Nat.le_of_ble_eq_true rfl, Nat.le_of_ble_eq_true rfl⟩)) (fun r4 hr4 => ?_)
  refine vp_callSi (va_Run.run (va_runSN (As := [.int r3, .int r4]) (rest := []) ⟨hx, hb, hml, hown, noTs⟩ (t_X11_share l dC dI s.heap.size G cs tt mm r3 r4) ⟨cnE 2 (wd_620 hE) (wd_115 hE) (wd_808 hE) rfl rfl (by decide +kernel) ⟨Nat.le_of_ble_eq_true rfl, Nat.le_of_ble_eq_true rfl⟩, (wd_619 hE), trivial⟩ ⟨PT.blind, (th_pre (av := [.int r3, .int r4]) trivial hK hP hok hnd hWT hE)⟩ rfl rfl hl.1 rfl (lv_room (Nat.le_of_ble_eq_true rfl)) dX7_common_16 ⟨Nat.le_of_ble_eq_true rfl, Nat.le_of_ble_eq_true rfl⟩)) (fun r5 hr5 => ?_)
  exact W.iret (v := r5) hx hb hr (fun t ht hW => ⟨r5, rfl, trivial, ht⟩) (fun _ h => absurd h List.not_mem_nil) dX7_common_19

set_option maxHeartbeats 4000000 in
set_option maxRecDepth 100000 in
theorem t_X1_held (l : Launch) (dC : Nat → ClassId) (dI : Nat → Nat → Nat) (sz : Nat) (G : GT) (cs : Nat → ClassId) (tt mm : Nat) (a0 : Nat) (ha0 : Ty G a0 2) (a1 : Nat) (ha1 : Ty G a1 7) (v2 : Int32) (v3 : Int32) (v4 : Int32) (hp0 : 0 ≤ v4.toInt) (hp1 : v4.toInt ≤ 12) : Met l yX1_held [.code yX1_held cX1_held 12 (some .long)] ({ frames := 4, cells := 0, slots := 0, locals := 160 }) (PT [.ref a0, .ref a1, .int v2, .int v3, .int v4] sz dC dI G cs tt mm (fun _ => True)) (va_Ql (fun (r : Int64) (u : Nat → va_E) => True) (BT dC dI G cs tt mm) (AT G sz)) 0 0 (AT G sz) := by
  refine Met.ofW (cc := cX1_held) (maxL := 12) (ret := (some .long)) (by decide) rfl ?_
  intro p e s m args below meth c s₁ B hml hv
  obtain ⟨rfl, hsz, ⟨f0, hok, hP, hX⟩, hK, hnd, hWT, hE⟩ := hv
  have hx := B.exec
  have hb := B.bytes
  have hr := B.returns
  have hown : s.vm.findClass RX1 = some m.cls := findClass_of_methodNamed B.named
  have hlocks := B.notSynchronized
  subst hsz
  have hAL : ∀ a, a ∈ gL G → AT G s.heap.size a := fun a h => Or.inl h
  have hA : ∀ q : Nat, s.heap.size ≤ q → AT G s.heap.size q := fun q h => Or.inr h
  have hS : va_S (AT G s.heap.size) s.heap s.heap [] := va_S.rf
  have hl := lv_entry ([.ref a0, .ref a1, .int v2, .int v3, .int v4]) (n := 12) (Nat.le_of_ble_eq_true rfl)
  rw [lg_entry_eq]
  generalize (lg_sl ([.ref a0, .ref a1, .int v2, .int v3, .int v4]) ++ List.replicate (12 - (lg_sl ([.ref a0, .ref a1, .int v2, .int v3, .int v4])).length) Slot.unset).toArray = ls at hl ⊢
  have hl : lv_has ls 12 [(0, .ref a0), (1, .ref a1), (2, .int v2), (3, .int v3), (4, .int v4)] := hl
  refine lv_lconst (v := 1) hx hb dX1_held_0 (by decide) ?_
  refine lv_lstore (lv' := [(5, .long 1), (0, .ref a0), (1, .ref a1), (2, .int v2), (3, .int v3), (4, .int v4)]) hx hb dX1_held_1 hl (by decide) rfl (fun ls hl => ?_)
  refine lv_iconst (v := 1) hx hb dX1_held_3 (by decide) ?_
  refine lv_istore (lv' := [(7, .int 1), (5, .long 1), (0, .ref a0), (1, .ref a1), (2, .int v2), (3, .int v3), (4, .int v4)]) hx hb dX1_held_4 hl (by decide) rfl (fun ls hl => ?_)
  refine w_ind (I := fun n f H locs ls => OKT G cs tt mm f ∧ va_P (dC, dI) vwCl (va_pl (gL G) f) H ∧ va_S (AT G s.heap.size) s.heap H locs ∧ ∃ (w5_1 : Int64) (w7_1 : Int32), n = (2147483647 - w7_1.toInt).toNat ∧ 1 ≤ w7_1 ∧ lv_has ls 12 [(0, .ref a0), (1, .ref a1), (2, .int v2), (3, .int v3), (4, .int v4), (5, .long w5_1), (7, .int w7_1)]) (fun n f1 H locs ls hI ih1 => ?_) _ f0 _ _ _ ⟨hok, hP, hS, 1, 1, rfl, (by first | omega | (simp only [i_lt, i_le, i_eq, ti_m9, ti_m1, ti_0, ti_1, ti_2, ti_3, ti_4, ti_5, ti_6, ti_7, ti_9, ti_12, ti_20, ti_99, ti_700, ti_24, ti_156, ti_72, ti_8, ti_60, ti_543, ti_10, ti_33, ti_51, ti_178, ti_119, ti_111, ti_114, ti_100, ti_32, ti_62, ti_59, ti_48, ti_701, ti_97, ti_122, ti_57, ti_73, ti_128] at hp0 hp1 ⊢; omega)), lv_sub hl [2, 3, 4, 5, 6, 1, 0] rfl⟩
  obtain ⟨hok, hP, hS, w5_1, w7_1, hmu1, hlo1, hl⟩ := hI
  subst hmu1
  refine lv_iload hx hb dX1_held_6 (lv_at hl 6 rfl) ?_
  refine lv_iload hx hb dX1_held_8 (lv_at hl 4 rfl) ?_
  refine lv_icmp_gt (tgt := 127) hx hb dX1_held_10 (by decide) (fun c2 => ?_) (fun c2 => ?_)
  · refine lv_lload hx hb dX1_held_127 (lv_at hl 5 rfl) ?_
    exact W.lret (v := w5_1) hx hb hr (fun t ht hW => ⟨⟨w5_1, f1, rfl, trivial, hok, by rw [ht]; exact hP⟩, hS.F ht⟩) hS.2.2 dX1_held_129
  · refine lv_iconst (v := 0) hx hb dX1_held_13 (by decide) ?_
    refine lv_istore (lv' := [(8, .int 0), (0, .ref a0), (1, .ref a1), (2, .int v2), (3, .int v3), (4, .int v4), (5, .long w5_1), (7, .int w7_1)]) hx hb dX1_held_14 hl (by decide) rfl (fun ls hl => ?_)
    refine w_ind (I := fun n f H locs ls => OKT G cs tt mm f ∧ va_P (dC, dI) vwCl (va_pl (gL G) f) H ∧ va_S (AT G s.heap.size) s.heap H locs ∧ ∃ (w8_3 : Int32), n = (2147483647 - w8_3.toInt).toNat ∧ 0 ≤ w8_3 ∧ lv_has ls 12 [(0, .ref a0), (1, .ref a1), (2, .int v2), (3, .int v3), (4, .int v4), (5, .long w5_1), (7, .int w7_1), (8, .int w8_3)]) (fun n f3 H locs ls hI ih3 => ?_) _ f1 _ _ _ ⟨hok, hP, hS, 0, rfl, (by first | omega | (simp only [i_lt, i_le, i_eq, ti_m9, ti_m1, ti_0, ti_1, ti_2, ti_3, ti_4, ti_5, ti_6, ti_7, ti_9, ti_12, ti_20, ti_99, ti_700, ti_24, ti_156, ti_72, ti_8, ti_60, ti_543, ti_10, ti_33, ti_51, ti_178, ti_119, ti_111, ti_114, ti_100, ti_32, ti_62, ti_59, ti_48, ti_701, ti_97, ti_122, ti_57, ti_73, ti_128] at hp0 hp1 hlo1 c2 ⊢; omega)), lv_sub hl [1, 2, 3, 4, 5, 6, 7, 0] rfl⟩
    obtain ⟨hok, hP, hS, w8_3, hmu3, hlo3, hl⟩ := hI
    subst hmu3
    refine lv_iload hx hb dX1_held_16 (lv_at hl 7 rfl) ?_
    refine lv_aload_n hx hb dX1_held_18 rfl (lv_at hl 1 rfl) ?_
    have he4 := ok_X7 hok ha1
    refine vp_callSi (va_Run.run (va_runV (As := []) (rest := [.int w8_3]) ⟨hx, hb, hml, hown, noTs⟩ (t_X7_stepKinds l dC dI H.size G cs tt mm a1 ha1) ⟨cbE 0 (wd_783 hE) (wd_116 hE) (wd_985 hE) rfl rfl (by decide +kernel) ⟨Nat.le_of_ble_eq_true rfl, Nat.le_of_ble_eq_true rfl⟩, (wd_781 hE), (wd_782 hE)⟩ ⟨PT.blind, th_recv hK hP ha1.1 he4 rfl, (th_pre (av := [.ref a1]) trivial hK hP hok hnd hWT hE)⟩ rfl rfl hl.1 rfl (lv_room (Nat.le_of_ble_eq_true rfl)) dX1_held_19 ⟨Nat.le_of_ble_eq_true rfl, Nat.le_of_ble_eq_true rfl⟩)) (fun r5 hr5 => ?_)
    refine lv_icmp_ge (tgt := 103) hx hb dX1_held_22 (by decide) (fun c6 => ?_) (fun c6 => ?_)
    · refine lv_lload hx hb dX1_held_103 (lv_at hl 5 rfl) ?_
      refine lv_aload_n hx hb dX1_held_105 rfl (lv_at hl 0 rfl) ?_
      refine lv_aload_n hx hb dX1_held_106 rfl (lv_at hl 1 rfl) ?_
      refine lv_iload_n hx hb dX1_held_107 rfl (lv_at hl 2 rfl) ?_
      refine lv_bipush (v := 12) hx hb dX1_held_108 (by decide) ?_
      refine lv_iload hx hb dX1_held_110 (lv_at hl 6 rfl) ?_
      have he7 := ok_X1 hok ha0
      refine vp_callSl (va_Run.run (va_runV (As := [.ref a1, .int v2, .int 12, .int w7_1]) (rest := [.long w5_1]) ⟨hx, hb, hml, hown, noTs⟩ (t_X1_waysFrom l dC dI H.size G cs tt mm a0 ha0 a1 ha1 v2 12 w7_1 (by first | omega | (simp only [i_lt, i_le, i_eq, ti_m9, ti_m1, ti_0, ti_1, ti_2, ti_3, ti_4, ti_5, ti_6, ti_7, ti_9, ti_12, ti_20, ti_99, ti_700, ti_24, ti_156, ti_72, ti_8, ti_60, ti_543, ti_10, ti_33, ti_51, ti_178, ti_119, ti_111, ti_114, ti_100, ti_32, ti_62, ti_59, ti_48, ti_701, ti_97, ti_122, ti_57, ti_73, ti_128] at hp0 hp1 hlo1 c2 hlo3 c6 ⊢; omega)) (by first | omega | (simp only [i_lt, i_le, i_eq, ti_m9, ti_m1, ti_0, ti_1, ti_2, ti_3, ti_4, ti_5, ti_6, ti_7, ti_9, ti_12, ti_20, ti_99, ti_700, ti_24, ti_156, ti_72, ti_8, ti_60, ti_543, ti_10, ti_33, ti_51, ti_178, ti_119, ti_111, ti_114, ti_100, ti_32, ti_62, ti_59, ti_48, ti_701, ti_97, ti_122, ti_57, ti_73, ti_128] at hp0 hp1 hlo1 c2 hlo3 c6 ⊢; omega))) ⟨cbE 4 (wd_994 hE) (wd_125 hE) (wd_991 hE) rfl rfl (by decide +kernel) ⟨Nat.le_of_ble_eq_true rfl, Nat.le_of_ble_eq_true rfl⟩, (wd_993 hE), (wd_34 hE)⟩ ⟨PT.blind, th_recv hK hP ha0.1 he7 rfl, (th_pre (av := [.ref a0, .ref a1, .int v2, .int 12, .int w7_1]) trivial hK hP hok hnd hWT hE)⟩ rfl rfl hl.1 rfl (lv_room (Nat.le_of_ble_eq_true rfl)) dX1_held_112 ⟨Nat.le_of_ble_eq_true rfl, Nat.le_of_ble_eq_true rfl⟩)) (fun r8 hr8 => ?_)
      refine lv_ladd hx hb dX1_held_115 ?_
      refine lv_topl (fun x9 _ => ?_)
      refine vp_callSl (va_Run.run (va_runSN (As := [.long x9]) (rest := []) ⟨hx, hb, hml, hown, noTs⟩ (t_X11_atMostTold l dC dI H.size G cs tt mm x9) ⟨cnE 1 (wd_1009 hE) (wd_115 hE) (wd_1007 hE) rfl rfl (by decide +kernel) ⟨Nat.le_of_ble_eq_true rfl, Nat.le_of_ble_eq_true rfl⟩, (wd_1008 hE), trivial⟩ ⟨PT.blind, (th_pre (av := [.long x9]) trivial hK hP hok hnd hWT hE)⟩ rfl rfl hl.1 rfl (lv_room (Nat.le_of_ble_eq_true rfl)) dX1_held_116 ⟨Nat.le_of_ble_eq_true rfl, Nat.le_of_ble_eq_true rfl⟩)) (fun r10 hr10 => ?_)
      refine lv_lstore (lv' := [(5, .long r10), (0, .ref a0), (1, .ref a1), (2, .int v2), (3, .int v3), (4, .int v4), (7, .int w7_1), (8, .int w8_3)]) hx hb dX1_held_119 hl (by decide) rfl (fun ls hl => ?_)
      obtain ⟨z11, ez11⟩ : ∃ z : Int32, z = w7_1 + 1 := ⟨_, rfl⟩
      refine lv_iinc (v := z11) (lv' := [(7, .int z11), (5, .long r10), (0, .ref a0), (1, .ref a1), (2, .int v2), (3, .int v3), (4, .int v4), (8, .int w8_3)]) hx hb dX1_held_121 hl (k := 6) rfl (by rw [ez11]; rfl) (by decide) rfl (fun ls hl => ?_)
      have ic11 : z11.toInt = w7_1.toInt + 1 := by rw [ez11]; exact ic_up (by have := i_rng w7_1; have := i_rng v4; have := i_rng w8_3; have := i_rng r5; simp only [i_lt, i_le, i_eq, ti_m9, ti_m1, ti_0, ti_1, ti_2, ti_3, ti_4, ti_5, ti_6, ti_7, ti_9, ti_12, ti_20, ti_99, ti_700, ti_24, ti_156, ti_72, ti_8, ti_60, ti_543, ti_10, ti_33, ti_51, ti_178, ti_119, ti_111, ti_114, ti_100, ti_32, ti_62, ti_59, ti_48, ti_701, ti_97, ti_122, ti_57, ti_73, ti_128] at hp0 hp1 hlo1 c2 hlo3 c6 ⊢; omega)
      refine lv_goto (tgt := 6) hx hb dX1_held_124 (by decide) ?_
      exact ih1 _ f3 _ _ _ (by have := i_rng z11; first | omega | (simp only [i_lt, i_le, i_eq, ti_m9, ti_m1, ti_0, ti_1, ti_2, ti_3, ti_4, ti_5, ti_6, ti_7, ti_9, ti_12, ti_20, ti_99, ti_700, ti_24, ti_156, ti_72, ti_8, ti_60, ti_543, ti_10, ti_33, ti_51, ti_178, ti_119, ti_111, ti_114, ti_100, ti_32, ti_62, ti_59, ti_48, ti_701, ti_97, ti_122, ti_57, ti_73, ti_128, ic11] at hp0 hp1 hlo1 c2 hlo3 c6 ic11 ⊢; omega)) ⟨hok, hP, hS, r10, z11, rfl, (by first | omega | (simp only [i_lt, i_le, i_eq, ti_m9, ti_m1, ti_0, ti_1, ti_2, ti_3, ti_4, ti_5, ti_6, ti_7, ti_9, ti_12, ti_20, ti_99, ti_700, ti_24, ti_156, ti_72, ti_8, ti_60, ti_543, ti_10, ti_33, ti_51, ti_178, ti_119, ti_111, ti_114, ti_100, ti_32, ti_62, ti_59, ti_48, ti_701, ti_97, ti_122, ti_57, ti_73, ti_128, ic11] at hp0 hp1 hlo1 c2 hlo3 c6 ⊢; omega)), lv_sub hl [2, 3, 4, 5, 6, 1, 0] rfl⟩
    · refine lv_aload_n hx hb dX1_held_25 rfl (lv_at hl 1 rfl) ?_
      refine lv_iload hx hb dX1_held_26 (lv_at hl 7 rfl) ?_
      refine lv_iconst (v := 1) hx hb dX1_held_28 (by decide) ?_
      refine lv_ishr hx hb dX1_held_29 ?_
      refine lv_topi (fun x12 _ => ?_)
      refine vp_callSi (va_Run.run (va_runV (As := [.int x12]) (rest := []) ⟨hx, hb, hml, hown, noTs⟩ (t_X7_common l dC dI H.size G cs tt mm a1 ha1 x12) ⟨cbE 1 (wd_806 hE) (wd_116 hE) (wd_1272 hE) rfl rfl (by decide +kernel) ⟨Nat.le_of_ble_eq_true rfl, Nat.le_of_ble_eq_true rfl⟩, (wd_804 hE), (wd_805 hE)⟩ ⟨PT.blind, th_recv hK hP ha1.1 he4 rfl, (th_pre (av := [.ref a1, .int x12]) trivial hK hP hok hnd hWT hE)⟩ rfl rfl hl.1 rfl (lv_room (Nat.le_of_ble_eq_true rfl)) dX1_held_30 ⟨Nat.le_of_ble_eq_true rfl, Nat.le_of_ble_eq_true rfl⟩)) (fun r13 hr13 => ?_)
      refine lv_iload_n hx hb dX1_held_33 rfl (lv_at hl 3 rfl) ?_
      refine vp_callSi (va_Run.run (va_runSN (As := [.int r13, .int v3]) (rest := []) ⟨hx, hb, hml, hown, noTs⟩ (t_X11_rest l dC dI H.size G cs tt mm r13 v3) ⟨cnE 2 (wd_617 hE) (wd_115 hE) (wd_1273 hE) rfl rfl (by decide +kernel) ⟨Nat.le_of_ble_eq_true rfl, Nat.le_of_ble_eq_true rfl⟩, (wd_616 hE), trivial⟩ ⟨PT.blind, (th_pre (av := [.int r13, .int v3]) trivial hK hP hok hnd hWT hE)⟩ rfl rfl hl.1 rfl (lv_room (Nat.le_of_ble_eq_true rfl)) dX1_held_34 ⟨Nat.le_of_ble_eq_true rfl, Nat.le_of_ble_eq_true rfl⟩)) (fun r14 hr14 => ?_)
      obtain ⟨hra14, hrb14⟩ := hr14
      refine lv_if_ne (tgt := 44) hx hb dX1_held_37 (by decide) (fun c15 => ?_) (fun c15 => ?_)
      · refine lv_iconst (v := 0) hx hb dX1_held_44 (by decide) ?_
        refine lv_istore (lv' := [(9, .int 0), (0, .ref a0), (1, .ref a1), (2, .int v2), (3, .int v3), (4, .int v4), (5, .long w5_1), (7, .int w7_1), (8, .int w8_3)]) hx hb dX1_held_45 hl (by decide) rfl (fun ls hl => ?_)
        refine lv_iload hx hb dX1_held_47 (lv_at hl 7 rfl) ?_
        refine lv_iconst (v := 1) hx hb dX1_held_49 (by decide) ?_
        refine lv_icmp_ne (tgt := 57) hx hb dX1_held_50 (by decide) (fun c16 => ?_) (fun c16 => ?_)
        · refine lv_aload_n hx hb dX1_held_57 rfl (lv_at hl 1 rfl) ?_
          refine lv_aload_n hx hb dX1_held_58 rfl (lv_at hl 2 rfl) ?_
          refine lv_aload_n hx hb dX1_held_59 rfl (lv_at hl 2 rfl) ?_
          refine lv_iload hx hb dX1_held_60 (lv_at hl 8 rfl) ?_
          refine vp_callSi (va_Run.run (va_runV (As := [.int w8_3]) (rest := [.ref a1, .ref a0]) ⟨hx, hb, hml, hown, noTs⟩ (t_X7_toVertex l dC dI H.size G cs tt mm a1 ha1 w8_3) ⟨cbE 1 (wd_692 hE) (wd_116 hE) (wd_986 hE) rfl rfl (by decide +kernel) ⟨Nat.le_of_ble_eq_true rfl, Nat.le_of_ble_eq_true rfl⟩, (wd_690 hE), (wd_691 hE)⟩ ⟨PT.blind, th_recv hK hP ha1.1 he4 rfl, (th_pre (av := [.ref a1, .int w8_3]) trivial hK hP hok hnd hWT hE)⟩ rfl rfl hl.1 rfl (lv_room (Nat.le_of_ble_eq_true rfl)) dX1_held_62 ⟨Nat.le_of_ble_eq_true rfl, Nat.le_of_ble_eq_true rfl⟩)) (fun r17 hr17 => ?_)
          refine lv_iload hx hb dX1_held_65 (lv_at hl 8 rfl) ?_
          refine lv_iload hx hb dX1_held_67 (lv_at hl 7 rfl) ?_
          refine lv_iconst (v := 1) hx hb dX1_held_69 (by decide) ?_
          obtain ⟨j18, hj18, rfl⟩ : ∃ j : Nat, j ≤ 12 ∧ w7_1 = nI j := i_nat (by first | omega | (simp only [i_lt, i_le, i_eq, ti_m9, ti_m1, ti_0, ti_1, ti_2, ti_3, ti_4, ti_5, ti_6, ti_7, ti_9, ti_12, ti_20, ti_99, ti_700, ti_24, ti_156, ti_72, ti_8, ti_60, ti_543, ti_10, ti_33, ti_51, ti_178, ti_119, ti_111, ti_114, ti_100, ti_32, ti_62, ti_59, ti_48, ti_701, ti_97, ti_122, ti_57, ti_73, ti_128] at hp0 hp1 hlo1 c2 hlo3 c6 hra14 hrb14 c15 c16 ⊢; omega)) (by first | omega | (simp only [i_lt, i_le, i_eq, ti_m9, ti_m1, ti_0, ti_1, ti_2, ti_3, ti_4, ti_5, ti_6, ti_7, ti_9, ti_12, ti_20, ti_99, ti_700, ti_24, ti_156, ti_72, ti_8, ti_60, ti_543, ti_10, ti_33, ti_51, ti_178, ti_119, ti_111, ti_114, ti_100, ti_32, ti_62, ti_59, ti_48, ti_701, ti_97, ti_122, ti_57, ti_73, ti_128] at hp0 hp1 hlo1 c2 hlo3 c6 hra14 hrb14 c15 c16 ⊢; omega))
          have nt19 : (nI j18).toInt = ((j18 : Nat) : Int) := nI_toInt (by omega)
          refine lv_isub hx hb dX1_held_70 ?_
          refine W.eq (g2 := F0 m 71 ls [.int (nI (j18 - 1)), .int w8_3, .int r17, .ref a1, .ref a0]) (congrArg (fun z : Int32 => F0 m 71 ls (.int z :: [.int w8_3, .int r17, .ref a1, .ref a0])) (pk_sub (a := j18) (b := 1) (by first | omega | (simp only [i_lt, i_le, i_eq, ti_m9, ti_m1, ti_0, ti_1, ti_2, ti_3, ti_4, ti_5, ti_6, ti_7, ti_9, ti_12, ti_20, ti_99, ti_700, ti_24, ti_156, ti_72, ti_8, ti_60, ti_543, ti_10, ti_33, ti_51, ti_178, ti_119, ti_111, ti_114, ti_100, ti_32, ti_62, ti_59, ti_48, ti_701, ti_97, ti_122, ti_57, ti_73, ti_128, nt19] at hp0 hp1 hlo1 c2 hlo3 c6 hra14 hrb14 c15 c16 ⊢; omega)))) ?_
          have nt20 : (nI (j18 - 1)).toInt = ((j18 - 1 : Nat) : Int) := nI_toInt (by omega)
          have he21 := ok_X1 hok ha0
          refine vp_callSl (va_Run.run (va_runV (As := [.ref a1, .int r17, .int w8_3, .int (nI (j18 - 1))]) (rest := []) ⟨hx, hb, hml, hown, noTs⟩ (t_X1_waysFrom l dC dI H.size G cs tt mm a0 ha0 a1 ha1 r17 w8_3 (nI (j18 - 1)) (by first | omega | (simp only [i_lt, i_le, i_eq, ti_m9, ti_m1, ti_0, ti_1, ti_2, ti_3, ti_4, ti_5, ti_6, ti_7, ti_9, ti_12, ti_20, ti_99, ti_700, ti_24, ti_156, ti_72, ti_8, ti_60, ti_543, ti_10, ti_33, ti_51, ti_178, ti_119, ti_111, ti_114, ti_100, ti_32, ti_62, ti_59, ti_48, ti_701, ti_97, ti_122, ti_57, ti_73, ti_128, nt19, nt20] at hp0 hp1 hlo1 c2 hlo3 c6 hra14 hrb14 c15 c16 ⊢; omega)) (by first | omega | (simp only [i_lt, i_le, i_eq, ti_m9, ti_m1, ti_0, ti_1, ti_2, ti_3, ti_4, ti_5, ti_6, ti_7, ti_9, ti_12, ti_20, ti_99, ti_700, ti_24, ti_156, ti_72, ti_8, ti_60, ti_543, ti_10, ti_33, ti_51, ti_178, ti_119, ti_111, ti_114, ti_100, ti_32, ti_62, ti_59, ti_48, ti_701, ti_97, ti_122, ti_57, ti_73, ti_128, nt19, nt20] at hp0 hp1 hlo1 c2 hlo3 c6 hra14 hrb14 c15 c16 ⊢; omega))) ⟨cbE 4 (wd_994 hE) (wd_125 hE) (wd_991 hE) rfl rfl (by decide +kernel) ⟨Nat.le_of_ble_eq_true rfl, Nat.le_of_ble_eq_true rfl⟩, (wd_993 hE), (wd_34 hE)⟩ ⟨PT.blind, th_recv hK hP ha0.1 he21 rfl, (th_pre (av := [.ref a0, .ref a1, .int r17, .int w8_3, .int (nI (j18 - 1))]) trivial hK hP hok hnd hWT hE)⟩ rfl rfl hl.1 rfl (lv_room (Nat.le_of_ble_eq_true rfl)) dX1_held_71 ⟨Nat.le_of_ble_eq_true rfl, Nat.le_of_ble_eq_true rfl⟩)) (fun r22 hr22 => ?_)
          refine lv_lstore (lv' := [(10, .long r22), (9, .int 0), (0, .ref a0), (1, .ref a1), (2, .int v2), (3, .int v3), (4, .int v4), (5, .long w5_1), (7, .int (nI j18)), (8, .int w8_3)]) hx hb dX1_held_74 hl (by decide) rfl (fun ls hl => ?_)
          refine lv_aload_n hx hb dX1_held_76 rfl (lv_at hl 2 rfl) ?_
          refine lv_iload hx hb dX1_held_77 (lv_at hl 8 rfl) ?_
          refine lv_iconst (v := 1) hx hb dX1_held_79 (by decide) ?_
          refine lv_isub hx hb dX1_held_80 ?_
          refine W.eq (g2 := F0 m 81 ls [.int (nI (j18 - 1)), .ref a0]) (congrArg (fun z : Int32 => F0 m 81 ls (.int z :: [.ref a0])) (pk_sub (a := j18) (b := 1) (by first | omega | (simp only [i_lt, i_le, i_eq, ti_m9, ti_m1, ti_0, ti_1, ti_2, ti_3, ti_4, ti_5, ti_6, ti_7, ti_9, ti_12, ti_20, ti_99, ti_700, ti_24, ti_156, ti_72, ti_8, ti_60, ti_543, ti_10, ti_33, ti_51, ti_178, ti_119, ti_111, ti_114, ti_100, ti_32, ti_62, ti_59, ti_48, ti_701, ti_97, ti_122, ti_57, ti_73, ti_128, nt19, nt20] at hp0 hp1 hlo1 c2 hlo3 c6 hra14 hrb14 c15 c16 ⊢; omega)))) ?_
          refine lv_iload hx hb dX1_held_81 (lv_at hl 9 rfl) ?_
          refine lv_iload hx hb dX1_held_83 (lv_at hl 1 rfl) ?_
          refine lv_if_eq (tgt := 93) hx hb dX1_held_85 (by decide) (fun c23 => ?_) (fun c23 => absurd c23 (by decide))
          refine lv_lconst (v := 0) hx hb dX1_held_93 (by decide) ?_
          refine tc_v hAL hS hA (va_runV (As := [.int (nI (j18 - 1)), .int w8_3, .long 0]) (rest := []) ⟨hx, hb, hml, hown, noTs⟩ (t_X1_setWays l dC dI H.size G cs tt mm a0 ha0 (nI (j18 - 1)) w8_3 0 (by first | omega | (simp only [i_lt, i_le, i_eq, ti_m9, ti_m1, ti_0, ti_1, ti_2, ti_3, ti_4, ti_5, ti_6, ti_7, ti_9, ti_12, ti_20, ti_99, ti_700, ti_24, ti_156, ti_72, ti_8, ti_60, ti_543, ti_10, ti_33, ti_51, ti_178, ti_119, ti_111, ti_114, ti_100, ti_32, ti_62, ti_59, ti_48, ti_701, ti_97, ti_122, ti_57, ti_73, ti_128, nt19, nt20] at hp0 hp1 hlo1 c2 hlo3 c6 hra14 hrb14 c15 c16 ⊢; omega))) ⟨cbE 3 (wd_990 hE) (wd_125 hE) (wd_987 hE) rfl rfl (by decide +kernel) ⟨Nat.le_of_ble_eq_true rfl, Nat.le_of_ble_eq_true rfl⟩, (wd_989 hE), (wd_33 hE)⟩ ⟨PT.blind, th_recv hK hP ha0.1 he21 rfl, (th_pre (av := [.ref a0, .int (nI (j18 - 1)), .int w8_3, .long 0]) trivial hK hP hok hnd hWT hE)⟩ rfl rfl hl.1 rfl (lv_room (Nat.le_of_ble_eq_true rfl)) dX1_held_94 ⟨Nat.le_of_ble_eq_true rfl, Nat.le_of_ble_eq_true rfl⟩) (fun f24 H locs hr24 hok hP hS => ?_)
          obtain ⟨z25, ez25⟩ : ∃ z : Int32, z = w8_3 + 1 := ⟨_, rfl⟩
          refine lv_iinc (v := z25) (lv' := [(8, .int z25), (10, .long r22), (9, .int 0), (0, .ref a0), (1, .ref a1), (2, .int v2), (3, .int v3), (4, .int v4), (5, .long w5_1), (7, .int (nI j18))]) hx hb dX1_held_97 hl (k := 9) rfl (by rw [ez25]; rfl) (by decide) rfl (fun ls hl => ?_)
          have ic25 : z25.toInt = w8_3.toInt + 1 := by rw [ez25]; exact ic_up (by have := i_rng (nI j18); have := i_rng v4; have := i_rng w8_3; have := i_rng r5; have := i_rng r14; simp only [i_lt, i_le, i_eq, ti_m9, ti_m1, ti_0, ti_1, ti_2, ti_3, ti_4, ti_5, ti_6, ti_7, ti_9, ti_12, ti_20, ti_99, ti_700, ti_24, ti_156, ti_72, ti_8, ti_60, ti_543, ti_10, ti_33, ti_51, ti_178, ti_119, ti_111, ti_114, ti_100, ti_32, ti_62, ti_59, ti_48, ti_701, ti_97, ti_122, ti_57, ti_73, ti_128, nt19, nt20] at hp0 hp1 hlo1 c2 hlo3 c6 hra14 hrb14 c15 c16 ⊢; omega)
          refine lv_goto (tgt := 16) hx hb dX1_held_100 (by decide) ?_
          exact ih3 _ f24 _ _ _ (by have := i_rng z25; first | omega | (simp only [i_lt, i_le, i_eq, ti_m9, ti_m1, ti_0, ti_1, ti_2, ti_3, ti_4, ti_5, ti_6, ti_7, ti_9, ti_12, ti_20, ti_99, ti_700, ti_24, ti_156, ti_72, ti_8, ti_60, ti_543, ti_10, ti_33, ti_51, ti_178, ti_119, ti_111, ti_114, ti_100, ti_32, ti_62, ti_59, ti_48, ti_701, ti_97, ti_122, ti_57, ti_73, ti_128, nt19, nt20, ic25] at hp0 hp1 hlo1 c2 hlo3 c6 hra14 hrb14 c15 c16 ic25 ⊢; omega)) ⟨hok, hP, hS, z25, rfl, (by first | omega | (simp only [i_lt, i_le, i_eq, ti_m9, ti_m1, ti_0, ti_1, ti_2, ti_3, ti_4, ti_5, ti_6, ti_7, ti_9, ti_12, ti_20, ti_99, ti_700, ti_24, ti_156, ti_72, ti_8, ti_60, ti_543, ti_10, ti_33, ti_51, ti_178, ti_119, ti_111, ti_114, ti_100, ti_32, ti_62, ti_59, ti_48, ti_701, ti_97, ti_122, ti_57, ti_73, ti_128, nt19, nt20, ic25] at hp0 hp1 hlo1 c2 hlo3 c6 hra14 hrb14 c15 c16 ⊢; omega)), lv_sub hl [3, 4, 5, 6, 7, 8, 9, 0] rfl⟩
        · refine lv_lconst (v := 1) hx hb dX1_held_53 (by decide) ?_
          refine lv_goto (tgt := 74) hx hb dX1_held_54 (by decide) ?_
          refine lv_lstore (lv' := [(10, .long 1), (9, .int 0), (0, .ref a0), (1, .ref a1), (2, .int v2), (3, .int v3), (4, .int v4), (5, .long w5_1), (7, .int w7_1), (8, .int w8_3)]) hx hb dX1_held_74 hl (by decide) rfl (fun ls hl => ?_)
          refine lv_aload_n hx hb dX1_held_76 rfl (lv_at hl 2 rfl) ?_
          refine lv_iload hx hb dX1_held_77 (lv_at hl 8 rfl) ?_
          refine lv_iconst (v := 1) hx hb dX1_held_79 (by decide) ?_
          obtain ⟨j26, hj26, rfl⟩ : ∃ j : Nat, j ≤ 1 ∧ w7_1 = nI j := i_nat (by first | omega | (simp only [i_lt, i_le, i_eq, ti_m9, ti_m1, ti_0, ti_1, ti_2, ti_3, ti_4, ti_5, ti_6, ti_7, ti_9, ti_12, ti_20, ti_99, ti_700, ti_24, ti_156, ti_72, ti_8, ti_60, ti_543, ti_10, ti_33, ti_51, ti_178, ti_119, ti_111, ti_114, ti_100, ti_32, ti_62, ti_59, ti_48, ti_701, ti_97, ti_122, ti_57, ti_73, ti_128] at hp0 hp1 hlo1 c2 hlo3 c6 hra14 hrb14 c15 c16 ⊢; omega)) (by first | omega | (simp only [i_lt, i_le, i_eq, ti_m9, ti_m1, ti_0, ti_1, ti_2, ti_3, ti_4, ti_5, ti_6, ti_7, ti_9, ti_12, ti_20, ti_99, ti_700, ti_24, ti_156, ti_72, ti_8, ti_60, ti_543, ti_10, ti_33, ti_51, ti_178, ti_119, ti_111, ti_114, ti_100, ti_32, ti_62, ti_59, ti_48, ti_701, ti_97, ti_122, ti_57, ti_73, ti_128] at hp0 hp1 hlo1 c2 hlo3 c6 hra14 hrb14 c15 c16 ⊢; omega))
          have nt27 : (nI j26).toInt = ((j26 : Nat) : Int) := nI_toInt (by omega)
          refine lv_isub hx hb dX1_held_80 ?_
          refine W.eq (g2 := F0 m 81 ls [.int (nI (j26 - 1)), .ref a0]) (congrArg (fun z : Int32 => F0 m 81 ls (.int z :: [.ref a0])) (pk_sub (a := j26) (b := 1) (by first | omega | (simp only [i_lt, i_le, i_eq, ti_m9, ti_m1, ti_0, ti_1, ti_2, ti_3, ti_4, ti_5, ti_6, ti_7, ti_9, ti_12, ti_20, ti_99, ti_700, ti_24, ti_156, ti_72, ti_8, ti_60, ti_543, ti_10, ti_33, ti_51, ti_178, ti_119, ti_111, ti_114, ti_100, ti_32, ti_62, ti_59, ti_48, ti_701, ti_97, ti_122, ti_57, ti_73, ti_128, nt27] at hp0 hp1 hlo1 c2 hlo3 c6 hra14 hrb14 c15 c16 ⊢; omega)))) ?_
          refine lv_iload hx hb dX1_held_81 (lv_at hl 9 rfl) ?_
          refine lv_iload hx hb dX1_held_83 (lv_at hl 1 rfl) ?_
          refine lv_if_eq (tgt := 93) hx hb dX1_held_85 (by decide) (fun c28 => ?_) (fun c28 => absurd c28 (by decide))
          refine lv_lconst (v := 0) hx hb dX1_held_93 (by decide) ?_
          have nt29 : (nI (j26 - 1)).toInt = ((j26 - 1 : Nat) : Int) := nI_toInt (by omega)
          have he30 := ok_X1 hok ha0
          refine tc_v hAL hS hA (va_runV (As := [.int (nI (j26 - 1)), .int w8_3, .long 0]) (rest := []) ⟨hx, hb, hml, hown, noTs⟩ (t_X1_setWays l dC dI H.size G cs tt mm a0 ha0 (nI (j26 - 1)) w8_3 0 (by first | omega | (simp only [i_lt, i_le, i_eq, ti_m9, ti_m1, ti_0, ti_1, ti_2, ti_3, ti_4, ti_5, ti_6, ti_7, ti_9, ti_12, ti_20, ti_99, ti_700, ti_24, ti_156, ti_72, ti_8, ti_60, ti_543, ti_10, ti_33, ti_51, ti_178, ti_119, ti_111, ti_114, ti_100, ti_32, ti_62, ti_59, ti_48, ti_701, ti_97, ti_122, ti_57, ti_73, ti_128, nt27, nt29] at hp0 hp1 hlo1 c2 hlo3 c6 hra14 hrb14 c15 c16 ⊢; omega))) ⟨cbE 3 (wd_990 hE) (wd_125 hE) (wd_987 hE) rfl rfl (by decide +kernel) ⟨Nat.le_of_ble_eq_true rfl, Nat.le_of_ble_eq_true rfl⟩, (wd_989 hE), (wd_33 hE)⟩ ⟨PT.blind, th_recv hK hP ha0.1 he30 rfl, (th_pre (av := [.ref a0, .int (nI (j26 - 1)), .int w8_3, .long 0]) trivial hK hP hok hnd hWT hE)⟩ rfl rfl hl.1 rfl (lv_room (Nat.le_of_ble_eq_true rfl)) dX1_held_94 ⟨Nat.le_of_ble_eq_true rfl, Nat.le_of_ble_eq_true rfl⟩) (fun f31 H locs hr31 hok hP hS => ?_)
          obtain ⟨z32, ez32⟩ : ∃ z : Int32, z = w8_3 + 1 := ⟨_, rfl⟩
          refine lv_iinc (v := z32) (lv' := [(8, .int z32), (10, .long 1), (9, .int 0), (0, .ref a0), (1, .ref a1), (2, .int v2), (3, .int v3), (4, .int v4), (5, .long w5_1), (7, .int (nI j26))]) hx hb dX1_held_97 hl (k := 9) rfl (by rw [ez32]; rfl) (by decide) rfl (fun ls hl => ?_)
          have ic32 : z32.toInt = w8_3.toInt + 1 := by rw [ez32]; exact ic_up (by have := i_rng (nI j26); have := i_rng v4; have := i_rng w8_3; have := i_rng r5; have := i_rng r14; simp only [i_lt, i_le, i_eq, ti_m9, ti_m1, ti_0, ti_1, ti_2, ti_3, ti_4, ti_5, ti_6, ti_7, ti_9, ti_12, ti_20, ti_99, ti_700, ti_24, ti_156, ti_72, ti_8, ti_60, ti_543, ti_10, ti_33, ti_51, ti_178, ti_119, ti_111, ti_114, ti_100, ti_32, ti_62, ti_59, ti_48, ti_701, ti_97, ti_122, ti_57, ti_73, ti_128, nt27, nt29] at hp0 hp1 hlo1 c2 hlo3 c6 hra14 hrb14 c15 c16 ⊢; omega)
          refine lv_goto (tgt := 16) hx hb dX1_held_100 (by decide) ?_
          exact ih3 _ f31 _ _ _ (by have := i_rng z32; first | omega | (simp only [i_lt, i_le, i_eq, ti_m9, ti_m1, ti_0, ti_1, ti_2, ti_3, ti_4, ti_5, ti_6, ti_7, ti_9, ti_12, ti_20, ti_99, ti_700, ti_24, ti_156, ti_72, ti_8, ti_60, ti_543, ti_10, ti_33, ti_51, ti_178, ti_119, ti_111, ti_114, ti_100, ti_32, ti_62, ti_59, ti_48, ti_701, ti_97, ti_122, ti_57, ti_73, ti_128, nt27, nt29, ic32] at hp0 hp1 hlo1 c2 hlo3 c6 hra14 hrb14 c15 c16 ic32 ⊢; omega)) ⟨hok, hP, hS, z32, rfl, (by first | omega | (simp only [i_lt, i_le, i_eq, ti_m9, ti_m1, ti_0, ti_1, ti_2, ti_3, ti_4, ti_5, ti_6, ti_7, ti_9, ti_12, ti_20, ti_99, ti_700, ti_24, ti_156, ti_72, ti_8, ti_60, ti_543, ti_10, ti_33, ti_51, ti_178, ti_119, ti_111, ti_114, ti_100, ti_32, ti_62, ti_59, ti_48, ti_701, ti_97, ti_122, ti_57, ti_73, ti_128, nt27, nt29, ic32] at hp0 hp1 hlo1 c2 hlo3 c6 hra14 hrb14 c15 c16 ⊢; omega)), lv_sub hl [3, 4, 5, 6, 7, 8, 9, 0] rfl⟩
      · refine lv_iconst (v := 1) hx hb dX1_held_40 (by decide) ?_
        refine lv_goto (tgt := 45) hx hb dX1_held_41 (by decide) ?_
        refine lv_istore (lv' := [(9, .int 1), (0, .ref a0), (1, .ref a1), (2, .int v2), (3, .int v3), (4, .int v4), (5, .long w5_1), (7, .int w7_1), (8, .int w8_3)]) hx hb dX1_held_45 hl (by decide) rfl (fun ls hl => ?_)
        refine lv_iload hx hb dX1_held_47 (lv_at hl 7 rfl) ?_
        refine lv_iconst (v := 1) hx hb dX1_held_49 (by decide) ?_
        refine lv_icmp_ne (tgt := 57) hx hb dX1_held_50 (by decide) (fun c33 => ?_) (fun c33 => ?_)
        · refine lv_aload_n hx hb dX1_held_57 rfl (lv_at hl 1 rfl) ?_
          refine lv_aload_n hx hb dX1_held_58 rfl (lv_at hl 2 rfl) ?_
          refine lv_aload_n hx hb dX1_held_59 rfl (lv_at hl 2 rfl) ?_
          refine lv_iload hx hb dX1_held_60 (lv_at hl 8 rfl) ?_
          refine vp_callSi (va_Run.run (va_runV (As := [.int w8_3]) (rest := [.ref a1, .ref a0]) ⟨hx, hb, hml, hown, noTs⟩ (t_X7_toVertex l dC dI H.size G cs tt mm a1 ha1 w8_3) ⟨cbE 1 (wd_692 hE) (wd_116 hE) (wd_986 hE) rfl rfl (by decide +kernel) ⟨Nat.le_of_ble_eq_true rfl, Nat.le_of_ble_eq_true rfl⟩, (wd_690 hE), (wd_691 hE)⟩ ⟨PT.blind, th_recv hK hP ha1.1 he4 rfl, (th_pre (av := [.ref a1, .int w8_3]) trivial hK hP hok hnd hWT hE)⟩ rfl rfl hl.1 rfl (lv_room (Nat.le_of_ble_eq_true rfl)) dX1_held_62 ⟨Nat.le_of_ble_eq_true rfl, Nat.le_of_ble_eq_true rfl⟩)) (fun r34 hr34 => ?_)
          refine lv_iload hx hb dX1_held_65 (lv_at hl 8 rfl) ?_
          refine lv_iload hx hb dX1_held_67 (lv_at hl 7 rfl) ?_
          refine lv_iconst (v := 1) hx hb dX1_held_69 (by decide) ?_
          obtain ⟨j35, hj35, rfl⟩ : ∃ j : Nat, j ≤ 12 ∧ w7_1 = nI j := i_nat (by first | omega | (simp only [i_lt, i_le, i_eq, ti_m9, ti_m1, ti_0, ti_1, ti_2, ti_3, ti_4, ti_5, ti_6, ti_7, ti_9, ti_12, ti_20, ti_99, ti_700, ti_24, ti_156, ti_72, ti_8, ti_60, ti_543, ti_10, ti_33, ti_51, ti_178, ti_119, ti_111, ti_114, ti_100, ti_32, ti_62, ti_59, ti_48, ti_701, ti_97, ti_122, ti_57, ti_73, ti_128] at hp0 hp1 hlo1 c2 hlo3 c6 hra14 hrb14 c15 c33 ⊢; omega)) (by first | omega | (simp only [i_lt, i_le, i_eq, ti_m9, ti_m1, ti_0, ti_1, ti_2, ti_3, ti_4, ti_5, ti_6, ti_7, ti_9, ti_12, ti_20, ti_99, ti_700, ti_24, ti_156, ti_72, ti_8, ti_60, ti_543, ti_10, ti_33, ti_51, ti_178, ti_119, ti_111, ti_114, ti_100, ti_32, ti_62, ti_59, ti_48, ti_701, ti_97, ti_122, ti_57, ti_73, ti_128] at hp0 hp1 hlo1 c2 hlo3 c6 hra14 hrb14 c15 c33 ⊢; omega))
          have nt36 : (nI j35).toInt = ((j35 : Nat) : Int) := nI_toInt (by omega)
          refine lv_isub hx hb dX1_held_70 ?_
          refine W.eq (g2 := F0 m 71 ls [.int (nI (j35 - 1)), .int w8_3, .int r34, .ref a1, .ref a0]) (congrArg (fun z : Int32 => F0 m 71 ls (.int z :: [.int w8_3, .int r34, .ref a1, .ref a0])) (pk_sub (a := j35) (b := 1) (by first | omega | (simp only [i_lt, i_le, i_eq, ti_m9, ti_m1, ti_0, ti_1, ti_2, ti_3, ti_4, ti_5, ti_6, ti_7, ti_9, ti_12, ti_20, ti_99, ti_700, ti_24, ti_156, ti_72, ti_8, ti_60, ti_543, ti_10, ti_33, ti_51, ti_178, ti_119, ti_111, ti_114, ti_100, ti_32, ti_62, ti_59, ti_48, ti_701, ti_97, ti_122, ti_57, ti_73, ti_128, nt36] at hp0 hp1 hlo1 c2 hlo3 c6 hra14 hrb14 c15 c33 ⊢; omega)))) ?_
          have nt37 : (nI (j35 - 1)).toInt = ((j35 - 1 : Nat) : Int) := nI_toInt (by omega)
          have he38 := ok_X1 hok ha0
          refine vp_callSl (va_Run.run (va_runV (As := [.ref a1, .int r34, .int w8_3, .int (nI (j35 - 1))]) (rest := []) ⟨hx, hb, hml, hown, noTs⟩ (t_X1_waysFrom l dC dI H.size G cs tt mm a0 ha0 a1 ha1 r34 w8_3 (nI (j35 - 1)) (by first | omega | (simp only [i_lt, i_le, i_eq, ti_m9, ti_m1, ti_0, ti_1, ti_2, ti_3, ti_4, ti_5, ti_6, ti_7, ti_9, ti_12, ti_20, ti_99, ti_700, ti_24, ti_156, ti_72, ti_8, ti_60, ti_543, ti_10, ti_33, ti_51, ti_178, ti_119, ti_111, ti_114, ti_100, ti_32, ti_62, ti_59, ti_48, ti_701, ti_97, ti_122, ti_57, ti_73, ti_128, nt36, nt37] at hp0 hp1 hlo1 c2 hlo3 c6 hra14 hrb14 c15 c33 ⊢; omega)) (by first | omega | (simp only [i_lt, i_le, i_eq, ti_m9, ti_m1, ti_0, ti_1, ti_2, ti_3, ti_4, ti_5, ti_6, ti_7, ti_9, ti_12, ti_20, ti_99, ti_700, ti_24, ti_156, ti_72, ti_8, ti_60, ti_543, ti_10, ti_33, ti_51, ti_178, ti_119, ti_111, ti_114, ti_100, ti_32, ti_62, ti_59, ti_48, ti_701, ti_97, ti_122, ti_57, ti_73, ti_128, nt36, nt37] at hp0 hp1 hlo1 c2 hlo3 c6 hra14 hrb14 c15 c33 ⊢; omega))) ⟨cbE 4 (wd_994 hE) (wd_125 hE) (wd_991 hE) rfl rfl (by decide +kernel) ⟨Nat.le_of_ble_eq_true rfl, Nat.le_of_ble_eq_true rfl⟩, (wd_993 hE), (wd_34 hE)⟩ ⟨PT.blind, th_recv hK hP ha0.1 he38 rfl, (th_pre (av := [.ref a0, .ref a1, .int r34, .int w8_3, .int (nI (j35 - 1))]) trivial hK hP hok hnd hWT hE)⟩ rfl rfl hl.1 rfl (lv_room (Nat.le_of_ble_eq_true rfl)) dX1_held_71 ⟨Nat.le_of_ble_eq_true rfl, Nat.le_of_ble_eq_true rfl⟩)) (fun r39 hr39 => ?_)
          refine lv_lstore (lv' := [(10, .long r39), (9, .int 1), (0, .ref a0), (1, .ref a1), (2, .int v2), (3, .int v3), (4, .int v4), (5, .long w5_1), (7, .int (nI j35)), (8, .int w8_3)]) hx hb dX1_held_74 hl (by decide) rfl (fun ls hl => ?_)
          refine lv_aload_n hx hb dX1_held_76 rfl (lv_at hl 2 rfl) ?_
          refine lv_iload hx hb dX1_held_77 (lv_at hl 8 rfl) ?_
          refine lv_iconst (v := 1) hx hb dX1_held_79 (by decide) ?_
          refine lv_isub hx hb dX1_held_80 ?_
          refine W.eq (g2 := F0 m 81 ls [.int (nI (j35 - 1)), .ref a0]) (congrArg (fun z : Int32 => F0 m 81 ls (.int z :: [.ref a0])) (pk_sub (a := j35) (b := 1) (by first | omega | (simp only [i_lt, i_le, i_eq, ti_m9, ti_m1, ti_0, ti_1, ti_2, ti_3, ti_4, ti_5, ti_6, ti_7, ti_9, ti_12, ti_20, ti_99, ti_700, ti_24, ti_156, ti_72, ti_8, ti_60, ti_543, ti_10, ti_33, ti_51, ti_178, ti_119, ti_111, ti_114, ti_100, ti_32, ti_62, ti_59, ti_48, ti_701, ti_97, ti_122, ti_57, ti_73, ti_128, nt36, nt37] at hp0 hp1 hlo1 c2 hlo3 c6 hra14 hrb14 c15 c33 ⊢; omega)))) ?_
          refine lv_iload hx hb dX1_held_81 (lv_at hl 9 rfl) ?_
          refine lv_iload hx hb dX1_held_83 (lv_at hl 1 rfl) ?_
          refine lv_if_eq (tgt := 93) hx hb dX1_held_85 (by decide) (fun c40 => absurd c40 (by decide)) (fun c40 => ?_)
          refine lv_lload hx hb dX1_held_88 (lv_at hl 0 rfl) ?_
          refine lv_goto (tgt := 94) hx hb dX1_held_90 (by decide) ?_
          refine tc_v hAL hS hA (va_runV (As := [.int (nI (j35 - 1)), .int w8_3, .long r39]) (rest := []) ⟨hx, hb, hml, hown, noTs⟩ (t_X1_setWays l dC dI H.size G cs tt mm a0 ha0 (nI (j35 - 1)) w8_3 r39 (by first | omega | (simp only [i_lt, i_le, i_eq, ti_m9, ti_m1, ti_0, ti_1, ti_2, ti_3, ti_4, ti_5, ti_6, ti_7, ti_9, ti_12, ti_20, ti_99, ti_700, ti_24, ti_156, ti_72, ti_8, ti_60, ti_543, ti_10, ti_33, ti_51, ti_178, ti_119, ti_111, ti_114, ti_100, ti_32, ti_62, ti_59, ti_48, ti_701, ti_97, ti_122, ti_57, ti_73, ti_128, nt36, nt37] at hp0 hp1 hlo1 c2 hlo3 c6 hra14 hrb14 c15 c33 ⊢; omega))) ⟨cbE 3 (wd_990 hE) (wd_125 hE) (wd_987 hE) rfl rfl (by decide +kernel) ⟨Nat.le_of_ble_eq_true rfl, Nat.le_of_ble_eq_true rfl⟩, (wd_989 hE), (wd_33 hE)⟩ ⟨PT.blind, th_recv hK hP ha0.1 he38 rfl, (th_pre (av := [.ref a0, .int (nI (j35 - 1)), .int w8_3, .long r39]) trivial hK hP hok hnd hWT hE)⟩ rfl rfl hl.1 rfl (lv_room (Nat.le_of_ble_eq_true rfl)) dX1_held_94 ⟨Nat.le_of_ble_eq_true rfl, Nat.le_of_ble_eq_true rfl⟩) (fun f41 H locs hr41 hok hP hS => ?_)
          obtain ⟨z42, ez42⟩ : ∃ z : Int32, z = w8_3 + 1 := ⟨_, rfl⟩
          refine lv_iinc (v := z42) (lv' := [(8, .int z42), (10, .long r39), (9, .int 1), (0, .ref a0), (1, .ref a1), (2, .int v2), (3, .int v3), (4, .int v4), (5, .long w5_1), (7, .int (nI j35))]) hx hb dX1_held_97 hl (k := 9) rfl (by rw [ez42]; rfl) (by decide) rfl (fun ls hl => ?_)
          have ic42 : z42.toInt = w8_3.toInt + 1 := by rw [ez42]; exact ic_up (by have := i_rng (nI j35); have := i_rng v4; have := i_rng w8_3; have := i_rng r5; have := i_rng r14; simp only [i_lt, i_le, i_eq, ti_m9, ti_m1, ti_0, ti_1, ti_2, ti_3, ti_4, ti_5, ti_6, ti_7, ti_9, ti_12, ti_20, ti_99, ti_700, ti_24, ti_156, ti_72, ti_8, ti_60, ti_543, ti_10, ti_33, ti_51, ti_178, ti_119, ti_111, ti_114, ti_100, ti_32, ti_62, ti_59, ti_48, ti_701, ti_97, ti_122, ti_57, ti_73, ti_128, nt36, nt37] at hp0 hp1 hlo1 c2 hlo3 c6 hra14 hrb14 c15 c33 ⊢; omega)
          refine lv_goto (tgt := 16) hx hb dX1_held_100 (by decide) ?_
          exact ih3 _ f41 _ _ _ (by have := i_rng z42; first | omega | (simp only [i_lt, i_le, i_eq, ti_m9, ti_m1, ti_0, ti_1, ti_2, ti_3, ti_4, ti_5, ti_6, ti_7, ti_9, ti_12, ti_20, ti_99, ti_700, ti_24, ti_156, ti_72, ti_8, ti_60, ti_543, ti_10, ti_33, ti_51, ti_178, ti_119, ti_111, ti_114, ti_100, ti_32, ti_62, ti_59, ti_48, ti_701, ti_97, ti_122, ti_57, ti_73, ti_128, nt36, nt37, ic42] at hp0 hp1 hlo1 c2 hlo3 c6 hra14 hrb14 c15 c33 ic42 ⊢; omega)) ⟨hok, hP, hS, z42, rfl, (by first | omega | (simp only [i_lt, i_le, i_eq, ti_m9, ti_m1, ti_0, ti_1, ti_2, ti_3, ti_4, ti_5, ti_6, ti_7, ti_9, ti_12, ti_20, ti_99, ti_700, ti_24, ti_156, ti_72, ti_8, ti_60, ti_543, ti_10, ti_33, ti_51, ti_178, ti_119, ti_111, ti_114, ti_100, ti_32, ti_62, ti_59, ti_48, ti_701, ti_97, ti_122, ti_57, ti_73, ti_128, nt36, nt37, ic42] at hp0 hp1 hlo1 c2 hlo3 c6 hra14 hrb14 c15 c33 ⊢; omega)), lv_sub hl [3, 4, 5, 6, 7, 8, 9, 0] rfl⟩
        · refine lv_lconst (v := 1) hx hb dX1_held_53 (by decide) ?_
          refine lv_goto (tgt := 74) hx hb dX1_held_54 (by decide) ?_
          refine lv_lstore (lv' := [(10, .long 1), (9, .int 1), (0, .ref a0), (1, .ref a1), (2, .int v2), (3, .int v3), (4, .int v4), (5, .long w5_1), (7, .int w7_1), (8, .int w8_3)]) hx hb dX1_held_74 hl (by decide) rfl (fun ls hl => ?_)
          refine lv_aload_n hx hb dX1_held_76 rfl (lv_at hl 2 rfl) ?_
          refine lv_iload hx hb dX1_held_77 (lv_at hl 8 rfl) ?_
          refine lv_iconst (v := 1) hx hb dX1_held_79 (by decide) ?_
          obtain ⟨j43, hj43, rfl⟩ : ∃ j : Nat, j ≤ 1 ∧ w7_1 = nI j := i_nat (by first | omega | (simp only [i_lt, i_le, i_eq, ti_m9, ti_m1, ti_0, ti_1, ti_2, ti_3, ti_4, ti_5, ti_6, ti_7, ti_9, ti_12, ti_20, ti_99, ti_700, ti_24, ti_156, ti_72, ti_8, ti_60, ti_543, ti_10, ti_33, ti_51, ti_178, ti_119, ti_111, ti_114, ti_100, ti_32, ti_62, ti_59, ti_48, ti_701, ti_97, ti_122, ti_57, ti_73, ti_128] at hp0 hp1 hlo1 c2 hlo3 c6 hra14 hrb14 c15 c33 ⊢; omega)) (by first | omega | (simp only [i_lt, i_le, i_eq, ti_m9, ti_m1, ti_0, ti_1, ti_2, ti_3, ti_4, ti_5, ti_6, ti_7, ti_9, ti_12, ti_20, ti_99, ti_700, ti_24, ti_156, ti_72, ti_8, ti_60, ti_543, ti_10, ti_33, ti_51, ti_178, ti_119, ti_111, ti_114, ti_100, ti_32, ti_62, ti_59, ti_48, ti_701, ti_97, ti_122, ti_57, ti_73, ti_128] at hp0 hp1 hlo1 c2 hlo3 c6 hra14 hrb14 c15 c33 ⊢; omega))
          have nt44 : (nI j43).toInt = ((j43 : Nat) : Int) := nI_toInt (by omega)
          refine lv_isub hx hb dX1_held_80 ?_
          refine W.eq (g2 := F0 m 81 ls [.int (nI (j43 - 1)), .ref a0]) (congrArg (fun z : Int32 => F0 m 81 ls (.int z :: [.ref a0])) (pk_sub (a := j43) (b := 1) (by first | omega | (simp only [i_lt, i_le, i_eq, ti_m9, ti_m1, ti_0, ti_1, ti_2, ti_3, ti_4, ti_5, ti_6, ti_7, ti_9, ti_12, ti_20, ti_99, ti_700, ti_24, ti_156, ti_72, ti_8, ti_60, ti_543, ti_10, ti_33, ti_51, ti_178, ti_119, ti_111, ti_114, ti_100, ti_32, ti_62, ti_59, ti_48, ti_701, ti_97, ti_122, ti_57, ti_73, ti_128, nt44] at hp0 hp1 hlo1 c2 hlo3 c6 hra14 hrb14 c15 c33 ⊢; omega)))) ?_
          refine lv_iload hx hb dX1_held_81 (lv_at hl 9 rfl) ?_
          refine lv_iload hx hb dX1_held_83 (lv_at hl 1 rfl) ?_
          refine lv_if_eq (tgt := 93) hx hb dX1_held_85 (by decide) (fun c45 => absurd c45 (by decide)) (fun c45 => ?_)
          refine lv_lload hx hb dX1_held_88 (lv_at hl 0 rfl) ?_
          refine lv_goto (tgt := 94) hx hb dX1_held_90 (by decide) ?_
          have nt46 : (nI (j43 - 1)).toInt = ((j43 - 1 : Nat) : Int) := nI_toInt (by omega)
          have he47 := ok_X1 hok ha0
          refine tc_v hAL hS hA (va_runV (As := [.int (nI (j43 - 1)), .int w8_3, .long 1]) (rest := []) ⟨hx, hb, hml, hown, noTs⟩ (t_X1_setWays l dC dI H.size G cs tt mm a0 ha0 (nI (j43 - 1)) w8_3 1 (by first | omega | (simp only [i_lt, i_le, i_eq, ti_m9, ti_m1, ti_0, ti_1, ti_2, ti_3, ti_4, ti_5, ti_6, ti_7, ti_9, ti_12, ti_20, ti_99, ti_700, ti_24, ti_156, ti_72, ti_8, ti_60, ti_543, ti_10, ti_33, ti_51, ti_178, ti_119, ti_111, ti_114, ti_100, ti_32, ti_62, ti_59, ti_48, ti_701, ti_97, ti_122, ti_57, ti_73, ti_128, nt44, nt46] at hp0 hp1 hlo1 c2 hlo3 c6 hra14 hrb14 c15 c33 ⊢; omega))) ⟨cbE 3 (wd_990 hE) (wd_125 hE) (wd_987 hE) rfl rfl (by decide +kernel) ⟨Nat.le_of_ble_eq_true rfl, Nat.le_of_ble_eq_true rfl⟩, (wd_989 hE), (wd_33 hE)⟩ ⟨PT.blind, th_recv hK hP ha0.1 he47 rfl, (th_pre (av := [.ref a0, .int (nI (j43 - 1)), .int w8_3, .long 1]) trivial hK hP hok hnd hWT hE)⟩ rfl rfl hl.1 rfl (lv_room (Nat.le_of_ble_eq_true rfl)) dX1_held_94 ⟨Nat.le_of_ble_eq_true rfl, Nat.le_of_ble_eq_true rfl⟩) (fun f48 H locs hr48 hok hP hS => ?_)
          obtain ⟨z49, ez49⟩ : ∃ z : Int32, z = w8_3 + 1 := ⟨_, rfl⟩
          refine lv_iinc (v := z49) (lv' := [(8, .int z49), (10, .long 1), (9, .int 1), (0, .ref a0), (1, .ref a1), (2, .int v2), (3, .int v3), (4, .int v4), (5, .long w5_1), (7, .int (nI j43))]) hx hb dX1_held_97 hl (k := 9) rfl (by rw [ez49]; rfl) (by decide) rfl (fun ls hl => ?_)
          have ic49 : z49.toInt = w8_3.toInt + 1 := by rw [ez49]; exact ic_up (by have := i_rng (nI j43); have := i_rng v4; have := i_rng w8_3; have := i_rng r5; have := i_rng r14; simp only [i_lt, i_le, i_eq, ti_m9, ti_m1, ti_0, ti_1, ti_2, ti_3, ti_4, ti_5, ti_6, ti_7, ti_9, ti_12, ti_20, ti_99, ti_700, ti_24, ti_156, ti_72, ti_8, ti_60, ti_543, ti_10, ti_33, ti_51, ti_178, ti_119, ti_111, ti_114, ti_100, ti_32, ti_62, ti_59, ti_48, ti_701, ti_97, ti_122, ti_57, ti_73, ti_128, nt44, nt46] at hp0 hp1 hlo1 c2 hlo3 c6 hra14 hrb14 c15 c33 ⊢; omega)
          refine lv_goto (tgt := 16) hx hb dX1_held_100 (by decide) ?_
          exact ih3 _ f48 _ _ _ (by have := i_rng z49; first | omega | (simp only [i_lt, i_le, i_eq, ti_m9, ti_m1, ti_0, ti_1, ti_2, ti_3, ti_4, ti_5, ti_6, ti_7, ti_9, ti_12, ti_20, ti_99, ti_700, ti_24, ti_156, ti_72, ti_8, ti_60, ti_543, ti_10, ti_33, ti_51, ti_178, ti_119, ti_111, ti_114, ti_100, ti_32, ti_62, ti_59, ti_48, ti_701, ti_97, ti_122, ti_57, ti_73, ti_128, nt44, nt46, ic49] at hp0 hp1 hlo1 c2 hlo3 c6 hra14 hrb14 c15 c33 ic49 ⊢; omega)) ⟨hok, hP, hS, z49, rfl, (by first | omega | (simp only [i_lt, i_le, i_eq, ti_m9, ti_m1, ti_0, ti_1, ti_2, ti_3, ti_4, ti_5, ti_6, ti_7, ti_9, ti_12, ti_20, ti_99, ti_700, ti_24, ti_156, ti_72, ti_8, ti_60, ti_543, ti_10, ti_33, ti_51, ti_178, ti_119, ti_111, ti_114, ti_100, ti_32, ti_62, ti_59, ti_48, ti_701, ti_97, ti_122, ti_57, ti_73, ti_128, nt44, nt46, ic49] at hp0 hp1 hlo1 c2 hlo3 c6 hra14 hrb14 c15 c33 ⊢; omega)), lv_sub hl [3, 4, 5, 6, 7, 8, 9, 0] rfl⟩
