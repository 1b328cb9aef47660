set_option maxHeartbeats 4000000 in
set_option maxRecDepth 100000 in
theorem c_X3_init (l : Launch) (dC : Nat → ClassId) (dI : Nat → Nat → Nat) (sz : Nat)  (a0 : Nat)  : Met l yX3_init [.code yX3_init cX3_init 2 none] ({ frames := 2, cells := 17, slots := 4360, locals := 80 }) (PcE [.ref a0] sz dC dI [] [(a0, .inr (2, [.null, .int 0, .int 0]))]) (va_Qv (fun (u : (Nat → Nat) × (Nat → ClassId)) => True) (Bw dC dI (va_A [(a0, .inr (2, [.null, .int 0, .int 0]))] sz) (fun (u : (Nat → Nat) × (Nat → ClassId)) => [(u.2 0, .object "GluedWords$Store"), (u.2 1, .int)]) (fun (u : (Nat → Nat) × (Nat → ClassId)) => [(a0, .inr (2, [.ref (u.1 0), .int 0, .int 0])), (u.1 0, .inl (u.2 0, 8, .inr (.inr (.inr (.inr (va_up (va_up (va_up (va_up (va_up (va_up (va_up (va_up (fun _ => none) 0 (some (u.1 1))) 1 (some (u.1 3))) 2 (some (u.1 4))) 3 (some (u.1 5))) 4 (some (u.1 6))) 5 (some (u.1 7))) 6 (some (u.1 8))) 7 (some (u.1 9)))))))), (u.1 1, .inr (6, [.ref (u.1 2)])), (u.1 2, .inl (u.2 1, 543, .inl (fun _ => 0)))])) (va_A [(a0, .inr (2, [.null, .int 0, .int 0]))] sz)) 17 4360 (va_A [(a0, .inr (2, [.null, .int 0, .int 0]))] sz) := by
  refine Met.ofW (cc := cX3_init) (maxL := 2) (ret := none) (by decide) rfl ?_
  intro p e s m args below meth c s₁ B hml hv
  obtain ⟨rfl, hsz, hP, hK, hD0, hE⟩ := hv
  have hx := B.exec
  have hb := B.bytes
  have hr := B.returns
  have hown : s.vm.findClass RX3 = some m.cls := findClass_of_methodNamed B.named
  have hlocks := B.notSynchronized
  have hin : meth.name = "<init>" := (name_of_methodNamed B.named B.method).1
  subst hsz
  have hD := hD0.self (sz := s.heap.size)
  generalize hAe : va_A [(a0, .inr (2, [.null, .int 0, .int 0]))] s.heap.size = A at hD ⊢
  have hA : ∀ q : Nat, s.heap.size ≤ q → A q := fun q h => by rw [← hAe]; exact Or.inr h
  have hS : va_S A s.heap s.heap [] := va_S.rf
  have hl := lv_entry ([.ref a0]) (n := 2) (Nat.le_of_ble_eq_true rfl)
  rw [lg_entry_eq]
  generalize (lg_sl ([.ref a0]) ++ List.replicate (2 - (lg_sl ([.ref a0])).length) Slot.unset).toArray = ls at hl ⊢
  have hl : lv_has ls 2 [(0, .ref a0)] := hl
  refine lv_aload_n hx hb dX3_init_0 rfl (lv_at hl 0 rfl) ?_
  refine W.objInit hx hb hown (wd_159 hE) (wd_141 hE) (wd_142 hE) rfl (by rw [hml]; exact hl.1) rfl dX3_init_1 (Nat.le_of_ble_eq_true rfl) (Nat.le_of_ble_eq_true rfl) ?_
  refine W.eq (g2 := F0 m 4 ls []) rfl ?_
  refine lv_aload_n hx hb dX3_init_4 rfl (lv_at hl 0 rfl) ?_
  refine lv_bipush (v := 8) hx hb dX3_init_5 (by decide) ?_
  refine va_newq (N' := 8) hx hb hown (wd_160 hE) hE.2.2.1 hK hP hD hS hA (by decide) (by decide) (Nat.le_of_ble_eq_true rfl) (Nat.le_of_ble_eq_true rfl) (Nat.le_of_ble_eq_true rfl) dX3_init_7 (fun q1 k1 H hK hP hD hS => ?_)
  have hK : va_K (dC, dI) vwCl [(k1, .object "GluedWords$Store")] s := hK
  have hP : va_P (dC, dI) vwCl [(a0, .inr (2, [.null, .int 0, .int 0])), (q1, .inl (k1, 8, .inr (.inr (.inr (.inr (fun _ => none))))))] H := hP
  have hD : va_D A [(a0, .inr (2, [.null, .int 0, .int 0])), (q1, .inl (k1, 8, .inr (.inr (.inr (.inr (fun _ => none))))))] := hD
  refine W.widen (k := 1) (n := 8) (Nat.le_of_ble_eq_true rfl) (Nat.le_of_ble_eq_true rfl) ?_
  refine va_putF (D := (dC, dI)) (ci := 2) (v := .ref q1) (ty := .array (.object "GluedWords$Store")) (C := RX3) (T := TX3) (N := 3) hx hb (ly_X3 hE) (fun _ h9 => h9) tyX3 tyX3_ok nmX3 hown hK hP hD hS 0 rfl rfl 0 (by decide) (wd_163 hE) (fun _ h9 => h9) rfl hin rfl (by decide +kernel) rfl rfl (Nat.le_of_ble_eq_true rfl) dX3_init_10 (fun H locs hP hD hS => ?_)
  have hP : va_P (dC, dI) vwCl [(a0, .inr (2, [.ref q1, .int 0, .int 0])), (q1, .inl (k1, 8, .inr (.inr (.inr (.inr (fun _ => none))))))] H := hP
  have hD : va_D A [(a0, .inr (2, [.ref q1, .int 0, .int 0])), (q1, .inl (k1, 8, .inr (.inr (.inr (.inr (fun _ => none))))))] := hD
  refine lv_aload_n hx hb dX3_init_13 rfl (lv_at hl 0 rfl) ?_
  refine lv_iconst (v := 0) hx hb dX3_init_14 (by decide) ?_
  refine va_put (D := (dC, dI)) (ci := 2) (v := .int 0) (ty := .int) (C := RX3) (T := TX3) (N := 3) hx hb (ly_X3 hE) (fun _ h9 => h9) tyX3 tyX3_ok nmX3 hown hK hP hD hS 0 rfl rfl 1 (by decide) (wd_164 hE) (fun _ h9 => h9) rfl (by decide +kernel) rfl rfl (Nat.le_of_ble_eq_true rfl) dX3_init_15 (fun H locs hP hD hS => ?_)
  have hP : va_P (dC, dI) vwCl [(a0, .inr (2, [.ref q1, .int 0, .int 0])), (q1, .inl (k1, 8, .inr (.inr (.inr (.inr (fun _ => none))))))] H := hP
  have hD : va_D A [(a0, .inr (2, [.ref q1, .int 0, .int 0])), (q1, .inl (k1, 8, .inr (.inr (.inr (.inr (fun _ => none))))))] := hD
  refine lv_aload_n hx hb dX3_init_18 rfl (lv_at hl 0 rfl) ?_
  refine lv_iconst (v := 0) hx hb dX3_init_19 (by decide) ?_
  refine va_put (D := (dC, dI)) (ci := 2) (v := .int 0) (ty := .int) (C := RX3) (T := TX3) (N := 3) hx hb (ly_X3 hE) (fun _ h9 => h9) tyX3 tyX3_ok nmX3 hown hK hP hD hS 0 rfl rfl 2 (by decide) (wd_165 hE) (fun _ h9 => h9) rfl (by decide +kernel) rfl rfl (Nat.le_of_ble_eq_true rfl) dX3_init_20 (fun H locs hP hD hS => ?_)
  have hP : va_P (dC, dI) vwCl [(a0, .inr (2, [.ref q1, .int 0, .int 0])), (q1, .inl (k1, 8, .inr (.inr (.inr (.inr (fun _ => none))))))] H := hP
  have hD : va_D A [(a0, .inr (2, [.ref q1, .int 0, .int 0])), (q1, .inl (k1, 8, .inr (.inr (.inr (.inr (fun _ => none))))))] := hD
  refine lv_iconst (v := 0) hx hb dX3_init_23 (by decide) ?_
  refine lv_istore_n (lv' := [(1, .int 0), (0, .ref a0)]) hx hb dX3_init_24 rfl hl (by decide) rfl (fun ls hl => ?_)
  refine lv_iload_n hx hb dX3_init_25 rfl (lv_at hl 0 rfl) ?_
  refine lv_bipush (v := 8) hx hb dX3_init_26 (by decide) ?_
  refine lv_icmp_ge (tgt := 50) hx hb dX3_init_28 (by decide) (fun c2 => absurd c2 (by decide)) (fun c2 => ?_)
  refine lv_aload_n hx hb dX3_init_31 rfl (lv_at hl 1 rfl) ?_
  refine va_get (D := (dC, dI)) (ci := 2) (v := .ref q1) (C := RX3) (T := TX3) (N := 3) hx hb (ly_X3 hE) (fun _ h9 => h9) hown hK hP 0 rfl rfl 0 (by decide) (wd_163 hE) (fun _ h9 => h9) rfl dX3_init_32 ?_
  refine lv_iload_n hx hb dX3_init_35 rfl (lv_at hl 0 rfl) ?_
  refine va_new (ci := 6) (fs := [.null]) (C := RX7) (T := TX7) (N := 1) hx hb (ly_X7 hE) (fun _ h9 => h9) tyX7 tyX7_ok hown (wd_160 hE) (wd_144 hE) (wd_116 hE) hK hP hD hS hA rfl (by decide +kernel) (Nat.le_of_ble_eq_true rfl) (Nat.le_of_ble_eq_true rfl) dX3_init_36 (fun q3 H hP hD hS => ?_)
  have hP : va_P (dC, dI) vwCl [(a0, .inr (2, [.ref q1, .int 0, .int 0])), (q1, .inl (k1, 8, .inr (.inr (.inr (.inr (fun _ => none)))))), (q3, .inr (6, [.null]))] H := hP
  have hD : va_D A [(a0, .inr (2, [.ref q1, .int 0, .int 0])), (q1, .inl (k1, 8, .inr (.inr (.inr (.inr (fun _ => none)))))), (q3, .inr (6, [.null]))] := hD
  refine W.widen (k := 2) (n := 9) (Nat.le_of_ble_eq_true rfl) (Nat.le_of_ble_eq_true rfl) ?_
  refine lv_dup hx hb dX3_init_39 rfl ?_
  refine cl_v (wc := [(q3, .inr (6, [.null]))]) (wr := [(a0, .inr (2, [.ref q1, .int 0, .int 0])), (q1, .inl (k1, 8, .inr (.inr (.inr (.inr (fun _ => none))))))]) [2] [0, 1] rfl rfl (by decide) (by decide) hK hP hD hS hA (va_runIN (As := []) (rest := [.ref q3, .int 0, .ref q1]) ⟨hx, hb, hml, hown, noTs⟩ (c_X7_init l dC dI H.size q3) ⟨cnE 0 (wd_147 hE) (wd_116 hE) (wd_162 hE) rfl rfl (by decide +kernel) ⟨Nat.le_of_ble_eq_true rfl, Nat.le_of_ble_eq_true rfl⟩, rfl, (wd_146 hE)⟩ ⟨PcE.blind, (pre_E (av := [.ref q3]) (wc := [(q3, .inr (6, [.null]))]) (tysc := []) [2] [] rfl (by decide) rfl rfl hK hP hD hE)⟩ rfl rfl hl.1 rfl (lv_room (Nat.le_of_ble_eq_true rfl)) dX3_init_40 ⟨Nat.le_of_ble_eq_true rfl, Nat.le_of_ble_eq_true rfl⟩) (fun u4 H locs hw4 hK hP hD hS => ?_)
  have hK : va_K (dC, dI) vwCl [(k1, .object "GluedWords$Store"), (u4.2 0, .int)] s := hK
  have hP : va_P (dC, dI) vwCl [(a0, .inr (2, [.ref q1, .int 0, .int 0])), (q1, .inl (k1, 8, .inr (.inr (.inr (.inr (fun _ => none)))))), (q3, .inr (6, [.ref (u4.1 0)])), (u4.1 0, .inl (u4.2 0, 543, .inl (fun _ => 0)))] H := hP
  have hD : va_D A [(a0, .inr (2, [.ref q1, .int 0, .int 0])), (q1, .inl (k1, 8, .inr (.inr (.inr (.inr (fun _ => none)))))), (q3, .inr (6, [.ref (u4.1 0)])), (u4.1 0, .inl (u4.2 0, 543, .inl (fun _ => 0)))] := hD
  refine W.widen (k := 3) (n := 552) (Nat.le_of_ble_eq_true rfl) (Nat.le_of_ble_eq_true rfl) ?_
  refine va_astq hx hb hK hP hD hS 1 0 2 6 rfl rfl rfl rfl (by unfold vp_in; decide) dX3_init_43 (fun H locs hP hD hS => ?_)
  have hP : va_P (dC, dI) vwCl [(a0, .inr (2, [.ref q1, .int 0, .int 0])), (q1, .inl (k1, 8, .inr (.inr (.inr (.inr (va_up (fun _ => none) 0 (some q3))))))), (q3, .inr (6, [.ref (u4.1 0)])), (u4.1 0, .inl (u4.2 0, 543, .inl (fun _ => 0)))] H := hP
  have hD : va_D A [(a0, .inr (2, [.ref q1, .int 0, .int 0])), (q1, .inl (k1, 8, .inr (.inr (.inr (.inr (va_up (fun _ => none) 0 (some q3))))))), (q3, .inr (6, [.ref (u4.1 0)])), (u4.1 0, .inl (u4.2 0, 543, .inl (fun _ => 0)))] := hD
  refine lv_iinc (v := 1) (lv' := [(1, .int 1), (0, .ref a0)]) hx hb dX3_init_44 hl (k := 0) rfl (by decide) (by decide) rfl (fun ls hl => ?_)
  refine lv_goto (tgt := 25) hx hb dX3_init_47 (by decide) ?_
  refine lv_iload_n hx hb dX3_init_25 rfl (lv_at hl 0 rfl) ?_
  refine lv_bipush (v := 8) hx hb dX3_init_26 (by decide) ?_
  refine lv_icmp_ge (tgt := 50) hx hb dX3_init_28 (by decide) (fun c6 => absurd c6 (by decide)) (fun c6 => ?_)
  refine lv_aload_n hx hb dX3_init_31 rfl (lv_at hl 1 rfl) ?_
  refine va_get (D := (dC, dI)) (ci := 2) (v := .ref q1) (C := RX3) (T := TX3) (N := 3) hx hb (ly_X3 hE) (fun _ h9 => h9) hown hK hP 0 rfl rfl 0 (by decide) (wd_163 hE) (fun _ h9 => h9) rfl dX3_init_32 ?_
  refine lv_iload_n hx hb dX3_init_35 rfl (lv_at hl 0 rfl) ?_
  refine va_new (ci := 6) (fs := [.null]) (C := RX7) (T := TX7) (N := 1) hx hb (ly_X7 hE) (fun _ h9 => h9) tyX7 tyX7_ok hown (wd_160 hE) (wd_144 hE) (wd_116 hE) hK hP hD hS hA rfl (by decide +kernel) (Nat.le_of_ble_eq_true rfl) (Nat.le_of_ble_eq_true rfl) dX3_init_36 (fun q7 H hP hD hS => ?_)
  have hP : va_P (dC, dI) vwCl [(a0, .inr (2, [.ref q1, .int 0, .int 0])), (q1, .inl (k1, 8, .inr (.inr (.inr (.inr (va_up (fun _ => none) 0 (some q3))))))), (q3, .inr (6, [.ref (u4.1 0)])), (u4.1 0, .inl (u4.2 0, 543, .inl (fun _ => 0))), (q7, .inr (6, [.null]))] H := hP
  have hD : va_D A [(a0, .inr (2, [.ref q1, .int 0, .int 0])), (q1, .inl (k1, 8, .inr (.inr (.inr (.inr (va_up (fun _ => none) 0 (some q3))))))), (q3, .inr (6, [.ref (u4.1 0)])), (u4.1 0, .inl (u4.2 0, 543, .inl (fun _ => 0))), (q7, .inr (6, [.null]))] := hD
  refine W.widen (k := 4) (n := 553) (Nat.le_of_ble_eq_true rfl) (Nat.le_of_ble_eq_true rfl) ?_
  refine lv_dup hx hb dX3_init_39 rfl ?_
  refine cl_v (wc := [(q7, .inr (6, [.null]))]) (wr := [(a0, .inr (2, [.ref q1, .int 0, .int 0])), (q1, .inl (k1, 8, .inr (.inr (.inr (.inr (va_up (fun _ => none) 0 (some q3))))))), (q3, .inr (6, [.ref (u4.1 0)])), (u4.1 0, .inl (u4.2 0, 543, .inl (fun _ => 0)))]) [4] [0, 1, 2, 3] rfl rfl (by decide) (by decide) hK hP hD hS hA (va_runIN (As := []) (rest := [.ref q7, .int 1, .ref q1]) ⟨hx, hb, hml, hown, noTs⟩ (c_X7_init l dC dI H.size q7) ⟨cnE 0 (wd_147 hE) (wd_116 hE) (wd_162 hE) rfl rfl (by decide +kernel) ⟨Nat.le_of_ble_eq_true rfl, Nat.le_of_ble_eq_true rfl⟩, rfl, (wd_146 hE)⟩ ⟨PcE.blind, (pre_E (av := [.ref q7]) (wc := [(q7, .inr (6, [.null]))]) (tysc := []) [4] [] rfl (by decide) rfl rfl hK hP hD hE)⟩ rfl rfl hl.1 rfl (lv_room (Nat.le_of_ble_eq_true rfl)) dX3_init_40 ⟨Nat.le_of_ble_eq_true rfl, Nat.le_of_ble_eq_true rfl⟩) (fun u8 H locs hw8 hK hP hD hS => ?_)
  have hK : va_K (dC, dI) vwCl [(k1, .object "GluedWords$Store"), (u4.2 0, .int), (u8.2 0, .int)] s := hK
  have hP : va_P (dC, dI) vwCl [(a0, .inr (2, [.ref q1, .int 0, .int 0])), (q1, .inl (k1, 8, .inr (.inr (.inr (.inr (va_up (fun _ => none) 0 (some q3))))))), (q3, .inr (6, [.ref (u4.1 0)])), (u4.1 0, .inl (u4.2 0, 543, .inl (fun _ => 0))), (q7, .inr (6, [.ref (u8.1 0)])), (u8.1 0, .inl (u8.2 0, 543, .inl (fun _ => 0)))] H := hP
  have hD : va_D A [(a0, .inr (2, [.ref q1, .int 0, .int 0])), (q1, .inl (k1, 8, .inr (.inr (.inr (.inr (va_up (fun _ => none) 0 (some q3))))))), (q3, .inr (6, [.ref (u4.1 0)])), (u4.1 0, .inl (u4.2 0, 543, .inl (fun _ => 0))), (q7, .inr (6, [.ref (u8.1 0)])), (u8.1 0, .inl (u8.2 0, 543, .inl (fun _ => 0)))] := hD
  refine W.widen (k := 5) (n := 1096) (Nat.le_of_ble_eq_true rfl) (Nat.le_of_ble_eq_true rfl) ?_
  refine va_astq hx hb hK hP hD hS 1 0 4 6 rfl rfl rfl rfl (by unfold vp_in; decide) dX3_init_43 (fun H locs hP hD hS => ?_)
  have hP : va_P (dC, dI) vwCl [(a0, .inr (2, [.ref q1, .int 0, .int 0])), (q1, .inl (k1, 8, .inr (.inr (.inr (.inr (va_up (va_up (fun _ => none) 0 (some q3)) 1 (some q7))))))), (q3, .inr (6, [.ref (u4.1 0)])), (u4.1 0, .inl (u4.2 0, 543, .inl (fun _ => 0))), (q7, .inr (6, [.ref (u8.1 0)])), (u8.1 0, .inl (u8.2 0, 543, .inl (fun _ => 0)))] H := hP
  have hD : va_D A [(a0, .inr (2, [.ref q1, .int 0, .int 0])), (q1, .inl (k1, 8, .inr (.inr (.inr (.inr (va_up (va_up (fun _ => none) 0 (some q3)) 1 (some q7))))))), (q3, .inr (6, [.ref (u4.1 0)])), (u4.1 0, .inl (u4.2 0, 543, .inl (fun _ => 0))), (q7, .inr (6, [.ref (u8.1 0)])), (u8.1 0, .inl (u8.2 0, 543, .inl (fun _ => 0)))] := hD
  refine lv_iinc (v := 2) (lv' := [(1, .int 2), (0, .ref a0)]) hx hb dX3_init_44 hl (k := 0) rfl (by decide) (by decide) rfl (fun ls hl => ?_)
  refine lv_goto (tgt := 25) hx hb dX3_init_47 (by decide) ?_
  refine lv_iload_n hx hb dX3_init_25 rfl (lv_at hl 0 rfl) ?_
  refine lv_bipush (v := 8) hx hb dX3_init_26 (by decide) ?_
  refine lv_icmp_ge (tgt := 50) hx hb dX3_init_28 (by decide) (fun c10 => absurd c10 (by decide)) (fun c10 => ?_)
  refine lv_aload_n hx hb dX3_init_31 rfl (lv_at hl 1 rfl) ?_
  refine va_get (D := (dC, dI)) (ci := 2) (v := .ref q1) (C := RX3) (T := TX3) (N := 3) hx hb (ly_X3 hE) (fun _ h9 => h9) hown hK hP 0 rfl rfl 0 (by decide) (wd_163 hE) (fun _ h9 => h9) rfl dX3_init_32 ?_
  refine lv_iload_n hx hb dX3_init_35 rfl (lv_at hl 0 rfl) ?_
  refine va_new (ci := 6) (fs := [.null]) (C := RX7) (T := TX7) (N := 1) hx hb (ly_X7 hE) (fun _ h9 => h9) tyX7 tyX7_ok hown (wd_160 hE) (wd_144 hE) (wd_116 hE) hK hP hD hS hA rfl (by decide +kernel) (Nat.le_of_ble_eq_true rfl) (Nat.le_of_ble_eq_true rfl) dX3_init_36 (fun q11 H hP hD hS => ?_)
  have hP : va_P (dC, dI) vwCl [(a0, .inr (2, [.ref q1, .int 0, .int 0])), (q1, .inl (k1, 8, .inr (.inr (.inr (.inr (va_up (va_up (fun _ => none) 0 (some q3)) 1 (some q7))))))), (q3, .inr (6, [.ref (u4.1 0)])), (u4.1 0, .inl (u4.2 0, 543, .inl (fun _ => 0))), (q7, .inr (6, [.ref (u8.1 0)])), (u8.1 0, .inl (u8.2 0, 543, .inl (fun _ => 0))), (q11, .inr (6, [.null]))] H := hP
  have hD : va_D A [(a0, .inr (2, [.ref q1, .int 0, .int 0])), (q1, .inl (k1, 8, .inr (.inr (.inr (.inr (va_up (va_up (fun _ => none) 0 (some q3)) 1 (some q7))))))), (q3, .inr (6, [.ref (u4.1 0)])), (u4.1 0, .inl (u4.2 0, 543, .inl (fun _ => 0))), (q7, .inr (6, [.ref (u8.1 0)])), (u8.1 0, .inl (u8.2 0, 543, .inl (fun _ => 0))), (q11, .inr (6, [.null]))] := hD
  refine W.widen (k := 6) (n := 1097) (Nat.le_of_ble_eq_true rfl) (Nat.le_of_ble_eq_true rfl) ?_
  refine lv_dup hx hb dX3_init_39 rfl ?_
  refine cl_v (wc := [(q11, .inr (6, [.null]))]) (wr := [(a0, .inr (2, [.ref q1, .int 0, .int 0])), (q1, .inl (k1, 8, .inr (.inr (.inr (.inr (va_up (va_up (fun _ => none) 0 (some q3)) 1 (some q7))))))), (q3, .inr (6, [.ref (u4.1 0)])), (u4.1 0, .inl (u4.2 0, 543, .inl (fun _ => 0))), (q7, .inr (6, [.ref (u8.1 0)])), (u8.1 0, .inl (u8.2 0, 543, .inl (fun _ => 0)))]) [6] [0, 1, 2, 3, 4, 5] rfl rfl (by decide) (by decide) hK hP hD hS hA (va_runIN (As := []) (rest := [.ref q11, .int 2, .ref q1]) ⟨hx, hb, hml, hown, noTs⟩ (c_X7_init l dC dI H.size q11) ⟨cnE 0 (wd_147 hE) (wd_116 hE) (wd_162 hE) rfl rfl (by decide +kernel) ⟨Nat.le_of_ble_eq_true rfl, Nat.le_of_ble_eq_true rfl⟩, rfl, (wd_146 hE)⟩ ⟨PcE.blind, (pre_E (av := [.ref q11]) (wc := [(q11, .inr (6, [.null]))]) (tysc := []) [6] [] rfl (by decide) rfl rfl hK hP hD hE)⟩ rfl rfl hl.1 rfl (lv_room (Nat.le_of_ble_eq_true rfl)) dX3_init_40 ⟨Nat.le_of_ble_eq_true rfl, Nat.le_of_ble_eq_true rfl⟩) (fun u12 H locs hw12 hK hP hD hS => ?_)
  have hK : va_K (dC, dI) vwCl [(k1, .object "GluedWords$Store"), (u4.2 0, .int), (u8.2 0, .int), (u12.2 0, .int)] s := hK
  have hP : va_P (dC, dI) vwCl [(a0, .inr (2, [.ref q1, .int 0, .int 0])), (q1, .inl (k1, 8, .inr (.inr (.inr (.inr (va_up (va_up (fun _ => none) 0 (some q3)) 1 (some q7))))))), (q3, .inr (6, [.ref (u4.1 0)])), (u4.1 0, .inl (u4.2 0, 543, .inl (fun _ => 0))), (q7, .inr (6, [.ref (u8.1 0)])), (u8.1 0, .inl (u8.2 0, 543, .inl (fun _ => 0))), (q11, .inr (6, [.ref (u12.1 0)])), (u12.1 0, .inl (u12.2 0, 543, .inl (fun _ => 0)))] H := hP
  have hD : va_D A [(a0, .inr (2, [.ref q1, .int 0, .int 0])), (q1, .inl (k1, 8, .inr (.inr (.inr (.inr (va_up (va_up (fun _ => none) 0 (some q3)) 1 (some q7))))))), (q3, .inr (6, [.ref (u4.1 0)])), (u4.1 0, .inl (u4.2 0, 543, .inl (fun _ => 0))), (q7, .inr (6, [.ref (u8.1 0)])), (u8.1 0, .inl (u8.2 0, 543, .inl (fun _ => 0))), (q11, .inr (6, [.ref (u12.1 0)])), (u12.1 0, .inl (u12.2 0, 543, .inl (fun _ => 0)))] := hD
  refine W.widen (k := 7) (n := 1640) (Nat.le_of_ble_eq_true rfl) (Nat.le_of_ble_eq_true rfl) ?_
  refine va_astq hx hb hK hP hD hS 1 0 6 6 rfl rfl rfl rfl (by unfold vp_in; decide) dX3_init_43 (fun H locs hP hD hS => ?_)
  have hP : va_P (dC, dI) vwCl [(a0, .inr (2, [.ref q1, .int 0, .int 0])), (q1, .inl (k1, 8, .inr (.inr (.inr (.inr (va_up (va_up (va_up (fun _ => none) 0 (some q3)) 1 (some q7)) 2 (some q11))))))), (q3, .inr (6, [.ref (u4.1 0)])), (u4.1 0, .inl (u4.2 0, 543, .inl (fun _ => 0))), (q7, .inr (6, [.ref (u8.1 0)])), (u8.1 0, .inl (u8.2 0, 543, .inl (fun _ => 0))), (q11, .inr (6, [.ref (u12.1 0)])), (u12.1 0, .inl (u12.2 0, 543, .inl (fun _ => 0)))] H := hP
  have hD : va_D A [(a0, .inr (2, [.ref q1, .int 0, .int 0])), (q1, .inl (k1, 8, .inr (.inr (.inr (.inr (va_up (va_up (va_up (fun _ => none) 0 (some q3)) 1 (some q7)) 2 (some q11))))))), (q3, .inr (6, [.ref (u4.1 0)])), (u4.1 0, .inl (u4.2 0, 543, .inl (fun _ => 0))), (q7, .inr (6, [.ref (u8.1 0)])), (u8.1 0, .inl (u8.2 0, 543, .inl (fun _ => 0))), (q11, .inr (6, [.ref (u12.1 0)])), (u12.1 0, .inl (u12.2 0, 543, .inl (fun _ => 0)))] := hD
  refine lv_iinc (v := 3) (lv' := [(1, .int 3), (0, .ref a0)]) hx hb dX3_init_44 hl (k := 0) rfl (by decide) (by decide) rfl (fun ls hl => ?_)
  refine lv_goto (tgt := 25) hx hb dX3_init_47 (by decide) ?_
  refine lv_iload_n hx hb dX3_init_25 rfl (lv_at hl 0 rfl) ?_
  refine lv_bipush (v := 8) hx hb dX3_init_26 (by decide) ?_
  refine lv_icmp_ge (tgt := 50) hx hb dX3_init_28 (by decide) (fun c14 => absurd c14 (by decide)) (fun c14 => ?_)
  refine lv_aload_n hx hb dX3_init_31 rfl (lv_at hl 1 rfl) ?_
  refine va_get (D := (dC, dI)) (ci := 2) (v := .ref q1) (C := RX3) (T := TX3) (N := 3) hx hb (ly_X3 hE) (fun _ h9 => h9) hown hK hP 0 rfl rfl 0 (by decide) (wd_163 hE) (fun _ h9 => h9) rfl dX3_init_32 ?_
  refine lv_iload_n hx hb dX3_init_35 rfl (lv_at hl 0 rfl) ?_
  refine va_new (ci := 6) (fs := [.null]) (C := RX7) (T := TX7) (N := 1) hx hb (ly_X7 hE) (fun _ h9 => h9) tyX7 tyX7_ok hown (wd_160 hE) (wd_144 hE) (wd_116 hE) hK hP hD hS hA rfl (by decide +kernel) (Nat.le_of_ble_eq_true rfl) (Nat.le_of_ble_eq_true rfl) dX3_init_36 (fun q15 H hP hD hS => ?_)
  have hP : va_P (dC, dI) vwCl [(a0, .inr (2, [.ref q1, .int 0, .int 0])), (q1, .inl (k1, 8, .inr (.inr (.inr (.inr (va_up (va_up (va_up (fun _ => none) 0 (some q3)) 1 (some q7)) 2 (some q11))))))), (q3, .inr (6, [.ref (u4.1 0)])), (u4.1 0, .inl (u4.2 0, 543, .inl (fun _ => 0))), (q7, .inr (6, [.ref (u8.1 0)])), (u8.1 0, .inl (u8.2 0, 543, .inl (fun _ => 0))), (q11, .inr (6, [.ref (u12.1 0)])), (u12.1 0, .inl (u12.2 0, 543, .inl (fun _ => 0))), (q15, .inr (6, [.null]))] H := hP
  have hD : va_D A [(a0, .inr (2, [.ref q1, .int 0, .int 0])), (q1, .inl (k1, 8, .inr (.inr (.inr (.inr (va_up (va_up (va_up (fun _ => none) 0 (some q3)) 1 (some q7)) 2 (some q11))))))), (q3, .inr (6, [.ref (u4.1 0)])), (u4.1 0, .inl (u4.2 0, 543, .inl (fun _ => 0))), (q7, .inr (6, [.ref (u8.1 0)])), (u8.1 0, .inl (u8.2 0, 543, .inl (fun _ => 0))), (q11, .inr (6, [.ref (u12.1 0)])), (u12.1 0, .inl (u12.2 0, 543, .inl (fun _ => 0))), (q15, .inr (6, [.null]))] := hD
  refine W.widen (k := 8) (n := 1641) (Nat.le_of_ble_eq_true rfl) (Nat.le_of_ble_eq_true rfl) ?_
  refine lv_dup hx hb dX3_init_39 rfl ?_
  refine cl_v (wc := [(q15, .inr (6, [.null]))]) (wr := [(a0, .inr (2, [.ref q1, .int 0, .int 0])), (q1, .inl (k1, 8, .inr (.inr (.inr (.inr (va_up (va_up (va_up (fun _ => none) 0 (some q3)) 1 (some q7)) 2 (some q11))))))), (q3, .inr (6, [.ref (u4.1 0)])), (u4.1 0, .inl (u4.2 0, 543, .inl (fun _ => 0))), (q7, .inr (6, [.ref (u8.1 0)])), (u8.1 0, .inl (u8.2 0, 543, .inl (fun _ => 0))), (q11, .inr (6, [.ref (u12.1 0)])), (u12.1 0, .inl (u12.2 0, 543, .inl (fun _ => 0)))]) [8] [0, 1, 2, 3, 4, 5, 6, 7] rfl rfl (by decide) (by decide) hK hP hD hS hA (va_runIN (As := []) (rest := [.ref q15, .int 3, .ref q1]) ⟨hx, hb, hml, hown, noTs⟩ (c_X7_init l dC dI H.size q15) ⟨cnE 0 (wd_147 hE) (wd_116 hE) (wd_162 hE) rfl rfl (by decide +kernel) ⟨Nat.le_of_ble_eq_true rfl, Nat.le_of_ble_eq_true rfl⟩, rfl, (wd_146 hE)⟩ ⟨PcE.blind, (pre_E (av := [.ref q15]) (wc := [(q15, .inr (6, [.null]))]) (tysc := []) [8] [] rfl (by decide) rfl rfl hK hP hD hE)⟩ rfl rfl hl.1 rfl (lv_room (Nat.le_of_ble_eq_true rfl)) dX3_init_40 ⟨Nat.le_of_ble_eq_true rfl, Nat.le_of_ble_eq_true rfl⟩) (fun u16 H locs hw16 hK hP hD hS => ?_)
  have hK : va_K (dC, dI) vwCl [(k1, .object "GluedWords$Store"), (u4.2 0, .int), (u8.2 0, .int), (u12.2 0, .int), (u16.2 0, .int)] s := hK
  have hP : va_P (dC, dI) vwCl [(a0, .inr (2, [.ref q1, .int 0, .int 0])), (q1, .inl (k1, 8, .inr (.inr (.inr (.inr (va_up (va_up (va_up (fun _ => none) 0 (some q3)) 1 (some q7)) 2 (some q11))))))), (q3, .inr (6, [.ref (u4.1 0)])), (u4.1 0, .inl (u4.2 0, 543, .inl (fun _ => 0))), (q7, .inr (6, [.ref (u8.1 0)])), (u8.1 0, .inl (u8.2 0, 543, .inl (fun _ => 0))), (q11, .inr (6, [.ref (u12.1 0)])), (u12.1 0, .inl (u12.2 0, 543, .inl (fun _ => 0))), (q15, .inr (6, [.ref (u16.1 0)])), (u16.1 0, .inl (u16.2 0, 543, .inl (fun _ => 0)))] H := hP
  have hD : va_D A [(a0, .inr (2, [.ref q1, .int 0, .int 0])), (q1, .inl (k1, 8, .inr (.inr (.inr (.inr (va_up (va_up (va_up (fun _ => none) 0 (some q3)) 1 (some q7)) 2 (some q11))))))), (q3, .inr (6, [.ref (u4.1 0)])), (u4.1 0, .inl (u4.2 0, 543, .inl (fun _ => 0))), (q7, .inr (6, [.ref (u8.1 0)])), (u8.1 0, .inl (u8.2 0, 543, .inl (fun _ => 0))), (q11, .inr (6, [.ref (u12.1 0)])), (u12.1 0, .inl (u12.2 0, 543, .inl (fun _ => 0))), (q15, .inr (6, [.ref (u16.1 0)])), (u16.1 0, .inl (u16.2 0, 543, .inl (fun _ => 0)))] := hD
  refine W.widen (k := 9) (n := 2184) (Nat.le_of_ble_eq_true rfl) (Nat.le_of_ble_eq_true rfl) ?_
  refine va_astq hx hb hK hP hD hS 1 0 8 6 rfl rfl rfl rfl (by unfold vp_in; decide) dX3_init_43 (fun H locs hP hD hS => ?_)
  have hP : va_P (dC, dI) vwCl [(a0, .inr (2, [.ref q1, .int 0, .int 0])), (q1, .inl (k1, 8, .inr (.inr (.inr (.inr (va_up (va_up (va_up (va_up (fun _ => none) 0 (some q3)) 1 (some q7)) 2 (some q11)) 3 (some q15))))))), (q3, .inr (6, [.ref (u4.1 0)])), (u4.1 0, .inl (u4.2 0, 543, .inl (fun _ => 0))), (q7, .inr (6, [.ref (u8.1 0)])), (u8.1 0, .inl (u8.2 0, 543, .inl (fun _ => 0))), (q11, .inr (6, [.ref (u12.1 0)])), (u12.1 0, .inl (u12.2 0, 543, .inl (fun _ => 0))), (q15, .inr (6, [.ref (u16.1 0)])), (u16.1 0, .inl (u16.2 0, 543, .inl (fun _ => 0)))] H := hP
  have hD : va_D A [(a0, .inr (2, [.ref q1, .int 0, .int 0])), (q1, .inl (k1, 8, .inr (.inr (.inr (.inr (va_up (va_up (va_up (va_up (fun _ => none) 0 (some q3)) 1 (some q7)) 2 (some q11)) 3 (some q15))))))), (q3, .inr (6, [.ref (u4.1 0)])), (u4.1 0, .inl (u4.2 0, 543, .inl (fun _ => 0))), (q7, .inr (6, [.ref (u8.1 0)])), (u8.1 0, .inl (u8.2 0, 543, .inl (fun _ => 0))), (q11, .inr (6, [.ref (u12.1 0)])), (u12.1 0, .inl (u12.2 0, 543, .inl (fun _ => 0))), (q15, .inr (6, [.ref (u16.1 0)])), (u16.1 0, .inl (u16.2 0, 543, .inl (fun _ => 0)))] := hD
  refine lv_iinc (v := 4) (lv' := [(1, .int 4), (0, .ref a0)]) hx hb dX3_init_44 hl (k := 0) rfl (by decide) (by decide) rfl (fun ls hl => ?_)
  refine lv_goto (tgt := 25) hx hb dX3_init_47 (by decide) ?_
  refine lv_iload_n hx hb dX3_init_25 rfl (lv_at hl 0 rfl) ?_
  refine lv_bipush (v := 8) hx hb dX3_init_26 (by decide) ?_
  refine lv_icmp_ge (tgt := 50) hx hb dX3_init_28 (by decide) (fun c18 => absurd c18 (by decide)) (fun c18 => ?_)
  refine lv_aload_n hx hb dX3_init_31 rfl (lv_at hl 1 rfl) ?_
  refine va_get (D := (dC, dI)) (ci := 2) (v := .ref q1) (C := RX3) (T := TX3) (N := 3) hx hb (ly_X3 hE) (fun _ h9 => h9) hown hK hP 0 rfl rfl 0 (by decide) (wd_163 hE) (fun _ h9 => h9) rfl dX3_init_32 ?_
  refine lv_iload_n hx hb dX3_init_35 rfl (lv_at hl 0 rfl) ?_
  refine va_new (ci := 6) (fs := [.null]) (C := RX7) (T := TX7) (N := 1) hx hb (ly_X7 hE) (fun _ h9 => h9) tyX7 tyX7_ok hown (wd_160 hE) (wd_144 hE) (wd_116 hE) hK hP hD hS hA rfl (by decide +kernel) (Nat.le_of_ble_eq_true rfl) (Nat.le_of_ble_eq_true rfl) dX3_init_36 (fun q19 H hP hD hS => ?_)
  have hP : va_P (dC, dI) vwCl [(a0, .inr (2, [.ref q1, .int 0, .int 0])), (q1, .inl (k1, 8, .inr (.inr (.inr (.inr (va_up (va_up (va_up (va_up (fun _ => none) 0 (some q3)) 1 (some q7)) 2 (some q11)) 3 (some q15))))))), (q3, .inr (6, [.ref (u4.1 0)])), (u4.1 0, .inl (u4.2 0, 543, .inl (fun _ => 0))), (q7, .inr (6, [.ref (u8.1 0)])), (u8.1 0, .inl (u8.2 0, 543, .inl (fun _ => 0))), (q11, .inr (6, [.ref (u12.1 0)])), (u12.1 0, .inl (u12.2 0, 543, .inl (fun _ => 0))), (q15, .inr (6, [.ref (u16.1 0)])), (u16.1 0, .inl (u16.2 0, 543, .inl (fun _ => 0))), (q19, .inr (6, [.null]))] H := hP
  have hD : va_D A [(a0, .inr (2, [.ref q1, .int 0, .int 0])), (q1, .inl (k1, 8, .inr (.inr (.inr (.inr (va_up (va_up (va_up (va_up (fun _ => none) 0 (some q3)) 1 (some q7)) 2 (some q11)) 3 (some q15))))))), (q3, .inr (6, [.ref (u4.1 0)])), (u4.1 0, .inl (u4.2 0, 543, .inl (fun _ => 0))), (q7, .inr (6, [.ref (u8.1 0)])), (u8.1 0, .inl (u8.2 0, 543, .inl (fun _ => 0))), (q11, .inr (6, [.ref (u12.1 0)])), (u12.1 0, .inl (u12.2 0, 543, .inl (fun _ => 0))), (q15, .inr (6, [.ref (u16.1 0)])), (u16.1 0, .inl (u16.2 0, 543, .inl (fun _ => 0))), (q19, .inr (6, [.null]))] := hD
  refine W.widen (k := 10) (n := 2185) (Nat.le_of_ble_eq_true rfl) (Nat.le_of_ble_eq_true rfl) ?_
  refine lv_dup hx hb dX3_init_39 rfl ?_
  refine cl_v (wc := [(q19, .inr (6, [.null]))]) (wr := [(a0, .inr (2, [.ref q1, .int 0, .int 0])), (q1, .inl (k1, 8, .inr (.inr (.inr (.inr (va_up (va_up (va_up (va_up (fun _ => none) 0 (some q3)) 1 (some q7)) 2 (some q11)) 3 (some q15))))))), (q3, .inr (6, [.ref (u4.1 0)])), (u4.1 0, .inl (u4.2 0, 543, .inl (fun _ => 0))), (q7, .inr (6, [.ref (u8.1 0)])), (u8.1 0, .inl (u8.2 0, 543, .inl (fun _ => 0))), (q11, .inr (6, [.ref (u12.1 0)])), (u12.1 0, .inl (u12.2 0, 543, .inl (fun _ => 0))), (q15, .inr (6, [.ref (u16.1 0)])), (u16.1 0, .inl (u16.2 0, 543, .inl (fun _ => 0)))]) [10] [0, 1, 2, 3, 4, 5, 6, 7, 8, 9] rfl rfl (by decide) (by decide) hK hP hD hS hA (va_runIN (As := []) (rest := [.ref q19, .int 4, .ref q1]) ⟨hx, hb, hml, hown, noTs⟩ (c_X7_init l dC dI H.size q19) ⟨cnE 0 (wd_147 hE) (wd_116 hE) (wd_162 hE) rfl rfl (by decide +kernel) ⟨Nat.le_of_ble_eq_true rfl, Nat.le_of_ble_eq_true rfl⟩, rfl, (wd_146 hE)⟩ ⟨PcE.blind, (pre_E (av := [.ref q19]) (wc := [(q19, .inr (6, [.null]))]) (tysc := []) [10] [] rfl (by decide) rfl rfl hK hP hD hE)⟩ rfl rfl hl.1 rfl (lv_room (Nat.le_of_ble_eq_true rfl)) dX3_init_40 ⟨Nat.le_of_ble_eq_true rfl, Nat.le_of_ble_eq_true rfl⟩) (fun u20 H locs hw20 hK hP hD hS => ?_)
  have hK : va_K (dC, dI) vwCl [(k1, .object "GluedWords$Store"), (u4.2 0, .int), (u8.2 0, .int), (u12.2 0, .int), (u16.2 0, .int), (u20.2 0, .int)] s := hK
  have hP : va_P (dC, dI) vwCl [(a0, .inr (2, [.ref q1, .int 0, .int 0])), (q1, .inl (k1, 8, .inr (.inr (.inr (.inr (va_up (va_up (va_up (va_up (fun _ => none) 0 (some q3)) 1 (some q7)) 2 (some q11)) 3 (some q15))))))), (q3, .inr (6, [.ref (u4.1 0)])), (u4.1 0, .inl (u4.2 0, 543, .inl (fun _ => 0))), (q7, .inr (6, [.ref (u8.1 0)])), (u8.1 0, .inl (u8.2 0, 543, .inl (fun _ => 0))), (q11, .inr (6, [.ref (u12.1 0)])), (u12.1 0, .inl (u12.2 0, 543, .inl (fun _ => 0))), (q15, .inr (6, [.ref (u16.1 0)])), (u16.1 0, .inl (u16.2 0, 543, .inl (fun _ => 0))), (q19, .inr (6, [.ref (u20.1 0)])), (u20.1 0, .inl (u20.2 0, 543, .inl (fun _ => 0)))] H := hP
  have hD : va_D A [(a0, .inr (2, [.ref q1, .int 0, .int 0])), (q1, .inl (k1, 8, .inr (.inr (.inr (.inr (va_up (va_up (va_up (va_up (fun _ => none) 0 (some q3)) 1 (some q7)) 2 (some q11)) 3 (some q15))))))), (q3, .inr (6, [.ref (u4.1 0)])), (u4.1 0, .inl (u4.2 0, 543, .inl (fun _ => 0))), (q7, .inr (6, [.ref (u8.1 0)])), (u8.1 0, .inl (u8.2 0, 543, .inl (fun _ => 0))), (q11, .inr (6, [.ref (u12.1 0)])), (u12.1 0, .inl (u12.2 0, 543, .inl (fun _ => 0))), (q15, .inr (6, [.ref (u16.1 0)])), (u16.1 0, .inl (u16.2 0, 543, .inl (fun _ => 0))), (q19, .inr (6, [.ref (u20.1 0)])), (u20.1 0, .inl (u20.2 0, 543, .inl (fun _ => 0)))] := hD
  refine W.widen (k := 11) (n := 2728) (Nat.le_of_ble_eq_true rfl) (Nat.le_of_ble_eq_true rfl) ?_
  refine va_astq hx hb hK hP hD hS 1 0 10 6 rfl rfl rfl rfl (by unfold vp_in; decide) dX3_init_43 (fun H locs hP hD hS => ?_)
  have hP : va_P (dC, dI) vwCl [(a0, .inr (2, [.ref q1, .int 0, .int 0])), (q1, .inl (k1, 8, .inr (.inr (.inr (.inr (va_up (va_up (va_up (va_up (va_up (fun _ => none) 0 (some q3)) 1 (some q7)) 2 (some q11)) 3 (some q15)) 4 (some q19))))))), (q3, .inr (6, [.ref (u4.1 0)])), (u4.1 0, .inl (u4.2 0, 543, .inl (fun _ => 0))), (q7, .inr (6, [.ref (u8.1 0)])), (u8.1 0, .inl (u8.2 0, 543, .inl (fun _ => 0))), (q11, .inr (6, [.ref (u12.1 0)])), (u12.1 0, .inl (u12.2 0, 543, .inl (fun _ => 0))), (q15, .inr (6, [.ref (u16.1 0)])), (u16.1 0, .inl (u16.2 0, 543, .inl (fun _ => 0))), (q19, .inr (6, [.ref (u20.1 0)])), (u20.1 0, .inl (u20.2 0, 543, .inl (fun _ => 0)))] H := hP
  have hD : va_D A [(a0, .inr (2, [.ref q1, .int 0, .int 0])), (q1, .inl (k1, 8, .inr (.inr (.inr (.inr (va_up (va_up (va_up (va_up (va_up (fun _ => none) 0 (some q3)) 1 (some q7)) 2 (some q11)) 3 (some q15)) 4 (some q19))))))), (q3, .inr (6, [.ref (u4.1 0)])), (u4.1 0, .inl (u4.2 0, 543, .inl (fun _ => 0))), (q7, .inr (6, [.ref (u8.1 0)])), (u8.1 0, .inl (u8.2 0, 543, .inl (fun _ => 0))), (q11, .inr (6, [.ref (u12.1 0)])), (u12.1 0, .inl (u12.2 0, 543, .inl (fun _ => 0))), (q15, .inr (6, [.ref (u16.1 0)])), (u16.1 0, .inl (u16.2 0, 543, .inl (fun _ => 0))), (q19, .inr (6, [.ref (u20.1 0)])), (u20.1 0, .inl (u20.2 0, 543, .inl (fun _ => 0)))] := hD
  refine lv_iinc (v := 5) (lv' := [(1, .int 5), (0, .ref a0)]) hx hb dX3_init_44 hl (k := 0) rfl (by decide) (by decide) rfl (fun ls hl => ?_)
  refine lv_goto (tgt := 25) hx hb dX3_init_47 (by decide) ?_
  refine lv_iload_n hx hb dX3_init_25 rfl (lv_at hl 0 rfl) ?_
  refine lv_bipush (v := 8) hx hb dX3_init_26 (by decide) ?_
  refine lv_icmp_ge (tgt := 50) hx hb dX3_init_28 (by decide) (fun c22 => absurd c22 (by decide)) (fun c22 => ?_)
  refine lv_aload_n hx hb dX3_init_31 rfl (lv_at hl 1 rfl) ?_
  refine va_get (D := (dC, dI)) (ci := 2) (v := .ref q1) (C := RX3) (T := TX3) (N := 3) hx hb (ly_X3 hE) (fun _ h9 => h9) hown hK hP 0 rfl rfl 0 (by decide) (wd_163 hE) (fun _ h9 => h9) rfl dX3_init_32 ?_
  refine lv_iload_n hx hb dX3_init_35 rfl (lv_at hl 0 rfl) ?_
  refine va_new (ci := 6) (fs := [.null]) (C := RX7) (T := TX7) (N := 1) hx hb (ly_X7 hE) (fun _ h9 => h9) tyX7 tyX7_ok hown (wd_160 hE) (wd_144 hE) (wd_116 hE) hK hP hD hS hA rfl (by decide +kernel) (Nat.le_of_ble_eq_true rfl) (Nat.le_of_ble_eq_true rfl) dX3_init_36 (fun q23 H hP hD hS => ?_)
  have hP : va_P (dC, dI) vwCl [(a0, .inr (2, [.ref q1, .int 0, .int 0])), (q1, .inl (k1, 8, .inr (.inr (.inr (.inr (va_up (va_up (va_up (va_up (va_up (fun _ => none) 0 (some q3)) 1 (some q7)) 2 (some q11)) 3 (some q15)) 4 (some q19))))))), (q3, .inr (6, [.ref (u4.1 0)])), (u4.1 0, .inl (u4.2 0, 543, .inl (fun _ => 0))), (q7, .inr (6, [.ref (u8.1 0)])), (u8.1 0, .inl (u8.2 0, 543, .inl (fun _ => 0))), (q11, .inr (6, [.ref (u12.1 0)])), (u12.1 0, .inl (u12.2 0, 543, .inl (fun _ => 0))), (q15, .inr (6, [.ref (u16.1 0)])), (u16.1 0, .inl (u16.2 0, 543, .inl (fun _ => 0))), (q19, .inr (6, [.ref (u20.1 0)])), (u20.1 0, .inl (u20.2 0, 543, .inl (fun _ => 0))), (q23, .inr (6, [.null]))] H := hP
  have hD : va_D A [(a0, .inr (2, [.ref q1, .int 0, .int 0])), (q1, .inl (k1, 8, .inr (.inr (.inr (.inr (va_up (va_up (va_up (va_up (va_up (fun _ => none) 0 (some q3)) 1 (some q7)) 2 (some q11)) 3 (some q15)) 4 (some q19))))))), (q3, .inr (6, [.ref (u4.1 0)])), (u4.1 0, .inl (u4.2 0, 543, .inl (fun _ => 0))), (q7, .inr (6, [.ref (u8.1 0)])), (u8.1 0, .inl (u8.2 0, 543, .inl (fun _ => 0))), (q11, .inr (6, [.ref (u12.1 0)])), (u12.1 0, .inl (u12.2 0, 543, .inl (fun _ => 0))), (q15, .inr (6, [.ref (u16.1 0)])), (u16.1 0, .inl (u16.2 0, 543, .inl (fun _ => 0))), (q19, .inr (6, [.ref (u20.1 0)])), (u20.1 0, .inl (u20.2 0, 543, .inl (fun _ => 0))), (q23, .inr (6, [.null]))] := hD
  refine W.widen (k := 12) (n := 2729) (Nat.le_of_ble_eq_true rfl) (Nat.le_of_ble_eq_true rfl) ?_
  refine lv_dup hx hb dX3_init_39 rfl ?_
  refine cl_v (wc := [(q23, .inr (6, [.null]))]) (wr := [(a0, .inr (2, [.ref q1, .int 0, .int 0])), (q1, .inl (k1, 8, .inr (.inr (.inr (.inr (va_up (va_up (va_up (va_up (va_up (fun _ => none) 0 (some q3)) 1 (some q7)) 2 (some q11)) 3 (some q15)) 4 (some q19))))))), (q3, .inr (6, [.ref (u4.1 0)])), (u4.1 0, .inl (u4.2 0, 543, .inl (fun _ => 0))), (q7, .inr (6, [.ref (u8.1 0)])), (u8.1 0, .inl (u8.2 0, 543, .inl (fun _ => 0))), (q11, .inr (6, [.ref (u12.1 0)])), (u12.1 0, .inl (u12.2 0, 543, .inl (fun _ => 0))), (q15, .inr (6, [.ref (u16.1 0)])), (u16.1 0, .inl (u16.2 0, 543, .inl (fun _ => 0))), (q19, .inr (6, [.ref (u20.1 0)])), (u20.1 0, .inl (u20.2 0, 543, .inl (fun _ => 0)))]) [12] [0, 1, 2, 3, 4, 5, 6, 7, 8, 9, 10, 11] rfl rfl (by decide) (by decide) hK hP hD hS hA (va_runIN (As := []) (rest := [.ref q23, .int 5, .ref q1]) ⟨hx, hb, hml, hown, noTs⟩ (c_X7_init l dC dI H.size q23) ⟨cnE 0 (wd_147 hE) (wd_116 hE) (wd_162 hE) rfl rfl (by decide +kernel) ⟨Nat.le_of_ble_eq_true rfl, Nat.le_of_ble_eq_true rfl⟩, rfl, (wd_146 hE)⟩ ⟨PcE.blind, (pre_E (av := [.ref q23]) (wc := [(q23, .inr (6, [.null]))]) (tysc := []) [12] [] rfl (by decide) rfl rfl hK hP hD hE)⟩ rfl rfl hl.1 rfl (lv_room (Nat.le_of_ble_eq_true rfl)) dX3_init_40 ⟨Nat.le_of_ble_eq_true rfl, Nat.le_of_ble_eq_true rfl⟩) (fun u24 H locs hw24 hK hP hD hS => ?_)
  have hK : va_K (dC, dI) vwCl [(k1, .object "GluedWords$Store"), (u4.2 0, .int), (u8.2 0, .int), (u12.2 0, .int), (u16.2 0, .int), (u20.2 0, .int), (u24.2 0, .int)] s := hK
  have hP : va_P (dC, dI) vwCl [(a0, .inr (2, [.ref q1, .int 0, .int 0])), (q1, .inl (k1, 8, .inr (.inr (.inr (.inr (va_up (va_up (va_up (va_up (va_up (fun _ => none) 0 (some q3)) 1 (some q7)) 2 (some q11)) 3 (some q15)) 4 (some q19))))))), (q3, .inr (6, [.ref (u4.1 0)])), (u4.1 0, .inl (u4.2 0, 543, .inl (fun _ => 0))), (q7, .inr (6, [.ref (u8.1 0)])), (u8.1 0, .inl (u8.2 0, 543, .inl (fun _ => 0))), (q11, .inr (6, [.ref (u12.1 0)])), (u12.1 0, .inl (u12.2 0, 543, .inl (fun _ => 0))), (q15, .inr (6, [.ref (u16.1 0)])), (u16.1 0, .inl (u16.2 0, 543, .inl (fun _ => 0))), (q19, .inr (6, [.ref (u20.1 0)])), (u20.1 0, .inl (u20.2 0, 543, .inl (fun _ => 0))), (q23, .inr (6, [.ref (u24.1 0)])), (u24.1 0, .inl (u24.2 0, 543, .inl (fun _ => 0)))] H := hP
  have hD : va_D A [(a0, .inr (2, [.ref q1, .int 0, .int 0])), (q1, .inl (k1, 8, .inr (.inr (.inr (.inr (va_up (va_up (va_up (va_up (va_up (fun _ => none) 0 (some q3)) 1 (some q7)) 2 (some q11)) 3 (some q15)) 4 (some q19))))))), (q3, .inr (6, [.ref (u4.1 0)])), (u4.1 0, .inl (u4.2 0, 543, .inl (fun _ => 0))), (q7, .inr (6, [.ref (u8.1 0)])), (u8.1 0, .inl (u8.2 0, 543, .inl (fun _ => 0))), (q11, .inr (6, [.ref (u12.1 0)])), (u12.1 0, .inl (u12.2 0, 543, .inl (fun _ => 0))), (q15, .inr (6, [.ref (u16.1 0)])), (u16.1 0, .inl (u16.2 0, 543, .inl (fun _ => 0))), (q19, .inr (6, [.ref (u20.1 0)])), (u20.1 0, .inl (u20.2 0, 543, .inl (fun _ => 0))), (q23, .inr (6, [.ref (u24.1 0)])), (u24.1 0, .inl (u24.2 0, 543, .inl (fun _ => 0)))] := hD
  refine W.widen (k := 13) (n := 3272) (Nat.le_of_ble_eq_true rfl) (Nat.le_of_ble_eq_true rfl) ?_
  refine va_astq hx hb hK hP hD hS 1 0 12 6 rfl rfl rfl rfl (by unfold vp_in; decide) dX3_init_43 (fun H locs hP hD hS => ?_)
  have hP : va_P (dC, dI) vwCl [(a0, .inr (2, [.ref q1, .int 0, .int 0])), (q1, .inl (k1, 8, .inr (.inr (.inr (.inr (va_up (va_up (va_up (va_up (va_up (va_up (fun _ => none) 0 (some q3)) 1 (some q7)) 2 (some q11)) 3 (some q15)) 4 (some q19)) 5 (some q23))))))), (q3, .inr (6, [.ref (u4.1 0)])), (u4.1 0, .inl (u4.2 0, 543, .inl (fun _ => 0))), (q7, .inr (6, [.ref (u8.1 0)])), (u8.1 0, .inl (u8.2 0, 543, .inl (fun _ => 0))), (q11, .inr (6, [.ref (u12.1 0)])), (u12.1 0, .inl (u12.2 0, 543, .inl (fun _ => 0))), (q15, .inr (6, [.ref (u16.1 0)])), (u16.1 0, .inl (u16.2 0, 543, .inl (fun _ => 0))), (q19, .inr (6, [.ref (u20.1 0)])), (u20.1 0, .inl (u20.2 0, 543, .inl (fun _ => 0))), (q23, .inr (6, [.ref (u24.1 0)])), (u24.1 0, .inl (u24.2 0, 543, .inl (fun _ => 0)))] H := hP
  have hD : va_D A [(a0, .inr (2, [.ref q1, .int 0, .int 0])), (q1, .inl (k1, 8, .inr (.inr (.inr (.inr (va_up (va_up (va_up (va_up (va_up (va_up (fun _ => none) 0 (some q3)) 1 (some q7)) 2 (some q11)) 3 (some q15)) 4 (some q19)) 5 (some q23))))))), (q3, .inr (6, [.ref (u4.1 0)])), (u4.1 0, .inl (u4.2 0, 543, .inl (fun _ => 0))), (q7, .inr (6, [.ref (u8.1 0)])), (u8.1 0, .inl (u8.2 0, 543, .inl (fun _ => 0))), (q11, .inr (6, [.ref (u12.1 0)])), (u12.1 0, .inl (u12.2 0, 543, .inl (fun _ => 0))), (q15, .inr (6, [.ref (u16.1 0)])), (u16.1 0, .inl (u16.2 0, 543, .inl (fun _ => 0))), (q19, .inr (6, [.ref (u20.1 0)])), (u20.1 0, .inl (u20.2 0, 543, .inl (fun _ => 0))), (q23, .inr (6, [.ref (u24.1 0)])), (u24.1 0, .inl (u24.2 0, 543, .inl (fun _ => 0)))] := hD
  refine lv_iinc (v := 6) (lv' := [(1, .int 6), (0, .ref a0)]) hx hb dX3_init_44 hl (k := 0) rfl (by decide) (by decide) rfl (fun ls hl => ?_)
  refine lv_goto (tgt := 25) hx hb dX3_init_47 (by decide) ?_
  refine lv_iload_n hx hb dX3_init_25 rfl (lv_at hl 0 rfl) ?_
  refine lv_bipush (v := 8) hx hb dX3_init_26 (by decide) ?_
  refine lv_icmp_ge (tgt := 50) hx hb dX3_init_28 (by decide) (fun c26 => absurd c26 (by decide)) (fun c26 => ?_)
  refine lv_aload_n hx hb dX3_init_31 rfl (lv_at hl 1 rfl) ?_
  refine va_get (D := (dC, dI)) (ci := 2) (v := .ref q1) (C := RX3) (T := TX3) (N := 3) hx hb (ly_X3 hE) (fun _ h9 => h9) hown hK hP 0 rfl rfl 0 (by decide) (wd_163 hE) (fun _ h9 => h9) rfl dX3_init_32 ?_
  refine lv_iload_n hx hb dX3_init_35 rfl (lv_at hl 0 rfl) ?_
  refine va_new (ci := 6) (fs := [.null]) (C := RX7) (T := TX7) (N := 1) hx hb (ly_X7 hE) (fun _ h9 => h9) tyX7 tyX7_ok hown (wd_160 hE) (wd_144 hE) (wd_116 hE) hK hP hD hS hA rfl (by decide +kernel) (Nat.le_of_ble_eq_true rfl) (Nat.le_of_ble_eq_true rfl) dX3_init_36 (fun q27 H hP hD hS => ?_)
  have hP : va_P (dC, dI) vwCl [(a0, .inr (2, [.ref q1, .int 0, .int 0])), (q1, .inl (k1, 8, .inr (.inr (.inr (.inr (va_up (va_up (va_up (va_up (va_up (va_up (fun _ => none) 0 (some q3)) 1 (some q7)) 2 (some q11)) 3 (some q15)) 4 (some q19)) 5 (some q23))))))), (q3, .inr (6, [.ref (u4.1 0)])), (u4.1 0, .inl (u4.2 0, 543, .inl (fun _ => 0))), (q7, .inr (6, [.ref (u8.1 0)])), (u8.1 0, .inl (u8.2 0, 543, .inl (fun _ => 0))), (q11, .inr (6, [.ref (u12.1 0)])), (u12.1 0, .inl (u12.2 0, 543, .inl (fun _ => 0))), (q15, .inr (6, [.ref (u16.1 0)])), (u16.1 0, .inl (u16.2 0, 543, .inl (fun _ => 0))), (q19, .inr (6, [.ref (u20.1 0)])), (u20.1 0, .inl (u20.2 0, 543, .inl (fun _ => 0))), (q23, .inr (6, [.ref (u24.1 0)])), (u24.1 0, .inl (u24.2 0, 543, .inl (fun _ => 0))), (q27, .inr (6, [.null]))] H := hP
  have hD : va_D A [(a0, .inr (2, [.ref q1, .int 0, .int 0])), (q1, .inl (k1, 8, .inr (.inr (.inr (.inr (va_up (va_up (va_up (va_up (va_up (va_up (fun _ => none) 0 (some q3)) 1 (some q7)) 2 (some q11)) 3 (some q15)) 4 (some q19)) 5 (some q23))))))), (q3, .inr (6, [.ref (u4.1 0)])), (u4.1 0, .inl (u4.2 0, 543, .inl (fun _ => 0))), (q7, .inr (6, [.ref (u8.1 0)])), (u8.1 0, .inl (u8.2 0, 543, .inl (fun _ => 0))), (q11, .inr (6, [.ref (u12.1 0)])), (u12.1 0, .inl (u12.2 0, 543, .inl (fun _ => 0))), (q15, .inr (6, [.ref (u16.1 0)])), (u16.1 0, .inl (u16.2 0, 543, .inl (fun _ => 0))), (q19, .inr (6, [.ref (u20.1 0)])), (u20.1 0, .inl (u20.2 0, 543, .inl (fun _ => 0))), (q23, .inr (6, [.ref (u24.1 0)])), (u24.1 0, .inl (u24.2 0, 543, .inl (fun _ => 0))), (q27, .inr (6, [.null]))] := hD
  refine W.widen (k := 14) (n := 3273) (Nat.le_of_ble_eq_true rfl) (Nat.le_of_ble_eq_true rfl) ?_
  refine lv_dup hx hb dX3_init_39 rfl ?_
  refine cl_v (wc := [(q27, .inr (6, [.null]))]) (wr := [(a0, .inr (2, [.ref q1, .int 0, .int 0])), (q1, .inl (k1, 8, .inr (.inr (.inr (.inr (va_up (va_up (va_up (va_up (va_up (va_up (fun _ => none) 0 (some q3)) 1 (some q7)) 2 (some q11)) 3 (some q15)) 4 (some q19)) 5 (some q23))))))), (q3, .inr (6, [.ref (u4.1 0)])), (u4.1 0, .inl (u4.2 0, 543, .inl (fun _ => 0))), (q7, .inr (6, [.ref (u8.1 0)])), (u8.1 0, .inl (u8.2 0, 543, .inl (fun _ => 0))), (q11, .inr (6, [.ref (u12.1 0)])), (u12.1 0, .inl (u12.2 0, 543, .inl (fun _ => 0))), (q15, .inr (6, [.ref (u16.1 0)])), (u16.1 0, .inl (u16.2 0, 543, .inl (fun _ => 0))), (q19, .inr (6, [.ref (u20.1 0)])), (u20.1 0, .inl (u20.2 0, 543, .inl (fun _ => 0))), (q23, .inr (6, [.ref (u24.1 0)])), (u24.1 0, .inl (u24.2 0, 543, .inl (fun _ => 0)))]) [14] [0, 1, 2, 3, 4, 5, 6, 7, 8, 9, 10, 11, 12, 13] rfl rfl (by decide) (by decide) hK hP hD hS hA (va_runIN (As := []) (rest := [.ref q27, .int 6, .ref q1]) ⟨hx, hb, hml, hown, noTs⟩ (c_X7_init l dC dI H.size q27) ⟨cnE 0 (wd_147 hE) (wd_116 hE) (wd_162 hE) rfl rfl (by decide +kernel) ⟨Nat.le_of_ble_eq_true rfl, Nat.le_of_ble_eq_true rfl⟩, rfl, (wd_146 hE)⟩ ⟨PcE.blind, (pre_E (av := [.ref q27]) (wc := [(q27, .inr (6, [.null]))]) (tysc := []) [14] [] rfl (by decide) rfl rfl hK hP hD hE)⟩ rfl rfl hl.1 rfl (lv_room (Nat.le_of_ble_eq_true rfl)) dX3_init_40 ⟨Nat.le_of_ble_eq_true rfl, Nat.le_of_ble_eq_true rfl⟩) (fun u28 H locs hw28 hK hP hD hS => ?_)
  have hK : va_K (dC, dI) vwCl [(k1, .object "GluedWords$Store"), (u4.2 0, .int), (u8.2 0, .int), (u12.2 0, .int), (u16.2 0, .int), (u20.2 0, .int), (u24.2 0, .int), (u28.2 0, .int)] s := hK
  have hP : va_P (dC, dI) vwCl [(a0, .inr (2, [.ref q1, .int 0, .int 0])), (q1, .inl (k1, 8, .inr (.inr (.inr (.inr (va_up (va_up (va_up (va_up (va_up (va_up (fun _ => none) 0 (some q3)) 1 (some q7)) 2 (some q11)) 3 (some q15)) 4 (some q19)) 5 (some q23))))))), (q3, .inr (6, [.ref (u4.1 0)])), (u4.1 0, .inl (u4.2 0, 543, .inl (fun _ => 0))), (q7, .inr (6, [.ref (u8.1 0)])), (u8.1 0, .inl (u8.2 0, 543, .inl (fun _ => 0))), (q11, .inr (6, [.ref (u12.1 0)])), (u12.1 0, .inl (u12.2 0, 543, .inl (fun _ => 0))), (q15, .inr (6, [.ref (u16.1 0)])), (u16.1 0, .inl (u16.2 0, 543, .inl (fun _ => 0))), (q19, .inr (6, [.ref (u20.1 0)])), (u20.1 0, .inl (u20.2 0, 543, .inl (fun _ => 0))), (q23, .inr (6, [.ref (u24.1 0)])), (u24.1 0, .inl (u24.2 0, 543, .inl (fun _ => 0))), (q27, .inr (6, [.ref (u28.1 0)])), (u28.1 0, .inl (u28.2 0, 543, .inl (fun _ => 0)))] H := hP
  have hD : va_D A [(a0, .inr (2, [.ref q1, .int 0, .int 0])), (q1, .inl (k1, 8, .inr (.inr (.inr (.inr (va_up (va_up (va_up (va_up (va_up (va_up (fun _ => none) 0 (some q3)) 1 (some q7)) 2 (some q11)) 3 (some q15)) 4 (some q19)) 5 (some q23))))))), (q3, .inr (6, [.ref (u4.1 0)])), (u4.1 0, .inl (u4.2 0, 543, .inl (fun _ => 0))), (q7, .inr (6, [.ref (u8.1 0)])), (u8.1 0, .inl (u8.2 0, 543, .inl (fun _ => 0))), (q11, .inr (6, [.ref (u12.1 0)])), (u12.1 0, .inl (u12.2 0, 543, .inl (fun _ => 0))), (q15, .inr (6, [.ref (u16.1 0)])), (u16.1 0, .inl (u16.2 0, 543, .inl (fun _ => 0))), (q19, .inr (6, [.ref (u20.1 0)])), (u20.1 0, .inl (u20.2 0, 543, .inl (fun _ => 0))), (q23, .inr (6, [.ref (u24.1 0)])), (u24.1 0, .inl (u24.2 0, 543, .inl (fun _ => 0))), (q27, .inr (6, [.ref (u28.1 0)])), (u28.1 0, .inl (u28.2 0, 543, .inl (fun _ => 0)))] := hD
  refine W.widen (k := 15) (n := 3816) (Nat.le_of_ble_eq_true rfl) (Nat.le_of_ble_eq_true rfl) ?_
  refine va_astq hx hb hK hP hD hS 1 0 14 6 rfl rfl rfl rfl (by unfold vp_in; decide) dX3_init_43 (fun H locs hP hD hS => ?_)
  have hP : va_P (dC, dI) vwCl [(a0, .inr (2, [.ref q1, .int 0, .int 0])), (q1, .inl (k1, 8, .inr (.inr (.inr (.inr (va_up (va_up (va_up (va_up (va_up (va_up (va_up (fun _ => none) 0 (some q3)) 1 (some q7)) 2 (some q11)) 3 (some q15)) 4 (some q19)) 5 (some q23)) 6 (some q27))))))), (q3, .inr (6, [.ref (u4.1 0)])), (u4.1 0, .inl (u4.2 0, 543, .inl (fun _ => 0))), (q7, .inr (6, [.ref (u8.1 0)])), (u8.1 0, .inl (u8.2 0, 543, .inl (fun _ => 0))), (q11, .inr (6, [.ref (u12.1 0)])), (u12.1 0, .inl (u12.2 0, 543, .inl (fun _ => 0))), (q15, .inr (6, [.ref (u16.1 0)])), (u16.1 0, .inl (u16.2 0, 543, .inl (fun _ => 0))), (q19, .inr (6, [.ref (u20.1 0)])), (u20.1 0, .inl (u20.2 0, 543, .inl (fun _ => 0))), (q23, .inr (6, [.ref (u24.1 0)])), (u24.1 0, .inl (u24.2 0, 543, .inl (fun _ => 0))), (q27, .inr (6, [.ref (u28.1 0)])), (u28.1 0, .inl (u28.2 0, 543, .inl (fun _ => 0)))] H := hP
  have hD : va_D A [(a0, .inr (2, [.ref q1, .int 0, .int 0])), (q1, .inl (k1, 8, .inr (.inr (.inr (.inr (va_up (va_up (va_up (va_up (va_up (va_up (va_up (fun _ => none) 0 (some q3)) 1 (some q7)) 2 (some q11)) 3 (some q15)) 4 (some q19)) 5 (some q23)) 6 (some q27))))))), (q3, .inr (6, [.ref (u4.1 0)])), (u4.1 0, .inl (u4.2 0, 543, .inl (fun _ => 0))), (q7, .inr (6, [.ref (u8.1 0)])), (u8.1 0, .inl (u8.2 0, 543, .inl (fun _ => 0))), (q11, .inr (6, [.ref (u12.1 0)])), (u12.1 0, .inl (u12.2 0, 543, .inl (fun _ => 0))), (q15, .inr (6, [.ref (u16.1 0)])), (u16.1 0, .inl (u16.2 0, 543, .inl (fun _ => 0))), (q19, .inr (6, [.ref (u20.1 0)])), (u20.1 0, .inl (u20.2 0, 543, .inl (fun _ => 0))), (q23, .inr (6, [.ref (u24.1 0)])), (u24.1 0, .inl (u24.2 0, 543, .inl (fun _ => 0))), (q27, .inr (6, [.ref (u28.1 0)])), (u28.1 0, .inl (u28.2 0, 543, .inl (fun _ => 0)))] := hD
  refine lv_iinc (v := 7) (lv' := [(1, .int 7), (0, .ref a0)]) hx hb dX3_init_44 hl (k := 0) rfl (by decide) (by decide) rfl (fun ls hl => ?_)
  refine lv_goto (tgt := 25) hx hb dX3_init_47 (by decide) ?_
  refine lv_iload_n hx hb dX3_init_25 rfl (lv_at hl 0 rfl) ?_
  refine lv_bipush (v := 8) hx hb dX3_init_26 (by decide) ?_
  refine lv_icmp_ge (tgt := 50) hx hb dX3_init_28 (by decide) (fun c30 => absurd c30 (by decide)) (fun c30 => ?_)
  refine lv_aload_n hx hb dX3_init_31 rfl (lv_at hl 1 rfl) ?_
  refine va_get (D := (dC, dI)) (ci := 2) (v := .ref q1) (C := RX3) (T := TX3) (N := 3) hx hb (ly_X3 hE) (fun _ h9 => h9) hown hK hP 0 rfl rfl 0 (by decide) (wd_163 hE) (fun _ h9 => h9) rfl dX3_init_32 ?_
  refine lv_iload_n hx hb dX3_init_35 rfl (lv_at hl 0 rfl) ?_
  refine va_new (ci := 6) (fs := [.null]) (C := RX7) (T := TX7) (N := 1) hx hb (ly_X7 hE) (fun _ h9 => h9) tyX7 tyX7_ok hown (wd_160 hE) (wd_144 hE) (wd_116 hE) hK hP hD hS hA rfl (by decide +kernel) (Nat.le_of_ble_eq_true rfl) (Nat.le_of_ble_eq_true rfl) dX3_init_36 (fun q31 H hP hD hS => ?_)
  have hP : va_P (dC, dI) vwCl [(a0, .inr (2, [.ref q1, .int 0, .int 0])), (q1, .inl (k1, 8, .inr (.inr (.inr (.inr (va_up (va_up (va_up (va_up (va_up (va_up (va_up (fun _ => none) 0 (some q3)) 1 (some q7)) 2 (some q11)) 3 (some q15)) 4 (some q19)) 5 (some q23)) 6 (some q27))))))), (q3, .inr (6, [.ref (u4.1 0)])), (u4.1 0, .inl (u4.2 0, 543, .inl (fun _ => 0))), (q7, .inr (6, [.ref (u8.1 0)])), (u8.1 0, .inl (u8.2 0, 543, .inl (fun _ => 0))), (q11, .inr (6, [.ref (u12.1 0)])), (u12.1 0, .inl (u12.2 0, 543, .inl (fun _ => 0))), (q15, .inr (6, [.ref (u16.1 0)])), (u16.1 0, .inl (u16.2 0, 543, .inl (fun _ => 0))), (q19, .inr (6, [.ref (u20.1 0)])), (u20.1 0, .inl (u20.2 0, 543, .inl (fun _ => 0))), (q23, .inr (6, [.ref (u24.1 0)])), (u24.1 0, .inl (u24.2 0, 543, .inl (fun _ => 0))), (q27, .inr (6, [.ref (u28.1 0)])), (u28.1 0, .inl (u28.2 0, 543, .inl (fun _ => 0))), (q31, .inr (6, [.null]))] H := hP
  have hD : va_D A [(a0, .inr (2, [.ref q1, .int 0, .int 0])), (q1, .inl (k1, 8, .inr (.inr (.inr (.inr (va_up (va_up (va_up (va_up (va_up (va_up (va_up (fun _ => none) 0 (some q3)) 1 (some q7)) 2 (some q11)) 3 (some q15)) 4 (some q19)) 5 (some q23)) 6 (some q27))))))), (q3, .inr (6, [.ref (u4.1 0)])), (u4.1 0, .inl (u4.2 0, 543, .inl (fun _ => 0))), (q7, .inr (6, [.ref (u8.1 0)])), (u8.1 0, .inl (u8.2 0, 543, .inl (fun _ => 0))), (q11, .inr (6, [.ref (u12.1 0)])), (u12.1 0, .inl (u12.2 0, 543, .inl (fun _ => 0))), (q15, .inr (6, [.ref (u16.1 0)])), (u16.1 0, .inl (u16.2 0, 543, .inl (fun _ => 0))), (q19, .inr (6, [.ref (u20.1 0)])), (u20.1 0, .inl (u20.2 0, 543, .inl (fun _ => 0))), (q23, .inr (6, [.ref (u24.1 0)])), (u24.1 0, .inl (u24.2 0, 543, .inl (fun _ => 0))), (q27, .inr (6, [.ref (u28.1 0)])), (u28.1 0, .inl (u28.2 0, 543, .inl (fun _ => 0))), (q31, .inr (6, [.null]))] := hD
  refine W.widen (k := 16) (n := 3817) (Nat.le_of_ble_eq_true rfl) (Nat.le_of_ble_eq_true rfl) ?_
  refine lv_dup hx hb dX3_init_39 rfl ?_
  refine cl_v (wc := [(q31, .inr (6, [.null]))]) (wr := [(a0, .inr (2, [.ref q1, .int 0, .int 0])), (q1, .inl (k1, 8, .inr (.inr (.inr (.inr (va_up (va_up (va_up (va_up (va_up (va_up (va_up (fun _ => none) 0 (some q3)) 1 (some q7)) 2 (some q11)) 3 (some q15)) 4 (some q19)) 5 (some q23)) 6 (some q27))))))), (q3, .inr (6, [.ref (u4.1 0)])), (u4.1 0, .inl (u4.2 0, 543, .inl (fun _ => 0))), (q7, .inr (6, [.ref (u8.1 0)])), (u8.1 0, .inl (u8.2 0, 543, .inl (fun _ => 0))), (q11, .inr (6, [.ref (u12.1 0)])), (u12.1 0, .inl (u12.2 0, 543, .inl (fun _ => 0))), (q15, .inr (6, [.ref (u16.1 0)])), (u16.1 0, .inl (u16.2 0, 543, .inl (fun _ => 0))), (q19, .inr (6, [.ref (u20.1 0)])), (u20.1 0, .inl (u20.2 0, 543, .inl (fun _ => 0))), (q23, .inr (6, [.ref (u24.1 0)])), (u24.1 0, .inl (u24.2 0, 543, .inl (fun _ => 0))), (q27, .inr (6, [.ref (u28.1 0)])), (u28.1 0, .inl (u28.2 0, 543, .inl (fun _ => 0)))]) [16] [0, 1, 2, 3, 4, 5, 6, 7, 8, 9, 10, 11, 12, 13, 14, 15] rfl rfl (by decide) (by decide) hK hP hD hS hA (va_runIN (As := []) (rest := [.ref q31, .int 7, .ref q1]) ⟨hx, hb, hml, hown, noTs⟩ (c_X7_init l dC dI H.size q31) ⟨cnE 0 (wd_147 hE) (wd_116 hE) (wd_162 hE) rfl rfl (by decide +kernel) ⟨Nat.le_of_ble_eq_true rfl, Nat.le_of_ble_eq_true rfl⟩, rfl, (wd_146 hE)⟩ ⟨PcE.blind, (pre_E (av := [.ref q31]) (wc := [(q31, .inr (6, [.null]))]) (tysc := []) [16] [] rfl (by decide) rfl rfl hK hP hD hE)⟩ rfl rfl hl.1 rfl (lv_room (Nat.le_of_ble_eq_true rfl)) dX3_init_40 ⟨Nat.le_of_ble_eq_true rfl, Nat.le_of_ble_eq_true rfl⟩) (fun u32 H locs hw32 hK hP hD hS => ?_)
  have hK : va_K (dC, dI) vwCl [(k1, .object "GluedWords$Store"), (u4.2 0, .int), (u8.2 0, .int), (u12.2 0, .int), (u16.2 0, .int), (u20.2 0, .int), (u24.2 0, .int), (u28.2 0, .int), (u32.2 0, .int)] s := hK
  have hP : va_P (dC, dI) vwCl [(a0, .inr (2, [.ref q1, .int 0, .int 0])), (q1, .inl (k1, 8, .inr (.inr (.inr (.inr (va_up (va_up (va_up (va_up (va_up (va_up (va_up (fun _ => none) 0 (some q3)) 1 (some q7)) 2 (some q11)) 3 (some q15)) 4 (some q19)) 5 (some q23)) 6 (some q27))))))), (q3, .inr (6, [.ref (u4.1 0)])), (u4.1 0, .inl (u4.2 0, 543, .inl (fun _ => 0))), (q7, .inr (6, [.ref (u8.1 0)])), (u8.1 0, .inl (u8.2 0, 543, .inl (fun _ => 0))), (q11, .inr (6, [.ref (u12.1 0)])), (u12.1 0, .inl (u12.2 0, 543, .inl (fun _ => 0))), (q15, .inr (6, [.ref (u16.1 0)])), (u16.1 0, .inl (u16.2 0, 543, .inl (fun _ => 0))), (q19, .inr (6, [.ref (u20.1 0)])), (u20.1 0, .inl (u20.2 0, 543, .inl (fun _ => 0))), (q23, .inr (6, [.ref (u24.1 0)])), (u24.1 0, .inl (u24.2 0, 543, .inl (fun _ => 0))), (q27, .inr (6, [.ref (u28.1 0)])), (u28.1 0, .inl (u28.2 0, 543, .inl (fun _ => 0))), (q31, .inr (6, [.ref (u32.1 0)])), (u32.1 0, .inl (u32.2 0, 543, .inl (fun _ => 0)))] H := hP
  have hD : va_D A [(a0, .inr (2, [.ref q1, .int 0, .int 0])), (q1, .inl (k1, 8, .inr (.inr (.inr (.inr (va_up (va_up (va_up (va_up (va_up (va_up (va_up (fun _ => none) 0 (some q3)) 1 (some q7)) 2 (some q11)) 3 (some q15)) 4 (some q19)) 5 (some q23)) 6 (some q27))))))), (q3, .inr (6, [.ref (u4.1 0)])), (u4.1 0, .inl (u4.2 0, 543, .inl (fun _ => 0))), (q7, .inr (6, [.ref (u8.1 0)])), (u8.1 0, .inl (u8.2 0, 543, .inl (fun _ => 0))), (q11, .inr (6, [.ref (u12.1 0)])), (u12.1 0, .inl (u12.2 0, 543, .inl (fun _ => 0))), (q15, .inr (6, [.ref (u16.1 0)])), (u16.1 0, .inl (u16.2 0, 543, .inl (fun _ => 0))), (q19, .inr (6, [.ref (u20.1 0)])), (u20.1 0, .inl (u20.2 0, 543, .inl (fun _ => 0))), (q23, .inr (6, [.ref (u24.1 0)])), (u24.1 0, .inl (u24.2 0, 543, .inl (fun _ => 0))), (q27, .inr (6, [.ref (u28.1 0)])), (u28.1 0, .inl (u28.2 0, 543, .inl (fun _ => 0))), (q31, .inr (6, [.ref (u32.1 0)])), (u32.1 0, .inl (u32.2 0, 543, .inl (fun _ => 0)))] := hD
  refine W.widen (k := 17) (n := 4360) (Nat.le_of_ble_eq_true rfl) (Nat.le_of_ble_eq_true rfl) ?_
  refine va_astq hx hb hK hP hD hS 1 0 16 6 rfl rfl rfl rfl (by unfold vp_in; decide) dX3_init_43 (fun H locs hP hD hS => ?_)
  have hP : va_P (dC, dI) vwCl [(a0, .inr (2, [.ref q1, .int 0, .int 0])), (q1, .inl (k1, 8, .inr (.inr (.inr (.inr (va_up (va_up (va_up (va_up (va_up (va_up (va_up (va_up (fun _ => none) 0 (some q3)) 1 (some q7)) 2 (some q11)) 3 (some q15)) 4 (some q19)) 5 (some q23)) 6 (some q27)) 7 (some q31))))))), (q3, .inr (6, [.ref (u4.1 0)])), (u4.1 0, .inl (u4.2 0, 543, .inl (fun _ => 0))), (q7, .inr (6, [.ref (u8.1 0)])), (u8.1 0, .inl (u8.2 0, 543, .inl (fun _ => 0))), (q11, .inr (6, [.ref (u12.1 0)])), (u12.1 0, .inl (u12.2 0, 543, .inl (fun _ => 0))), (q15, .inr (6, [.ref (u16.1 0)])), (u16.1 0, .inl (u16.2 0, 543, .inl (fun _ => 0))), (q19, .inr (6, [.ref (u20.1 0)])), (u20.1 0, .inl (u20.2 0, 543, .inl (fun _ => 0))), (q23, .inr (6, [.ref (u24.1 0)])), (u24.1 0, .inl (u24.2 0, 543, .inl (fun _ => 0))), (q27, .inr (6, [.ref (u28.1 0)])), (u28.1 0, .inl (u28.2 0, 543, .inl (fun _ => 0))), (q31, .inr (6, [.ref (u32.1 0)])), (u32.1 0, .inl (u32.2 0, 543, .inl (fun _ => 0)))] H := hP
  have hD : va_D A [(a0, .inr (2, [.ref q1, .int 0, .int 0])), (q1, .inl (k1, 8, .inr (.inr (.inr (.inr (va_up (va_up (va_up (va_up (va_up (va_up (va_up (va_up (fun _ => none) 0 (some q3)) 1 (some q7)) 2 (some q11)) 3 (some q15)) 4 (some q19)) 5 (some q23)) 6 (some q27)) 7 (some q31))))))), (q3, .inr (6, [.ref (u4.1 0)])), (u4.1 0, .inl (u4.2 0, 543, .inl (fun _ => 0))), (q7, .inr (6, [.ref (u8.1 0)])), (u8.1 0, .inl (u8.2 0, 543, .inl (fun _ => 0))), (q11, .inr (6, [.ref (u12.1 0)])), (u12.1 0, .inl (u12.2 0, 543, .inl (fun _ => 0))), (q15, .inr (6, [.ref (u16.1 0)])), (u16.1 0, .inl (u16.2 0, 543, .inl (fun _ => 0))), (q19, .inr (6, [.ref (u20.1 0)])), (u20.1 0, .inl (u20.2 0, 543, .inl (fun _ => 0))), (q23, .inr (6, [.ref (u24.1 0)])), (u24.1 0, .inl (u24.2 0, 543, .inl (fun _ => 0))), (q27, .inr (6, [.ref (u28.1 0)])), (u28.1 0, .inl (u28.2 0, 543, .inl (fun _ => 0))), (q31, .inr (6, [.ref (u32.1 0)])), (u32.1 0, .inl (u32.2 0, 543, .inl (fun _ => 0)))] := hD
  refine lv_iinc (v := 8) (lv' := [(1, .int 8), (0, .ref a0)]) hx hb dX3_init_44 hl (k := 0) rfl (by decide) (by decide) rfl (fun ls hl => ?_)
  refine lv_goto (tgt := 25) hx hb dX3_init_47 (by decide) ?_
  refine lv_iload_n hx hb dX3_init_25 rfl (lv_at hl 0 rfl) ?_
  refine lv_bipush (v := 8) hx hb dX3_init_26 (by decide) ?_
  refine lv_icmp_ge (tgt := 50) hx hb dX3_init_28 (by decide) (fun c34 => ?_) (fun c34 => absurd c34 (by decide))
  have hP9 := hP.sub (ws' := [(a0, .inr (2, [.ref q1, .int 0, .int 0])), (q1, .inl (k1, 8, .inr (.inr (.inr (.inr (va_up (va_up (va_up (va_up (va_up (va_up (va_up (va_up (fun _ => none) 0 (some q3)) 1 (some q7)) 2 (some q11)) 3 (some q15)) 4 (some q19)) 5 (some q23)) 6 (some q27)) 7 (some q31))))))), (q3, .inr (6, [.ref (u4.1 0)])), (u4.1 0, .inl (u4.2 0, 543, .inl (fun _ => 0)))]) [0, 1, 2, 3] rfl
  have hD9 := hD.sub (ws' := [(a0, .inr (2, [.ref q1, .int 0, .int 0])), (q1, .inl (k1, 8, .inr (.inr (.inr (.inr (va_up (va_up (va_up (va_up (va_up (va_up (va_up (va_up (fun _ => none) 0 (some q3)) 1 (some q7)) 2 (some q11)) 3 (some q15)) 4 (some q19)) 5 (some q23)) 6 (some q27)) 7 (some q31))))))), (q3, .inr (6, [.ref (u4.1 0)])), (u4.1 0, .inl (u4.2 0, 543, .inl (fun _ => 0)))]) [0, 1, 2, 3] (by decide) rfl
  have hK9 := hK.sub (tys' := [(k1, .object "GluedWords$Store"), (u4.2 0, .int)]) [0, 1] rfl
  refine W.widen (k := 17) (n := 4360) (Nat.le_of_ble_eq_true rfl) (Nat.le_of_ble_eq_true rfl) ?_
  exact W.vret hx hb hr (fun t ht hW => ⟨⟨(fun i => [q1, q3, (u4.1 0), q7, q11, q15, q19, q23, q27, q31].getD i 0, fun i => [k1, (u4.2 0)].getD i 0), rfl, trivial, by rw [ht]; exact hP9, va_K.moved hW.alike hK9, hD9⟩, hS.F ht⟩) hS.2.2 dX3_init_50

set_option maxHeartbeats 4000000 in
set_option maxRecDepth 100000 in
theorem c_X3_slot (l : Launch) (dC : Nat → ClassId) (dI : Nat → Nat → Nat) (sz : Nat)  (a0 a1 a2 a3 a4 a5 a6 a7 a8 a9 : Nat) (k0 : ClassId)  : Met l yX3_slot [.code yX3_slot cX3_slot 3 (some (.object "GluedWords$Store"))] ({ frames := 1, cells := 0, slots := 0, locals := 40 }) (PcE [.ref a0, .int 0] sz dC dI [(k0, .object "GluedWords$Store")] [(a0, .inr (2, [.ref a1, .int 0, .int 0])), (a1, .inl (k0, 8, .inr (.inr (.inr (.inr (va_up (va_up (va_up (va_up (va_up (va_up (va_up (va_up (fun _ => none) 0 (some a2)) 1 (some a3)) 2 (some a4)) 3 (some a5)) 4 (some a6)) 5 (some a7)) 6 (some a8)) 7 (some a9)))))))]) (va_Qr (fun (u : Unit) => True) (fun (u : Unit) (x : Nat) (t : State) => x = a2 ∧ Bw dC dI (va_A [(a0, .inr (2, [.ref a1, .int 0, .int 0])), (a1, .inl (k0, 8, .inr (.inr (.inr (.inr (va_up (va_up (va_up (va_up (va_up (va_up (va_up (va_up (fun _ => none) 0 (some a2)) 1 (some a3)) 2 (some a4)) 3 (some a5)) 4 (some a6)) 5 (some a7)) 6 (some a8)) 7 (some a9)))))))] sz) (fun (u : Unit) => []) (fun (u : Unit) => [(a0, .inr (2, [.ref a1, .int 0, .int 0])), (a1, .inl (k0, 8, .inr (.inr (.inr (.inr (va_up (va_up (va_up (va_up (va_up (va_up (va_up (va_up (fun _ => none) 0 (some a2)) 1 (some a3)) 2 (some a4)) 3 (some a5)) 4 (some a6)) 5 (some a7)) 6 (some a8)) 7 (some a9)))))))]) u t) (va_A [(a0, .inr (2, [.ref a1, .int 0, .int 0])), (a1, .inl (k0, 8, .inr (.inr (.inr (.inr (va_up (va_up (va_up (va_up (va_up (va_up (va_up (va_up (fun _ => none) 0 (some a2)) 1 (some a3)) 2 (some a4)) 3 (some a5)) 4 (some a6)) 5 (some a7)) 6 (some a8)) 7 (some a9)))))))] sz)) 0 0 (va_A [(a0, .inr (2, [.ref a1, .int 0, .int 0])), (a1, .inl (k0, 8, .inr (.inr (.inr (.inr (va_up (va_up (va_up (va_up (va_up (va_up (va_up (va_up (fun _ => none) 0 (some a2)) 1 (some a3)) 2 (some a4)) 3 (some a5)) 4 (some a6)) 5 (some a7)) 6 (some a8)) 7 (some a9)))))))] sz) := by
  refine Met.ofW (cc := cX3_slot) (maxL := 3) (ret := (some (.object "GluedWords$Store"))) (by decide) rfl ?_
  intro p e s m args below meth c s₁ B hml hv
  obtain ⟨rfl, hsz, hP, hK, hD0, hE⟩ := hv
  have hx := B.exec
  have hb := B.bytes
  have hr := B.returns
  have hown : s.vm.findClass RX3 = some m.cls := findClass_of_methodNamed B.named
  have hlocks := B.notSynchronized
  subst hsz
  have hD := hD0.self (sz := s.heap.size)
  generalize hAe : va_A [(a0, .inr (2, [.ref a1, .int 0, .int 0])), (a1, .inl (k0, 8, .inr (.inr (.inr (.inr (va_up (va_up (va_up (va_up (va_up (va_up (va_up (va_up (fun _ => none) 0 (some a2)) 1 (some a3)) 2 (some a4)) 3 (some a5)) 4 (some a6)) 5 (some a7)) 6 (some a8)) 7 (some a9)))))))] s.heap.size = A at hD ⊢
  have hA : ∀ q : Nat, s.heap.size ≤ q → A q := fun q h => by rw [← hAe]; exact Or.inr h
  have hS : va_S A s.heap s.heap [] := va_S.rf
  have hl := lv_entry ([.ref a0, .int 0]) (n := 3) (Nat.le_of_ble_eq_true rfl)
  rw [lg_entry_eq]
  generalize (lg_sl ([.ref a0, .int 0]) ++ List.replicate (3 - (lg_sl ([.ref a0, .int 0])).length) Slot.unset).toArray = ls at hl ⊢
  have hl : lv_has ls 3 [(0, .ref a0), (1, .int 0)] := hl
  refine lv_aload_n hx hb dX3_slot_0 rfl (lv_at hl 0 rfl) ?_
  refine va_get (D := (dC, dI)) (ci := 2) (v := .int 0) (C := RX3) (T := TX3) (N := 3) hx hb (ly_X3 hE) (fun _ h9 => h9) hown hK hP 0 rfl rfl 1 (by decide) (wd_164 hE) (fun _ h9 => h9) rfl dX3_slot_1 ?_
  refine lv_iload_n hx hb dX3_slot_4 rfl (lv_at hl 1 rfl) ?_
  refine lv_iadd hx hb dX3_slot_5 ?_
  refine W.eq (g2 := F0 m 6 ls [.int 0]) rfl ?_
  refine lv_bipush (v := 8) hx hb dX3_slot_6 (by decide) ?_
  refine cl_i (wc := []) (wr := [(a0, .inr (2, [.ref a1, .int 0, .int 0])), (a1, .inl (k0, 8, .inr (.inr (.inr (.inr (va_up (va_up (va_up (va_up (va_up (va_up (va_up (va_up (fun _ => none) 0 (some a2)) 1 (some a3)) 2 (some a4)) 3 (some a5)) 4 (some a6)) 5 (some a7)) 6 (some a8)) 7 (some a9)))))))]) [] [0, 1] rfl rfl (by decide) (by decide) hK hP hD hS hA (va_runSN (As := [.int 0, .int 8]) (rest := []) ⟨hx, hb, hml, hown, noTs⟩ (c_X11_rest l dC dI s.heap.size ) ⟨cnE 2 (wd_617 hE) (wd_115 hE) (wd_726 hE) rfl rfl (by decide +kernel) ⟨Nat.le_of_ble_eq_true rfl, Nat.le_of_ble_eq_true rfl⟩, (wd_616 hE), trivial⟩ ⟨PcE.blind, (pre_E (av := [.int 0, .int 8]) (wc := []) (tysc := []) [] [] rfl (by decide) rfl rfl hK hP hD hE)⟩ rfl rfl hl.1 rfl (lv_room (Nat.le_of_ble_eq_true rfl)) dX3_slot_8 ⟨Nat.le_of_ble_eq_true rfl, Nat.le_of_ble_eq_true rfl⟩) (fun r1 u1 H locs hw1 hK hP hD hS => ?_)
  have hK : va_K (dC, dI) vwCl [(k0, .object "GluedWords$Store")] s := hK
  have hP : va_P (dC, dI) vwCl [(a0, .inr (2, [.ref a1, .int 0, .int 0])), (a1, .inl (k0, 8, .inr (.inr (.inr (.inr (va_up (va_up (va_up (va_up (va_up (va_up (va_up (va_up (fun _ => none) 0 (some a2)) 1 (some a3)) 2 (some a4)) 3 (some a5)) 4 (some a6)) 5 (some a7)) 6 (some a8)) 7 (some a9)))))))] H := hP
  have hD : va_D A [(a0, .inr (2, [.ref a1, .int 0, .int 0])), (a1, .inl (k0, 8, .inr (.inr (.inr (.inr (va_up (va_up (va_up (va_up (va_up (va_up (va_up (va_up (fun _ => none) 0 (some a2)) 1 (some a3)) 2 (some a4)) 3 (some a5)) 4 (some a6)) 5 (some a7)) 6 (some a8)) 7 (some a9)))))))] := hD
  subst hw1
  refine W.eq (g2 := F0 m 11 ls [.int 0]) rfl ?_
  refine lv_istore_n (lv' := [(2, .int 0), (0, .ref a0), (1, .int 0)]) hx hb dX3_slot_11 rfl hl (by decide) rfl (fun ls hl => ?_)
  refine lv_iload_n hx hb dX3_slot_12 rfl (lv_at hl 0 rfl) ?_
  refine lv_aload_n hx hb dX3_slot_13 rfl (lv_at hl 1 rfl) ?_
  refine va_get (D := (dC, dI)) (ci := 2) (v := .ref a1) (C := RX3) (T := TX3) (N := 3) hx hb (ly_X3 hE) (fun _ h9 => h9) hown hK hP 0 rfl rfl 0 (by decide) (wd_163 hE) (fun _ h9 => h9) rfl dX3_slot_14 ?_
  refine va_alen (v := 8) hx hb hK hP 1 0 rfl rfl rfl dX3_slot_17 ?_
  refine lv_icmp_ge (tgt := 30) hx hb dX3_slot_18 (by decide) (fun c2 => absurd c2 (by decide)) (fun c2 => ?_)
  refine lv_aload_n hx hb dX3_slot_21 rfl (lv_at hl 1 rfl) ?_
  refine va_get (D := (dC, dI)) (ci := 2) (v := .ref a1) (C := RX3) (T := TX3) (N := 3) hx hb (ly_X3 hE) (fun _ h9 => h9) hown hK hP 0 rfl rfl 0 (by decide) (wd_163 hE) (fun _ h9 => h9) rfl dX3_slot_22 ?_
  refine lv_iload_n hx hb dX3_slot_25 rfl (lv_at hl 0 rfl) ?_
  refine va_aldq hx hb hK hP 1 0 rfl rfl (by unfold vp_in; decide) dX3_slot_26 ?_
  refine W.eq (g2 := F0 m 27 ls [.ref a2]) rfl ?_
  refine lv_goto (tgt := 31) hx hb dX3_slot_27 (by decide) ?_
  have hP9 := hP.sub (ws' := [(a0, .inr (2, [.ref a1, .int 0, .int 0])), (a1, .inl (k0, 8, .inr (.inr (.inr (.inr (va_up (va_up (va_up (va_up (va_up (va_up (va_up (va_up (fun _ => none) 0 (some a2)) 1 (some a3)) 2 (some a4)) 3 (some a5)) 4 (some a6)) 5 (some a7)) 6 (some a8)) 7 (some a9)))))))]) [0, 1] rfl
  have hD9 := hD.sub (ws' := [(a0, .inr (2, [.ref a1, .int 0, .int 0])), (a1, .inl (k0, 8, .inr (.inr (.inr (.inr (va_up (va_up (va_up (va_up (va_up (va_up (va_up (va_up (fun _ => none) 0 (some a2)) 1 (some a3)) 2 (some a4)) 3 (some a5)) 4 (some a6)) 5 (some a7)) 6 (some a8)) 7 (some a9)))))))]) [0, 1] (by decide) rfl
  have hK9 := hK.sub (tys' := []) [] rfl
  refine W.widen (k := 0) (n := 0) (Nat.le_of_ble_eq_true rfl) (Nat.le_of_ble_eq_true rfl) ?_
  exact W.aret (v := .ref a2) hx hb hr (Or.inl ⟨_, rfl⟩) (Or.inr ⟨_, rfl⟩) (fun t ht hW => ⟨⟨(), a2, rfl, trivial, rfl, by rw [ht]; exact hP9, va_K.moved hW.alike hK9, hD9⟩, hS.F ht⟩) hS.2.2 dX3_slot_31

set_option maxHeartbeats 4000000 in
set_option maxRecDepth 100000 in
theorem c_X3_push (l : Launch) (dC : Nat → ClassId) (dI : Nat → Nat → Nat) (sz : Nat)  (a0 a1 a2 a3 a4 a5 a6 a7 a8 a9 a10 a11 a12 : Nat) (k0 k1 k2 : ClassId)  : Met l yX3_push [.code yX3_push cX3_push 3 none] ({ frames := 2, cells := 0, slots := 0, locals := 80 }) (PcE [.ref a0, .ref a1] sz dC dI [(k0, .int), (k1, .object "GluedWords$Store"), (k2, .int)] [(a1, .inr (6, [.ref a2])), (a2, .inl (k0, 543, .inl (fun _ => 0))), (a0, .inr (2, [.ref a3, .int 0, .int 0])), (a3, .inl (k1, 8, .inr (.inr (.inr (.inr (va_up (va_up (va_up (va_up (va_up (va_up (va_up (va_up (fun _ => none) 0 (some a4)) 1 (some a5)) 2 (some a6)) 3 (some a7)) 4 (some a8)) 5 (some a9)) 6 (some a10)) 7 (some a11))))))), (a4, .inr (6, [.ref a12])), (a12, .inl (k2, 543, .inl (fun _ => 0)))]) (va_Qv (fun (u : Unit) => True) (Bw dC dI (va_A [(a1, .inr (6, [.ref a2])), (a2, .inl (k0, 543, .inl (fun _ => 0))), (a0, .inr (2, [.ref a3, .int 0, .int 0])), (a3, .inl (k1, 8, .inr (.inr (.inr (.inr (va_up (va_up (va_up (va_up (va_up (va_up (va_up (va_up (fun _ => none) 0 (some a4)) 1 (some a5)) 2 (some a6)) 3 (some a7)) 4 (some a8)) 5 (some a9)) 6 (some a10)) 7 (some a11))))))), (a4, .inr (6, [.ref a12])), (a12, .inl (k2, 543, .inl (fun _ => 0)))] sz) (fun (u : Unit) => []) (fun (u : Unit) => [(a0, .inr (2, [.ref a3, .int 0, .int 1])), (a3, .inl (k1, 8, .inr (.inr (.inr (.inr (va_up (va_up (va_up (va_up (va_up (va_up (va_up (va_up (fun _ => none) 0 (some a4)) 1 (some a5)) 2 (some a6)) 3 (some a7)) 4 (some a8)) 5 (some a9)) 6 (some a10)) 7 (some a11))))))), (a1, .inr (6, [.ref a2])), (a2, .inl (k0, 543, .inl (fun _ => 0))), (a4, .inr (6, [.ref a12])), (a12, .inl (k2, 543, .inl (fun _ => 0)))])) (va_A [(a1, .inr (6, [.ref a2])), (a2, .inl (k0, 543, .inl (fun _ => 0))), (a0, .inr (2, [.ref a3, .int 0, .int 0])), (a3, .inl (k1, 8, .inr (.inr (.inr (.inr (va_up (va_up (va_up (va_up (va_up (va_up (va_up (va_up (fun _ => none) 0 (some a4)) 1 (some a5)) 2 (some a6)) 3 (some a7)) 4 (some a8)) 5 (some a9)) 6 (some a10)) 7 (some a11))))))), (a4, .inr (6, [.ref a12])), (a12, .inl (k2, 543, .inl (fun _ => 0)))] sz)) 0 0 (va_A [(a1, .inr (6, [.ref a2])), (a2, .inl (k0, 543, .inl (fun _ => 0))), (a0, .inr (2, [.ref a3, .int 0, .int 0])), (a3, .inl (k1, 8, .inr (.inr (.inr (.inr (va_up (va_up (va_up (va_up (va_up (va_up (va_up (va_up (fun _ => none) 0 (some a4)) 1 (some a5)) 2 (some a6)) 3 (some a7)) 4 (some a8)) 5 (some a9)) 6 (some a10)) 7 (some a11))))))), (a4, .inr (6, [.ref a12])), (a12, .inl (k2, 543, .inl (fun _ => 0)))] sz) := by
  refine Met.ofW (cc := cX3_push) (maxL := 3) (ret := none) (by decide) rfl ?_
  intro p e s m args below meth c s₁ B hml hv
  obtain ⟨rfl, hsz, hP, hK, hD0, hE⟩ := hv
  have hx := B.exec
  have hb := B.bytes
  have hr := B.returns
  have hown : s.vm.findClass RX3 = some m.cls := findClass_of_methodNamed B.named
  have hlocks := B.notSynchronized
  subst hsz
  have hD := hD0.self (sz := s.heap.size)
  generalize hAe : va_A [(a1, .inr (6, [.ref a2])), (a2, .inl (k0, 543, .inl (fun _ => 0))), (a0, .inr (2, [.ref a3, .int 0, .int 0])), (a3, .inl (k1, 8, .inr (.inr (.inr (.inr (va_up (va_up (va_up (va_up (va_up (va_up (va_up (va_up (fun _ => none) 0 (some a4)) 1 (some a5)) 2 (some a6)) 3 (some a7)) 4 (some a8)) 5 (some a9)) 6 (some a10)) 7 (some a11))))))), (a4, .inr (6, [.ref a12])), (a12, .inl (k2, 543, .inl (fun _ => 0)))] s.heap.size = A at hD ⊢
  have hA : ∀ q : Nat, s.heap.size ≤ q → A q := fun q h => by rw [← hAe]; exact Or.inr h
  have hS : va_S A s.heap s.heap [] := va_S.rf
  have hl := lv_entry ([.ref a0, .ref a1]) (n := 3) (Nat.le_of_ble_eq_true rfl)
  rw [lg_entry_eq]
  generalize (lg_sl ([.ref a0, .ref a1]) ++ List.replicate (3 - (lg_sl ([.ref a0, .ref a1])).length) Slot.unset).toArray = ls at hl ⊢
  have hl : lv_has ls 3 [(0, .ref a0), (1, .ref a1)] := hl
  refine lv_aload_n hx hb dX3_push_0 rfl (lv_at hl 0 rfl) ?_
  refine va_get (D := (dC, dI)) (ci := 2) (v := .int 0) (C := RX3) (T := TX3) (N := 3) hx hb (ly_X3 hE) (fun _ h9 => h9) hown hK hP 2 rfl rfl 2 (by decide) (wd_165 hE) (fun _ h9 => h9) rfl dX3_push_1 ?_
  refine lv_bipush (v := 8) hx hb dX3_push_4 (by decide) ?_
  refine lv_icmp_lt (tgt := 30) hx hb dX3_push_6 (by decide) (fun c1 => ?_) (fun c1 => absurd c1 (by decide))
  refine lv_aload_n hx hb dX3_push_30 rfl (lv_at hl 0 rfl) ?_
  refine lv_aload_n hx hb dX3_push_31 rfl (lv_at hl 0 rfl) ?_
  refine va_get (D := (dC, dI)) (ci := 2) (v := .int 0) (C := RX3) (T := TX3) (N := 3) hx hb (ly_X3 hE) (fun _ h9 => h9) hown hK hP 2 rfl rfl 2 (by decide) (wd_165 hE) (fun _ h9 => h9) rfl dX3_push_32 ?_
  refine cl_r (wc := [(a0, .inr (2, [.ref a3, .int 0, .int 0])), (a3, .inl (k1, 8, .inr (.inr (.inr (.inr (va_up (va_up (va_up (va_up (va_up (va_up (va_up (va_up (fun _ => none) 0 (some a4)) 1 (some a5)) 2 (some a6)) 3 (some a7)) 4 (some a8)) 5 (some a9)) 6 (some a10)) 7 (some a11)))))))]) (wr := [(a1, .inr (6, [.ref a2])), (a2, .inl (k0, 543, .inl (fun _ => 0))), (a4, .inr (6, [.ref a12])), (a12, .inl (k2, 543, .inl (fun _ => 0)))]) [2, 3] [0, 1, 4, 5] rfl rfl (by decide) (by decide) hK hP hD hS hA (va_runV (As := [.int 0]) (rest := []) ⟨hx, hb, hml, hown, noTs⟩ (c_X3_slot l dC dI s.heap.size a0 a3 a4 a5 a6 a7 a8 a9 a10 a11 k1) ⟨cbE 1 (wd_730 hE) (wd_117 hE) (wd_727 hE) rfl rfl (by decide +kernel) ⟨Nat.le_of_ble_eq_true rfl, Nat.le_of_ble_eq_true rfl⟩, (wd_729 hE), (wd_22 hE)⟩ ⟨PcE.blind, va_recv hK hP (ci := 2) (q0 := 2) rfl rfl, (pre_E (av := [.ref a0, .int 0]) (wc := [(a0, .inr (2, [.ref a3, .int 0, .int 0])), (a3, .inl (k1, 8, .inr (.inr (.inr (.inr (va_up (va_up (va_up (va_up (va_up (va_up (va_up (va_up (fun _ => none) 0 (some a4)) 1 (some a5)) 2 (some a6)) 3 (some a7)) 4 (some a8)) 5 (some a9)) 6 (some a10)) 7 (some a11)))))))]) (tysc := [(k1, .object "GluedWords$Store")]) [2, 3] [1] rfl (by decide) rfl rfl hK hP hD hE)⟩ rfl rfl hl.1 rfl (lv_room (Nat.le_of_ble_eq_true rfl)) dX3_push_35 ⟨Nat.le_of_ble_eq_true rfl, Nat.le_of_ble_eq_true rfl⟩) (fun u2 H locs hw2 hK hP hD hS => ?_)
  have hK : va_K (dC, dI) vwCl [(k0, .int), (k1, .object "GluedWords$Store"), (k2, .int)] s := hK
  have hP : va_P (dC, dI) vwCl [(a1, .inr (6, [.ref a2])), (a2, .inl (k0, 543, .inl (fun _ => 0))), (a4, .inr (6, [.ref a12])), (a12, .inl (k2, 543, .inl (fun _ => 0))), (a0, .inr (2, [.ref a3, .int 0, .int 0])), (a3, .inl (k1, 8, .inr (.inr (.inr (.inr (va_up (va_up (va_up (va_up (va_up (va_up (va_up (va_up (fun _ => none) 0 (some a4)) 1 (some a5)) 2 (some a6)) 3 (some a7)) 4 (some a8)) 5 (some a9)) 6 (some a10)) 7 (some a11)))))))] H := hP
  have hD : va_D A [(a1, .inr (6, [.ref a2])), (a2, .inl (k0, 543, .inl (fun _ => 0))), (a4, .inr (6, [.ref a12])), (a12, .inl (k2, 543, .inl (fun _ => 0))), (a0, .inr (2, [.ref a3, .int 0, .int 0])), (a3, .inl (k1, 8, .inr (.inr (.inr (.inr (va_up (va_up (va_up (va_up (va_up (va_up (va_up (va_up (fun _ => none) 0 (some a4)) 1 (some a5)) 2 (some a6)) 3 (some a7)) 4 (some a8)) 5 (some a9)) 6 (some a10)) 7 (some a11)))))))] := hD
  refine W.eq (g2 := F0 m 38 ls [.ref a4]) rfl ?_
  refine lv_astore_n (lv' := [(2, .ref a4), (0, .ref a0), (1, .ref a1)]) hx hb dX3_push_38 rfl hl (by decide) rfl (fun ls hl => ?_)
  refine lv_aload_n hx hb dX3_push_39 rfl (lv_at hl 0 rfl) ?_
  refine lv_ifnull hx hb dX3_push_40 ?_
  refine lv_aload_n hx hb dX3_push_43 rfl (lv_at hl 0 rfl) ?_
  refine lv_aload_n hx hb dX3_push_44 rfl (lv_at hl 2 rfl) ?_
  refine cl_v (wc := [(a1, .inr (6, [.ref a2])), (a2, .inl (k0, 543, .inl (fun _ => 0))), (a4, .inr (6, [.ref a12])), (a12, .inl (k2, 543, .inl (fun _ => 0)))]) (wr := [(a0, .inr (2, [.ref a3, .int 0, .int 0])), (a3, .inl (k1, 8, .inr (.inr (.inr (.inr (va_up (va_up (va_up (va_up (va_up (va_up (va_up (va_up (fun _ => none) 0 (some a4)) 1 (some a5)) 2 (some a6)) 3 (some a7)) 4 (some a8)) 5 (some a9)) 6 (some a10)) 7 (some a11)))))))]) [0, 1, 2, 3] [4, 5] rfl rfl (by decide) (by decide) hK hP hD hS hA (va_runV (As := [.ref a1]) (rest := []) ⟨hx, hb, hml, hown, noTs⟩ (c_X7_copyFrom l dC dI H.size a4 a1 a2 a12 k0 k2) ⟨cbE 1 (wd_734 hE) (wd_116 hE) (wd_731 hE) rfl rfl (by decide +kernel) ⟨Nat.le_of_ble_eq_true rfl, Nat.le_of_ble_eq_true rfl⟩, (wd_732 hE), (wd_733 hE)⟩ ⟨PcE.blind, va_recv hK hP (ci := 6) (q0 := 2) rfl rfl, (pre_E (av := [.ref a4, .ref a1]) (wc := [(a1, .inr (6, [.ref a2])), (a2, .inl (k0, 543, .inl (fun _ => 0))), (a4, .inr (6, [.ref a12])), (a12, .inl (k2, 543, .inl (fun _ => 0)))]) (tysc := [(k0, .int), (k2, .int)]) [0, 1, 2, 3] [0, 2] rfl (by decide) rfl rfl hK hP hD hE)⟩ rfl rfl hl.1 rfl (lv_room (Nat.le_of_ble_eq_true rfl)) dX3_push_45 ⟨Nat.le_of_ble_eq_true rfl, Nat.le_of_ble_eq_true rfl⟩) (fun u3 H locs hw3 hK hP hD hS => ?_)
  have hK : va_K (dC, dI) vwCl [(k0, .int), (k1, .object "GluedWords$Store"), (k2, .int)] s := hK
  have hP : va_P (dC, dI) vwCl [(a0, .inr (2, [.ref a3, .int 0, .int 0])), (a3, .inl (k1, 8, .inr (.inr (.inr (.inr (va_up (va_up (va_up (va_up (va_up (va_up (va_up (va_up (fun _ => none) 0 (some a4)) 1 (some a5)) 2 (some a6)) 3 (some a7)) 4 (some a8)) 5 (some a9)) 6 (some a10)) 7 (some a11))))))), (a1, .inr (6, [.ref a2])), (a2, .inl (k0, 543, .inl (fun _ => 0))), (a4, .inr (6, [.ref a12])), (a12, .inl (k2, 543, .inl (fun _ => 0)))] H := hP
  have hD : va_D A [(a0, .inr (2, [.ref a3, .int 0, .int 0])), (a3, .inl (k1, 8, .inr (.inr (.inr (.inr (va_up (va_up (va_up (va_up (va_up (va_up (va_up (va_up (fun _ => none) 0 (some a4)) 1 (some a5)) 2 (some a6)) 3 (some a7)) 4 (some a8)) 5 (some a9)) 6 (some a10)) 7 (some a11))))))), (a1, .inr (6, [.ref a2])), (a2, .inl (k0, 543, .inl (fun _ => 0))), (a4, .inr (6, [.ref a12])), (a12, .inl (k2, 543, .inl (fun _ => 0)))] := hD
  refine lv_aload_n hx hb dX3_push_48 rfl (lv_at hl 1 rfl) ?_
  refine lv_dup hx hb dX3_push_49 rfl ?_
  refine va_get (D := (dC, dI)) (ci := 2) (v := .int 0) (C := RX3) (T := TX3) (N := 3) hx hb (ly_X3 hE) (fun _ h9 => h9) hown hK hP 0 rfl rfl 2 (by decide) (wd_165 hE) (fun _ h9 => h9) rfl dX3_push_50 ?_
  refine lv_iconst (v := 1) hx hb dX3_push_53 (by decide) ?_
  refine lv_iadd hx hb dX3_push_54 ?_
  refine W.eq (g2 := F0 m 55 ls [.int 1, .ref a0]) rfl ?_
  refine va_put (D := (dC, dI)) (ci := 2) (v := .int 1) (ty := .int) (C := RX3) (T := TX3) (N := 3) hx hb (ly_X3 hE) (fun _ h9 => h9) tyX3 tyX3_ok nmX3 hown hK hP hD hS 0 rfl rfl 2 (by decide) (wd_165 hE) (fun _ h9 => h9) rfl (by decide +kernel) rfl rfl (Nat.le_of_ble_eq_true rfl) dX3_push_55 (fun H locs hP hD hS => ?_)
  have hP : va_P (dC, dI) vwCl [(a0, .inr (2, [.ref a3, .int 0, .int 1])), (a3, .inl (k1, 8, .inr (.inr (.inr (.inr (va_up (va_up (va_up (va_up (va_up (va_up (va_up (va_up (fun _ => none) 0 (some a4)) 1 (some a5)) 2 (some a6)) 3 (some a7)) 4 (some a8)) 5 (some a9)) 6 (some a10)) 7 (some a11))))))), (a1, .inr (6, [.ref a2])), (a2, .inl (k0, 543, .inl (fun _ => 0))), (a4, .inr (6, [.ref a12])), (a12, .inl (k2, 543, .inl (fun _ => 0)))] H := hP
  have hD : va_D A [(a0, .inr (2, [.ref a3, .int 0, .int 1])), (a3, .inl (k1, 8, .inr (.inr (.inr (.inr (va_up (va_up (va_up (va_up (va_up (va_up (va_up (va_up (fun _ => none) 0 (some a4)) 1 (some a5)) 2 (some a6)) 3 (some a7)) 4 (some a8)) 5 (some a9)) 6 (some a10)) 7 (some a11))))))), (a1, .inr (6, [.ref a2])), (a2, .inl (k0, 543, .inl (fun _ => 0))), (a4, .inr (6, [.ref a12])), (a12, .inl (k2, 543, .inl (fun _ => 0)))] := hD
  have hP9 := hP.sub (ws' := [(a0, .inr (2, [.ref a3, .int 0, .int 1])), (a3, .inl (k1, 8, .inr (.inr (.inr (.inr (va_up (va_up (va_up (va_up (va_up (va_up (va_up (va_up (fun _ => none) 0 (some a4)) 1 (some a5)) 2 (some a6)) 3 (some a7)) 4 (some a8)) 5 (some a9)) 6 (some a10)) 7 (some a11))))))), (a1, .inr (6, [.ref a2])), (a2, .inl (k0, 543, .inl (fun _ => 0))), (a4, .inr (6, [.ref a12])), (a12, .inl (k2, 543, .inl (fun _ => 0)))]) [0, 1, 2, 3, 4, 5] rfl
  have hD9 := hD.sub (ws' := [(a0, .inr (2, [.ref a3, .int 0, .int 1])), (a3, .inl (k1, 8, .inr (.inr (.inr (.inr (va_up (va_up (va_up (va_up (va_up (va_up (va_up (va_up (fun _ => none) 0 (some a4)) 1 (some a5)) 2 (some a6)) 3 (some a7)) 4 (some a8)) 5 (some a9)) 6 (some a10)) 7 (some a11))))))), (a1, .inr (6, [.ref a2])), (a2, .inl (k0, 543, .inl (fun _ => 0))), (a4, .inr (6, [.ref a12])), (a12, .inl (k2, 543, .inl (fun _ => 0)))]) [0, 1, 2, 3, 4, 5] (by decide) rfl
  have hK9 := hK.sub (tys' := []) [] rfl
  refine W.widen (k := 0) (n := 0) (Nat.le_of_ble_eq_true rfl) (Nat.le_of_ble_eq_true rfl) ?_
  exact W.vret hx hb hr (fun t ht hW => ⟨⟨(), rfl, trivial, by rw [ht]; exact hP9, va_K.moved hW.alike hK9, hD9⟩, hS.F ht⟩) hS.2.2 dX3_push_58

set_option maxHeartbeats 4000000 in
set_option maxRecDepth 100000 in
theorem c_X3_size (l : Launch) (dC : Nat → ClassId) (dI : Nat → Nat → Nat) (sz : Nat)  (a0 a1 : Nat)  : Met l yX3_size [.code yX3_size cX3_size 1 (some .int)] ({ frames := 0, cells := 0, slots := 0, locals := 0 }) (PcE [.ref a0] sz dC dI [] [(a0, .inr (2, [.ref a1, .int 0, .int 0]))]) (va_Qi (fun (r : Int32) (u : Unit) => r = 0) (Bw dC dI (va_A [(a0, .inr (2, [.ref a1, .int 0, .int 0]))] sz) (fun (u : Unit) => []) (fun (u : Unit) => [(a0, .inr (2, [.ref a1, .int 0, .int 0]))])) (va_A [(a0, .inr (2, [.ref a1, .int 0, .int 0]))] sz)) 0 0 (va_A [(a0, .inr (2, [.ref a1, .int 0, .int 0]))] sz) := by
  refine Met.ofW (cc := cX3_size) (maxL := 1) (ret := (some .int)) (by decide) rfl ?_
  intro p e s m args below meth c s₁ B hml hv
  obtain ⟨rfl, hsz, hP, hK, hD0, hE⟩ := hv
  have hx := B.exec
  have hb := B.bytes
  have hr := B.returns
  have hown : s.vm.findClass RX3 = some m.cls := findClass_of_methodNamed B.named
  have hlocks := B.notSynchronized
  subst hsz
  have hD := hD0.self (sz := s.heap.size)
  generalize hAe : va_A [(a0, .inr (2, [.ref a1, .int 0, .int 0]))] s.heap.size = A at hD ⊢
  have hA : ∀ q : Nat, s.heap.size ≤ q → A q := fun q h => by rw [← hAe]; exact Or.inr h
  have hS : va_S A s.heap s.heap [] := va_S.rf
  have hl := lv_entry ([.ref a0]) (n := 1) (Nat.le_of_ble_eq_true rfl)
  rw [lg_entry_eq]
  generalize (lg_sl ([.ref a0]) ++ List.replicate (1 - (lg_sl ([.ref a0])).length) Slot.unset).toArray = ls at hl ⊢
  have hl : lv_has ls 1 [(0, .ref a0)] := hl
  refine lv_aload_n hx hb dX3_size_0 rfl (lv_at hl 0 rfl) ?_
  refine va_get (D := (dC, dI)) (ci := 2) (v := .int 0) (C := RX3) (T := TX3) (N := 3) hx hb (ly_X3 hE) (fun _ h9 => h9) hown hK hP 0 rfl rfl 2 (by decide) (wd_165 hE) (fun _ h9 => h9) rfl dX3_size_1 ?_
  have hP9 := hP.sub (ws' := [(a0, .inr (2, [.ref a1, .int 0, .int 0]))]) [0] rfl
  have hD9 := hD.sub (ws' := [(a0, .inr (2, [.ref a1, .int 0, .int 0]))]) [0] (by decide) rfl
  have hK9 := hK.sub (tys' := []) [] rfl
  refine W.widen (k := 0) (n := 0) (Nat.le_of_ble_eq_true rfl) (Nat.le_of_ble_eq_true rfl) ?_
  exact W.iret (v := 0) hx hb hr (fun t ht hW => ⟨⟨0, (), rfl, rfl, by rw [ht]; exact hP9, va_K.moved hW.alike hK9, hD9⟩, hS.F ht⟩) hS.2.2 dX3_size_4

set_option maxHeartbeats 4000000 in
set_option maxRecDepth 100000 in
theorem c_X3_slot_2 (l : Launch) (dC : Nat → ClassId) (dI : Nat → Nat → Nat) (sz : Nat)  (a0 a1 a2 a3 a4 a5 a6 a7 a8 a9 : Nat) (k0 : ClassId)  : Met l yX3_slot [.code yX3_slot cX3_slot 3 (some (.object "GluedWords$Store"))] ({ frames := 1, cells := 0, slots := 0, locals := 40 }) (PcE [.ref a0, .int (-1)] sz dC dI [(k0, .object "GluedWords$Store")] [(a0, .inr (2, [.ref a1, .int 0, .int 0])), (a1, .inl (k0, 8, .inr (.inr (.inr (.inr (va_up (va_up (va_up (va_up (va_up (va_up (va_up (va_up (fun _ => none) 0 (some a2)) 1 (some a3)) 2 (some a4)) 3 (some a5)) 4 (some a6)) 5 (some a7)) 6 (some a8)) 7 (some a9)))))))]) (va_Qr (fun (u : Unit) => True) (fun (u : Unit) (x : Nat) (t : State) => x = a9 ∧ Bw dC dI (va_A [(a0, .inr (2, [.ref a1, .int 0, .int 0])), (a1, .inl (k0, 8, .inr (.inr (.inr (.inr (va_up (va_up (va_up (va_up (va_up (va_up (va_up (va_up (fun _ => none) 0 (some a2)) 1 (some a3)) 2 (some a4)) 3 (some a5)) 4 (some a6)) 5 (some a7)) 6 (some a8)) 7 (some a9)))))))] sz) (fun (u : Unit) => []) (fun (u : Unit) => [(a0, .inr (2, [.ref a1, .int 0, .int 0])), (a1, .inl (k0, 8, .inr (.inr (.inr (.inr (va_up (va_up (va_up (va_up (va_up (va_up (va_up (va_up (fun _ => none) 0 (some a2)) 1 (some a3)) 2 (some a4)) 3 (some a5)) 4 (some a6)) 5 (some a7)) 6 (some a8)) 7 (some a9)))))))]) u t) (va_A [(a0, .inr (2, [.ref a1, .int 0, .int 0])), (a1, .inl (k0, 8, .inr (.inr (.inr (.inr (va_up (va_up (va_up (va_up (va_up (va_up (va_up (va_up (fun _ => none) 0 (some a2)) 1 (some a3)) 2 (some a4)) 3 (some a5)) 4 (some a6)) 5 (some a7)) 6 (some a8)) 7 (some a9)))))))] sz)) 0 0 (va_A [(a0, .inr (2, [.ref a1, .int 0, .int 0])), (a1, .inl (k0, 8, .inr (.inr (.inr (.inr (va_up (va_up (va_up (va_up (va_up (va_up (va_up (va_up (fun _ => none) 0 (some a2)) 1 (some a3)) 2 (some a4)) 3 (some a5)) 4 (some a6)) 5 (some a7)) 6 (some a8)) 7 (some a9)))))))] sz) := by
  refine Met.ofW (cc := cX3_slot) (maxL := 3) (ret := (some (.object "GluedWords$Store"))) (by decide) rfl ?_
  intro p e s m args below meth c s₁ B hml hv
  obtain ⟨rfl, hsz, hP, hK, hD0, hE⟩ := hv
  have hx := B.exec
  have hb := B.bytes
  have hr := B.returns
  have hown : s.vm.findClass RX3 = some m.cls := findClass_of_methodNamed B.named
  have hlocks := B.notSynchronized
  subst hsz
  have hD := hD0.self (sz := s.heap.size)
  generalize hAe : va_A [(a0, .inr (2, [.ref a1, .int 0, .int 0])), (a1, .inl (k0, 8, .inr (.inr (.inr (.inr (va_up (va_up (va_up (va_up (va_up (va_up (va_up (va_up (fun _ => none) 0 (some a2)) 1 (some a3)) 2 (some a4)) 3 (some a5)) 4 (some a6)) 5 (some a7)) 6 (some a8)) 7 (some a9)))))))] s.heap.size = A at hD ⊢
  have hA : ∀ q : Nat, s.heap.size ≤ q → A q := fun q h => by rw [← hAe]; exact Or.inr h
  have hS : va_S A s.heap s.heap [] := va_S.rf
  have hl := lv_entry ([.ref a0, .int (-1)]) (n := 3) (Nat.le_of_ble_eq_true rfl)
  rw [lg_entry_eq]
  generalize (lg_sl ([.ref a0, .int (-1)]) ++ List.replicate (3 - (lg_sl ([.ref a0, .int (-1)])).length) Slot.unset).toArray = ls at hl ⊢
  have hl : lv_has ls 3 [(0, .ref a0), (1, .int (-1))] := hl
  refine lv_aload_n hx hb dX3_slot_0 rfl (lv_at hl 0 rfl) ?_
  refine va_get (D := (dC, dI)) (ci := 2) (v := .int 0) (C := RX3) (T := TX3) (N := 3) hx hb (ly_X3 hE) (fun _ h9 => h9) hown hK hP 0 rfl rfl 1 (by decide) (wd_164 hE) (fun _ h9 => h9) rfl dX3_slot_1 ?_
  refine lv_iload_n hx hb dX3_slot_4 rfl (lv_at hl 1 rfl) ?_
  refine lv_iadd hx hb dX3_slot_5 ?_
  refine W.eq (g2 := F0 m 6 ls [.int (-1)]) rfl ?_
  refine lv_bipush (v := 8) hx hb dX3_slot_6 (by decide) ?_
  refine cl_i (wc := []) (wr := [(a0, .inr (2, [.ref a1, .int 0, .int 0])), (a1, .inl (k0, 8, .inr (.inr (.inr (.inr (va_up (va_up (va_up (va_up (va_up (va_up (va_up (va_up (fun _ => none) 0 (some a2)) 1 (some a3)) 2 (some a4)) 3 (some a5)) 4 (some a6)) 5 (some a7)) 6 (some a8)) 7 (some a9)))))))]) [] [0, 1] rfl rfl (by decide) (by decide) hK hP hD hS hA (va_runSN (As := [.int (-1), .int 8]) (rest := []) ⟨hx, hb, hml, hown, noTs⟩ (c_X11_rest_2 l dC dI s.heap.size ) ⟨cnE 2 (wd_617 hE) (wd_115 hE) (wd_726 hE) rfl rfl (by decide +kernel) ⟨Nat.le_of_ble_eq_true rfl, Nat.le_of_ble_eq_true rfl⟩, (wd_616 hE), trivial⟩ ⟨PcE.blind, (pre_E (av := [.int (-1), .int 8]) (wc := []) (tysc := []) [] [] rfl (by decide) rfl rfl hK hP hD hE)⟩ rfl rfl hl.1 rfl (lv_room (Nat.le_of_ble_eq_true rfl)) dX3_slot_8 ⟨Nat.le_of_ble_eq_true rfl, Nat.le_of_ble_eq_true rfl⟩) (fun r1 u1 H locs hw1 hK hP hD hS => ?_)
  have hK : va_K (dC, dI) vwCl [(k0, .object "GluedWords$Store")] s := hK
  have hP : va_P (dC, dI) vwCl [(a0, .inr (2, [.ref a1, .int 0, .int 0])), (a1, .inl (k0, 8, .inr (.inr (.inr (.inr (va_up (va_up (va_up (va_up (va_up (va_up (va_up (va_up (fun _ => none) 0 (some a2)) 1 (some a3)) 2 (some a4)) 3 (some a5)) 4 (some a6)) 5 (some a7)) 6 (some a8)) 7 (some a9)))))))] H := hP
  have hD : va_D A [(a0, .inr (2, [.ref a1, .int 0, .int 0])), (a1, .inl (k0, 8, .inr (.inr (.inr (.inr (va_up (va_up (va_up (va_up (va_up (va_up (va_up (va_up (fun _ => none) 0 (some a2)) 1 (some a3)) 2 (some a4)) 3 (some a5)) 4 (some a6)) 5 (some a7)) 6 (some a8)) 7 (some a9)))))))] := hD
  subst hw1
  refine W.eq (g2 := F0 m 11 ls [.int 7]) rfl ?_
  refine lv_istore_n (lv' := [(2, .int 7), (0, .ref a0), (1, .int (-1))]) hx hb dX3_slot_11 rfl hl (by decide) rfl (fun ls hl => ?_)
  refine lv_iload_n hx hb dX3_slot_12 rfl (lv_at hl 0 rfl) ?_
  refine lv_aload_n hx hb dX3_slot_13 rfl (lv_at hl 1 rfl) ?_
  refine va_get (D := (dC, dI)) (ci := 2) (v := .ref a1) (C := RX3) (T := TX3) (N := 3) hx hb (ly_X3 hE) (fun _ h9 => h9) hown hK hP 0 rfl rfl 0 (by decide) (wd_163 hE) (fun _ h9 => h9) rfl dX3_slot_14 ?_
  refine va_alen (v := 8) hx hb hK hP 1 0 rfl rfl rfl dX3_slot_17 ?_
  refine lv_icmp_ge (tgt := 30) hx hb dX3_slot_18 (by decide) (fun c2 => absurd c2 (by decide)) (fun c2 => ?_)
  refine lv_aload_n hx hb dX3_slot_21 rfl (lv_at hl 1 rfl) ?_
  refine va_get (D := (dC, dI)) (ci := 2) (v := .ref a1) (C := RX3) (T := TX3) (N := 3) hx hb (ly_X3 hE) (fun _ h9 => h9) hown hK hP 0 rfl rfl 0 (by decide) (wd_163 hE) (fun _ h9 => h9) rfl dX3_slot_22 ?_
  refine lv_iload_n hx hb dX3_slot_25 rfl (lv_at hl 0 rfl) ?_
  refine va_aldq hx hb hK hP 1 0 rfl rfl (by unfold vp_in; decide) dX3_slot_26 ?_
  refine W.eq (g2 := F0 m 27 ls [.ref a9]) rfl ?_
  refine lv_goto (tgt := 31) hx hb dX3_slot_27 (by decide) ?_
  have hP9 := hP.sub (ws' := [(a0, .inr (2, [.ref a1, .int 0, .int 0])), (a1, .inl (k0, 8, .inr (.inr (.inr (.inr (va_up (va_up (va_up (va_up (va_up (va_up (va_up (va_up (fun _ => none) 0 (some a2)) 1 (some a3)) 2 (some a4)) 3 (some a5)) 4 (some a6)) 5 (some a7)) 6 (some a8)) 7 (some a9)))))))]) [0, 1] rfl
  have hD9 := hD.sub (ws' := [(a0, .inr (2, [.ref a1, .int 0, .int 0])), (a1, .inl (k0, 8, .inr (.inr (.inr (.inr (va_up (va_up (va_up (va_up (va_up (va_up (va_up (va_up (fun _ => none) 0 (some a2)) 1 (some a3)) 2 (some a4)) 3 (some a5)) 4 (some a6)) 5 (some a7)) 6 (some a8)) 7 (some a9)))))))]) [0, 1] (by decide) rfl
  have hK9 := hK.sub (tys' := []) [] rfl
  refine W.widen (k := 0) (n := 0) (Nat.le_of_ble_eq_true rfl) (Nat.le_of_ble_eq_true rfl) ?_
  exact W.aret (v := .ref a9) hx hb hr (Or.inl ⟨_, rfl⟩) (Or.inr ⟨_, rfl⟩) (fun t ht hW => ⟨⟨(), a9, rfl, trivial, rfl, by rw [ht]; exact hP9, va_K.moved hW.alike hK9, hD9⟩, hS.F ht⟩) hS.2.2 dX3_slot_31

set_option maxHeartbeats 4000000 in
set_option maxRecDepth 100000 in
theorem c_X3_pop (l : Launch) (dC : Nat → ClassId) (dI : Nat → Nat → Nat) (sz : Nat)  (a0 a1 a2 a3 a4 a5 a6 a7 a8 a9 a10 : Nat) (k0 : ClassId)  : Met l yX3_pop [.code yX3_pop cX3_pop 3 (some .boolean)] ({ frames := 2, cells := 0, slots := 0, locals := 80 }) (PcE [.ref a0, .ref a1] sz dC dI [(k0, .object "GluedWords$Store")] [(a0, .inr (2, [.ref a2, .int 0, .int 0])), (a2, .inl (k0, 8, .inr (.inr (.inr (.inr (va_up (va_up (va_up (va_up (va_up (va_up (va_up (va_up (fun _ => none) 0 (some a3)) 1 (some a4)) 2 (some a5)) 3 (some a6)) 4 (some a7)) 5 (some a8)) 6 (some a9)) 7 (some a10)))))))]) (va_Qi (fun (r : Int32) (u : Unit) => r = 0) (Bw dC dI (va_A [(a0, .inr (2, [.ref a2, .int 0, .int 0])), (a2, .inl (k0, 8, .inr (.inr (.inr (.inr (va_up (va_up (va_up (va_up (va_up (va_up (va_up (va_up (fun _ => none) 0 (some a3)) 1 (some a4)) 2 (some a5)) 3 (some a6)) 4 (some a7)) 5 (some a8)) 6 (some a9)) 7 (some a10)))))))] sz) (fun (u : Unit) => []) (fun (u : Unit) => [(a0, .inr (2, [.ref a2, .int 0, .int 0])), (a2, .inl (k0, 8, .inr (.inr (.inr (.inr (va_up (va_up (va_up (va_up (va_up (va_up (va_up (va_up (fun _ => none) 0 (some a3)) 1 (some a4)) 2 (some a5)) 3 (some a6)) 4 (some a7)) 5 (some a8)) 6 (some a9)) 7 (some a10)))))))])) (va_A [(a0, .inr (2, [.ref a2, .int 0, .int 0])), (a2, .inl (k0, 8, .inr (.inr (.inr (.inr (va_up (va_up (va_up (va_up (va_up (va_up (va_up (va_up (fun _ => none) 0 (some a3)) 1 (some a4)) 2 (some a5)) 3 (some a6)) 4 (some a7)) 5 (some a8)) 6 (some a9)) 7 (some a10)))))))] sz)) 0 0 (va_A [(a0, .inr (2, [.ref a2, .int 0, .int 0])), (a2, .inl (k0, 8, .inr (.inr (.inr (.inr (va_up (va_up (va_up (va_up (va_up (va_up (va_up (va_up (fun _ => none) 0 (some a3)) 1 (some a4)) 2 (some a5)) 3 (some a6)) 4 (some a7)) 5 (some a8)) 6 (some a9)) 7 (some a10)))))))] sz) := by
  refine Met.ofW (cc := cX3_pop) (maxL := 3) (ret := (some .boolean)) (by decide) rfl ?_
  intro p e s m args below meth c s₁ B hml hv
  obtain ⟨rfl, hsz, hP, hK, hD0, hE⟩ := hv
  have hx := B.exec
  have hb := B.bytes
  have hr := B.returns
  have hown : s.vm.findClass RX3 = some m.cls := findClass_of_methodNamed B.named
  have hlocks := B.notSynchronized
  subst hsz
  have hD := hD0.self (sz := s.heap.size)
  generalize hAe : va_A [(a0, .inr (2, [.ref a2, .int 0, .int 0])), (a2, .inl (k0, 8, .inr (.inr (.inr (.inr (va_up (va_up (va_up (va_up (va_up (va_up (va_up (va_up (fun _ => none) 0 (some a3)) 1 (some a4)) 2 (some a5)) 3 (some a6)) 4 (some a7)) 5 (some a8)) 6 (some a9)) 7 (some a10)))))))] s.heap.size = A at hD ⊢
  have hA : ∀ q : Nat, s.heap.size ≤ q → A q := fun q h => by rw [← hAe]; exact Or.inr h
  have hS : va_S A s.heap s.heap [] := va_S.rf
  have hl := lv_entry ([.ref a0, .ref a1]) (n := 3) (Nat.le_of_ble_eq_true rfl)
  rw [lg_entry_eq]
  generalize (lg_sl ([.ref a0, .ref a1]) ++ List.replicate (3 - (lg_sl ([.ref a0, .ref a1])).length) Slot.unset).toArray = ls at hl ⊢
  have hl : lv_has ls 3 [(0, .ref a0), (1, .ref a1)] := hl
  refine lv_aload_n hx hb dX3_pop_0 rfl (lv_at hl 0 rfl) ?_
  refine lv_aload_n hx hb dX3_pop_1 rfl (lv_at hl 0 rfl) ?_
  refine va_get (D := (dC, dI)) (ci := 2) (v := .int 0) (C := RX3) (T := TX3) (N := 3) hx hb (ly_X3 hE) (fun _ h9 => h9) hown hK hP 0 rfl rfl 2 (by decide) (wd_165 hE) (fun _ h9 => h9) rfl dX3_pop_2 ?_
  refine lv_iconst (v := 1) hx hb dX3_pop_5 (by decide) ?_
  refine lv_isub hx hb dX3_pop_6 ?_
  refine W.eq (g2 := F0 m 7 ls [.int (-1), .ref a0]) rfl ?_
  refine cl_r (wc := [(a0, .inr (2, [.ref a2, .int 0, .int 0])), (a2, .inl (k0, 8, .inr (.inr (.inr (.inr (va_up (va_up (va_up (va_up (va_up (va_up (va_up (va_up (fun _ => none) 0 (some a3)) 1 (some a4)) 2 (some a5)) 3 (some a6)) 4 (some a7)) 5 (some a8)) 6 (some a9)) 7 (some a10)))))))]) (wr := []) [0, 1] [] rfl rfl (by decide) (by decide) hK hP hD hS hA (va_runV (As := [.int (-1)]) (rest := []) ⟨hx, hb, hml, hown, noTs⟩ (c_X3_slot_2 l dC dI s.heap.size a0 a2 a3 a4 a5 a6 a7 a8 a9 a10 k0) ⟨cbE 1 (wd_730 hE) (wd_117 hE) (wd_727 hE) rfl rfl (by decide +kernel) ⟨Nat.le_of_ble_eq_true rfl, Nat.le_of_ble_eq_true rfl⟩, (wd_729 hE), (wd_22 hE)⟩ ⟨PcE.blind, va_recv hK hP (ci := 2) (q0 := 0) rfl rfl, (pre_E (av := [.ref a0, .int (-1)]) (wc := [(a0, .inr (2, [.ref a2, .int 0, .int 0])), (a2, .inl (k0, 8, .inr (.inr (.inr (.inr (va_up (va_up (va_up (va_up (va_up (va_up (va_up (va_up (fun _ => none) 0 (some a3)) 1 (some a4)) 2 (some a5)) 3 (some a6)) 4 (some a7)) 5 (some a8)) 6 (some a9)) 7 (some a10)))))))]) (tysc := [(k0, .object "GluedWords$Store")]) [0, 1] [0] rfl (by decide) rfl rfl hK hP hD hE)⟩ rfl rfl hl.1 rfl (lv_room (Nat.le_of_ble_eq_true rfl)) dX3_pop_7 ⟨Nat.le_of_ble_eq_true rfl, Nat.le_of_ble_eq_true rfl⟩) (fun u1 H locs hw1 hK hP hD hS => ?_)
  have hK : va_K (dC, dI) vwCl [(k0, .object "GluedWords$Store")] s := hK
  have hP : va_P (dC, dI) vwCl [(a0, .inr (2, [.ref a2, .int 0, .int 0])), (a2, .inl (k0, 8, .inr (.inr (.inr (.inr (va_up (va_up (va_up (va_up (va_up (va_up (va_up (va_up (fun _ => none) 0 (some a3)) 1 (some a4)) 2 (some a5)) 3 (some a6)) 4 (some a7)) 5 (some a8)) 6 (some a9)) 7 (some a10)))))))] H := hP
  have hD : va_D A [(a0, .inr (2, [.ref a2, .int 0, .int 0])), (a2, .inl (k0, 8, .inr (.inr (.inr (.inr (va_up (va_up (va_up (va_up (va_up (va_up (va_up (va_up (fun _ => none) 0 (some a3)) 1 (some a4)) 2 (some a5)) 3 (some a6)) 4 (some a7)) 5 (some a8)) 6 (some a9)) 7 (some a10)))))))] := hD
  refine W.eq (g2 := F0 m 10 ls [.ref a10]) rfl ?_
  refine lv_astore_n (lv' := [(2, .ref a10), (0, .ref a0), (1, .ref a1)]) hx hb dX3_pop_10 rfl hl (by decide) rfl (fun ls hl => ?_)
  refine lv_aload_n hx hb dX3_pop_11 rfl (lv_at hl 1 rfl) ?_
  refine va_get (D := (dC, dI)) (ci := 2) (v := .int 0) (C := RX3) (T := TX3) (N := 3) hx hb (ly_X3 hE) (fun _ h9 => h9) hown hK hP 0 rfl rfl 2 (by decide) (wd_165 hE) (fun _ h9 => h9) rfl dX3_pop_12 ?_
  refine lv_iconst (v := 1) hx hb dX3_pop_15 (by decide) ?_
  refine lv_icmp_lt (tgt := 23) hx hb dX3_pop_16 (by decide) (fun c2 => ?_) (fun c2 => absurd c2 (by decide))
  refine lv_iconst (v := 0) hx hb dX3_pop_23 (by decide) ?_
  have hP9 := hP.sub (ws' := [(a0, .inr (2, [.ref a2, .int 0, .int 0])), (a2, .inl (k0, 8, .inr (.inr (.inr (.inr (va_up (va_up (va_up (va_up (va_up (va_up (va_up (va_up (fun _ => none) 0 (some a3)) 1 (some a4)) 2 (some a5)) 3 (some a6)) 4 (some a7)) 5 (some a8)) 6 (some a9)) 7 (some a10)))))))]) [0, 1] rfl
  have hD9 := hD.sub (ws' := [(a0, .inr (2, [.ref a2, .int 0, .int 0])), (a2, .inl (k0, 8, .inr (.inr (.inr (.inr (va_up (va_up (va_up (va_up (va_up (va_up (va_up (va_up (fun _ => none) 0 (some a3)) 1 (some a4)) 2 (some a5)) 3 (some a6)) 4 (some a7)) 5 (some a8)) 6 (some a9)) 7 (some a10)))))))]) [0, 1] (by decide) rfl
  have hK9 := hK.sub (tys' := []) [] rfl
  refine W.widen (k := 0) (n := 0) (Nat.le_of_ble_eq_true rfl) (Nat.le_of_ble_eq_true rfl) ?_
  exact W.zret (v := 0) hx hb hr rfl (fun t ht hW => ⟨⟨0, (), rfl, rfl, by rw [ht]; exact hP9, va_K.moved hW.alike hK9, hD9⟩, hS.F ht⟩) hS.2.2 dX3_pop_24

set_option maxHeartbeats 4000000 in
set_option maxRecDepth 100000 in
theorem c_X3_copyFrom (l : Launch) (dC : Nat → ClassId) (dI : Nat → Nat → Nat) (sz : Nat)  (a0 a1 a2 a3 : Nat)  : Met l yX3_copyFrom [.code yX3_copyFrom cX3_copyFrom 4 none] ({ frames := 0, cells := 0, slots := 0, locals := 0 }) (PcE [.ref a0, .ref a1] sz dC dI [] [(a1, .inr (2, [.ref a2, .int 0, .int 0])), (a0, .inr (2, [.ref a3, .int 0, .int 0]))]) (va_Qv (fun (u : Unit) => True) (Bw dC dI (va_A [(a1, .inr (2, [.ref a2, .int 0, .int 0])), (a0, .inr (2, [.ref a3, .int 0, .int 0]))] sz) (fun (u : Unit) => []) (fun (u : Unit) => [(a1, .inr (2, [.ref a2, .int 0, .int 0])), (a0, .inr (2, [.ref a3, .int 0, .int 0]))])) (va_A [(a1, .inr (2, [.ref a2, .int 0, .int 0])), (a0, .inr (2, [.ref a3, .int 0, .int 0]))] sz)) 0 0 (va_A [(a1, .inr (2, [.ref a2, .int 0, .int 0])), (a0, .inr (2, [.ref a3, .int 0, .int 0]))] sz) := by
  refine Met.ofW (cc := cX3_copyFrom) (maxL := 4) (ret := none) (by decide) rfl ?_
  intro p e s m args below meth c s₁ B hml hv
  obtain ⟨rfl, hsz, hP, hK, hD0, hE⟩ := hv
  have hx := B.exec
  have hb := B.bytes
  have hr := B.returns
  have hown : s.vm.findClass RX3 = some m.cls := findClass_of_methodNamed B.named
  have hlocks := B.notSynchronized
  subst hsz
  have hD := hD0.self (sz := s.heap.size)
  generalize hAe : va_A [(a1, .inr (2, [.ref a2, .int 0, .int 0])), (a0, .inr (2, [.ref a3, .int 0, .int 0]))] s.heap.size = A at hD ⊢
  have hA : ∀ q : Nat, s.heap.size ≤ q → A q := fun q h => by rw [← hAe]; exact Or.inr h
  have hS : va_S A s.heap s.heap [] := va_S.rf
  have hl := lv_entry ([.ref a0, .ref a1]) (n := 4) (Nat.le_of_ble_eq_true rfl)
  rw [lg_entry_eq]
  generalize (lg_sl ([.ref a0, .ref a1]) ++ List.replicate (4 - (lg_sl ([.ref a0, .ref a1])).length) Slot.unset).toArray = ls at hl ⊢
  have hl : lv_has ls 4 [(0, .ref a0), (1, .ref a1)] := hl
  refine lv_aload_n hx hb dX3_copyFrom_0 rfl (lv_at hl 0 rfl) ?_
  refine lv_iconst (v := 0) hx hb dX3_copyFrom_1 (by decide) ?_
  refine va_put (D := (dC, dI)) (ci := 2) (v := .int 0) (ty := .int) (C := RX3) (T := TX3) (N := 3) hx hb (ly_X3 hE) (fun _ h9 => h9) tyX3 tyX3_ok nmX3 hown hK hP hD hS 1 rfl rfl 1 (by decide) (wd_164 hE) (fun _ h9 => h9) rfl (by decide +kernel) rfl rfl (Nat.le_of_ble_eq_true rfl) dX3_copyFrom_2 (fun H locs hP hD hS => ?_)
  have hP : va_P (dC, dI) vwCl [(a1, .inr (2, [.ref a2, .int 0, .int 0])), (a0, .inr (2, [.ref a3, .int 0, .int 0]))] H := hP
  have hD : va_D A [(a1, .inr (2, [.ref a2, .int 0, .int 0])), (a0, .inr (2, [.ref a3, .int 0, .int 0]))] := hD
  refine lv_aload_n hx hb dX3_copyFrom_5 rfl (lv_at hl 0 rfl) ?_
  refine lv_iconst (v := 0) hx hb dX3_copyFrom_6 (by decide) ?_
  refine va_put (D := (dC, dI)) (ci := 2) (v := .int 0) (ty := .int) (C := RX3) (T := TX3) (N := 3) hx hb (ly_X3 hE) (fun _ h9 => h9) tyX3 tyX3_ok nmX3 hown hK hP hD hS 1 rfl rfl 2 (by decide) (wd_165 hE) (fun _ h9 => h9) rfl (by decide +kernel) rfl rfl (Nat.le_of_ble_eq_true rfl) dX3_copyFrom_7 (fun H locs hP hD hS => ?_)
  have hP : va_P (dC, dI) vwCl [(a1, .inr (2, [.ref a2, .int 0, .int 0])), (a0, .inr (2, [.ref a3, .int 0, .int 0]))] H := hP
  have hD : va_D A [(a1, .inr (2, [.ref a2, .int 0, .int 0])), (a0, .inr (2, [.ref a3, .int 0, .int 0]))] := hD
  refine lv_iconst (v := 0) hx hb dX3_copyFrom_10 (by decide) ?_
  refine lv_istore_n (lv' := [(2, .int 0), (0, .ref a0), (1, .ref a1)]) hx hb dX3_copyFrom_11 rfl hl (by decide) rfl (fun ls hl => ?_)
  refine lv_iload_n hx hb dX3_copyFrom_12 rfl (lv_at hl 0 rfl) ?_
  refine lv_aload_n hx hb dX3_copyFrom_13 rfl (lv_at hl 2 rfl) ?_
  refine va_get (D := (dC, dI)) (ci := 2) (v := .int 0) (C := RX3) (T := TX3) (N := 3) hx hb (ly_X3 hE) (fun _ h9 => h9) hown hK hP 0 rfl rfl 2 (by decide) (wd_165 hE) (fun _ h9 => h9) rfl dX3_copyFrom_14 ?_
  refine lv_icmp_ge (tgt := 41) hx hb dX3_copyFrom_17 (by decide) (fun c1 => ?_) (fun c1 => absurd c1 (by decide))
  have hP9 := hP.sub (ws' := [(a1, .inr (2, [.ref a2, .int 0, .int 0])), (a0, .inr (2, [.ref a3, .int 0, .int 0]))]) [0, 1] rfl
  have hD9 := hD.sub (ws' := [(a1, .inr (2, [.ref a2, .int 0, .int 0])), (a0, .inr (2, [.ref a3, .int 0, .int 0]))]) [0, 1] (by decide) rfl
  have hK9 := hK.sub (tys' := []) [] rfl
  refine W.widen (k := 0) (n := 0) (Nat.le_of_ble_eq_true rfl) (Nat.le_of_ble_eq_true rfl) ?_
  exact W.vret hx hb hr (fun t ht hW => ⟨⟨(), rfl, trivial, by rw [ht]; exact hP9, va_K.moved hW.alike hK9, hD9⟩, hS.F ht⟩) hS.2.2 dX3_copyFrom_41
