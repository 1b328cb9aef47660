set_option maxHeartbeats 4000000 in
set_option maxRecDepth 100000 in
theorem c_X5_init (l : Launch) (dC : Nat → ClassId) (dI : Nat → Nat → Nat) (sz : Nat)  (a0 : Nat)  : Met l yX5_init [.code yX5_init cX5_init 1 none] ({ frames := 2, cells := 10, slots := 2802, locals := 80 }) (PcE [.ref a0] sz dC dI [] [(a0, .inr (4, [.null, .null, .null, .int 0, .int 0, .int 0, .int 0, .int 0, .int 0, .int 0]))]) (va_Qv (fun (u : (Nat → Nat) × (Nat → ClassId)) => True) (Bw dC dI (va_A [(a0, .inr (4, [.null, .null, .null, .int 0, .int 0, .int 0, .int 0, .int 0, .int 0, .int 0]))] sz) (fun (u : (Nat → Nat) × (Nat → ClassId)) => [(u.2 0, .int)]) (fun (u : (Nat → Nat) × (Nat → ClassId)) => [(a0, .inr (4, [.ref (u.1 0), .ref (u.1 1), .ref (u.1 3), .int 0, .int 0, .int (-1), .int 0, .int 0, .int (-1), .int (-1)])), (u.1 0, .inr (8, [.ref (u.1 4), .ref (u.1 5), .ref (u.1 6), .int 0, .ref (u.1 7), .int 0])), (u.1 1, .inr (6, [.ref (u.1 2)])), (u.1 2, .inl (u.2 0, 543, .inl (fun _ => 0)))])) (va_A [(a0, .inr (4, [.null, .null, .null, .int 0, .int 0, .int 0, .int 0, .int 0, .int 0, .int 0]))] sz)) 10 2802 (va_A [(a0, .inr (4, [.null, .null, .null, .int 0, .int 0, .int 0, .int 0, .int 0, .int 0, .int 0]))] sz) := by
  refine Met.ofW (cc := cX5_init) (maxL := 1) (ret := none) (by decide) rfl ?_
  intro p e s m args below meth c s₁ B hml hv
  obtain ⟨rfl, hsz, hP, hK, hD0, hE⟩ := hv
  have hx := B.exec
  have hb := B.bytes
  have hr := B.returns
  have hown : s.vm.findClass RX5 = some m.cls := findClass_of_methodNamed B.named
  have hlocks := B.notSynchronized
  have hin : meth.name = "<init>" := (name_of_methodNamed B.named B.method).1
  subst hsz
  have hD := hD0.self (sz := s.heap.size)
  generalize hAe : va_A [(a0, .inr (4, [.null, .null, .null, .int 0, .int 0, .int 0, .int 0, .int 0, .int 0, .int 0]))] s.heap.size = A at hD ⊢
  have hA : ∀ q : Nat, s.heap.size ≤ q → A q := fun q h => by rw [← hAe]; exact Or.inr h
  have hS : va_S A s.heap s.heap [] := va_S.rf
  have hl := lv_entry ([.ref a0]) (n := 1) (Nat.le_of_ble_eq_true rfl)
  rw [lg_entry_eq]
  generalize (lg_sl ([.ref a0]) ++ List.replicate (1 - (lg_sl ([.ref a0])).length) Slot.unset).toArray = ls at hl ⊢
  have hl : lv_has ls 1 [(0, .ref a0)] := hl
  refine lv_aload_n hx hb dX5_init_0 rfl (lv_at hl 0 rfl) ?_
  refine W.objInit hx hb hown (wd_179 hE) (wd_141 hE) (wd_142 hE) rfl (by rw [hml]; exact hl.1) rfl dX5_init_1 (Nat.le_of_ble_eq_true rfl) (Nat.le_of_ble_eq_true rfl) ?_
  refine W.eq (g2 := F0 m 4 ls []) rfl ?_
  refine lv_aload_n hx hb dX5_init_4 rfl (lv_at hl 0 rfl) ?_
  refine va_new (ci := 8) (fs := [.null, .null, .null, .int 0, .null, .int 0]) (C := RX9) (T := TX9) (N := 6) hx hb (ly_X9 hE) (fun _ h9 => h9) tyX9 tyX9_ok hown (wd_180 hE) (wd_181 hE) (wd_119 hE) hK hP hD hS hA rfl (by decide +kernel) (Nat.le_of_ble_eq_true rfl) (Nat.le_of_ble_eq_true rfl) dX5_init_5 (fun q1 H hP hD hS => ?_)
  have hP : va_P (dC, dI) vwCl [(a0, .inr (4, [.null, .null, .null, .int 0, .int 0, .int 0, .int 0, .int 0, .int 0, .int 0])), (q1, .inr (8, [.null, .null, .null, .int 0, .null, .int 0]))] H := hP
  have hD : va_D A [(a0, .inr (4, [.null, .null, .null, .int 0, .int 0, .int 0, .int 0, .int 0, .int 0, .int 0])), (q1, .inr (8, [.null, .null, .null, .int 0, .null, .int 0]))] := hD
  refine W.widen (k := 1) (n := 6) (Nat.le_of_ble_eq_true rfl) (Nat.le_of_ble_eq_true rfl) ?_
  refine lv_dup hx hb dX5_init_8 rfl ?_
  refine cl_v (wc := [(q1, .inr (8, [.null, .null, .null, .int 0, .null, .int 0]))]) (wr := [(a0, .inr (4, [.null, .null, .null, .int 0, .int 0, .int 0, .int 0, .int 0, .int 0, .int 0]))]) [1] [0] rfl rfl (by decide) (by decide) hK hP hD hS hA (va_runIN (As := []) (rest := [.ref q1, .ref a0]) ⟨hx, hb, hml, hown, noTs⟩ (c_X9_init l dC dI H.size q1) ⟨cnE 0 (wd_184 hE) (wd_119 hE) (wd_182 hE) rfl rfl (by decide +kernel) ⟨Nat.le_of_ble_eq_true rfl, Nat.le_of_ble_eq_true rfl⟩, rfl, (wd_183 hE)⟩ ⟨PcE.blind, (pre_E (av := [.ref q1]) (wc := [(q1, .inr (8, [.null, .null, .null, .int 0, .null, .int 0]))]) (tysc := []) [1] [] rfl (by decide) rfl rfl hK hP hD hE)⟩ rfl rfl hl.1 rfl (lv_room (Nat.le_of_ble_eq_true rfl)) dX5_init_9 ⟨Nat.le_of_ble_eq_true rfl, Nat.le_of_ble_eq_true rfl⟩) (fun u2 H locs hw2 hK hP hD hS => ?_)
  have hK : va_K (dC, dI) vwCl [] s := hK
  have hP : va_P (dC, dI) vwCl [(a0, .inr (4, [.null, .null, .null, .int 0, .int 0, .int 0, .int 0, .int 0, .int 0, .int 0])), (q1, .inr (8, [.ref (u2.1 0), .ref (u2.1 1), .ref (u2.1 2), .int 0, .ref (u2.1 3), .int 0]))] H := hP
  have hD : va_D A [(a0, .inr (4, [.null, .null, .null, .int 0, .int 0, .int 0, .int 0, .int 0, .int 0, .int 0])), (q1, .inr (8, [.ref (u2.1 0), .ref (u2.1 1), .ref (u2.1 2), .int 0, .ref (u2.1 3), .int 0]))] := hD
  refine W.widen (k := 5) (n := 2109) (Nat.le_of_ble_eq_true rfl) (Nat.le_of_ble_eq_true rfl) ?_
  refine va_putF (D := (dC, dI)) (ci := 4) (v := .ref q1) (ty := .object "GluedWords$Tokens") (C := RX5) (T := TX5) (N := 10) hx hb (ly_X5 hE) (fun _ h9 => h9) tyX5 tyX5_ok nmX5 hown hK hP hD hS 0 rfl rfl 0 (by decide) (wd_227 hE) (fun _ h9 => h9) rfl hin rfl (by decide +kernel) rfl rfl (Nat.le_of_ble_eq_true rfl) dX5_init_12 (fun H locs hP hD hS => ?_)
  have hP : va_P (dC, dI) vwCl [(a0, .inr (4, [.ref q1, .null, .null, .int 0, .int 0, .int 0, .int 0, .int 0, .int 0, .int 0])), (q1, .inr (8, [.ref (u2.1 0), .ref (u2.1 1), .ref (u2.1 2), .int 0, .ref (u2.1 3), .int 0]))] H := hP
  have hD : va_D A [(a0, .inr (4, [.ref q1, .null, .null, .int 0, .int 0, .int 0, .int 0, .int 0, .int 0, .int 0])), (q1, .inr (8, [.ref (u2.1 0), .ref (u2.1 1), .ref (u2.1 2), .int 0, .ref (u2.1 3), .int 0]))] := hD
  refine lv_aload_n hx hb dX5_init_15 rfl (lv_at hl 0 rfl) ?_
  refine va_new (ci := 6) (fs := [.null]) (C := RX7) (T := TX7) (N := 1) hx hb (ly_X7 hE) (fun _ h9 => h9) tyX7 tyX7_ok hown (wd_206 hE) (wd_144 hE) (wd_116 hE) hK hP hD hS hA rfl (by decide +kernel) (Nat.le_of_ble_eq_true rfl) (Nat.le_of_ble_eq_true rfl) dX5_init_16 (fun q3 H hP hD hS => ?_)
  have hP : va_P (dC, dI) vwCl [(a0, .inr (4, [.ref q1, .null, .null, .int 0, .int 0, .int 0, .int 0, .int 0, .int 0, .int 0])), (q1, .inr (8, [.ref (u2.1 0), .ref (u2.1 1), .ref (u2.1 2), .int 0, .ref (u2.1 3), .int 0])), (q3, .inr (6, [.null]))] H := hP
  have hD : va_D A [(a0, .inr (4, [.ref q1, .null, .null, .int 0, .int 0, .int 0, .int 0, .int 0, .int 0, .int 0])), (q1, .inr (8, [.ref (u2.1 0), .ref (u2.1 1), .ref (u2.1 2), .int 0, .ref (u2.1 3), .int 0])), (q3, .inr (6, [.null]))] := hD
  refine W.widen (k := 6) (n := 2110) (Nat.le_of_ble_eq_true rfl) (Nat.le_of_ble_eq_true rfl) ?_
  refine lv_dup hx hb dX5_init_19 rfl ?_
  refine cl_v (wc := [(q3, .inr (6, [.null]))]) (wr := [(a0, .inr (4, [.ref q1, .null, .null, .int 0, .int 0, .int 0, .int 0, .int 0, .int 0, .int 0])), (q1, .inr (8, [.ref (u2.1 0), .ref (u2.1 1), .ref (u2.1 2), .int 0, .ref (u2.1 3), .int 0]))]) [2] [0, 1] rfl rfl (by decide) (by decide) hK hP hD hS hA (va_runIN (As := []) (rest := [.ref q3, .ref a0]) ⟨hx, hb, hml, hown, noTs⟩ (c_X7_init l dC dI H.size q3) ⟨cnE 0 (wd_147 hE) (wd_116 hE) (wd_207 hE) rfl rfl (by decide +kernel) ⟨Nat.le_of_ble_eq_true rfl, Nat.le_of_ble_eq_true rfl⟩, rfl, (wd_146 hE)⟩ ⟨PcE.blind, (pre_E (av := [.ref q3]) (wc := [(q3, .inr (6, [.null]))]) (tysc := []) [2] [] rfl (by decide) rfl rfl hK hP hD hE)⟩ rfl rfl hl.1 rfl (lv_room (Nat.le_of_ble_eq_true rfl)) dX5_init_20 ⟨Nat.le_of_ble_eq_true rfl, Nat.le_of_ble_eq_true rfl⟩) (fun u4 H locs hw4 hK hP hD hS => ?_)
  have hK : va_K (dC, dI) vwCl [(u4.2 0, .int)] s := hK
  have hP : va_P (dC, dI) vwCl [(a0, .inr (4, [.ref q1, .null, .null, .int 0, .int 0, .int 0, .int 0, .int 0, .int 0, .int 0])), (q1, .inr (8, [.ref (u2.1 0), .ref (u2.1 1), .ref (u2.1 2), .int 0, .ref (u2.1 3), .int 0])), (q3, .inr (6, [.ref (u4.1 0)])), (u4.1 0, .inl (u4.2 0, 543, .inl (fun _ => 0)))] H := hP
  have hD : va_D A [(a0, .inr (4, [.ref q1, .null, .null, .int 0, .int 0, .int 0, .int 0, .int 0, .int 0, .int 0])), (q1, .inr (8, [.ref (u2.1 0), .ref (u2.1 1), .ref (u2.1 2), .int 0, .ref (u2.1 3), .int 0])), (q3, .inr (6, [.ref (u4.1 0)])), (u4.1 0, .inl (u4.2 0, 543, .inl (fun _ => 0)))] := hD
  refine W.widen (k := 7) (n := 2653) (Nat.le_of_ble_eq_true rfl) (Nat.le_of_ble_eq_true rfl) ?_
  refine va_putF (D := (dC, dI)) (ci := 4) (v := .ref q3) (ty := .object "GluedWords$Store") (C := RX5) (T := TX5) (N := 10) hx hb (ly_X5 hE) (fun _ h9 => h9) tyX5 tyX5_ok nmX5 hown hK hP hD hS 0 rfl rfl 1 (by decide) (wd_228 hE) (fun _ h9 => h9) rfl hin rfl (by decide +kernel) rfl rfl (Nat.le_of_ble_eq_true rfl) dX5_init_23 (fun H locs hP hD hS => ?_)
  have hP : va_P (dC, dI) vwCl [(a0, .inr (4, [.ref q1, .ref q3, .null, .int 0, .int 0, .int 0, .int 0, .int 0, .int 0, .int 0])), (q1, .inr (8, [.ref (u2.1 0), .ref (u2.1 1), .ref (u2.1 2), .int 0, .ref (u2.1 3), .int 0])), (q3, .inr (6, [.ref (u4.1 0)])), (u4.1 0, .inl (u4.2 0, 543, .inl (fun _ => 0)))] H := hP
  have hD : va_D A [(a0, .inr (4, [.ref q1, .ref q3, .null, .int 0, .int 0, .int 0, .int 0, .int 0, .int 0, .int 0])), (q1, .inr (8, [.ref (u2.1 0), .ref (u2.1 1), .ref (u2.1 2), .int 0, .ref (u2.1 3), .int 0])), (q3, .inr (6, [.ref (u4.1 0)])), (u4.1 0, .inl (u4.2 0, 543, .inl (fun _ => 0)))] := hD
  refine lv_aload_n hx hb dX5_init_26 rfl (lv_at hl 0 rfl) ?_
  refine va_new (ci := 9) (fs := [.null, .null, .int 0, .int 0]) (C := RX10) (T := TX10) (N := 4) hx hb (ly_X10 hE) (fun _ h9 => h9) tyX10 tyX10_ok hown (wd_208 hE) (wd_209 hE) (wd_120 hE) hK hP hD hS hA rfl (by decide +kernel) (Nat.le_of_ble_eq_true rfl) (Nat.le_of_ble_eq_true rfl) dX5_init_27 (fun q5 H hP hD hS => ?_)
  have hP : va_P (dC, dI) vwCl [(a0, .inr (4, [.ref q1, .ref q3, .null, .int 0, .int 0, .int 0, .int 0, .int 0, .int 0, .int 0])), (q1, .inr (8, [.ref (u2.1 0), .ref (u2.1 1), .ref (u2.1 2), .int 0, .ref (u2.1 3), .int 0])), (q3, .inr (6, [.ref (u4.1 0)])), (u4.1 0, .inl (u4.2 0, 543, .inl (fun _ => 0))), (q5, .inr (9, [.null, .null, .int 0, .int 0]))] H := hP
  have hD : va_D A [(a0, .inr (4, [.ref q1, .ref q3, .null, .int 0, .int 0, .int 0, .int 0, .int 0, .int 0, .int 0])), (q1, .inr (8, [.ref (u2.1 0), .ref (u2.1 1), .ref (u2.1 2), .int 0, .ref (u2.1 3), .int 0])), (q3, .inr (6, [.ref (u4.1 0)])), (u4.1 0, .inl (u4.2 0, 543, .inl (fun _ => 0))), (q5, .inr (9, [.null, .null, .int 0, .int 0]))] := hD
  refine W.widen (k := 8) (n := 2657) (Nat.le_of_ble_eq_true rfl) (Nat.le_of_ble_eq_true rfl) ?_
  refine lv_dup hx hb dX5_init_30 rfl ?_
  refine cl_v (wc := [(q5, .inr (9, [.null, .null, .int 0, .int 0]))]) (wr := [(a0, .inr (4, [.ref q1, .ref q3, .null, .int 0, .int 0, .int 0, .int 0, .int 0, .int 0, .int 0])), (q1, .inr (8, [.ref (u2.1 0), .ref (u2.1 1), .ref (u2.1 2), .int 0, .ref (u2.1 3), .int 0])), (q3, .inr (6, [.ref (u4.1 0)])), (u4.1 0, .inl (u4.2 0, 543, .inl (fun _ => 0)))]) [4] [0, 1, 2, 3] rfl rfl (by decide) (by decide) hK hP hD hS hA (va_runIN (As := []) (rest := [.ref q5, .ref a0]) ⟨hx, hb, hml, hown, noTs⟩ (c_X10_init l dC dI H.size q5) ⟨cnE 0 (wd_212 hE) (wd_120 hE) (wd_210 hE) rfl rfl (by decide +kernel) ⟨Nat.le_of_ble_eq_true rfl, Nat.le_of_ble_eq_true rfl⟩, rfl, (wd_211 hE)⟩ ⟨PcE.blind, (pre_E (av := [.ref q5]) (wc := [(q5, .inr (9, [.null, .null, .int 0, .int 0]))]) (tysc := []) [4] [] rfl (by decide) rfl rfl hK hP hD hE)⟩ rfl rfl hl.1 rfl (lv_room (Nat.le_of_ble_eq_true rfl)) dX5_init_31 ⟨Nat.le_of_ble_eq_true rfl, Nat.le_of_ble_eq_true rfl⟩) (fun u6 H locs hw6 hK hP hD hS => ?_)
  have hK : va_K (dC, dI) vwCl [(u4.2 0, .int)] s := hK
  have hP : va_P (dC, dI) vwCl [(a0, .inr (4, [.ref q1, .ref q3, .null, .int 0, .int 0, .int 0, .int 0, .int 0, .int 0, .int 0])), (q1, .inr (8, [.ref (u2.1 0), .ref (u2.1 1), .ref (u2.1 2), .int 0, .ref (u2.1 3), .int 0])), (q3, .inr (6, [.ref (u4.1 0)])), (u4.1 0, .inl (u4.2 0, 543, .inl (fun _ => 0))), (q5, .inr (9, [.ref (u6.1 0), .ref (u6.1 1), .int 0, .int 0]))] H := hP
  have hD : va_D A [(a0, .inr (4, [.ref q1, .ref q3, .null, .int 0, .int 0, .int 0, .int 0, .int 0, .int 0, .int 0])), (q1, .inr (8, [.ref (u2.1 0), .ref (u2.1 1), .ref (u2.1 2), .int 0, .ref (u2.1 3), .int 0])), (q3, .inr (6, [.ref (u4.1 0)])), (u4.1 0, .inl (u4.2 0, 543, .inl (fun _ => 0))), (q5, .inr (9, [.ref (u6.1 0), .ref (u6.1 1), .int 0, .int 0]))] := hD
  refine W.widen (k := 10) (n := 2802) (Nat.le_of_ble_eq_true rfl) (Nat.le_of_ble_eq_true rfl) ?_
  refine va_putF (D := (dC, dI)) (ci := 4) (v := .ref q5) (ty := .object "GluedWords$Walk") (C := RX5) (T := TX5) (N := 10) hx hb (ly_X5 hE) (fun _ h9 => h9) tyX5 tyX5_ok nmX5 hown hK hP hD hS 0 rfl rfl 2 (by decide) (wd_229 hE) (fun _ h9 => h9) rfl hin rfl (by decide +kernel) rfl rfl (Nat.le_of_ble_eq_true rfl) dX5_init_34 (fun H locs hP hD hS => ?_)
  have hP : va_P (dC, dI) vwCl [(a0, .inr (4, [.ref q1, .ref q3, .ref q5, .int 0, .int 0, .int 0, .int 0, .int 0, .int 0, .int 0])), (q1, .inr (8, [.ref (u2.1 0), .ref (u2.1 1), .ref (u2.1 2), .int 0, .ref (u2.1 3), .int 0])), (q3, .inr (6, [.ref (u4.1 0)])), (u4.1 0, .inl (u4.2 0, 543, .inl (fun _ => 0))), (q5, .inr (9, [.ref (u6.1 0), .ref (u6.1 1), .int 0, .int 0]))] H := hP
  have hD : va_D A [(a0, .inr (4, [.ref q1, .ref q3, .ref q5, .int 0, .int 0, .int 0, .int 0, .int 0, .int 0, .int 0])), (q1, .inr (8, [.ref (u2.1 0), .ref (u2.1 1), .ref (u2.1 2), .int 0, .ref (u2.1 3), .int 0])), (q3, .inr (6, [.ref (u4.1 0)])), (u4.1 0, .inl (u4.2 0, 543, .inl (fun _ => 0))), (q5, .inr (9, [.ref (u6.1 0), .ref (u6.1 1), .int 0, .int 0]))] := hD
  refine lv_aload_n hx hb dX5_init_37 rfl (lv_at hl 0 rfl) ?_
  refine lv_iconst (v := 0) hx hb dX5_init_38 (by decide) ?_
  refine va_put (D := (dC, dI)) (ci := 4) (v := .int 0) (ty := .boolean) (C := RX5) (T := TX5) (N := 10) hx hb (ly_X5 hE) (fun _ h9 => h9) tyX5 tyX5_ok nmX5 hown hK hP hD hS 0 rfl rfl 3 (by decide) (wd_230 hE) (fun _ h9 => h9) rfl (by decide +kernel) rfl rfl (Nat.le_of_ble_eq_true rfl) dX5_init_39 (fun H locs hP hD hS => ?_)
  have hP : va_P (dC, dI) vwCl [(a0, .inr (4, [.ref q1, .ref q3, .ref q5, .int 0, .int 0, .int 0, .int 0, .int 0, .int 0, .int 0])), (q1, .inr (8, [.ref (u2.1 0), .ref (u2.1 1), .ref (u2.1 2), .int 0, .ref (u2.1 3), .int 0])), (q3, .inr (6, [.ref (u4.1 0)])), (u4.1 0, .inl (u4.2 0, 543, .inl (fun _ => 0))), (q5, .inr (9, [.ref (u6.1 0), .ref (u6.1 1), .int 0, .int 0]))] H := hP
  have hD : va_D A [(a0, .inr (4, [.ref q1, .ref q3, .ref q5, .int 0, .int 0, .int 0, .int 0, .int 0, .int 0, .int 0])), (q1, .inr (8, [.ref (u2.1 0), .ref (u2.1 1), .ref (u2.1 2), .int 0, .ref (u2.1 3), .int 0])), (q3, .inr (6, [.ref (u4.1 0)])), (u4.1 0, .inl (u4.2 0, 543, .inl (fun _ => 0))), (q5, .inr (9, [.ref (u6.1 0), .ref (u6.1 1), .int 0, .int 0]))] := hD
  refine lv_aload_n hx hb dX5_init_42 rfl (lv_at hl 0 rfl) ?_
  refine lv_iconst (v := 0) hx hb dX5_init_43 (by decide) ?_
  refine va_put (D := (dC, dI)) (ci := 4) (v := .int 0) (ty := .int) (C := RX5) (T := TX5) (N := 10) hx hb (ly_X5 hE) (fun _ h9 => h9) tyX5 tyX5_ok nmX5 hown hK hP hD hS 0 rfl rfl 4 (by decide) (wd_231 hE) (fun _ h9 => h9) rfl (by decide +kernel) rfl rfl (Nat.le_of_ble_eq_true rfl) dX5_init_44 (fun H locs hP hD hS => ?_)
  have hP : va_P (dC, dI) vwCl [(a0, .inr (4, [.ref q1, .ref q3, .ref q5, .int 0, .int 0, .int 0, .int 0, .int 0, .int 0, .int 0])), (q1, .inr (8, [.ref (u2.1 0), .ref (u2.1 1), .ref (u2.1 2), .int 0, .ref (u2.1 3), .int 0])), (q3, .inr (6, [.ref (u4.1 0)])), (u4.1 0, .inl (u4.2 0, 543, .inl (fun _ => 0))), (q5, .inr (9, [.ref (u6.1 0), .ref (u6.1 1), .int 0, .int 0]))] H := hP
  have hD : va_D A [(a0, .inr (4, [.ref q1, .ref q3, .ref q5, .int 0, .int 0, .int 0, .int 0, .int 0, .int 0, .int 0])), (q1, .inr (8, [.ref (u2.1 0), .ref (u2.1 1), .ref (u2.1 2), .int 0, .ref (u2.1 3), .int 0])), (q3, .inr (6, [.ref (u4.1 0)])), (u4.1 0, .inl (u4.2 0, 543, .inl (fun _ => 0))), (q5, .inr (9, [.ref (u6.1 0), .ref (u6.1 1), .int 0, .int 0]))] := hD
  refine lv_aload_n hx hb dX5_init_47 rfl (lv_at hl 0 rfl) ?_
  refine lv_iconst (v := -1) hx hb dX5_init_48 (by decide) ?_
  refine va_put (D := (dC, dI)) (ci := 4) (v := .int (-1)) (ty := .int) (C := RX5) (T := TX5) (N := 10) hx hb (ly_X5 hE) (fun _ h9 => h9) tyX5 tyX5_ok nmX5 hown hK hP hD hS 0 rfl rfl 5 (by decide) (wd_232 hE) (fun _ h9 => h9) rfl (by decide +kernel) rfl rfl (Nat.le_of_ble_eq_true rfl) dX5_init_49 (fun H locs hP hD hS => ?_)
  have hP : va_P (dC, dI) vwCl [(a0, .inr (4, [.ref q1, .ref q3, .ref q5, .int 0, .int 0, .int (-1), .int 0, .int 0, .int 0, .int 0])), (q1, .inr (8, [.ref (u2.1 0), .ref (u2.1 1), .ref (u2.1 2), .int 0, .ref (u2.1 3), .int 0])), (q3, .inr (6, [.ref (u4.1 0)])), (u4.1 0, .inl (u4.2 0, 543, .inl (fun _ => 0))), (q5, .inr (9, [.ref (u6.1 0), .ref (u6.1 1), .int 0, .int 0]))] H := hP
  have hD : va_D A [(a0, .inr (4, [.ref q1, .ref q3, .ref q5, .int 0, .int 0, .int (-1), .int 0, .int 0, .int 0, .int 0])), (q1, .inr (8, [.ref (u2.1 0), .ref (u2.1 1), .ref (u2.1 2), .int 0, .ref (u2.1 3), .int 0])), (q3, .inr (6, [.ref (u4.1 0)])), (u4.1 0, .inl (u4.2 0, 543, .inl (fun _ => 0))), (q5, .inr (9, [.ref (u6.1 0), .ref (u6.1 1), .int 0, .int 0]))] := hD
  refine lv_aload_n hx hb dX5_init_52 rfl (lv_at hl 0 rfl) ?_
  refine lv_iconst (v := 0) hx hb dX5_init_53 (by decide) ?_
  refine va_put (D := (dC, dI)) (ci := 4) (v := .int 0) (ty := .int) (C := RX5) (T := TX5) (N := 10) hx hb (ly_X5 hE) (fun _ h9 => h9) tyX5 tyX5_ok nmX5 hown hK hP hD hS 0 rfl rfl 6 (by decide) (wd_233 hE) (fun _ h9 => h9) rfl (by decide +kernel) rfl rfl (Nat.le_of_ble_eq_true rfl) dX5_init_54 (fun H locs hP hD hS => ?_)
  have hP : va_P (dC, dI) vwCl [(a0, .inr (4, [.ref q1, .ref q3, .ref q5, .int 0, .int 0, .int (-1), .int 0, .int 0, .int 0, .int 0])), (q1, .inr (8, [.ref (u2.1 0), .ref (u2.1 1), .ref (u2.1 2), .int 0, .ref (u2.1 3), .int 0])), (q3, .inr (6, [.ref (u4.1 0)])), (u4.1 0, .inl (u4.2 0, 543, .inl (fun _ => 0))), (q5, .inr (9, [.ref (u6.1 0), .ref (u6.1 1), .int 0, .int 0]))] H := hP
  have hD : va_D A [(a0, .inr (4, [.ref q1, .ref q3, .ref q5, .int 0, .int 0, .int (-1), .int 0, .int 0, .int 0, .int 0])), (q1, .inr (8, [.ref (u2.1 0), .ref (u2.1 1), .ref (u2.1 2), .int 0, .ref (u2.1 3), .int 0])), (q3, .inr (6, [.ref (u4.1 0)])), (u4.1 0, .inl (u4.2 0, 543, .inl (fun _ => 0))), (q5, .inr (9, [.ref (u6.1 0), .ref (u6.1 1), .int 0, .int 0]))] := hD
  refine lv_aload_n hx hb dX5_init_57 rfl (lv_at hl 0 rfl) ?_
  refine lv_iconst (v := 0) hx hb dX5_init_58 (by decide) ?_
  refine va_put (D := (dC, dI)) (ci := 4) (v := .int 0) (ty := .int) (C := RX5) (T := TX5) (N := 10) hx hb (ly_X5 hE) (fun _ h9 => h9) tyX5 tyX5_ok nmX5 hown hK hP hD hS 0 rfl rfl 7 (by decide) (wd_234 hE) (fun _ h9 => h9) rfl (by decide +kernel) rfl rfl (Nat.le_of_ble_eq_true rfl) dX5_init_59 (fun H locs hP hD hS => ?_)
  have hP : va_P (dC, dI) vwCl [(a0, .inr (4, [.ref q1, .ref q3, .ref q5, .int 0, .int 0, .int (-1), .int 0, .int 0, .int 0, .int 0])), (q1, .inr (8, [.ref (u2.1 0), .ref (u2.1 1), .ref (u2.1 2), .int 0, .ref (u2.1 3), .int 0])), (q3, .inr (6, [.ref (u4.1 0)])), (u4.1 0, .inl (u4.2 0, 543, .inl (fun _ => 0))), (q5, .inr (9, [.ref (u6.1 0), .ref (u6.1 1), .int 0, .int 0]))] H := hP
  have hD : va_D A [(a0, .inr (4, [.ref q1, .ref q3, .ref q5, .int 0, .int 0, .int (-1), .int 0, .int 0, .int 0, .int 0])), (q1, .inr (8, [.ref (u2.1 0), .ref (u2.1 1), .ref (u2.1 2), .int 0, .ref (u2.1 3), .int 0])), (q3, .inr (6, [.ref (u4.1 0)])), (u4.1 0, .inl (u4.2 0, 543, .inl (fun _ => 0))), (q5, .inr (9, [.ref (u6.1 0), .ref (u6.1 1), .int 0, .int 0]))] := hD
  refine lv_aload_n hx hb dX5_init_62 rfl (lv_at hl 0 rfl) ?_
  refine lv_iconst (v := -1) hx hb dX5_init_63 (by decide) ?_
  refine va_put (D := (dC, dI)) (ci := 4) (v := .int (-1)) (ty := .int) (C := RX5) (T := TX5) (N := 10) hx hb (ly_X5 hE) (fun _ h9 => h9) tyX5 tyX5_ok nmX5 hown hK hP hD hS 0 rfl rfl 8 (by decide) (wd_235 hE) (fun _ h9 => h9) rfl (by decide +kernel) rfl rfl (Nat.le_of_ble_eq_true rfl) dX5_init_64 (fun H locs hP hD hS => ?_)
  have hP : va_P (dC, dI) vwCl [(a0, .inr (4, [.ref q1, .ref q3, .ref q5, .int 0, .int 0, .int (-1), .int 0, .int 0, .int (-1), .int 0])), (q1, .inr (8, [.ref (u2.1 0), .ref (u2.1 1), .ref (u2.1 2), .int 0, .ref (u2.1 3), .int 0])), (q3, .inr (6, [.ref (u4.1 0)])), (u4.1 0, .inl (u4.2 0, 543, .inl (fun _ => 0))), (q5, .inr (9, [.ref (u6.1 0), .ref (u6.1 1), .int 0, .int 0]))] H := hP
  have hD : va_D A [(a0, .inr (4, [.ref q1, .ref q3, .ref q5, .int 0, .int 0, .int (-1), .int 0, .int 0, .int (-1), .int 0])), (q1, .inr (8, [.ref (u2.1 0), .ref (u2.1 1), .ref (u2.1 2), .int 0, .ref (u2.1 3), .int 0])), (q3, .inr (6, [.ref (u4.1 0)])), (u4.1 0, .inl (u4.2 0, 543, .inl (fun _ => 0))), (q5, .inr (9, [.ref (u6.1 0), .ref (u6.1 1), .int 0, .int 0]))] := hD
  refine lv_aload_n hx hb dX5_init_67 rfl (lv_at hl 0 rfl) ?_
  refine lv_iconst (v := -1) hx hb dX5_init_68 (by decide) ?_
  refine va_put (D := (dC, dI)) (ci := 4) (v := .int (-1)) (ty := .int) (C := RX5) (T := TX5) (N := 10) hx hb (ly_X5 hE) (fun _ h9 => h9) tyX5 tyX5_ok nmX5 hown hK hP hD hS 0 rfl rfl 9 (by decide) (wd_236 hE) (fun _ h9 => h9) rfl (by decide +kernel) rfl rfl (Nat.le_of_ble_eq_true rfl) dX5_init_69 (fun H locs hP hD hS => ?_)
  have hP : va_P (dC, dI) vwCl [(a0, .inr (4, [.ref q1, .ref q3, .ref q5, .int 0, .int 0, .int (-1), .int 0, .int 0, .int (-1), .int (-1)])), (q1, .inr (8, [.ref (u2.1 0), .ref (u2.1 1), .ref (u2.1 2), .int 0, .ref (u2.1 3), .int 0])), (q3, .inr (6, [.ref (u4.1 0)])), (u4.1 0, .inl (u4.2 0, 543, .inl (fun _ => 0))), (q5, .inr (9, [.ref (u6.1 0), .ref (u6.1 1), .int 0, .int 0]))] H := hP
  have hD : va_D A [(a0, .inr (4, [.ref q1, .ref q3, .ref q5, .int 0, .int 0, .int (-1), .int 0, .int 0, .int (-1), .int (-1)])), (q1, .inr (8, [.ref (u2.1 0), .ref (u2.1 1), .ref (u2.1 2), .int 0, .ref (u2.1 3), .int 0])), (q3, .inr (6, [.ref (u4.1 0)])), (u4.1 0, .inl (u4.2 0, 543, .inl (fun _ => 0))), (q5, .inr (9, [.ref (u6.1 0), .ref (u6.1 1), .int 0, .int 0]))] := hD
  have hP9 := hP.sub (ws' := [(a0, .inr (4, [.ref q1, .ref q3, .ref q5, .int 0, .int 0, .int (-1), .int 0, .int 0, .int (-1), .int (-1)])), (q1, .inr (8, [.ref (u2.1 0), .ref (u2.1 1), .ref (u2.1 2), .int 0, .ref (u2.1 3), .int 0])), (q3, .inr (6, [.ref (u4.1 0)])), (u4.1 0, .inl (u4.2 0, 543, .inl (fun _ => 0)))]) [0, 1, 2, 3] rfl
  have hD9 := hD.sub (ws' := [(a0, .inr (4, [.ref q1, .ref q3, .ref q5, .int 0, .int 0, .int (-1), .int 0, .int 0, .int (-1), .int (-1)])), (q1, .inr (8, [.ref (u2.1 0), .ref (u2.1 1), .ref (u2.1 2), .int 0, .ref (u2.1 3), .int 0])), (q3, .inr (6, [.ref (u4.1 0)])), (u4.1 0, .inl (u4.2 0, 543, .inl (fun _ => 0)))]) [0, 1, 2, 3] (by decide) rfl
  have hK9 := hK.sub (tys' := [(u4.2 0, .int)]) [0] rfl
  refine W.widen (k := 10) (n := 2802) (Nat.le_of_ble_eq_true rfl) (Nat.le_of_ble_eq_true rfl) ?_
  exact W.vret hx hb hr (fun t ht hW => ⟨⟨(fun i => [q1, q3, (u4.1 0), q5, (u2.1 0), (u2.1 1), (u2.1 2), (u2.1 3)].getD i 0, fun i => [(u4.2 0)].getD i 0), rfl, trivial, by rw [ht]; exact hP9, va_K.moved hW.alike hK9, hD9⟩, hS.F ht⟩) hS.2.2 dX5_init_72

set_option maxHeartbeats 4000000 in
set_option maxRecDepth 100000 in
theorem c_X5_kind (l : Launch) (dC : Nat → ClassId) (dI : Nat → Nat → Nat) (sz : Nat)  (a0 a1 a2 a3 a4 a5 a6 a7 : Nat)  : Met l yX5_kind [.code yX5_kind cX5_kind 1 (some .int)] ({ frames := 1, cells := 0, slots := 0, locals := 40 }) (PcE [.ref a0] sz dC dI [] [(a0, .inr (4, [.ref a1, .ref a2, .ref a3, .int 1, .int 0, .int (-1), .int 0, .int 0, .int (-1), .int (-1)])), (a1, .inr (8, [.ref a4, .ref a5, .ref a6, .int 0, .ref a7, .int 0]))]) (va_Qi (fun (r : Int32) (u : Unit) => r = 0) (Bw dC dI (va_A [(a0, .inr (4, [.ref a1, .ref a2, .ref a3, .int 1, .int 0, .int (-1), .int 0, .int 0, .int (-1), .int (-1)])), (a1, .inr (8, [.ref a4, .ref a5, .ref a6, .int 0, .ref a7, .int 0]))] sz) (fun (u : Unit) => []) (fun (u : Unit) => [(a0, .inr (4, [.ref a1, .ref a2, .ref a3, .int 1, .int 0, .int (-1), .int 0, .int 0, .int (-1), .int (-1)])), (a1, .inr (8, [.ref a4, .ref a5, .ref a6, .int 0, .ref a7, .int 0]))])) (va_A [(a0, .inr (4, [.ref a1, .ref a2, .ref a3, .int 1, .int 0, .int (-1), .int 0, .int 0, .int (-1), .int (-1)])), (a1, .inr (8, [.ref a4, .ref a5, .ref a6, .int 0, .ref a7, .int 0]))] sz)) 0 0 (va_A [(a0, .inr (4, [.ref a1, .ref a2, .ref a3, .int 1, .int 0, .int (-1), .int 0, .int 0, .int (-1), .int (-1)])), (a1, .inr (8, [.ref a4, .ref a5, .ref a6, .int 0, .ref a7, .int 0]))] sz) := by
  refine Met.ofW (cc := cX5_kind) (maxL := 1) (ret := (some .int)) (by decide) rfl ?_
  intro p e s m args below meth c s₁ B hml hv
  obtain ⟨rfl, hsz, hP, hK, hD0, hE⟩ := hv
  have hx := B.exec
  have hb := B.bytes
  have hr := B.returns
  have hown : s.vm.findClass RX5 = some m.cls := findClass_of_methodNamed B.named
  have hlocks := B.notSynchronized
  subst hsz
  have hD := hD0.self (sz := s.heap.size)
  generalize hAe : va_A [(a0, .inr (4, [.ref a1, .ref a2, .ref a3, .int 1, .int 0, .int (-1), .int 0, .int 0, .int (-1), .int (-1)])), (a1, .inr (8, [.ref a4, .ref a5, .ref a6, .int 0, .ref a7, .int 0]))] s.heap.size = A at hD ⊢
  have hA : ∀ q : Nat, s.heap.size ≤ q → A q := fun q h => by rw [← hAe]; exact Or.inr h
  have hS : va_S A s.heap s.heap [] := va_S.rf
  have hl := lv_entry ([.ref a0]) (n := 1) (Nat.le_of_ble_eq_true rfl)
  rw [lg_entry_eq]
  generalize (lg_sl ([.ref a0]) ++ List.replicate (1 - (lg_sl ([.ref a0])).length) Slot.unset).toArray = ls at hl ⊢
  have hl : lv_has ls 1 [(0, .ref a0)] := hl
  refine lv_aload_n hx hb dX5_kind_0 rfl (lv_at hl 0 rfl) ?_
  refine va_get (D := (dC, dI)) (ci := 4) (v := .ref a1) (C := RX5) (T := TX5) (N := 10) hx hb (ly_X5 hE) (fun _ h9 => h9) hown hK hP 0 rfl rfl 0 (by decide) (wd_227 hE) (fun _ h9 => h9) rfl dX5_kind_1 ?_
  refine lv_aload_n hx hb dX5_kind_4 rfl (lv_at hl 0 rfl) ?_
  refine va_get (D := (dC, dI)) (ci := 4) (v := .int 0) (C := RX5) (T := TX5) (N := 10) hx hb (ly_X5 hE) (fun _ h9 => h9) hown hK hP 0 rfl rfl 4 (by decide) (wd_231 hE) (fun _ h9 => h9) rfl dX5_kind_5 ?_
  refine cl_i (wc := [(a1, .inr (8, [.ref a4, .ref a5, .ref a6, .int 0, .ref a7, .int 0]))]) (wr := [(a0, .inr (4, [.ref a1, .ref a2, .ref a3, .int 1, .int 0, .int (-1), .int 0, .int 0, .int (-1), .int (-1)]))]) [1] [0] rfl rfl (by decide) (by decide) hK hP hD hS hA (va_runV (As := [.int 0]) (rest := []) ⟨hx, hb, hml, hown, noTs⟩ (c_X9_kindAt l dC dI s.heap.size a1 a4 a5 a6 a7) ⟨cbE 1 (wd_549 hE) (wd_119 hE) (wd_546 hE) rfl rfl (by decide +kernel) ⟨Nat.le_of_ble_eq_true rfl, Nat.le_of_ble_eq_true rfl⟩, (wd_547 hE), (wd_548 hE)⟩ ⟨PcE.blind, va_recv hK hP (ci := 8) (q0 := 1) rfl rfl, (pre_E (av := [.ref a1, .int 0]) (wc := [(a1, .inr (8, [.ref a4, .ref a5, .ref a6, .int 0, .ref a7, .int 0]))]) (tysc := []) [1] [] rfl (by decide) rfl rfl hK hP hD hE)⟩ rfl rfl hl.1 rfl (lv_room (Nat.le_of_ble_eq_true rfl)) dX5_kind_8 ⟨Nat.le_of_ble_eq_true rfl, Nat.le_of_ble_eq_true rfl⟩) (fun r1 u1 H locs hw1 hK hP hD hS => ?_)
  have hK : va_K (dC, dI) vwCl [] s := hK
  have hP : va_P (dC, dI) vwCl [(a0, .inr (4, [.ref a1, .ref a2, .ref a3, .int 1, .int 0, .int (-1), .int 0, .int 0, .int (-1), .int (-1)])), (a1, .inr (8, [.ref a4, .ref a5, .ref a6, .int 0, .ref a7, .int 0]))] H := hP
  have hD : va_D A [(a0, .inr (4, [.ref a1, .ref a2, .ref a3, .int 1, .int 0, .int (-1), .int 0, .int 0, .int (-1), .int (-1)])), (a1, .inr (8, [.ref a4, .ref a5, .ref a6, .int 0, .ref a7, .int 0]))] := hD
  subst hw1
  refine W.eq (g2 := F0 m 11 ls [.int 0]) rfl ?_
  have hP9 := hP.sub (ws' := [(a0, .inr (4, [.ref a1, .ref a2, .ref a3, .int 1, .int 0, .int (-1), .int 0, .int 0, .int (-1), .int (-1)])), (a1, .inr (8, [.ref a4, .ref a5, .ref a6, .int 0, .ref a7, .int 0]))]) [0, 1] rfl
  have hD9 := hD.sub (ws' := [(a0, .inr (4, [.ref a1, .ref a2, .ref a3, .int 1, .int 0, .int (-1), .int 0, .int 0, .int (-1), .int (-1)])), (a1, .inr (8, [.ref a4, .ref a5, .ref a6, .int 0, .ref a7, .int 0]))]) [0, 1] (by decide) rfl
  have hK9 := hK.sub (tys' := []) [] rfl
  refine W.widen (k := 0) (n := 0) (Nat.le_of_ble_eq_true rfl) (Nat.le_of_ble_eq_true rfl) ?_
  exact W.iret (v := 0) hx hb hr (fun t ht hW => ⟨⟨0, (), rfl, rfl, by rw [ht]; exact hP9, va_K.moved hW.alike hK9, hD9⟩, hS.F ht⟩) hS.2.2 dX5_kind_11

set_option maxHeartbeats 4000000 in
set_option maxRecDepth 100000 in
theorem c_X5_read (l : Launch) (dC : Nat → ClassId) (dI : Nat → Nat → Nat) (sz : Nat)  (a0 a1 a2 a3 a4 a5 a6 a7 a8 a9 : Nat) (k0 k1 : ClassId)  : Met l yX5_read [.code yX5_read cX5_read 4 (some .boolean)] ({ frames := 2, cells := 0, slots := 0, locals := 80 }) (PcE [.ref a0, .ref a1, .int 0] sz dC dI [(k0, .byte), (k1, .int)] [(a1, .inl (k0, 700, .inl (fun _ => 0))), (a0, .inr (4, [.ref a2, .ref a3, .ref a4, .int 0, .int 0, .int (-1), .int 0, .int 0, .int (-1), .int (-1)])), (a2, .inr (8, [.ref a5, .ref a6, .ref a7, .int 0, .ref a8, .int 0])), (a3, .inr (6, [.ref a9])), (a9, .inl (k1, 543, .inl (fun _ => 0)))]) (va_Qi (fun (r : Int32) (u : Unit) => r = 1) (Bw dC dI (va_A [(a1, .inl (k0, 700, .inl (fun _ => 0))), (a0, .inr (4, [.ref a2, .ref a3, .ref a4, .int 0, .int 0, .int (-1), .int 0, .int 0, .int (-1), .int (-1)])), (a2, .inr (8, [.ref a5, .ref a6, .ref a7, .int 0, .ref a8, .int 0])), (a3, .inr (6, [.ref a9])), (a9, .inl (k1, 543, .inl (fun _ => 0)))] sz) (fun (u : Unit) => []) (fun (u : Unit) => [(a3, .inr (6, [.ref a9])), (a9, .inl (k1, 543, .inl (fun _ => 0))), (a1, .inl (k0, 700, .inl (fun _ => 0))), (a0, .inr (4, [.ref a2, .ref a3, .ref a4, .int 1, .int 0, .int (-1), .int 0, .int 0, .int (-1), .int (-1)])), (a2, .inr (8, [.ref a5, .ref a6, .ref a7, .int 0, .ref a1, .int 0]))])) (va_A [(a1, .inl (k0, 700, .inl (fun _ => 0))), (a0, .inr (4, [.ref a2, .ref a3, .ref a4, .int 0, .int 0, .int (-1), .int 0, .int 0, .int (-1), .int (-1)])), (a2, .inr (8, [.ref a5, .ref a6, .ref a7, .int 0, .ref a8, .int 0])), (a3, .inr (6, [.ref a9])), (a9, .inl (k1, 543, .inl (fun _ => 0)))] sz)) 0 0 (va_A [(a1, .inl (k0, 700, .inl (fun _ => 0))), (a0, .inr (4, [.ref a2, .ref a3, .ref a4, .int 0, .int 0, .int (-1), .int 0, .int 0, .int (-1), .int (-1)])), (a2, .inr (8, [.ref a5, .ref a6, .ref a7, .int 0, .ref a8, .int 0])), (a3, .inr (6, [.ref a9])), (a9, .inl (k1, 543, .inl (fun _ => 0)))] sz) := by
  refine Met.ofW (cc := cX5_read) (maxL := 4) (ret := (some .boolean)) (by decide) rfl ?_
  intro p e s m args below meth c s₁ B hml hv
  obtain ⟨rfl, hsz, hP, hK, hD0, hE⟩ := hv
  have hx := B.exec
  have hb := B.bytes
  have hr := B.returns
  have hown : s.vm.findClass RX5 = some m.cls := findClass_of_methodNamed B.named
  have hlocks := B.notSynchronized
  subst hsz
  have hD := hD0.self (sz := s.heap.size)
  generalize hAe : va_A [(a1, .inl (k0, 700, .inl (fun _ => 0))), (a0, .inr (4, [.ref a2, .ref a3, .ref a4, .int 0, .int 0, .int (-1), .int 0, .int 0, .int (-1), .int (-1)])), (a2, .inr (8, [.ref a5, .ref a6, .ref a7, .int 0, .ref a8, .int 0])), (a3, .inr (6, [.ref a9])), (a9, .inl (k1, 543, .inl (fun _ => 0)))] s.heap.size = A at hD ⊢
  have hA : ∀ q : Nat, s.heap.size ≤ q → A q := fun q h => by rw [← hAe]; exact Or.inr h
  have hS : va_S A s.heap s.heap [] := va_S.rf
  have hl := lv_entry ([.ref a0, .ref a1, .int 0]) (n := 4) (Nat.le_of_ble_eq_true rfl)
  rw [lg_entry_eq]
  generalize (lg_sl ([.ref a0, .ref a1, .int 0]) ++ List.replicate (4 - (lg_sl ([.ref a0, .ref a1, .int 0])).length) Slot.unset).toArray = ls at hl ⊢
  have hl : lv_has ls 4 [(0, .ref a0), (1, .ref a1), (2, .int 0)] := hl
  refine lv_aload_n hx hb dX5_read_0 rfl (lv_at hl 0 rfl) ?_
  refine lv_iconst (v := 1) hx hb dX5_read_1 (by decide) ?_
  refine va_put (D := (dC, dI)) (ci := 4) (v := .int 1) (ty := .boolean) (C := RX5) (T := TX5) (N := 10) hx hb (ly_X5 hE) (fun _ h9 => h9) tyX5 tyX5_ok nmX5 hown hK hP hD hS 1 rfl rfl 3 (by decide) (wd_230 hE) (fun _ h9 => h9) rfl (by decide +kernel) rfl rfl (Nat.le_of_ble_eq_true rfl) dX5_read_2 (fun H locs hP hD hS => ?_)
  have hP : va_P (dC, dI) vwCl [(a1, .inl (k0, 700, .inl (fun _ => 0))), (a0, .inr (4, [.ref a2, .ref a3, .ref a4, .int 1, .int 0, .int (-1), .int 0, .int 0, .int (-1), .int (-1)])), (a2, .inr (8, [.ref a5, .ref a6, .ref a7, .int 0, .ref a8, .int 0])), (a3, .inr (6, [.ref a9])), (a9, .inl (k1, 543, .inl (fun _ => 0)))] H := hP
  have hD : va_D A [(a1, .inl (k0, 700, .inl (fun _ => 0))), (a0, .inr (4, [.ref a2, .ref a3, .ref a4, .int 1, .int 0, .int (-1), .int 0, .int 0, .int (-1), .int (-1)])), (a2, .inr (8, [.ref a5, .ref a6, .ref a7, .int 0, .ref a8, .int 0])), (a3, .inr (6, [.ref a9])), (a9, .inl (k1, 543, .inl (fun _ => 0)))] := hD
  refine lv_aload_n hx hb dX5_read_5 rfl (lv_at hl 0 rfl) ?_
  refine lv_iconst (v := 0) hx hb dX5_read_6 (by decide) ?_
  refine va_put (D := (dC, dI)) (ci := 4) (v := .int 0) (ty := .int) (C := RX5) (T := TX5) (N := 10) hx hb (ly_X5 hE) (fun _ h9 => h9) tyX5 tyX5_ok nmX5 hown hK hP hD hS 1 rfl rfl 4 (by decide) (wd_231 hE) (fun _ h9 => h9) rfl (by decide +kernel) rfl rfl (Nat.le_of_ble_eq_true rfl) dX5_read_7 (fun H locs hP hD hS => ?_)
  have hP : va_P (dC, dI) vwCl [(a1, .inl (k0, 700, .inl (fun _ => 0))), (a0, .inr (4, [.ref a2, .ref a3, .ref a4, .int 1, .int 0, .int (-1), .int 0, .int 0, .int (-1), .int (-1)])), (a2, .inr (8, [.ref a5, .ref a6, .ref a7, .int 0, .ref a8, .int 0])), (a3, .inr (6, [.ref a9])), (a9, .inl (k1, 543, .inl (fun _ => 0)))] H := hP
  have hD : va_D A [(a1, .inl (k0, 700, .inl (fun _ => 0))), (a0, .inr (4, [.ref a2, .ref a3, .ref a4, .int 1, .int 0, .int (-1), .int 0, .int 0, .int (-1), .int (-1)])), (a2, .inr (8, [.ref a5, .ref a6, .ref a7, .int 0, .ref a8, .int 0])), (a3, .inr (6, [.ref a9])), (a9, .inl (k1, 543, .inl (fun _ => 0)))] := hD
  refine lv_aload_n hx hb dX5_read_10 rfl (lv_at hl 0 rfl) ?_
  refine lv_iconst (v := 0) hx hb dX5_read_11 (by decide) ?_
  refine va_put (D := (dC, dI)) (ci := 4) (v := .int 0) (ty := .int) (C := RX5) (T := TX5) (N := 10) hx hb (ly_X5 hE) (fun _ h9 => h9) tyX5 tyX5_ok nmX5 hown hK hP hD hS 1 rfl rfl 6 (by decide) (wd_233 hE) (fun _ h9 => h9) rfl (by decide +kernel) rfl rfl (Nat.le_of_ble_eq_true rfl) dX5_read_12 (fun H locs hP hD hS => ?_)
  have hP : va_P (dC, dI) vwCl [(a1, .inl (k0, 700, .inl (fun _ => 0))), (a0, .inr (4, [.ref a2, .ref a3, .ref a4, .int 1, .int 0, .int (-1), .int 0, .int 0, .int (-1), .int (-1)])), (a2, .inr (8, [.ref a5, .ref a6, .ref a7, .int 0, .ref a8, .int 0])), (a3, .inr (6, [.ref a9])), (a9, .inl (k1, 543, .inl (fun _ => 0)))] H := hP
  have hD : va_D A [(a1, .inl (k0, 700, .inl (fun _ => 0))), (a0, .inr (4, [.ref a2, .ref a3, .ref a4, .int 1, .int 0, .int (-1), .int 0, .int 0, .int (-1), .int (-1)])), (a2, .inr (8, [.ref a5, .ref a6, .ref a7, .int 0, .ref a8, .int 0])), (a3, .inr (6, [.ref a9])), (a9, .inl (k1, 543, .inl (fun _ => 0)))] := hD
  refine lv_aload_n hx hb dX5_read_15 rfl (lv_at hl 0 rfl) ?_
  refine lv_iconst (v := 0) hx hb dX5_read_16 (by decide) ?_
  refine va_put (D := (dC, dI)) (ci := 4) (v := .int 0) (ty := .int) (C := RX5) (T := TX5) (N := 10) hx hb (ly_X5 hE) (fun _ h9 => h9) tyX5 tyX5_ok nmX5 hown hK hP hD hS 1 rfl rfl 7 (by decide) (wd_234 hE) (fun _ h9 => h9) rfl (by decide +kernel) rfl rfl (Nat.le_of_ble_eq_true rfl) dX5_read_17 (fun H locs hP hD hS => ?_)
  have hP : va_P (dC, dI) vwCl [(a1, .inl (k0, 700, .inl (fun _ => 0))), (a0, .inr (4, [.ref a2, .ref a3, .ref a4, .int 1, .int 0, .int (-1), .int 0, .int 0, .int (-1), .int (-1)])), (a2, .inr (8, [.ref a5, .ref a6, .ref a7, .int 0, .ref a8, .int 0])), (a3, .inr (6, [.ref a9])), (a9, .inl (k1, 543, .inl (fun _ => 0)))] H := hP
  have hD : va_D A [(a1, .inl (k0, 700, .inl (fun _ => 0))), (a0, .inr (4, [.ref a2, .ref a3, .ref a4, .int 1, .int 0, .int (-1), .int 0, .int 0, .int (-1), .int (-1)])), (a2, .inr (8, [.ref a5, .ref a6, .ref a7, .int 0, .ref a8, .int 0])), (a3, .inr (6, [.ref a9])), (a9, .inl (k1, 543, .inl (fun _ => 0)))] := hD
  refine lv_aload_n hx hb dX5_read_20 rfl (lv_at hl 0 rfl) ?_
  refine lv_iconst (v := -1) hx hb dX5_read_21 (by decide) ?_
  refine va_put (D := (dC, dI)) (ci := 4) (v := .int (-1)) (ty := .int) (C := RX5) (T := TX5) (N := 10) hx hb (ly_X5 hE) (fun _ h9 => h9) tyX5 tyX5_ok nmX5 hown hK hP hD hS 1 rfl rfl 8 (by decide) (wd_235 hE) (fun _ h9 => h9) rfl (by decide +kernel) rfl rfl (Nat.le_of_ble_eq_true rfl) dX5_read_22 (fun H locs hP hD hS => ?_)
  have hP : va_P (dC, dI) vwCl [(a1, .inl (k0, 700, .inl (fun _ => 0))), (a0, .inr (4, [.ref a2, .ref a3, .ref a4, .int 1, .int 0, .int (-1), .int 0, .int 0, .int (-1), .int (-1)])), (a2, .inr (8, [.ref a5, .ref a6, .ref a7, .int 0, .ref a8, .int 0])), (a3, .inr (6, [.ref a9])), (a9, .inl (k1, 543, .inl (fun _ => 0)))] H := hP
  have hD : va_D A [(a1, .inl (k0, 700, .inl (fun _ => 0))), (a0, .inr (4, [.ref a2, .ref a3, .ref a4, .int 1, .int 0, .int (-1), .int 0, .int 0, .int (-1), .int (-1)])), (a2, .inr (8, [.ref a5, .ref a6, .ref a7, .int 0, .ref a8, .int 0])), (a3, .inr (6, [.ref a9])), (a9, .inl (k1, 543, .inl (fun _ => 0)))] := hD
  refine lv_aload_n hx hb dX5_read_25 rfl (lv_at hl 0 rfl) ?_
  refine lv_iconst (v := -1) hx hb dX5_read_26 (by decide) ?_
  refine va_put (D := (dC, dI)) (ci := 4) (v := .int (-1)) (ty := .int) (C := RX5) (T := TX5) (N := 10) hx hb (ly_X5 hE) (fun _ h9 => h9) tyX5 tyX5_ok nmX5 hown hK hP hD hS 1 rfl rfl 9 (by decide) (wd_236 hE) (fun _ h9 => h9) rfl (by decide +kernel) rfl rfl (Nat.le_of_ble_eq_true rfl) dX5_read_27 (fun H locs hP hD hS => ?_)
  have hP : va_P (dC, dI) vwCl [(a1, .inl (k0, 700, .inl (fun _ => 0))), (a0, .inr (4, [.ref a2, .ref a3, .ref a4, .int 1, .int 0, .int (-1), .int 0, .int 0, .int (-1), .int (-1)])), (a2, .inr (8, [.ref a5, .ref a6, .ref a7, .int 0, .ref a8, .int 0])), (a3, .inr (6, [.ref a9])), (a9, .inl (k1, 543, .inl (fun _ => 0)))] H := hP
  have hD : va_D A [(a1, .inl (k0, 700, .inl (fun _ => 0))), (a0, .inr (4, [.ref a2, .ref a3, .ref a4, .int 1, .int 0, .int (-1), .int 0, .int 0, .int (-1), .int (-1)])), (a2, .inr (8, [.ref a5, .ref a6, .ref a7, .int 0, .ref a8, .int 0])), (a3, .inr (6, [.ref a9])), (a9, .inl (k1, 543, .inl (fun _ => 0)))] := hD
  refine lv_aload_n hx hb dX5_read_30 rfl (lv_at hl 0 rfl) ?_
  refine va_get (D := (dC, dI)) (ci := 4) (v := .ref a3) (C := RX5) (T := TX5) (N := 10) hx hb (ly_X5 hE) (fun _ h9 => h9) hown hK hP 1 rfl rfl 1 (by decide) (wd_228 hE) (fun _ h9 => h9) rfl dX5_read_31 ?_
  refine cl_v (wc := [(a3, .inr (6, [.ref a9])), (a9, .inl (k1, 543, .inl (fun _ => 0)))]) (wr := [(a1, .inl (k0, 700, .inl (fun _ => 0))), (a0, .inr (4, [.ref a2, .ref a3, .ref a4, .int 1, .int 0, .int (-1), .int 0, .int 0, .int (-1), .int (-1)])), (a2, .inr (8, [.ref a5, .ref a6, .ref a7, .int 0, .ref a8, .int 0]))]) [3, 4] [0, 1, 2] rfl rfl (by decide) (by decide) hK hP hD hS hA (va_runV (As := []) (rest := []) ⟨hx, hb, hml, hown, noTs⟩ (c_X7_clear l dC dI H.size a3 a9 k1) ⟨cbE 0 (wd_444 hE) (wd_116 hE) (wd_441 hE) rfl rfl (by decide +kernel) ⟨Nat.le_of_ble_eq_true rfl, Nat.le_of_ble_eq_true rfl⟩, (wd_442 hE), (wd_443 hE)⟩ ⟨PcE.blind, va_recv hK hP (ci := 6) (q0 := 3) rfl rfl, (pre_E (av := [.ref a3]) (wc := [(a3, .inr (6, [.ref a9])), (a9, .inl (k1, 543, .inl (fun _ => 0)))]) (tysc := [(k1, .int)]) [3, 4] [1] rfl (by decide) rfl rfl hK hP hD hE)⟩ rfl rfl hl.1 rfl (lv_room (Nat.le_of_ble_eq_true rfl)) dX5_read_34 ⟨Nat.le_of_ble_eq_true rfl, Nat.le_of_ble_eq_true rfl⟩) (fun u1 H locs hw1 hK hP hD hS => ?_)
  have hK : va_K (dC, dI) vwCl [(k0, .byte), (k1, .int)] s := hK
  have hP : va_P (dC, dI) vwCl [(a1, .inl (k0, 700, .inl (fun _ => 0))), (a0, .inr (4, [.ref a2, .ref a3, .ref a4, .int 1, .int 0, .int (-1), .int 0, .int 0, .int (-1), .int (-1)])), (a2, .inr (8, [.ref a5, .ref a6, .ref a7, .int 0, .ref a8, .int 0])), (a3, .inr (6, [.ref a9])), (a9, .inl (k1, 543, .inl (fun _ => 0)))] H := hP
  have hD : va_D A [(a1, .inl (k0, 700, .inl (fun _ => 0))), (a0, .inr (4, [.ref a2, .ref a3, .ref a4, .int 1, .int 0, .int (-1), .int 0, .int 0, .int (-1), .int (-1)])), (a2, .inr (8, [.ref a5, .ref a6, .ref a7, .int 0, .ref a8, .int 0])), (a3, .inr (6, [.ref a9])), (a9, .inl (k1, 543, .inl (fun _ => 0)))] := hD
  refine lv_aload_n hx hb dX5_read_37 rfl (lv_at hl 0 rfl) ?_
  refine va_get (D := (dC, dI)) (ci := 4) (v := .ref a2) (C := RX5) (T := TX5) (N := 10) hx hb (ly_X5 hE) (fun _ h9 => h9) hown hK hP 1 rfl rfl 0 (by decide) (wd_227 hE) (fun _ h9 => h9) rfl dX5_read_38 ?_
  refine lv_aload_n hx hb dX5_read_41 rfl (lv_at hl 1 rfl) ?_
  refine lv_iload_n hx hb dX5_read_42 rfl (lv_at hl 2 rfl) ?_
  refine cl_v (wc := [(a1, .inl (k0, 700, .inl (fun _ => 0))), (a2, .inr (8, [.ref a5, .ref a6, .ref a7, .int 0, .ref a8, .int 0]))]) (wr := [(a0, .inr (4, [.ref a2, .ref a3, .ref a4, .int 1, .int 0, .int (-1), .int 0, .int 0, .int (-1), .int (-1)])), (a3, .inr (6, [.ref a9])), (a9, .inl (k1, 543, .inl (fun _ => 0)))]) [0, 2] [1, 3, 4] rfl rfl (by decide) (by decide) hK hP hD hS hA (va_runV (As := [.ref a1, .int 0]) (rest := []) ⟨hx, hb, hml, hown, noTs⟩ (c_X9_cut l dC dI H.size a2 a1 a5 a6 a7 a8 k0) ⟨cbE 2 (wd_451 hE) (wd_119 hE) (wd_448 hE) rfl rfl (by decide +kernel) ⟨Nat.le_of_ble_eq_true rfl, Nat.le_of_ble_eq_true rfl⟩, (wd_449 hE), (wd_450 hE)⟩ ⟨PcE.blind, va_recv hK hP (ci := 8) (q0 := 2) rfl rfl, (pre_E (av := [.ref a2, .ref a1, .int 0]) (wc := [(a1, .inl (k0, 700, .inl (fun _ => 0))), (a2, .inr (8, [.ref a5, .ref a6, .ref a7, .int 0, .ref a8, .int 0]))]) (tysc := [(k0, .byte)]) [0, 2] [0] rfl (by decide) rfl rfl hK hP hD hE)⟩ rfl rfl hl.1 rfl (lv_room (Nat.le_of_ble_eq_true rfl)) dX5_read_43 ⟨Nat.le_of_ble_eq_true rfl, Nat.le_of_ble_eq_true rfl⟩) (fun u2 H locs hw2 hK hP hD hS => ?_)
  have hK : va_K (dC, dI) vwCl [(k0, .byte), (k1, .int)] s := hK
  have hP : va_P (dC, dI) vwCl [(a0, .inr (4, [.ref a2, .ref a3, .ref a4, .int 1, .int 0, .int (-1), .int 0, .int 0, .int (-1), .int (-1)])), (a3, .inr (6, [.ref a9])), (a9, .inl (k1, 543, .inl (fun _ => 0))), (a1, .inl (k0, 700, .inl (fun _ => 0))), (a2, .inr (8, [.ref a5, .ref a6, .ref a7, .int 0, .ref a1, .int 0]))] H := hP
  have hD : va_D A [(a0, .inr (4, [.ref a2, .ref a3, .ref a4, .int 1, .int 0, .int (-1), .int 0, .int 0, .int (-1), .int (-1)])), (a3, .inr (6, [.ref a9])), (a9, .inl (k1, 543, .inl (fun _ => 0))), (a1, .inl (k0, 700, .inl (fun _ => 0))), (a2, .inr (8, [.ref a5, .ref a6, .ref a7, .int 0, .ref a1, .int 0]))] := hD
  refine lv_iconst (v := 0) hx hb dX5_read_46 (by decide) ?_
  refine lv_istore_n (lv' := [(3, .int 0), (0, .ref a0), (1, .ref a1), (2, .int 0)]) hx hb dX5_read_47 rfl hl (by decide) rfl (fun ls hl => ?_)
  refine lv_iload_n hx hb dX5_read_48 rfl (lv_at hl 0 rfl) ?_
  refine lv_sipush (v := 700) hx hb dX5_read_49 (by decide) ?_
  refine lv_icmp_ge (tgt := 124) hx hb dX5_read_52 (by decide) (fun c3 => absurd c3 (by decide)) (fun c3 => ?_)
  refine lv_aload_n hx hb dX5_read_55 rfl (lv_at hl 1 rfl) ?_
  refine va_get (D := (dC, dI)) (ci := 4) (v := .int 0) (C := RX5) (T := TX5) (N := 10) hx hb (ly_X5 hE) (fun _ h9 => h9) hown hK hP 0 rfl rfl 7 (by decide) (wd_234 hE) (fun _ h9 => h9) rfl dX5_read_56 ?_
  refine lv_if_ne (tgt := 124) hx hb dX5_read_59 (by decide) (fun c4 => absurd c4 (by decide)) (fun c4 => ?_)
  refine lv_aload_n hx hb dX5_read_62 rfl (lv_at hl 1 rfl) ?_
  refine cl_i (wc := [(a0, .inr (4, [.ref a2, .ref a3, .ref a4, .int 1, .int 0, .int (-1), .int 0, .int 0, .int (-1), .int (-1)])), (a2, .inr (8, [.ref a5, .ref a6, .ref a7, .int 0, .ref a1, .int 0]))]) (wr := [(a3, .inr (6, [.ref a9])), (a9, .inl (k1, 543, .inl (fun _ => 0))), (a1, .inl (k0, 700, .inl (fun _ => 0)))]) [0, 4] [1, 2, 3] rfl rfl (by decide) (by decide) hK hP hD hS hA (va_runV (As := []) (rest := []) ⟨hx, hb, hml, hown, noTs⟩ (c_X5_kind l dC dI H.size a0 a2 a3 a4 a5 a6 a7 a1) ⟨cbE 0 (wd_545 hE) (wd_118 hE) (wd_542 hE) rfl rfl (by decide +kernel) ⟨Nat.le_of_ble_eq_true rfl, Nat.le_of_ble_eq_true rfl⟩, (wd_544 hE), (wd_8 hE)⟩ ⟨PcE.blind, va_recv hK hP (ci := 4) (q0 := 0) rfl rfl, (pre_E (av := [.ref a0]) (wc := [(a0, .inr (4, [.ref a2, .ref a3, .ref a4, .int 1, .int 0, .int (-1), .int 0, .int 0, .int (-1), .int (-1)])), (a2, .inr (8, [.ref a5, .ref a6, .ref a7, .int 0, .ref a1, .int 0]))]) (tysc := []) [0, 4] [] rfl (by decide) rfl rfl hK hP hD hE)⟩ rfl rfl hl.1 rfl (lv_room (Nat.le_of_ble_eq_true rfl)) dX5_read_63 ⟨Nat.le_of_ble_eq_true rfl, Nat.le_of_ble_eq_true rfl⟩) (fun r5 u5 H locs hw5 hK hP hD hS => ?_)
  have hK : va_K (dC, dI) vwCl [(k0, .byte), (k1, .int)] s := hK
  have hP : va_P (dC, dI) vwCl [(a3, .inr (6, [.ref a9])), (a9, .inl (k1, 543, .inl (fun _ => 0))), (a1, .inl (k0, 700, .inl (fun _ => 0))), (a0, .inr (4, [.ref a2, .ref a3, .ref a4, .int 1, .int 0, .int (-1), .int 0, .int 0, .int (-1), .int (-1)])), (a2, .inr (8, [.ref a5, .ref a6, .ref a7, .int 0, .ref a1, .int 0]))] H := hP
  have hD : va_D A [(a3, .inr (6, [.ref a9])), (a9, .inl (k1, 543, .inl (fun _ => 0))), (a1, .inl (k0, 700, .inl (fun _ => 0))), (a0, .inr (4, [.ref a2, .ref a3, .ref a4, .int 1, .int 0, .int (-1), .int 0, .int 0, .int (-1), .int (-1)])), (a2, .inr (8, [.ref a5, .ref a6, .ref a7, .int 0, .ref a1, .int 0]))] := hD
  subst hw5
  refine W.eq (g2 := F0 m 66 ls [.int 0]) rfl ?_
  refine lv_if_eq (tgt := 124) hx hb dX5_read_66 (by decide) (fun c6 => ?_) (fun c6 => absurd c6 (by decide))
  refine lv_aload_n hx hb dX5_read_124 rfl (lv_at hl 1 rfl) ?_
  refine va_get (D := (dC, dI)) (ci := 4) (v := .int 0) (C := RX5) (T := TX5) (N := 10) hx hb (ly_X5 hE) (fun _ h9 => h9) hown hK hP 3 rfl rfl 7 (by decide) (wd_234 hE) (fun _ h9 => h9) rfl dX5_read_125 ?_
  refine lv_if_ne (tgt := 135) hx hb dX5_read_128 (by decide) (fun c7 => absurd c7 (by decide)) (fun c7 => ?_)
  refine lv_iconst (v := 1) hx hb dX5_read_131 (by decide) ?_
  refine lv_goto (tgt := 136) hx hb dX5_read_132 (by decide) ?_
  have hP9 := hP.sub (ws' := [(a3, .inr (6, [.ref a9])), (a9, .inl (k1, 543, .inl (fun _ => 0))), (a1, .inl (k0, 700, .inl (fun _ => 0))), (a0, .inr (4, [.ref a2, .ref a3, .ref a4, .int 1, .int 0, .int (-1), .int 0, .int 0, .int (-1), .int (-1)])), (a2, .inr (8, [.ref a5, .ref a6, .ref a7, .int 0, .ref a1, .int 0]))]) [0, 1, 2, 3, 4] rfl
  have hD9 := hD.sub (ws' := [(a3, .inr (6, [.ref a9])), (a9, .inl (k1, 543, .inl (fun _ => 0))), (a1, .inl (k0, 700, .inl (fun _ => 0))), (a0, .inr (4, [.ref a2, .ref a3, .ref a4, .int 1, .int 0, .int (-1), .int 0, .int 0, .int (-1), .int (-1)])), (a2, .inr (8, [.ref a5, .ref a6, .ref a7, .int 0, .ref a1, .int 0]))]) [0, 1, 2, 3, 4] (by decide) rfl
  have hK9 := hK.sub (tys' := []) [] rfl
  refine W.widen (k := 0) (n := 0) (Nat.le_of_ble_eq_true rfl) (Nat.le_of_ble_eq_true rfl) ?_
  exact W.zret (v := 1) hx hb hr rfl (fun t ht hW => ⟨⟨1, (), rfl, rfl, by rw [ht]; exact hP9, va_K.moved hW.alike hK9, hD9⟩, hS.F ht⟩) hS.2.2 dX5_read_136

set_option maxHeartbeats 4000000 in
set_option maxRecDepth 100000 in
theorem c_X5_result (l : Launch) (dC : Nat → ClassId) (dI : Nat → Nat → Nat) (sz : Nat)  (a0 a1 a2 a3 : Nat)  : Met l yX5_result [.code yX5_result cX5_result 1 (some (.object "GluedWords$Store"))] ({ frames := 0, cells := 0, slots := 0, locals := 0 }) (PcE [.ref a0] sz dC dI [] [(a0, .inr (4, [.ref a1, .ref a2, .ref a3, .int 1, .int 0, .int (-1), .int 0, .int 0, .int (-1), .int (-1)]))]) (va_Qr (fun (u : Unit) => True) (fun (u : Unit) (x : Nat) (t : State) => x = a2 ∧ Bw dC dI (va_A [(a0, .inr (4, [.ref a1, .ref a2, .ref a3, .int 1, .int 0, .int (-1), .int 0, .int 0, .int (-1), .int (-1)]))] sz) (fun (u : Unit) => []) (fun (u : Unit) => [(a0, .inr (4, [.ref a1, .ref a2, .ref a3, .int 1, .int 0, .int (-1), .int 0, .int 0, .int (-1), .int (-1)]))]) u t) (va_A [(a0, .inr (4, [.ref a1, .ref a2, .ref a3, .int 1, .int 0, .int (-1), .int 0, .int 0, .int (-1), .int (-1)]))] sz)) 0 0 (va_A [(a0, .inr (4, [.ref a1, .ref a2, .ref a3, .int 1, .int 0, .int (-1), .int 0, .int 0, .int (-1), .int (-1)]))] sz) := by
  refine Met.ofW (cc := cX5_result) (maxL := 1) (ret := (some (.object "GluedWords$Store"))) (by decide) rfl ?_
  intro p e s m args below meth c s₁ B hml hv
  obtain ⟨rfl, hsz, hP, hK, hD0, hE⟩ := hv
  have hx := B.exec
  have hb := B.bytes
  have hr := B.returns
  have hown : s.vm.findClass RX5 = some m.cls := findClass_of_methodNamed B.named
  have hlocks := B.notSynchronized
  subst hsz
  have hD := hD0.self (sz := s.heap.size)
  generalize hAe : va_A [(a0, .inr (4, [.ref a1, .ref a2, .ref a3, .int 1, .int 0, .int (-1), .int 0, .int 0, .int (-1), .int (-1)]))] s.heap.size = A at hD ⊢
  have hA : ∀ q : Nat, s.heap.size ≤ q → A q := fun q h => by rw [← hAe]; exact Or.inr h
  have hS : va_S A s.heap s.heap [] := va_S.rf
  have hl := lv_entry ([.ref a0]) (n := 1) (Nat.le_of_ble_eq_true rfl)
  rw [lg_entry_eq]
  generalize (lg_sl ([.ref a0]) ++ List.replicate (1 - (lg_sl ([.ref a0])).length) Slot.unset).toArray = ls at hl ⊢
  have hl : lv_has ls 1 [(0, .ref a0)] := hl
  refine lv_aload_n hx hb dX5_result_0 rfl (lv_at hl 0 rfl) ?_
  refine va_get (D := (dC, dI)) (ci := 4) (v := .ref a2) (C := RX5) (T := TX5) (N := 10) hx hb (ly_X5 hE) (fun _ h9 => h9) hown hK hP 0 rfl rfl 1 (by decide) (wd_228 hE) (fun _ h9 => h9) rfl dX5_result_1 ?_
  have hP9 := hP.sub (ws' := [(a0, .inr (4, [.ref a1, .ref a2, .ref a3, .int 1, .int 0, .int (-1), .int 0, .int 0, .int (-1), .int (-1)]))]) [0] rfl
  have hD9 := hD.sub (ws' := [(a0, .inr (4, [.ref a1, .ref a2, .ref a3, .int 1, .int 0, .int (-1), .int 0, .int 0, .int (-1), .int (-1)]))]) [0] (by decide) rfl
  have hK9 := hK.sub (tys' := []) [] rfl
  refine W.widen (k := 0) (n := 0) (Nat.le_of_ble_eq_true rfl) (Nat.le_of_ble_eq_true rfl) ?_
  exact W.aret (v := .ref a2) hx hb hr (Or.inl ⟨_, rfl⟩) (Or.inr ⟨_, rfl⟩) (fun t ht hW => ⟨⟨(), a2, rfl, trivial, rfl, by rw [ht]; exact hP9, va_K.moved hW.alike hK9, hD9⟩, hS.F ht⟩) hS.2.2 dX5_result_4

set_option maxHeartbeats 4000000 in
set_option maxRecDepth 100000 in
theorem c_X5_tellFault (l : Launch) (dC : Nat → ClassId) (dI : Nat → Nat → Nat) (sz : Nat)  (a0 a1 a2 a3 : Nat) (v0 : Int32)  : Met l yX5_tellFault [.code yX5_tellFault cX5_tellFault 2 (some .int)] ({ frames := 0, cells := 0, slots := 0, locals := 0 }) (PcE [.ref a0, .int v0] sz dC dI [] [(a0, .inr (4, [.ref a1, .ref a2, .ref a3, .int 0, .int 0, .int (-1), .int 0, .int 0, .int (-1), .int (-1)]))]) (va_Qi (fun (r : Int32) (u : Unit) => r = -1) (Bw dC dI (va_A [(a0, .inr (4, [.ref a1, .ref a2, .ref a3, .int 0, .int 0, .int (-1), .int 0, .int 0, .int (-1), .int (-1)]))] sz) (fun (u : Unit) => []) (fun (u : Unit) => [(a0, .inr (4, [.ref a1, .ref a2, .ref a3, .int 0, .int 0, .int (-1), .int 0, .int 0, .int (-1), .int (-1)]))])) (va_A [(a0, .inr (4, [.ref a1, .ref a2, .ref a3, .int 0, .int 0, .int (-1), .int 0, .int 0, .int (-1), .int (-1)]))] sz)) 0 0 (va_A [(a0, .inr (4, [.ref a1, .ref a2, .ref a3, .int 0, .int 0, .int (-1), .int 0, .int 0, .int (-1), .int (-1)]))] sz) := by
  refine Met.ofW (cc := cX5_tellFault) (maxL := 2) (ret := (some .int)) (by decide) rfl ?_
  intro p e s m args below meth c s₁ B hml hv
  obtain ⟨rfl, hsz, hP, hK, hD0, hE⟩ := hv
  have hx := B.exec
  have hb := B.bytes
  have hr := B.returns
  have hown : s.vm.findClass RX5 = some m.cls := findClass_of_methodNamed B.named
  have hlocks := B.notSynchronized
  subst hsz
  have hD := hD0.self (sz := s.heap.size)
  generalize hAe : va_A [(a0, .inr (4, [.ref a1, .ref a2, .ref a3, .int 0, .int 0, .int (-1), .int 0, .int 0, .int (-1), .int (-1)]))] s.heap.size = A at hD ⊢
  have hA : ∀ q : Nat, s.heap.size ≤ q → A q := fun q h => by rw [← hAe]; exact Or.inr h
  have hS : va_S A s.heap s.heap [] := va_S.rf
  have hl := lv_entry ([.ref a0, .int v0]) (n := 2) (Nat.le_of_ble_eq_true rfl)
  rw [lg_entry_eq]
  generalize (lg_sl ([.ref a0, .int v0]) ++ List.replicate (2 - (lg_sl ([.ref a0, .int v0])).length) Slot.unset).toArray = ls at hl ⊢
  have hl : lv_has ls 2 [(0, .ref a0), (1, .int v0)] := hl
  refine lv_aload_n hx hb dX5_tellFault_0 rfl (lv_at hl 0 rfl) ?_
  refine va_get (D := (dC, dI)) (ci := 4) (v := .int 0) (C := RX5) (T := TX5) (N := 10) hx hb (ly_X5 hE) (fun _ h9 => h9) hown hK hP 0 rfl rfl 3 (by decide) (wd_230 hE) (fun _ h9 => h9) rfl dX5_tellFault_1 ?_
  refine lv_if_ne (tgt := 9) hx hb dX5_tellFault_4 (by decide) (fun c1 => absurd c1 (by decide)) (fun c1 => ?_)
  refine lv_iconst (v := -1) hx hb dX5_tellFault_7 (by decide) ?_
  have hP9 := hP.sub (ws' := [(a0, .inr (4, [.ref a1, .ref a2, .ref a3, .int 0, .int 0, .int (-1), .int 0, .int 0, .int (-1), .int (-1)]))]) [0] rfl
  have hD9 := hD.sub (ws' := [(a0, .inr (4, [.ref a1, .ref a2, .ref a3, .int 0, .int 0, .int (-1), .int 0, .int 0, .int (-1), .int (-1)]))]) [0] (by decide) rfl
  have hK9 := hK.sub (tys' := []) [] rfl
  refine W.widen (k := 0) (n := 0) (Nat.le_of_ble_eq_true rfl) (Nat.le_of_ble_eq_true rfl) ?_
  exact W.iret (v := -1) hx hb hr (fun t ht hW => ⟨⟨-1, (), rfl, rfl, by rw [ht]; exact hP9, va_K.moved hW.alike hK9, hD9⟩, hS.F ht⟩) hS.2.2 dX5_tellFault_8
