set_option maxHeartbeats 4000000 in
set_option maxRecDepth 100000 in
theorem c_X12_init (l : Launch) (dC : Nat → ClassId) (dI : Nat → Nat → Nat) (sz : Nat)  (a0 : Nat)  : Met l yX12_init [.code yX12_init cX12_init 1 none] ({ frames := 1, cells := 107, slots := 74556, locals := 40 }) (PcE [.ref a0] sz dC dI [] [(a0, .inr (11, [.null, .int 0, .int 0, .int 0, .null, .int 0, .null, .null, .null, .null, .int 0, .int 0, .int 0, .int 0, .int 0, .int 0, .int 0, .int 0, .int 0, .int 0, .int 0, .int 0, .int 0, .null, .null, .null, .null, .null, .null, .null, .int 0]))]) (va_Qv (fun (u : (Nat → Nat) × (Nat → ClassId)) => True) (Bw dC dI (va_A [(a0, .inr (11, [.null, .int 0, .int 0, .int 0, .null, .int 0, .null, .null, .null, .null, .int 0, .int 0, .int 0, .int 0, .int 0, .int 0, .int 0, .int 0, .int 0, .int 0, .int 0, .int 0, .int 0, .null, .null, .null, .null, .null, .null, .null, .int 0]))] sz) (fun (u : (Nat → Nat) × (Nat → ClassId)) => [(u.2 0, .int), (u.2 1, .byte)]) (fun (u : (Nat → Nat) × (Nat → ClassId)) => [(a0, .inr (11, [.ref (u.1 0), .int 0, .int 0, .int 0, .ref (u.1 2), .int 0, .ref (u.1 3), .ref (u.1 4), .ref (u.1 1), .ref (u.1 5), .int 0, .int 0, .int 0, .int 0, .int 0, .int 0, .int 0, .int (-1), .int (-1), .int (-1), .int 0, .int 0, .int 0, .ref (u.1 6), .ref (u.1 7), .ref (u.1 8), .ref (u.1 9), .ref (u.1 10), .ref (u.1 11), .ref (u.1 12), .int 0])), (u.1 0, .inl (u.2 0, 7202, .inl (fun _ => 0))), (u.1 1, .inl (u.2 1, 700, .inl (fun _ => 0)))])) (va_A [(a0, .inr (11, [.null, .int 0, .int 0, .int 0, .null, .int 0, .null, .null, .null, .null, .int 0, .int 0, .int 0, .int 0, .int 0, .int 0, .int 0, .int 0, .int 0, .int 0, .int 0, .int 0, .int 0, .null, .null, .null, .null, .null, .null, .null, .int 0]))] sz)) 107 74556 (va_A [(a0, .inr (11, [.null, .int 0, .int 0, .int 0, .null, .int 0, .null, .null, .null, .null, .int 0, .int 0, .int 0, .int 0, .int 0, .int 0, .int 0, .int 0, .int 0, .int 0, .int 0, .int 0, .int 0, .null, .null, .null, .null, .null, .null, .null, .int 0]))] sz) := by
  refine Met.ofW (cc := cX12_init) (maxL := 1) (ret := none) (by decide) rfl ?_
  intro p e s m args below meth c s₁ B hml hv
  obtain ⟨rfl, hsz, hP, hK, hD0, hE⟩ := hv
  have hx := B.exec
  have hb := B.bytes
  have hr := B.returns
  have hown : s.vm.findClass RX12 = some m.cls := findClass_of_methodNamed B.named
  have hlocks := B.notSynchronized
  have hin : meth.name = "<init>" := (name_of_methodNamed B.named B.method).1
  subst hsz
  have hD := hD0.self (sz := s.heap.size)
  generalize hAe : va_A [(a0, .inr (11, [.null, .int 0, .int 0, .int 0, .null, .int 0, .null, .null, .null, .null, .int 0, .int 0, .int 0, .int 0, .int 0, .int 0, .int 0, .int 0, .int 0, .int 0, .int 0, .int 0, .int 0, .null, .null, .null, .null, .null, .null, .null, .int 0]))] s.heap.size = A at hD ⊢
  have hA : ∀ q : Nat, s.heap.size ≤ q → A q := fun q h => by rw [← hAe]; exact Or.inr h
  have hS : va_S A s.heap s.heap [] := va_S.rf
  have hl := lv_entry ([.ref a0]) (n := 1) (Nat.le_of_ble_eq_true rfl)
  rw [lg_entry_eq]
  generalize (lg_sl ([.ref a0]) ++ List.replicate (1 - (lg_sl ([.ref a0])).length) Slot.unset).toArray = ls at hl ⊢
  have hl : lv_has ls 1 [(0, .ref a0)] := hl
  refine lv_aload_n hx hb dX12_init_0 rfl (lv_at hl 0 rfl) ?_
  refine W.objInit hx hb hown (wd_1374 hE) (wd_141 hE) (wd_142 hE) rfl (by rw [hml]; exact hl.1) rfl dX12_init_1 (Nat.le_of_ble_eq_true rfl) (Nat.le_of_ble_eq_true rfl) ?_
  refine W.eq (g2 := F0 m 4 ls []) rfl ?_
  refine lv_aload_n hx hb dX12_init_4 rfl (lv_at hl 0 rfl) ?_
  refine lv_sipush (v := 7202) hx hb dX12_init_5 (by decide) ?_
  refine va_newa (atype := .int) (ty := .int) (N' := 7202) (a0 := (7202, .inl (fun _ => 0))) hx hb (wd_153 hE) rfl hK hP hD hS hA (fun _ => rfl) (by decide) (by decide) (Nat.le_of_ble_eq_true rfl) (Nat.le_of_ble_eq_true rfl) (Nat.le_of_ble_eq_true rfl) dX12_init_8 (fun q1 k1 H hK hP hD hS => ?_)
  have hK : va_K (dC, dI) vwCl [(k1, .int)] s := hK
  have hP : va_P (dC, dI) vwCl [(a0, .inr (11, [.null, .int 0, .int 0, .int 0, .null, .int 0, .null, .null, .null, .null, .int 0, .int 0, .int 0, .int 0, .int 0, .int 0, .int 0, .int 0, .int 0, .int 0, .int 0, .int 0, .int 0, .null, .null, .null, .null, .null, .null, .null, .int 0])), (q1, .inl (k1, 7202, .inl (fun _ => 0)))] H := hP
  have hD : va_D A [(a0, .inr (11, [.null, .int 0, .int 0, .int 0, .null, .int 0, .null, .null, .null, .null, .int 0, .int 0, .int 0, .int 0, .int 0, .int 0, .int 0, .int 0, .int 0, .int 0, .int 0, .int 0, .int 0, .null, .null, .null, .null, .null, .null, .null, .int 0])), (q1, .inl (k1, 7202, .inl (fun _ => 0)))] := hD
  refine W.widen (k := 1) (n := 7202) (Nat.le_of_ble_eq_true rfl) (Nat.le_of_ble_eq_true rfl) ?_
  refine va_putF (D := (dC, dI)) (ci := 11) (v := .ref q1) (ty := .array .int) (C := RX12) (T := TX12) (N := 31) hx hb (ly_X12 hE) (fun _ h9 => h9) tyX12 tyX12_ok nmX12 hown hK hP hD hS 0 rfl rfl 0 (by decide) (wd_1381 hE) (fun _ h9 => h9) rfl hin rfl (by decide +kernel) rfl rfl (Nat.le_of_ble_eq_true rfl) dX12_init_10 (fun H locs hP hD hS => ?_)
  have hP : va_P (dC, dI) vwCl [(a0, .inr (11, [.ref q1, .int 0, .int 0, .int 0, .null, .int 0, .null, .null, .null, .null, .int 0, .int 0, .int 0, .int 0, .int 0, .int 0, .int 0, .int 0, .int 0, .int 0, .int 0, .int 0, .int 0, .null, .null, .null, .null, .null, .null, .null, .int 0])), (q1, .inl (k1, 7202, .inl (fun _ => 0)))] H := hP
  have hD : va_D A [(a0, .inr (11, [.ref q1, .int 0, .int 0, .int 0, .null, .int 0, .null, .null, .null, .null, .int 0, .int 0, .int 0, .int 0, .int 0, .int 0, .int 0, .int 0, .int 0, .int 0, .int 0, .int 0, .int 0, .null, .null, .null, .null, .null, .null, .null, .int 0])), (q1, .inl (k1, 7202, .inl (fun _ => 0)))] := hD
  refine lv_aload_n hx hb dX12_init_13 rfl (lv_at hl 0 rfl) ?_
  refine lv_bipush (v := 10) hx hb dX12_init_14 (by decide) ?_
  refine lv_sipush (v := 200) hx hb dX12_init_16 (by decide) ?_
  refine w_mna2 (N := 10) (K := 200) hx hb hown (wd_1375 hE) hE.2.2.2.2 hP hS (by decide) (by decide) (by decide) (by decide) (Nat.le_of_ble_eq_true rfl) (Nat.le_of_ble_eq_true rfl) (Nat.le_of_ble_eq_true rfl) (Nat.le_of_ble_eq_true rfl) dX12_init_19 (fun q2 H hP hS => ?_)
  have hP : va_P (dC, dI) vwCl [(a0, .inr (11, [.ref q1, .int 0, .int 0, .int 0, .null, .int 0, .null, .null, .null, .null, .int 0, .int 0, .int 0, .int 0, .int 0, .int 0, .int 0, .int 0, .int 0, .int 0, .int 0, .int 0, .int 0, .null, .null, .null, .null, .null, .null, .null, .int 0])), (q1, .inl (k1, 7202, .inl (fun _ => 0)))] H := hP
  have hD : va_D A [(a0, .inr (11, [.ref q1, .int 0, .int 0, .int 0, .null, .int 0, .null, .null, .null, .null, .int 0, .int 0, .int 0, .int 0, .int 0, .int 0, .int 0, .int 0, .int 0, .int 0, .int 0, .int 0, .int 0, .null, .null, .null, .null, .null, .null, .null, .int 0])), (q1, .inl (k1, 7202, .inl (fun _ => 0)))] := hD
  refine W.widen (k := 12) (n := 9212) (Nat.le_of_ble_eq_true rfl) (Nat.le_of_ble_eq_true rfl) ?_
  refine va_putF (D := (dC, dI)) (ci := 11) (v := .ref q2) (ty := .array (.array .int)) (C := RX12) (T := TX12) (N := 31) hx hb (ly_X12 hE) (fun _ h9 => h9) tyX12 tyX12_ok nmX12 hown hK hP hD hS 0 rfl rfl 4 (by decide) (wd_1385 hE) (fun _ h9 => h9) rfl hin rfl (by decide +kernel) rfl rfl (Nat.le_of_ble_eq_true rfl) dX12_init_23 (fun H locs hP hD hS => ?_)
  have hP : va_P (dC, dI) vwCl [(a0, .inr (11, [.ref q1, .int 0, .int 0, .int 0, .ref q2, .int 0, .null, .null, .null, .null, .int 0, .int 0, .int 0, .int 0, .int 0, .int 0, .int 0, .int 0, .int 0, .int 0, .int 0, .int 0, .int 0, .null, .null, .null, .null, .null, .null, .null, .int 0])), (q1, .inl (k1, 7202, .inl (fun _ => 0)))] H := hP
  have hD : va_D A [(a0, .inr (11, [.ref q1, .int 0, .int 0, .int 0, .ref q2, .int 0, .null, .null, .null, .null, .int 0, .int 0, .int 0, .int 0, .int 0, .int 0, .int 0, .int 0, .int 0, .int 0, .int 0, .int 0, .int 0, .null, .null, .null, .null, .null, .null, .null, .int 0])), (q1, .inl (k1, 7202, .inl (fun _ => 0)))] := hD
  refine lv_aload_n hx hb dX12_init_26 rfl (lv_at hl 0 rfl) ?_
  refine lv_sipush (v := 200) hx hb dX12_init_27 (by decide) ?_
  refine va_newa (atype := .int) (ty := .int) (N' := 200) (a0 := (200, .inl (fun _ => 0))) hx hb (wd_153 hE) rfl hK hP hD hS hA (fun _ => rfl) (by decide) (by decide) (Nat.le_of_ble_eq_true rfl) (Nat.le_of_ble_eq_true rfl) (Nat.le_of_ble_eq_true rfl) dX12_init_30 (fun q3 k3 H hK hP hD hS => ?_)
  have hK : va_K (dC, dI) vwCl [(k1, .int), (k3, .int)] s := hK
  have hP : va_P (dC, dI) vwCl [(a0, .inr (11, [.ref q1, .int 0, .int 0, .int 0, .ref q2, .int 0, .null, .null, .null, .null, .int 0, .int 0, .int 0, .int 0, .int 0, .int 0, .int 0, .int 0, .int 0, .int 0, .int 0, .int 0, .int 0, .null, .null, .null, .null, .null, .null, .null, .int 0])), (q1, .inl (k1, 7202, .inl (fun _ => 0))), (q3, .inl (k3, 200, .inl (fun _ => 0)))] H := hP
  have hD : va_D A [(a0, .inr (11, [.ref q1, .int 0, .int 0, .int 0, .ref q2, .int 0, .null, .null, .null, .null, .int 0, .int 0, .int 0, .int 0, .int 0, .int 0, .int 0, .int 0, .int 0, .int 0, .int 0, .int 0, .int 0, .null, .null, .null, .null, .null, .null, .null, .int 0])), (q1, .inl (k1, 7202, .inl (fun _ => 0))), (q3, .inl (k3, 200, .inl (fun _ => 0)))] := hD
  refine W.widen (k := 13) (n := 9412) (Nat.le_of_ble_eq_true rfl) (Nat.le_of_ble_eq_true rfl) ?_
  refine va_putF (D := (dC, dI)) (ci := 11) (v := .ref q3) (ty := .array .int) (C := RX12) (T := TX12) (N := 31) hx hb (ly_X12 hE) (fun _ h9 => h9) tyX12 tyX12_ok nmX12 hown hK hP hD hS 0 rfl rfl 6 (by decide) (wd_1387 hE) (fun _ h9 => h9) rfl hin rfl (by decide +kernel) rfl rfl (Nat.le_of_ble_eq_true rfl) dX12_init_32 (fun H locs hP hD hS => ?_)
  have hP : va_P (dC, dI) vwCl [(a0, .inr (11, [.ref q1, .int 0, .int 0, .int 0, .ref q2, .int 0, .ref q3, .null, .null, .null, .int 0, .int 0, .int 0, .int 0, .int 0, .int 0, .int 0, .int 0, .int 0, .int 0, .int 0, .int 0, .int 0, .null, .null, .null, .null, .null, .null, .null, .int 0])), (q1, .inl (k1, 7202, .inl (fun _ => 0))), (q3, .inl (k3, 200, .inl (fun _ => 0)))] H := hP
  have hD : va_D A [(a0, .inr (11, [.ref q1, .int 0, .int 0, .int 0, .ref q2, .int 0, .ref q3, .null, .null, .null, .int 0, .int 0, .int 0, .int 0, .int 0, .int 0, .int 0, .int 0, .int 0, .int 0, .int 0, .int 0, .int 0, .null, .null, .null, .null, .null, .null, .null, .int 0])), (q1, .inl (k1, 7202, .inl (fun _ => 0))), (q3, .inl (k3, 200, .inl (fun _ => 0)))] := hD
  refine lv_aload_n hx hb dX12_init_35 rfl (lv_at hl 0 rfl) ?_
  refine lv_sipush (v := 200) hx hb dX12_init_36 (by decide) ?_
  refine va_newa (atype := .int) (ty := .int) (N' := 200) (a0 := (200, .inl (fun _ => 0))) hx hb (wd_153 hE) rfl hK hP hD hS hA (fun _ => rfl) (by decide) (by decide) (Nat.le_of_ble_eq_true rfl) (Nat.le_of_ble_eq_true rfl) (Nat.le_of_ble_eq_true rfl) dX12_init_39 (fun q4 k4 H hK hP hD hS => ?_)
  have hK : va_K (dC, dI) vwCl [(k1, .int), (k3, .int), (k4, .int)] s := hK
  have hP : va_P (dC, dI) vwCl [(a0, .inr (11, [.ref q1, .int 0, .int 0, .int 0, .ref q2, .int 0, .ref q3, .null, .null, .null, .int 0, .int 0, .int 0, .int 0, .int 0, .int 0, .int 0, .int 0, .int 0, .int 0, .int 0, .int 0, .int 0, .null, .null, .null, .null, .null, .null, .null, .int 0])), (q1, .inl (k1, 7202, .inl (fun _ => 0))), (q3, .inl (k3, 200, .inl (fun _ => 0))), (q4, .inl (k4, 200, .inl (fun _ => 0)))] H := hP
  have hD : va_D A [(a0, .inr (11, [.ref q1, .int 0, .int 0, .int 0, .ref q2, .int 0, .ref q3, .null, .null, .null, .int 0, .int 0, .int 0, .int 0, .int 0, .int 0, .int 0, .int 0, .int 0, .int 0, .int 0, .int 0, .int 0, .null, .null, .null, .null, .null, .null, .null, .int 0])), (q1, .inl (k1, 7202, .inl (fun _ => 0))), (q3, .inl (k3, 200, .inl (fun _ => 0))), (q4, .inl (k4, 200, .inl (fun _ => 0)))] := hD
  refine W.widen (k := 14) (n := 9612) (Nat.le_of_ble_eq_true rfl) (Nat.le_of_ble_eq_true rfl) ?_
  refine va_putF (D := (dC, dI)) (ci := 11) (v := .ref q4) (ty := .array .int) (C := RX12) (T := TX12) (N := 31) hx hb (ly_X12 hE) (fun _ h9 => h9) tyX12 tyX12_ok nmX12 hown hK hP hD hS 0 rfl rfl 7 (by decide) (wd_1388 hE) (fun _ h9 => h9) rfl hin rfl (by decide +kernel) rfl rfl (Nat.le_of_ble_eq_true rfl) dX12_init_41 (fun H locs hP hD hS => ?_)
  have hP : va_P (dC, dI) vwCl [(a0, .inr (11, [.ref q1, .int 0, .int 0, .int 0, .ref q2, .int 0, .ref q3, .ref q4, .null, .null, .int 0, .int 0, .int 0, .int 0, .int 0, .int 0, .int 0, .int 0, .int 0, .int 0, .int 0, .int 0, .int 0, .null, .null, .null, .null, .null, .null, .null, .int 0])), (q1, .inl (k1, 7202, .inl (fun _ => 0))), (q3, .inl (k3, 200, .inl (fun _ => 0))), (q4, .inl (k4, 200, .inl (fun _ => 0)))] H := hP
  have hD : va_D A [(a0, .inr (11, [.ref q1, .int 0, .int 0, .int 0, .ref q2, .int 0, .ref q3, .ref q4, .null, .null, .int 0, .int 0, .int 0, .int 0, .int 0, .int 0, .int 0, .int 0, .int 0, .int 0, .int 0, .int 0, .int 0, .null, .null, .null, .null, .null, .null, .null, .int 0])), (q1, .inl (k1, 7202, .inl (fun _ => 0))), (q3, .inl (k3, 200, .inl (fun _ => 0))), (q4, .inl (k4, 200, .inl (fun _ => 0)))] := hD
  refine lv_aload_n hx hb dX12_init_44 rfl (lv_at hl 0 rfl) ?_
  refine lv_sipush (v := 700) hx hb dX12_init_45 (by decide) ?_
  refine va_newa (atype := .byte) (ty := .byte) (N' := 700) (a0 := (700, .inl (fun _ => 0))) hx hb (wd_205 hE) rfl hK hP hD hS hA (fun _ => rfl) (by decide) (by decide) (Nat.le_of_ble_eq_true rfl) (Nat.le_of_ble_eq_true rfl) (Nat.le_of_ble_eq_true rfl) dX12_init_48 (fun q5 k5 H hK hP hD hS => ?_)
  have hK : va_K (dC, dI) vwCl [(k1, .int), (k3, .int), (k4, .int), (k5, .byte)] s := hK
  have hP : va_P (dC, dI) vwCl [(a0, .inr (11, [.ref q1, .int 0, .int 0, .int 0, .ref q2, .int 0, .ref q3, .ref q4, .null, .null, .int 0, .int 0, .int 0, .int 0, .int 0, .int 0, .int 0, .int 0, .int 0, .int 0, .int 0, .int 0, .int 0, .null, .null, .null, .null, .null, .null, .null, .int 0])), (q1, .inl (k1, 7202, .inl (fun _ => 0))), (q3, .inl (k3, 200, .inl (fun _ => 0))), (q4, .inl (k4, 200, .inl (fun _ => 0))), (q5, .inl (k5, 700, .inl (fun _ => 0)))] H := hP
  have hD : va_D A [(a0, .inr (11, [.ref q1, .int 0, .int 0, .int 0, .ref q2, .int 0, .ref q3, .ref q4, .null, .null, .int 0, .int 0, .int 0, .int 0, .int 0, .int 0, .int 0, .int 0, .int 0, .int 0, .int 0, .int 0, .int 0, .null, .null, .null, .null, .null, .null, .null, .int 0])), (q1, .inl (k1, 7202, .inl (fun _ => 0))), (q3, .inl (k3, 200, .inl (fun _ => 0))), (q4, .inl (k4, 200, .inl (fun _ => 0))), (q5, .inl (k5, 700, .inl (fun _ => 0)))] := hD
  refine W.widen (k := 15) (n := 10312) (Nat.le_of_ble_eq_true rfl) (Nat.le_of_ble_eq_true rfl) ?_
  refine va_putF (D := (dC, dI)) (ci := 11) (v := .ref q5) (ty := .array .byte) (C := RX12) (T := TX12) (N := 31) hx hb (ly_X12 hE) (fun _ h9 => h9) tyX12 tyX12_ok nmX12 hown hK hP hD hS 0 rfl rfl 8 (by decide) (wd_1389 hE) (fun _ h9 => h9) rfl hin rfl (by decide +kernel) rfl rfl (Nat.le_of_ble_eq_true rfl) dX12_init_50 (fun H locs hP hD hS => ?_)
  have hP : va_P (dC, dI) vwCl [(a0, .inr (11, [.ref q1, .int 0, .int 0, .int 0, .ref q2, .int 0, .ref q3, .ref q4, .ref q5, .null, .int 0, .int 0, .int 0, .int 0, .int 0, .int 0, .int 0, .int 0, .int 0, .int 0, .int 0, .int 0, .int 0, .null, .null, .null, .null, .null, .null, .null, .int 0])), (q1, .inl (k1, 7202, .inl (fun _ => 0))), (q3, .inl (k3, 200, .inl (fun _ => 0))), (q4, .inl (k4, 200, .inl (fun _ => 0))), (q5, .inl (k5, 700, .inl (fun _ => 0)))] H := hP
  have hD : va_D A [(a0, .inr (11, [.ref q1, .int 0, .int 0, .int 0, .ref q2, .int 0, .ref q3, .ref q4, .ref q5, .null, .int 0, .int 0, .int 0, .int 0, .int 0, .int 0, .int 0, .int 0, .int 0, .int 0, .int 0, .int 0, .int 0, .null, .null, .null, .null, .null, .null, .null, .int 0])), (q1, .inl (k1, 7202, .inl (fun _ => 0))), (q3, .inl (k3, 200, .inl (fun _ => 0))), (q4, .inl (k4, 200, .inl (fun _ => 0))), (q5, .inl (k5, 700, .inl (fun _ => 0)))] := hD
  refine lv_aload_n hx hb dX12_init_53 rfl (lv_at hl 0 rfl) ?_
  refine lv_sipush (v := 700) hx hb dX12_init_54 (by decide) ?_
  refine va_newa (atype := .byte) (ty := .byte) (N' := 700) (a0 := (700, .inl (fun _ => 0))) hx hb (wd_205 hE) rfl hK hP hD hS hA (fun _ => rfl) (by decide) (by decide) (Nat.le_of_ble_eq_true rfl) (Nat.le_of_ble_eq_true rfl) (Nat.le_of_ble_eq_true rfl) dX12_init_57 (fun q6 k6 H hK hP hD hS => ?_)
  have hK : va_K (dC, dI) vwCl [(k1, .int), (k3, .int), (k4, .int), (k5, .byte), (k6, .byte)] s := hK
  have hP : va_P (dC, dI) vwCl [(a0, .inr (11, [.ref q1, .int 0, .int 0, .int 0, .ref q2, .int 0, .ref q3, .ref q4, .ref q5, .null, .int 0, .int 0, .int 0, .int 0, .int 0, .int 0, .int 0, .int 0, .int 0, .int 0, .int 0, .int 0, .int 0, .null, .null, .null, .null, .null, .null, .null, .int 0])), (q1, .inl (k1, 7202, .inl (fun _ => 0))), (q3, .inl (k3, 200, .inl (fun _ => 0))), (q4, .inl (k4, 200, .inl (fun _ => 0))), (q5, .inl (k5, 700, .inl (fun _ => 0))), (q6, .inl (k6, 700, .inl (fun _ => 0)))] H := hP
  have hD : va_D A [(a0, .inr (11, [.ref q1, .int 0, .int 0, .int 0, .ref q2, .int 0, .ref q3, .ref q4, .ref q5, .null, .int 0, .int 0, .int 0, .int 0, .int 0, .int 0, .int 0, .int 0, .int 0, .int 0, .int 0, .int 0, .int 0, .null, .null, .null, .null, .null, .null, .null, .int 0])), (q1, .inl (k1, 7202, .inl (fun _ => 0))), (q3, .inl (k3, 200, .inl (fun _ => 0))), (q4, .inl (k4, 200, .inl (fun _ => 0))), (q5, .inl (k5, 700, .inl (fun _ => 0))), (q6, .inl (k6, 700, .inl (fun _ => 0)))] := hD
  refine W.widen (k := 16) (n := 11012) (Nat.le_of_ble_eq_true rfl) (Nat.le_of_ble_eq_true rfl) ?_
  refine va_putF (D := (dC, dI)) (ci := 11) (v := .ref q6) (ty := .array .byte) (C := RX12) (T := TX12) (N := 31) hx hb (ly_X12 hE) (fun _ h9 => h9) tyX12 tyX12_ok nmX12 hown hK hP hD hS 0 rfl rfl 9 (by decide) (wd_1390 hE) (fun _ h9 => h9) rfl hin rfl (by decide +kernel) rfl rfl (Nat.le_of_ble_eq_true rfl) dX12_init_59 (fun H locs hP hD hS => ?_)
  have hP : va_P (dC, dI) vwCl [(a0, .inr (11, [.ref q1, .int 0, .int 0, .int 0, .ref q2, .int 0, .ref q3, .ref q4, .ref q5, .ref q6, .int 0, .int 0, .int 0, .int 0, .int 0, .int 0, .int 0, .int 0, .int 0, .int 0, .int 0, .int 0, .int 0, .null, .null, .null, .null, .null, .null, .null, .int 0])), (q1, .inl (k1, 7202, .inl (fun _ => 0))), (q3, .inl (k3, 200, .inl (fun _ => 0))), (q4, .inl (k4, 200, .inl (fun _ => 0))), (q5, .inl (k5, 700, .inl (fun _ => 0))), (q6, .inl (k6, 700, .inl (fun _ => 0)))] H := hP
  have hD : va_D A [(a0, .inr (11, [.ref q1, .int 0, .int 0, .int 0, .ref q2, .int 0, .ref q3, .ref q4, .ref q5, .ref q6, .int 0, .int 0, .int 0, .int 0, .int 0, .int 0, .int 0, .int 0, .int 0, .int 0, .int 0, .int 0, .int 0, .null, .null, .null, .null, .null, .null, .null, .int 0])), (q1, .inl (k1, 7202, .inl (fun _ => 0))), (q3, .inl (k3, 200, .inl (fun _ => 0))), (q4, .inl (k4, 200, .inl (fun _ => 0))), (q5, .inl (k5, 700, .inl (fun _ => 0))), (q6, .inl (k6, 700, .inl (fun _ => 0)))] := hD
  refine lv_aload_n hx hb dX12_init_62 rfl (lv_at hl 0 rfl) ?_
  refine lv_iconst (v := -1) hx hb dX12_init_63 (by decide) ?_
  refine va_put (D := (dC, dI)) (ci := 11) (v := .int (-1)) (ty := .int) (C := RX12) (T := TX12) (N := 31) hx hb (ly_X12 hE) (fun _ h9 => h9) tyX12 tyX12_ok nmX12 hown hK hP hD hS 0 rfl rfl 17 (by decide) (wd_1398 hE) (fun _ h9 => h9) rfl (by decide +kernel) rfl rfl (Nat.le_of_ble_eq_true rfl) dX12_init_64 (fun H locs hP hD hS => ?_)
  have hP : va_P (dC, dI) vwCl [(a0, .inr (11, [.ref q1, .int 0, .int 0, .int 0, .ref q2, .int 0, .ref q3, .ref q4, .ref q5, .ref q6, .int 0, .int 0, .int 0, .int 0, .int 0, .int 0, .int 0, .int (-1), .int 0, .int 0, .int 0, .int 0, .int 0, .null, .null, .null, .null, .null, .null, .null, .int 0])), (q1, .inl (k1, 7202, .inl (fun _ => 0))), (q3, .inl (k3, 200, .inl (fun _ => 0))), (q4, .inl (k4, 200, .inl (fun _ => 0))), (q5, .inl (k5, 700, .inl (fun _ => 0))), (q6, .inl (k6, 700, .inl (fun _ => 0)))] H := hP
  have hD : va_D A [(a0, .inr (11, [.ref q1, .int 0, .int 0, .int 0, .ref q2, .int 0, .ref q3, .ref q4, .ref q5, .ref q6, .int 0, .int 0, .int 0, .int 0, .int 0, .int 0, .int 0, .int (-1), .int 0, .int 0, .int 0, .int 0, .int 0, .null, .null, .null, .null, .null, .null, .null, .int 0])), (q1, .inl (k1, 7202, .inl (fun _ => 0))), (q3, .inl (k3, 200, .inl (fun _ => 0))), (q4, .inl (k4, 200, .inl (fun _ => 0))), (q5, .inl (k5, 700, .inl (fun _ => 0))), (q6, .inl (k6, 700, .inl (fun _ => 0)))] := hD
  refine lv_aload_n hx hb dX12_init_67 rfl (lv_at hl 0 rfl) ?_
  refine lv_iconst (v := -1) hx hb dX12_init_68 (by decide) ?_
  refine va_put (D := (dC, dI)) (ci := 11) (v := .int (-1)) (ty := .int) (C := RX12) (T := TX12) (N := 31) hx hb (ly_X12 hE) (fun _ h9 => h9) tyX12 tyX12_ok nmX12 hown hK hP hD hS 0 rfl rfl 18 (by decide) (wd_1399 hE) (fun _ h9 => h9) rfl (by decide +kernel) rfl rfl (Nat.le_of_ble_eq_true rfl) dX12_init_69 (fun H locs hP hD hS => ?_)
  have hP : va_P (dC, dI) vwCl [(a0, .inr (11, [.ref q1, .int 0, .int 0, .int 0, .ref q2, .int 0, .ref q3, .ref q4, .ref q5, .ref q6, .int 0, .int 0, .int 0, .int 0, .int 0, .int 0, .int 0, .int (-1), .int (-1), .int 0, .int 0, .int 0, .int 0, .null, .null, .null, .null, .null, .null, .null, .int 0])), (q1, .inl (k1, 7202, .inl (fun _ => 0))), (q3, .inl (k3, 200, .inl (fun _ => 0))), (q4, .inl (k4, 200, .inl (fun _ => 0))), (q5, .inl (k5, 700, .inl (fun _ => 0))), (q6, .inl (k6, 700, .inl (fun _ => 0)))] H := hP
  have hD : va_D A [(a0, .inr (11, [.ref q1, .int 0, .int 0, .int 0, .ref q2, .int 0, .ref q3, .ref q4, .ref q5, .ref q6, .int 0, .int 0, .int 0, .int 0, .int 0, .int 0, .int 0, .int (-1), .int (-1), .int 0, .int 0, .int 0, .int 0, .null, .null, .null, .null, .null, .null, .null, .int 0])), (q1, .inl (k1, 7202, .inl (fun _ => 0))), (q3, .inl (k3, 200, .inl (fun _ => 0))), (q4, .inl (k4, 200, .inl (fun _ => 0))), (q5, .inl (k5, 700, .inl (fun _ => 0))), (q6, .inl (k6, 700, .inl (fun _ => 0)))] := hD
  refine lv_aload_n hx hb dX12_init_72 rfl (lv_at hl 0 rfl) ?_
  refine lv_iconst (v := -1) hx hb dX12_init_73 (by decide) ?_
  refine va_put (D := (dC, dI)) (ci := 11) (v := .int (-1)) (ty := .int) (C := RX12) (T := TX12) (N := 31) hx hb (ly_X12 hE) (fun _ h9 => h9) tyX12 tyX12_ok nmX12 hown hK hP hD hS 0 rfl rfl 19 (by decide) (wd_1400 hE) (fun _ h9 => h9) rfl (by decide +kernel) rfl rfl (Nat.le_of_ble_eq_true rfl) dX12_init_74 (fun H locs hP hD hS => ?_)
  have hP : va_P (dC, dI) vwCl [(a0, .inr (11, [.ref q1, .int 0, .int 0, .int 0, .ref q2, .int 0, .ref q3, .ref q4, .ref q5, .ref q6, .int 0, .int 0, .int 0, .int 0, .int 0, .int 0, .int 0, .int (-1), .int (-1), .int (-1), .int 0, .int 0, .int 0, .null, .null, .null, .null, .null, .null, .null, .int 0])), (q1, .inl (k1, 7202, .inl (fun _ => 0))), (q3, .inl (k3, 200, .inl (fun _ => 0))), (q4, .inl (k4, 200, .inl (fun _ => 0))), (q5, .inl (k5, 700, .inl (fun _ => 0))), (q6, .inl (k6, 700, .inl (fun _ => 0)))] H := hP
  have hD : va_D A [(a0, .inr (11, [.ref q1, .int 0, .int 0, .int 0, .ref q2, .int 0, .ref q3, .ref q4, .ref q5, .ref q6, .int 0, .int 0, .int 0, .int 0, .int 0, .int 0, .int 0, .int (-1), .int (-1), .int (-1), .int 0, .int 0, .int 0, .null, .null, .null, .null, .null, .null, .null, .int 0])), (q1, .inl (k1, 7202, .inl (fun _ => 0))), (q3, .inl (k3, 200, .inl (fun _ => 0))), (q4, .inl (k4, 200, .inl (fun _ => 0))), (q5, .inl (k5, 700, .inl (fun _ => 0))), (q6, .inl (k6, 700, .inl (fun _ => 0)))] := hD
  refine lv_aload_n hx hb dX12_init_77 rfl (lv_at hl 0 rfl) ?_
  refine lv_sipush (v := 400) hx hb dX12_init_78 (by decide) ?_
  refine va_newa (atype := .int) (ty := .int) (N' := 400) (a0 := (400, .inl (fun _ => 0))) hx hb (wd_153 hE) rfl hK hP hD hS hA (fun _ => rfl) (by decide) (by decide) (Nat.le_of_ble_eq_true rfl) (Nat.le_of_ble_eq_true rfl) (Nat.le_of_ble_eq_true rfl) dX12_init_81 (fun q7 k7 H hK hP hD hS => ?_)
  have hK : va_K (dC, dI) vwCl [(k1, .int), (k3, .int), (k4, .int), (k5, .byte), (k6, .byte), (k7, .int)] s := hK
  have hP : va_P (dC, dI) vwCl [(a0, .inr (11, [.ref q1, .int 0, .int 0, .int 0, .ref q2, .int 0, .ref q3, .ref q4, .ref q5, .ref q6, .int 0, .int 0, .int 0, .int 0, .int 0, .int 0, .int 0, .int (-1), .int (-1), .int (-1), .int 0, .int 0, .int 0, .null, .null, .null, .null, .null, .null, .null, .int 0])), (q1, .inl (k1, 7202, .inl (fun _ => 0))), (q3, .inl (k3, 200, .inl (fun _ => 0))), (q4, .inl (k4, 200, .inl (fun _ => 0))), (q5, .inl (k5, 700, .inl (fun _ => 0))), (q6, .inl (k6, 700, .inl (fun _ => 0))), (q7, .inl (k7, 400, .inl (fun _ => 0)))] H := hP
  have hD : va_D A [(a0, .inr (11, [.ref q1, .int 0, .int 0, .int 0, .ref q2, .int 0, .ref q3, .ref q4, .ref q5, .ref q6, .int 0, .int 0, .int 0, .int 0, .int 0, .int 0, .int 0, .int (-1), .int (-1), .int (-1), .int 0, .int 0, .int 0, .null, .null, .null, .null, .null, .null, .null, .int 0])), (q1, .inl (k1, 7202, .inl (fun _ => 0))), (q3, .inl (k3, 200, .inl (fun _ => 0))), (q4, .inl (k4, 200, .inl (fun _ => 0))), (q5, .inl (k5, 700, .inl (fun _ => 0))), (q6, .inl (k6, 700, .inl (fun _ => 0))), (q7, .inl (k7, 400, .inl (fun _ => 0)))] := hD
  refine W.widen (k := 17) (n := 11412) (Nat.le_of_ble_eq_true rfl) (Nat.le_of_ble_eq_true rfl) ?_
  refine va_putF (D := (dC, dI)) (ci := 11) (v := .ref q7) (ty := .array .int) (C := RX12) (T := TX12) (N := 31) hx hb (ly_X12 hE) (fun _ h9 => h9) tyX12 tyX12_ok nmX12 hown hK hP hD hS 0 rfl rfl 23 (by decide) (wd_1404 hE) (fun _ h9 => h9) rfl hin rfl (by decide +kernel) rfl rfl (Nat.le_of_ble_eq_true rfl) dX12_init_83 (fun H locs hP hD hS => ?_)
  have hP : va_P (dC, dI) vwCl [(a0, .inr (11, [.ref q1, .int 0, .int 0, .int 0, .ref q2, .int 0, .ref q3, .ref q4, .ref q5, .ref q6, .int 0, .int 0, .int 0, .int 0, .int 0, .int 0, .int 0, .int (-1), .int (-1), .int (-1), .int 0, .int 0, .int 0, .ref q7, .null, .null, .null, .null, .null, .null, .int 0])), (q1, .inl (k1, 7202, .inl (fun _ => 0))), (q3, .inl (k3, 200, .inl (fun _ => 0))), (q4, .inl (k4, 200, .inl (fun _ => 0))), (q5, .inl (k5, 700, .inl (fun _ => 0))), (q6, .inl (k6, 700, .inl (fun _ => 0))), (q7, .inl (k7, 400, .inl (fun _ => 0)))] H := hP
  have hD : va_D A [(a0, .inr (11, [.ref q1, .int 0, .int 0, .int 0, .ref q2, .int 0, .ref q3, .ref q4, .ref q5, .ref q6, .int 0, .int 0, .int 0, .int 0, .int 0, .int 0, .int 0, .int (-1), .int (-1), .int (-1), .int 0, .int 0, .int 0, .ref q7, .null, .null, .null, .null, .null, .null, .int 0])), (q1, .inl (k1, 7202, .inl (fun _ => 0))), (q3, .inl (k3, 200, .inl (fun _ => 0))), (q4, .inl (k4, 200, .inl (fun _ => 0))), (q5, .inl (k5, 700, .inl (fun _ => 0))), (q6, .inl (k6, 700, .inl (fun _ => 0))), (q7, .inl (k7, 400, .inl (fun _ => 0)))] := hD
  refine lv_aload_n hx hb dX12_init_86 rfl (lv_at hl 0 rfl) ?_
  refine lv_sipush (v := 400) hx hb dX12_init_87 (by decide) ?_
  refine va_newa (atype := .int) (ty := .int) (N' := 400) (a0 := (400, .inl (fun _ => 0))) hx hb (wd_153 hE) rfl hK hP hD hS hA (fun _ => rfl) (by decide) (by decide) (Nat.le_of_ble_eq_true rfl) (Nat.le_of_ble_eq_true rfl) (Nat.le_of_ble_eq_true rfl) dX12_init_90 (fun q8 k8 H hK hP hD hS => ?_)
  have hK : va_K (dC, dI) vwCl [(k1, .int), (k3, .int), (k4, .int), (k5, .byte), (k6, .byte), (k7, .int), (k8, .int)] s := hK
  have hP : va_P (dC, dI) vwCl [(a0, .inr (11, [.ref q1, .int 0, .int 0, .int 0, .ref q2, .int 0, .ref q3, .ref q4, .ref q5, .ref q6, .int 0, .int 0, .int 0, .int 0, .int 0, .int 0, .int 0, .int (-1), .int (-1), .int (-1), .int 0, .int 0, .int 0, .ref q7, .null, .null, .null, .null, .null, .null, .int 0])), (q1, .inl (k1, 7202, .inl (fun _ => 0))), (q3, .inl (k3, 200, .inl (fun _ => 0))), (q4, .inl (k4, 200, .inl (fun _ => 0))), (q5, .inl (k5, 700, .inl (fun _ => 0))), (q6, .inl (k6, 700, .inl (fun _ => 0))), (q7, .inl (k7, 400, .inl (fun _ => 0))), (q8, .inl (k8, 400, .inl (fun _ => 0)))] H := hP
  have hD : va_D A [(a0, .inr (11, [.ref q1, .int 0, .int 0, .int 0, .ref q2, .int 0, .ref q3, .ref q4, .ref q5, .ref q6, .int 0, .int 0, .int 0, .int 0, .int 0, .int 0, .int 0, .int (-1), .int (-1), .int (-1), .int 0, .int 0, .int 0, .ref q7, .null, .null, .null, .null, .null, .null, .int 0])), (q1, .inl (k1, 7202, .inl (fun _ => 0))), (q3, .inl (k3, 200, .inl (fun _ => 0))), (q4, .inl (k4, 200, .inl (fun _ => 0))), (q5, .inl (k5, 700, .inl (fun _ => 0))), (q6, .inl (k6, 700, .inl (fun _ => 0))), (q7, .inl (k7, 400, .inl (fun _ => 0))), (q8, .inl (k8, 400, .inl (fun _ => 0)))] := hD
  refine W.widen (k := 18) (n := 11812) (Nat.le_of_ble_eq_true rfl) (Nat.le_of_ble_eq_true rfl) ?_
  refine va_putF (D := (dC, dI)) (ci := 11) (v := .ref q8) (ty := .array .int) (C := RX12) (T := TX12) (N := 31) hx hb (ly_X12 hE) (fun _ h9 => h9) tyX12 tyX12_ok nmX12 hown hK hP hD hS 0 rfl rfl 24 (by decide) (wd_1405 hE) (fun _ h9 => h9) rfl hin rfl (by decide +kernel) rfl rfl (Nat.le_of_ble_eq_true rfl) dX12_init_92 (fun H locs hP hD hS => ?_)
  have hP : va_P (dC, dI) vwCl [(a0, .inr (11, [.ref q1, .int 0, .int 0, .int 0, .ref q2, .int 0, .ref q3, .ref q4, .ref q5, .ref q6, .int 0, .int 0, .int 0, .int 0, .int 0, .int 0, .int 0, .int (-1), .int (-1), .int (-1), .int 0, .int 0, .int 0, .ref q7, .ref q8, .null, .null, .null, .null, .null, .int 0])), (q1, .inl (k1, 7202, .inl (fun _ => 0))), (q3, .inl (k3, 200, .inl (fun _ => 0))), (q4, .inl (k4, 200, .inl (fun _ => 0))), (q5, .inl (k5, 700, .inl (fun _ => 0))), (q6, .inl (k6, 700, .inl (fun _ => 0))), (q7, .inl (k7, 400, .inl (fun _ => 0))), (q8, .inl (k8, 400, .inl (fun _ => 0)))] H := hP
  have hD : va_D A [(a0, .inr (11, [.ref q1, .int 0, .int 0, .int 0, .ref q2, .int 0, .ref q3, .ref q4, .ref q5, .ref q6, .int 0, .int 0, .int 0, .int 0, .int 0, .int 0, .int 0, .int (-1), .int (-1), .int (-1), .int 0, .int 0, .int 0, .ref q7, .ref q8, .null, .null, .null, .null, .null, .int 0])), (q1, .inl (k1, 7202, .inl (fun _ => 0))), (q3, .inl (k3, 200, .inl (fun _ => 0))), (q4, .inl (k4, 200, .inl (fun _ => 0))), (q5, .inl (k5, 700, .inl (fun _ => 0))), (q6, .inl (k6, 700, .inl (fun _ => 0))), (q7, .inl (k7, 400, .inl (fun _ => 0))), (q8, .inl (k8, 400, .inl (fun _ => 0)))] := hD
  refine lv_aload_n hx hb dX12_init_95 rfl (lv_at hl 0 rfl) ?_
  refine lv_sipush (v := 400) hx hb dX12_init_96 (by decide) ?_
  refine va_newa (atype := .boolean) (ty := .boolean) (N' := 400) (a0 := (400, .inl (fun _ => 0))) hx hb (wd_1475 hE) rfl hK hP hD hS hA (fun _ => rfl) (by decide) (by decide) (Nat.le_of_ble_eq_true rfl) (Nat.le_of_ble_eq_true rfl) (Nat.le_of_ble_eq_true rfl) dX12_init_99 (fun q9 k9 H hK hP hD hS => ?_)
  have hK : va_K (dC, dI) vwCl [(k1, .int), (k3, .int), (k4, .int), (k5, .byte), (k6, .byte), (k7, .int), (k8, .int), (k9, .boolean)] s := hK
  have hP : va_P (dC, dI) vwCl [(a0, .inr (11, [.ref q1, .int 0, .int 0, .int 0, .ref q2, .int 0, .ref q3, .ref q4, .ref q5, .ref q6, .int 0, .int 0, .int 0, .int 0, .int 0, .int 0, .int 0, .int (-1), .int (-1), .int (-1), .int 0, .int 0, .int 0, .ref q7, .ref q8, .null, .null, .null, .null, .null, .int 0])), (q1, .inl (k1, 7202, .inl (fun _ => 0))), (q3, .inl (k3, 200, .inl (fun _ => 0))), (q4, .inl (k4, 200, .inl (fun _ => 0))), (q5, .inl (k5, 700, .inl (fun _ => 0))), (q6, .inl (k6, 700, .inl (fun _ => 0))), (q7, .inl (k7, 400, .inl (fun _ => 0))), (q8, .inl (k8, 400, .inl (fun _ => 0))), (q9, .inl (k9, 400, .inl (fun _ => 0)))] H := hP
  have hD : va_D A [(a0, .inr (11, [.ref q1, .int 0, .int 0, .int 0, .ref q2, .int 0, .ref q3, .ref q4, .ref q5, .ref q6, .int 0, .int 0, .int 0, .int 0, .int 0, .int 0, .int 0, .int (-1), .int (-1), .int (-1), .int 0, .int 0, .int 0, .ref q7, .ref q8, .null, .null, .null, .null, .null, .int 0])), (q1, .inl (k1, 7202, .inl (fun _ => 0))), (q3, .inl (k3, 200, .inl (fun _ => 0))), (q4, .inl (k4, 200, .inl (fun _ => 0))), (q5, .inl (k5, 700, .inl (fun _ => 0))), (q6, .inl (k6, 700, .inl (fun _ => 0))), (q7, .inl (k7, 400, .inl (fun _ => 0))), (q8, .inl (k8, 400, .inl (fun _ => 0))), (q9, .inl (k9, 400, .inl (fun _ => 0)))] := hD
  refine W.widen (k := 19) (n := 12212) (Nat.le_of_ble_eq_true rfl) (Nat.le_of_ble_eq_true rfl) ?_
  refine va_putF (D := (dC, dI)) (ci := 11) (v := .ref q9) (ty := .array .boolean) (C := RX12) (T := TX12) (N := 31) hx hb (ly_X12 hE) (fun _ h9 => h9) tyX12 tyX12_ok nmX12 hown hK hP hD hS 0 rfl rfl 25 (by decide) (wd_1406 hE) (fun _ h9 => h9) rfl hin rfl (by decide +kernel) rfl rfl (Nat.le_of_ble_eq_true rfl) dX12_init_101 (fun H locs hP hD hS => ?_)
  have hP : va_P (dC, dI) vwCl [(a0, .inr (11, [.ref q1, .int 0, .int 0, .int 0, .ref q2, .int 0, .ref q3, .ref q4, .ref q5, .ref q6, .int 0, .int 0, .int 0, .int 0, .int 0, .int 0, .int 0, .int (-1), .int (-1), .int (-1), .int 0, .int 0, .int 0, .ref q7, .ref q8, .ref q9, .null, .null, .null, .null, .int 0])), (q1, .inl (k1, 7202, .inl (fun _ => 0))), (q3, .inl (k3, 200, .inl (fun _ => 0))), (q4, .inl (k4, 200, .inl (fun _ => 0))), (q5, .inl (k5, 700, .inl (fun _ => 0))), (q6, .inl (k6, 700, .inl (fun _ => 0))), (q7, .inl (k7, 400, .inl (fun _ => 0))), (q8, .inl (k8, 400, .inl (fun _ => 0))), (q9, .inl (k9, 400, .inl (fun _ => 0)))] H := hP
  have hD : va_D A [(a0, .inr (11, [.ref q1, .int 0, .int 0, .int 0, .ref q2, .int 0, .ref q3, .ref q4, .ref q5, .ref q6, .int 0, .int 0, .int 0, .int 0, .int 0, .int 0, .int 0, .int (-1), .int (-1), .int (-1), .int 0, .int 0, .int 0, .ref q7, .ref q8, .ref q9, .null, .null, .null, .null, .int 0])), (q1, .inl (k1, 7202, .inl (fun _ => 0))), (q3, .inl (k3, 200, .inl (fun _ => 0))), (q4, .inl (k4, 200, .inl (fun _ => 0))), (q5, .inl (k5, 700, .inl (fun _ => 0))), (q6, .inl (k6, 700, .inl (fun _ => 0))), (q7, .inl (k7, 400, .inl (fun _ => 0))), (q8, .inl (k8, 400, .inl (fun _ => 0))), (q9, .inl (k9, 400, .inl (fun _ => 0)))] := hD
  refine lv_aload_n hx hb dX12_init_104 rfl (lv_at hl 0 rfl) ?_
  refine lv_bipush (v := 6) hx hb dX12_init_105 (by decide) ?_
  refine va_newa (atype := .int) (ty := .int) (N' := 6) (a0 := (6, .inl (fun _ => 0))) hx hb (wd_153 hE) rfl hK hP hD hS hA (fun _ => rfl) (by decide) (by decide) (Nat.le_of_ble_eq_true rfl) (Nat.le_of_ble_eq_true rfl) (Nat.le_of_ble_eq_true rfl) dX12_init_107 (fun q10 k10 H hK hP hD hS => ?_)
  have hK : va_K (dC, dI) vwCl [(k1, .int), (k3, .int), (k4, .int), (k5, .byte), (k6, .byte), (k7, .int), (k8, .int), (k9, .boolean), (k10, .int)] s := hK
  have hP : va_P (dC, dI) vwCl [(a0, .inr (11, [.ref q1, .int 0, .int 0, .int 0, .ref q2, .int 0, .ref q3, .ref q4, .ref q5, .ref q6, .int 0, .int 0, .int 0, .int 0, .int 0, .int 0, .int 0, .int (-1), .int (-1), .int (-1), .int 0, .int 0, .int 0, .ref q7, .ref q8, .ref q9, .null, .null, .null, .null, .int 0])), (q1, .inl (k1, 7202, .inl (fun _ => 0))), (q3, .inl (k3, 200, .inl (fun _ => 0))), (q4, .inl (k4, 200, .inl (fun _ => 0))), (q5, .inl (k5, 700, .inl (fun _ => 0))), (q6, .inl (k6, 700, .inl (fun _ => 0))), (q7, .inl (k7, 400, .inl (fun _ => 0))), (q8, .inl (k8, 400, .inl (fun _ => 0))), (q9, .inl (k9, 400, .inl (fun _ => 0))), (q10, .inl (k10, 6, .inl (fun _ => 0)))] H := hP
  have hD : va_D A [(a0, .inr (11, [.ref q1, .int 0, .int 0, .int 0, .ref q2, .int 0, .ref q3, .ref q4, .ref q5, .ref q6, .int 0, .int 0, .int 0, .int 0, .int 0, .int 0, .int 0, .int (-1), .int (-1), .int (-1), .int 0, .int 0, .int 0, .ref q7, .ref q8, .ref q9, .null, .null, .null, .null, .int 0])), (q1, .inl (k1, 7202, .inl (fun _ => 0))), (q3, .inl (k3, 200, .inl (fun _ => 0))), (q4, .inl (k4, 200, .inl (fun _ => 0))), (q5, .inl (k5, 700, .inl (fun _ => 0))), (q6, .inl (k6, 700, .inl (fun _ => 0))), (q7, .inl (k7, 400, .inl (fun _ => 0))), (q8, .inl (k8, 400, .inl (fun _ => 0))), (q9, .inl (k9, 400, .inl (fun _ => 0))), (q10, .inl (k10, 6, .inl (fun _ => 0)))] := hD
  refine W.widen (k := 20) (n := 12218) (Nat.le_of_ble_eq_true rfl) (Nat.le_of_ble_eq_true rfl) ?_
  refine va_putF (D := (dC, dI)) (ci := 11) (v := .ref q10) (ty := .array .int) (C := RX12) (T := TX12) (N := 31) hx hb (ly_X12 hE) (fun _ h9 => h9) tyX12 tyX12_ok nmX12 hown hK hP hD hS 0 rfl rfl 26 (by decide) (wd_1407 hE) (fun _ h9 => h9) rfl hin rfl (by decide +kernel) rfl rfl (Nat.le_of_ble_eq_true rfl) dX12_init_109 (fun H locs hP hD hS => ?_)
  have hP : va_P (dC, dI) vwCl [(a0, .inr (11, [.ref q1, .int 0, .int 0, .int 0, .ref q2, .int 0, .ref q3, .ref q4, .ref q5, .ref q6, .int 0, .int 0, .int 0, .int 0, .int 0, .int 0, .int 0, .int (-1), .int (-1), .int (-1), .int 0, .int 0, .int 0, .ref q7, .ref q8, .ref q9, .ref q10, .null, .null, .null, .int 0])), (q1, .inl (k1, 7202, .inl (fun _ => 0))), (q3, .inl (k3, 200, .inl (fun _ => 0))), (q4, .inl (k4, 200, .inl (fun _ => 0))), (q5, .inl (k5, 700, .inl (fun _ => 0))), (q6, .inl (k6, 700, .inl (fun _ => 0))), (q7, .inl (k7, 400, .inl (fun _ => 0))), (q8, .inl (k8, 400, .inl (fun _ => 0))), (q9, .inl (k9, 400, .inl (fun _ => 0))), (q10, .inl (k10, 6, .inl (fun _ => 0)))] H := hP
  have hD : va_D A [(a0, .inr (11, [.ref q1, .int 0, .int 0, .int 0, .ref q2, .int 0, .ref q3, .ref q4, .ref q5, .ref q6, .int 0, .int 0, .int 0, .int 0, .int 0, .int 0, .int 0, .int (-1), .int (-1), .int (-1), .int 0, .int 0, .int 0, .ref q7, .ref q8, .ref q9, .ref q10, .null, .null, .null, .int 0])), (q1, .inl (k1, 7202, .inl (fun _ => 0))), (q3, .inl (k3, 200, .inl (fun _ => 0))), (q4, .inl (k4, 200, .inl (fun _ => 0))), (q5, .inl (k5, 700, .inl (fun _ => 0))), (q6, .inl (k6, 700, .inl (fun _ => 0))), (q7, .inl (k7, 400, .inl (fun _ => 0))), (q8, .inl (k8, 400, .inl (fun _ => 0))), (q9, .inl (k9, 400, .inl (fun _ => 0))), (q10, .inl (k10, 6, .inl (fun _ => 0)))] := hD
  refine lv_aload_n hx hb dX12_init_112 rfl (lv_at hl 0 rfl) ?_
  refine lv_bipush (v := 6) hx hb dX12_init_113 (by decide) ?_
  refine lv_bipush (v := 13) hx hb dX12_init_115 (by decide) ?_
  refine lv_bipush (v := 13) hx hb dX12_init_117 (by decide) ?_
  refine w_mna3 (N := 6) (K := 13) (J := 13) hx hb hown (wd_1377 hE) hE.2.2.2.2 hP hS (by decide) (by decide) (by decide) (by decide) (by decide) (by decide) (Nat.le_of_ble_eq_true rfl) (Nat.le_of_ble_eq_true rfl) (Nat.le_of_ble_eq_true rfl) (Nat.le_of_ble_eq_true rfl) (Nat.le_of_ble_eq_true rfl) dX12_init_119 (fun q11 H hP hS => ?_)
  have hP : va_P (dC, dI) vwCl [(a0, .inr (11, [.ref q1, .int 0, .int 0, .int 0, .ref q2, .int 0, .ref q3, .ref q4, .ref q5, .ref q6, .int 0, .int 0, .int 0, .int 0, .int 0, .int 0, .int 0, .int (-1), .int (-1), .int (-1), .int 0, .int 0, .int 0, .ref q7, .ref q8, .ref q9, .ref q10, .null, .null, .null, .int 0])), (q1, .inl (k1, 7202, .inl (fun _ => 0))), (q3, .inl (k3, 200, .inl (fun _ => 0))), (q4, .inl (k4, 200, .inl (fun _ => 0))), (q5, .inl (k5, 700, .inl (fun _ => 0))), (q6, .inl (k6, 700, .inl (fun _ => 0))), (q7, .inl (k7, 400, .inl (fun _ => 0))), (q8, .inl (k8, 400, .inl (fun _ => 0))), (q9, .inl (k9, 400, .inl (fun _ => 0))), (q10, .inl (k10, 6, .inl (fun _ => 0)))] H := hP
  have hD : va_D A [(a0, .inr (11, [.ref q1, .int 0, .int 0, .int 0, .ref q2, .int 0, .ref q3, .ref q4, .ref q5, .ref q6, .int 0, .int 0, .int 0, .int 0, .int 0, .int 0, .int 0, .int (-1), .int (-1), .int (-1), .int 0, .int 0, .int 0, .ref q7, .ref q8, .ref q9, .ref q10, .null, .null, .null, .int 0])), (q1, .inl (k1, 7202, .inl (fun _ => 0))), (q3, .inl (k3, 200, .inl (fun _ => 0))), (q4, .inl (k4, 200, .inl (fun _ => 0))), (q5, .inl (k5, 700, .inl (fun _ => 0))), (q6, .inl (k6, 700, .inl (fun _ => 0))), (q7, .inl (k7, 400, .inl (fun _ => 0))), (q8, .inl (k8, 400, .inl (fun _ => 0))), (q9, .inl (k9, 400, .inl (fun _ => 0))), (q10, .inl (k10, 6, .inl (fun _ => 0)))] := hD
  refine W.widen (k := 105) (n := 13316) (Nat.le_of_ble_eq_true rfl) (Nat.le_of_ble_eq_true rfl) ?_
  refine va_putF (D := (dC, dI)) (ci := 11) (v := .ref q11) (ty := .array (.array (.array .long))) (C := RX12) (T := TX12) (N := 31) hx hb (ly_X12 hE) (fun _ h9 => h9) tyX12 tyX12_ok nmX12 hown hK hP hD hS 0 rfl rfl 27 (by decide) (wd_1408 hE) (fun _ h9 => h9) rfl hin rfl (by decide +kernel) rfl rfl (Nat.le_of_ble_eq_true rfl) dX12_init_123 (fun H locs hP hD hS => ?_)
  have hP : va_P (dC, dI) vwCl [(a0, .inr (11, [.ref q1, .int 0, .int 0, .int 0, .ref q2, .int 0, .ref q3, .ref q4, .ref q5, .ref q6, .int 0, .int 0, .int 0, .int 0, .int 0, .int 0, .int 0, .int (-1), .int (-1), .int (-1), .int 0, .int 0, .int 0, .ref q7, .ref q8, .ref q9, .ref q10, .ref q11, .null, .null, .int 0])), (q1, .inl (k1, 7202, .inl (fun _ => 0))), (q3, .inl (k3, 200, .inl (fun _ => 0))), (q4, .inl (k4, 200, .inl (fun _ => 0))), (q5, .inl (k5, 700, .inl (fun _ => 0))), (q6, .inl (k6, 700, .inl (fun _ => 0))), (q7, .inl (k7, 400, .inl (fun _ => 0))), (q8, .inl (k8, 400, .inl (fun _ => 0))), (q9, .inl (k9, 400, .inl (fun _ => 0))), (q10, .inl (k10, 6, .inl (fun _ => 0)))] H := hP
  have hD : va_D A [(a0, .inr (11, [.ref q1, .int 0, .int 0, .int 0, .ref q2, .int 0, .ref q3, .ref q4, .ref q5, .ref q6, .int 0, .int 0, .int 0, .int 0, .int 0, .int 0, .int 0, .int (-1), .int (-1), .int (-1), .int 0, .int 0, .int 0, .ref q7, .ref q8, .ref q9, .ref q10, .ref q11, .null, .null, .int 0])), (q1, .inl (k1, 7202, .inl (fun _ => 0))), (q3, .inl (k3, 200, .inl (fun _ => 0))), (q4, .inl (k4, 200, .inl (fun _ => 0))), (q5, .inl (k5, 700, .inl (fun _ => 0))), (q6, .inl (k6, 700, .inl (fun _ => 0))), (q7, .inl (k7, 400, .inl (fun _ => 0))), (q8, .inl (k8, 400, .inl (fun _ => 0))), (q9, .inl (k9, 400, .inl (fun _ => 0))), (q10, .inl (k10, 6, .inl (fun _ => 0)))] := hD
  refine lv_aload_n hx hb dX12_init_126 rfl (lv_at hl 0 rfl) ?_
  refine lv_ldc (v := 60840) hx hb hown (wd_1380 hE) dX12_init_127 ?_
  refine va_newa (atype := .long) (ty := .long) (N' := 60840) (a0 := (60840, .inr (.inl (fun _ => 0)))) hx hb (wd_358 hE) rfl hK hP hD hS hA (fun _ => rfl) (by decide) (by decide) (Nat.le_of_ble_eq_true rfl) (Nat.le_of_ble_eq_true rfl) (Nat.le_of_ble_eq_true rfl) dX12_init_129 (fun q12 k12 H hK hP hD hS => ?_)
  have hK : va_K (dC, dI) vwCl [(k1, .int), (k3, .int), (k4, .int), (k5, .byte), (k6, .byte), (k7, .int), (k8, .int), (k9, .boolean), (k10, .int), (k12, .long)] s := hK
  have hP : va_P (dC, dI) vwCl [(a0, .inr (11, [.ref q1, .int 0, .int 0, .int 0, .ref q2, .int 0, .ref q3, .ref q4, .ref q5, .ref q6, .int 0, .int 0, .int 0, .int 0, .int 0, .int 0, .int 0, .int (-1), .int (-1), .int (-1), .int 0, .int 0, .int 0, .ref q7, .ref q8, .ref q9, .ref q10, .ref q11, .null, .null, .int 0])), (q1, .inl (k1, 7202, .inl (fun _ => 0))), (q3, .inl (k3, 200, .inl (fun _ => 0))), (q4, .inl (k4, 200, .inl (fun _ => 0))), (q5, .inl (k5, 700, .inl (fun _ => 0))), (q6, .inl (k6, 700, .inl (fun _ => 0))), (q7, .inl (k7, 400, .inl (fun _ => 0))), (q8, .inl (k8, 400, .inl (fun _ => 0))), (q9, .inl (k9, 400, .inl (fun _ => 0))), (q10, .inl (k10, 6, .inl (fun _ => 0))), (q12, .inl (k12, 60840, .inr (.inl (fun _ => 0))))] H := hP
  have hD : va_D A [(a0, .inr (11, [.ref q1, .int 0, .int 0, .int 0, .ref q2, .int 0, .ref q3, .ref q4, .ref q5, .ref q6, .int 0, .int 0, .int 0, .int 0, .int 0, .int 0, .int 0, .int (-1), .int (-1), .int (-1), .int 0, .int 0, .int 0, .ref q7, .ref q8, .ref q9, .ref q10, .ref q11, .null, .null, .int 0])), (q1, .inl (k1, 7202, .inl (fun _ => 0))), (q3, .inl (k3, 200, .inl (fun _ => 0))), (q4, .inl (k4, 200, .inl (fun _ => 0))), (q5, .inl (k5, 700, .inl (fun _ => 0))), (q6, .inl (k6, 700, .inl (fun _ => 0))), (q7, .inl (k7, 400, .inl (fun _ => 0))), (q8, .inl (k8, 400, .inl (fun _ => 0))), (q9, .inl (k9, 400, .inl (fun _ => 0))), (q10, .inl (k10, 6, .inl (fun _ => 0))), (q12, .inl (k12, 60840, .inr (.inl (fun _ => 0))))] := hD
  refine W.widen (k := 106) (n := 74156) (Nat.le_of_ble_eq_true rfl) (Nat.le_of_ble_eq_true rfl) ?_
  refine va_putF (D := (dC, dI)) (ci := 11) (v := .ref q12) (ty := .array .long) (C := RX12) (T := TX12) (N := 31) hx hb (ly_X12 hE) (fun _ h9 => h9) tyX12 tyX12_ok nmX12 hown hK hP hD hS 0 rfl rfl 28 (by decide) (wd_1409 hE) (fun _ h9 => h9) rfl hin rfl (by decide +kernel) rfl rfl (Nat.le_of_ble_eq_true rfl) dX12_init_131 (fun H locs hP hD hS => ?_)
  have hP : va_P (dC, dI) vwCl [(a0, .inr (11, [.ref q1, .int 0, .int 0, .int 0, .ref q2, .int 0, .ref q3, .ref q4, .ref q5, .ref q6, .int 0, .int 0, .int 0, .int 0, .int 0, .int 0, .int 0, .int (-1), .int (-1), .int (-1), .int 0, .int 0, .int 0, .ref q7, .ref q8, .ref q9, .ref q10, .ref q11, .ref q12, .null, .int 0])), (q1, .inl (k1, 7202, .inl (fun _ => 0))), (q3, .inl (k3, 200, .inl (fun _ => 0))), (q4, .inl (k4, 200, .inl (fun _ => 0))), (q5, .inl (k5, 700, .inl (fun _ => 0))), (q6, .inl (k6, 700, .inl (fun _ => 0))), (q7, .inl (k7, 400, .inl (fun _ => 0))), (q8, .inl (k8, 400, .inl (fun _ => 0))), (q9, .inl (k9, 400, .inl (fun _ => 0))), (q10, .inl (k10, 6, .inl (fun _ => 0))), (q12, .inl (k12, 60840, .inr (.inl (fun _ => 0))))] H := hP
  have hD : va_D A [(a0, .inr (11, [.ref q1, .int 0, .int 0, .int 0, .ref q2, .int 0, .ref q3, .ref q4, .ref q5, .ref q6, .int 0, .int 0, .int 0, .int 0, .int 0, .int 0, .int 0, .int (-1), .int (-1), .int (-1), .int 0, .int 0, .int 0, .ref q7, .ref q8, .ref q9, .ref q10, .ref q11, .ref q12, .null, .int 0])), (q1, .inl (k1, 7202, .inl (fun _ => 0))), (q3, .inl (k3, 200, .inl (fun _ => 0))), (q4, .inl (k4, 200, .inl (fun _ => 0))), (q5, .inl (k5, 700, .inl (fun _ => 0))), (q6, .inl (k6, 700, .inl (fun _ => 0))), (q7, .inl (k7, 400, .inl (fun _ => 0))), (q8, .inl (k8, 400, .inl (fun _ => 0))), (q9, .inl (k9, 400, .inl (fun _ => 0))), (q10, .inl (k10, 6, .inl (fun _ => 0))), (q12, .inl (k12, 60840, .inr (.inl (fun _ => 0))))] := hD
  refine lv_aload_n hx hb dX12_init_134 rfl (lv_at hl 0 rfl) ?_
  refine lv_sipush (v := 400) hx hb dX12_init_135 (by decide) ?_
  refine va_newa (atype := .byte) (ty := .byte) (N' := 400) (a0 := (400, .inl (fun _ => 0))) hx hb (wd_205 hE) rfl hK hP hD hS hA (fun _ => rfl) (by decide) (by decide) (Nat.le_of_ble_eq_true rfl) (Nat.le_of_ble_eq_true rfl) (Nat.le_of_ble_eq_true rfl) dX12_init_138 (fun q13 k13 H hK hP hD hS => ?_)
  have hK : va_K (dC, dI) vwCl [(k1, .int), (k3, .int), (k4, .int), (k5, .byte), (k6, .byte), (k7, .int), (k8, .int), (k9, .boolean), (k10, .int), (k12, .long), (k13, .byte)] s := hK
  have hP : va_P (dC, dI) vwCl [(a0, .inr (11, [.ref q1, .int 0, .int 0, .int 0, .ref q2, .int 0, .ref q3, .ref q4, .ref q5, .ref q6, .int 0, .int 0, .int 0, .int 0, .int 0, .int 0, .int 0, .int (-1), .int (-1), .int (-1), .int 0, .int 0, .int 0, .ref q7, .ref q8, .ref q9, .ref q10, .ref q11, .ref q12, .null, .int 0])), (q1, .inl (k1, 7202, .inl (fun _ => 0))), (q3, .inl (k3, 200, .inl (fun _ => 0))), (q4, .inl (k4, 200, .inl (fun _ => 0))), (q5, .inl (k5, 700, .inl (fun _ => 0))), (q6, .inl (k6, 700, .inl (fun _ => 0))), (q7, .inl (k7, 400, .inl (fun _ => 0))), (q8, .inl (k8, 400, .inl (fun _ => 0))), (q9, .inl (k9, 400, .inl (fun _ => 0))), (q10, .inl (k10, 6, .inl (fun _ => 0))), (q12, .inl (k12, 60840, .inr (.inl (fun _ => 0)))), (q13, .inl (k13, 400, .inl (fun _ => 0)))] H := hP
  have hD : va_D A [(a0, .inr (11, [.ref q1, .int 0, .int 0, .int 0, .ref q2, .int 0, .ref q3, .ref q4, .ref q5, .ref q6, .int 0, .int 0, .int 0, .int 0, .int 0, .int 0, .int 0, .int (-1), .int (-1), .int (-1), .int 0, .int 0, .int 0, .ref q7, .ref q8, .ref q9, .ref q10, .ref q11, .ref q12, .null, .int 0])), (q1, .inl (k1, 7202, .inl (fun _ => 0))), (q3, .inl (k3, 200, .inl (fun _ => 0))), (q4, .inl (k4, 200, .inl (fun _ => 0))), (q5, .inl (k5, 700, .inl (fun _ => 0))), (q6, .inl (k6, 700, .inl (fun _ => 0))), (q7, .inl (k7, 400, .inl (fun _ => 0))), (q8, .inl (k8, 400, .inl (fun _ => 0))), (q9, .inl (k9, 400, .inl (fun _ => 0))), (q10, .inl (k10, 6, .inl (fun _ => 0))), (q12, .inl (k12, 60840, .inr (.inl (fun _ => 0)))), (q13, .inl (k13, 400, .inl (fun _ => 0)))] := hD
  refine W.widen (k := 107) (n := 74556) (Nat.le_of_ble_eq_true rfl) (Nat.le_of_ble_eq_true rfl) ?_
  refine va_putF (D := (dC, dI)) (ci := 11) (v := .ref q13) (ty := .array .byte) (C := RX12) (T := TX12) (N := 31) hx hb (ly_X12 hE) (fun _ h9 => h9) tyX12 tyX12_ok nmX12 hown hK hP hD hS 0 rfl rfl 29 (by decide) (wd_1410 hE) (fun _ h9 => h9) rfl hin rfl (by decide +kernel) rfl rfl (Nat.le_of_ble_eq_true rfl) dX12_init_140 (fun H locs hP hD hS => ?_)
  have hP : va_P (dC, dI) vwCl [(a0, .inr (11, [.ref q1, .int 0, .int 0, .int 0, .ref q2, .int 0, .ref q3, .ref q4, .ref q5, .ref q6, .int 0, .int 0, .int 0, .int 0, .int 0, .int 0, .int 0, .int (-1), .int (-1), .int (-1), .int 0, .int 0, .int 0, .ref q7, .ref q8, .ref q9, .ref q10, .ref q11, .ref q12, .ref q13, .int 0])), (q1, .inl (k1, 7202, .inl (fun _ => 0))), (q3, .inl (k3, 200, .inl (fun _ => 0))), (q4, .inl (k4, 200, .inl (fun _ => 0))), (q5, .inl (k5, 700, .inl (fun _ => 0))), (q6, .inl (k6, 700, .inl (fun _ => 0))), (q7, .inl (k7, 400, .inl (fun _ => 0))), (q8, .inl (k8, 400, .inl (fun _ => 0))), (q9, .inl (k9, 400, .inl (fun _ => 0))), (q10, .inl (k10, 6, .inl (fun _ => 0))), (q12, .inl (k12, 60840, .inr (.inl (fun _ => 0)))), (q13, .inl (k13, 400, .inl (fun _ => 0)))] H := hP
  have hD : va_D A [(a0, .inr (11, [.ref q1, .int 0, .int 0, .int 0, .ref q2, .int 0, .ref q3, .ref q4, .ref q5, .ref q6, .int 0, .int 0, .int 0, .int 0, .int 0, .int 0, .int 0, .int (-1), .int (-1), .int (-1), .int 0, .int 0, .int 0, .ref q7, .ref q8, .ref q9, .ref q10, .ref q11, .ref q12, .ref q13, .int 0])), (q1, .inl (k1, 7202, .inl (fun _ => 0))), (q3, .inl (k3, 200, .inl (fun _ => 0))), (q4, .inl (k4, 200, .inl (fun _ => 0))), (q5, .inl (k5, 700, .inl (fun _ => 0))), (q6, .inl (k6, 700, .inl (fun _ => 0))), (q7, .inl (k7, 400, .inl (fun _ => 0))), (q8, .inl (k8, 400, .inl (fun _ => 0))), (q9, .inl (k9, 400, .inl (fun _ => 0))), (q10, .inl (k10, 6, .inl (fun _ => 0))), (q12, .inl (k12, 60840, .inr (.inl (fun _ => 0)))), (q13, .inl (k13, 400, .inl (fun _ => 0)))] := hD
  have hP9 := hP.sub (ws' := [(a0, .inr (11, [.ref q1, .int 0, .int 0, .int 0, .ref q2, .int 0, .ref q3, .ref q4, .ref q5, .ref q6, .int 0, .int 0, .int 0, .int 0, .int 0, .int 0, .int 0, .int (-1), .int (-1), .int (-1), .int 0, .int 0, .int 0, .ref q7, .ref q8, .ref q9, .ref q10, .ref q11, .ref q12, .ref q13, .int 0])), (q1, .inl (k1, 7202, .inl (fun _ => 0))), (q5, .inl (k5, 700, .inl (fun _ => 0)))]) [0, 1, 4] rfl
  have hD9 := hD.sub (ws' := [(a0, .inr (11, [.ref q1, .int 0, .int 0, .int 0, .ref q2, .int 0, .ref q3, .ref q4, .ref q5, .ref q6, .int 0, .int 0, .int 0, .int 0, .int 0, .int 0, .int 0, .int (-1), .int (-1), .int (-1), .int 0, .int 0, .int 0, .ref q7, .ref q8, .ref q9, .ref q10, .ref q11, .ref q12, .ref q13, .int 0])), (q1, .inl (k1, 7202, .inl (fun _ => 0))), (q5, .inl (k5, 700, .inl (fun _ => 0)))]) [0, 1, 4] (by decide) rfl
  have hK9 := hK.sub (tys' := [(k1, .int), (k5, .byte)]) [0, 3] rfl
  refine W.widen (k := 107) (n := 74556) (Nat.le_of_ble_eq_true rfl) (Nat.le_of_ble_eq_true rfl) ?_
  exact W.vret hx hb hr (fun t ht hW => ⟨⟨(fun i => [q1, q5, q2, q3, q4, q6, q7, q8, q9, q10, q11, q12, q13].getD i 0, fun i => [k1, k5].getD i 0), rfl, trivial, by rw [ht]; exact hP9, va_K.moved hW.alike hK9, hD9⟩, hS.F ht⟩) hS.2.2 dX12_init_143

set_option maxHeartbeats 4000000 in
set_option maxRecDepth 100000 in
theorem c_X12_status (l : Launch) (dC : Nat → ClassId) (dI : Nat → Nat → Nat) (sz : Nat)  (a0 a1 a2 a3 a4 a5 a6 a7 a8 a9 a10 a11 a12 a13 : Nat)  : Met l yX12_status [.code yX12_status cX12_status 1 (some .int)] ({ frames := 0, cells := 0, slots := 0, locals := 0 }) (PcE [.ref a0] sz dC dI [] [(a0, .inr (11, [.ref a1, .int 0, .int 0, .int 0, .ref a2, .int 0, .ref a3, .ref a4, .ref a5, .ref a6, .int 0, .int 0, .int 0, .int 0, .int 0, .int 0, .int 0, .int (-1), .int (-1), .int (-1), .int 0, .int 0, .int 0, .ref a7, .ref a8, .ref a9, .ref a10, .ref a11, .ref a12, .ref a13, .int 0]))]) (va_Qi (fun (r : Int32) (u : Unit) => r = 0) (Bw dC dI (va_A [(a0, .inr (11, [.ref a1, .int 0, .int 0, .int 0, .ref a2, .int 0, .ref a3, .ref a4, .ref a5, .ref a6, .int 0, .int 0, .int 0, .int 0, .int 0, .int 0, .int 0, .int (-1), .int (-1), .int (-1), .int 0, .int 0, .int 0, .ref a7, .ref a8, .ref a9, .ref a10, .ref a11, .ref a12, .ref a13, .int 0]))] sz) (fun (u : Unit) => []) (fun (u : Unit) => [])) (va_A [(a0, .inr (11, [.ref a1, .int 0, .int 0, .int 0, .ref a2, .int 0, .ref a3, .ref a4, .ref a5, .ref a6, .int 0, .int 0, .int 0, .int 0, .int 0, .int 0, .int 0, .int (-1), .int (-1), .int (-1), .int 0, .int 0, .int 0, .ref a7, .ref a8, .ref a9, .ref a10, .ref a11, .ref a12, .ref a13, .int 0]))] sz)) 0 0 (va_A [(a0, .inr (11, [.ref a1, .int 0, .int 0, .int 0, .ref a2, .int 0, .ref a3, .ref a4, .ref a5, .ref a6, .int 0, .int 0, .int 0, .int 0, .int 0, .int 0, .int 0, .int (-1), .int (-1), .int (-1), .int 0, .int 0, .int 0, .ref a7, .ref a8, .ref a9, .ref a10, .ref a11, .ref a12, .ref a13, .int 0]))] sz) := by
  refine Met.ofW (cc := cX12_status) (maxL := 1) (ret := (some .int)) (by decide) rfl ?_
  intro p e s m args below meth c s₁ B hml hv
  obtain ⟨rfl, hsz, hP, hK, hD0, hE⟩ := hv
  have hx := B.exec
  have hb := B.bytes
  have hr := B.returns
  have hown : s.vm.findClass RX12 = some m.cls := findClass_of_methodNamed B.named
  have hlocks := B.notSynchronized
  subst hsz
  have hD := hD0.self (sz := s.heap.size)
  generalize hAe : va_A [(a0, .inr (11, [.ref a1, .int 0, .int 0, .int 0, .ref a2, .int 0, .ref a3, .ref a4, .ref a5, .ref a6, .int 0, .int 0, .int 0, .int 0, .int 0, .int 0, .int 0, .int (-1), .int (-1), .int (-1), .int 0, .int 0, .int 0, .ref a7, .ref a8, .ref a9, .ref a10, .ref a11, .ref a12, .ref a13, .int 0]))] s.heap.size = A at hD ⊢
  have hA : ∀ q : Nat, s.heap.size ≤ q → A q := fun q h => by rw [← hAe]; exact Or.inr h
  have hS : va_S A s.heap s.heap [] := va_S.rf
  have hl := lv_entry ([.ref a0]) (n := 1) (Nat.le_of_ble_eq_true rfl)
  rw [lg_entry_eq]
  generalize (lg_sl ([.ref a0]) ++ List.replicate (1 - (lg_sl ([.ref a0])).length) Slot.unset).toArray = ls at hl ⊢
  have hl : lv_has ls 1 [(0, .ref a0)] := hl
  refine lv_aload_n hx hb dX12_status_0 rfl (lv_at hl 0 rfl) ?_
  refine va_get (D := (dC, dI)) (ci := 11) (v := .int 0) (C := RX12) (T := TX12) (N := 31) hx hb (ly_X12 hE) (fun _ h9 => h9) hown hK hP 0 rfl rfl 1 (by decide) (wd_1382 hE) (fun _ h9 => h9) rfl dX12_status_1 ?_
  have hP9 := hP.sub (ws' := []) [] rfl
  have hD9 := hD.sub (ws' := []) [] (by decide) rfl
  have hK9 := hK.sub (tys' := []) [] rfl
  refine W.widen (k := 0) (n := 0) (Nat.le_of_ble_eq_true rfl) (Nat.le_of_ble_eq_true rfl) ?_
  exact W.iret (v := 0) hx hb hr (fun t ht hW => ⟨⟨0, (), rfl, rfl, by rw [ht]; exact hP9, va_K.moved hW.alike hK9, hD9⟩, hS.F ht⟩) hS.2.2 dX12_status_4

set_option maxHeartbeats 4000000 in
set_option maxRecDepth 100000 in
theorem c_X12_four (l : Launch) (dC : Nat → ClassId) (dI : Nat → Nat → Nat) (sz : Nat)  (a0 a1 a2 a3 a4 a5 a6 a7 a8 a9 a10 a11 a12 a13 : Nat) (k0 : ClassId) (v0 : Int32)  : Met l yX12_four [.code yX12_four cX12_four 3 none] ({ frames := 0, cells := 0, slots := 0, locals := 0 }) (PcE [.ref a0, .int v0] sz dC dI [(k0, .byte)] [(a0, .inr (11, [.ref a1, .int 0, .int 0, .int 0, .ref a2, .int 0, .ref a3, .ref a4, .ref a5, .ref a6, .int 0, .int 0, .int 0, .int 0, .int 0, .int 0, .int 0, .int (-1), .int (-1), .int (-1), .int 0, .int 0, .int 0, .ref a7, .ref a8, .ref a9, .ref a10, .ref a11, .ref a12, .ref a13, .int 0])), (a5, .inl (k0, 700, .inl (fun _ => 0)))]) (va_Qv (fun (u : Unit) => True) (Bw dC dI (va_A [(a0, .inr (11, [.ref a1, .int 0, .int 0, .int 0, .ref a2, .int 0, .ref a3, .ref a4, .ref a5, .ref a6, .int 0, .int 0, .int 0, .int 0, .int 0, .int 0, .int 0, .int (-1), .int (-1), .int (-1), .int 0, .int 0, .int 0, .ref a7, .ref a8, .ref a9, .ref a10, .ref a11, .ref a12, .ref a13, .int 0])), (a5, .inl (k0, 700, .inl (fun _ => 0)))] sz) (fun (u : Unit) => []) (fun (u : Unit) => [(a0, .inr (11, [.ref a1, .int 0, .int 0, .int 0, .ref a2, .int 0, .ref a3, .ref a4, .ref a5, .ref a6, .int 4, .int 0, .int 0, .int 0, .int 0, .int 0, .int 0, .int (-1), .int (-1), .int (-1), .int 0, .int 0, .int 0, .ref a7, .ref a8, .ref a9, .ref a10, .ref a11, .ref a12, .ref a13, .int 0])), (a5, .inl (k0, 700, .inl (upd (upd (upd (upd (fun _ => 0) 0 (vp_nar .byte ((v0 >>> 24).toInt8.toInt32))) 1 (vp_nar .byte ((v0 >>> 16).toInt8.toInt32))) 2 (vp_nar .byte ((v0 >>> 8).toInt8.toInt32))) 3 (vp_nar .byte ((v0 >>> 0).toInt8.toInt32)))))])) (va_A [(a0, .inr (11, [.ref a1, .int 0, .int 0, .int 0, .ref a2, .int 0, .ref a3, .ref a4, .ref a5, .ref a6, .int 0, .int 0, .int 0, .int 0, .int 0, .int 0, .int 0, .int (-1), .int (-1), .int (-1), .int 0, .int 0, .int 0, .ref a7, .ref a8, .ref a9, .ref a10, .ref a11, .ref a12, .ref a13, .int 0])), (a5, .inl (k0, 700, .inl (fun _ => 0)))] sz)) 0 0 (va_A [(a0, .inr (11, [.ref a1, .int 0, .int 0, .int 0, .ref a2, .int 0, .ref a3, .ref a4, .ref a5, .ref a6, .int 0, .int 0, .int 0, .int 0, .int 0, .int 0, .int 0, .int (-1), .int (-1), .int (-1), .int 0, .int 0, .int 0, .ref a7, .ref a8, .ref a9, .ref a10, .ref a11, .ref a12, .ref a13, .int 0])), (a5, .inl (k0, 700, .inl (fun _ => 0)))] sz) := by
  refine Met.ofW (cc := cX12_four) (maxL := 3) (ret := none) (by decide) rfl ?_
  intro p e s m args below meth c s₁ B hml hv
  obtain ⟨rfl, hsz, hP, hK, hD0, hE⟩ := hv
  have hx := B.exec
  have hb := B.bytes
  have hr := B.returns
  have hown : s.vm.findClass RX12 = some m.cls := findClass_of_methodNamed B.named
  have hlocks := B.notSynchronized
  subst hsz
  have hD := hD0.self (sz := s.heap.size)
  generalize hAe : va_A [(a0, .inr (11, [.ref a1, .int 0, .int 0, .int 0, .ref a2, .int 0, .ref a3, .ref a4, .ref a5, .ref a6, .int 0, .int 0, .int 0, .int 0, .int 0, .int 0, .int 0, .int (-1), .int (-1), .int (-1), .int 0, .int 0, .int 0, .ref a7, .ref a8, .ref a9, .ref a10, .ref a11, .ref a12, .ref a13, .int 0])), (a5, .inl (k0, 700, .inl (fun _ => 0)))] s.heap.size = A at hD ⊢
  have hA : ∀ q : Nat, s.heap.size ≤ q → A q := fun q h => by rw [← hAe]; exact Or.inr h
  have hS : va_S A s.heap s.heap [] := va_S.rf
  have hl := lv_entry ([.ref a0, .int v0]) (n := 3) (Nat.le_of_ble_eq_true rfl)
  rw [lg_entry_eq]
  generalize (lg_sl ([.ref a0, .int v0]) ++ List.replicate (3 - (lg_sl ([.ref a0, .int v0])).length) Slot.unset).toArray = ls at hl ⊢
  have hl : lv_has ls 3 [(0, .ref a0), (1, .int v0)] := hl
  refine lv_iconst (v := 3) hx hb dX12_four_0 (by decide) ?_
  refine lv_istore_n (lv' := [(2, .int 3), (0, .ref a0), (1, .int v0)]) hx hb dX12_four_1 rfl hl (by decide) rfl (fun ls hl => ?_)
  refine lv_iload_n hx hb dX12_four_2 rfl (lv_at hl 0 rfl) ?_
  refine lv_if_lt (tgt := 38) hx hb dX12_four_3 (by decide) (fun c1 => absurd c1 (by decide)) (fun c1 => ?_)
  refine lv_aload_n hx hb dX12_four_6 rfl (lv_at hl 1 rfl) ?_
  refine va_get (D := (dC, dI)) (ci := 11) (v := .ref a5) (C := RX12) (T := TX12) (N := 31) hx hb (ly_X12 hE) (fun _ h9 => h9) hown hK hP 0 rfl rfl 8 (by decide) (wd_1389 hE) (fun _ h9 => h9) rfl dX12_four_7 ?_
  refine lv_aload_n hx hb dX12_four_10 rfl (lv_at hl 1 rfl) ?_
  refine va_get (D := (dC, dI)) (ci := 11) (v := .int 0) (C := RX12) (T := TX12) (N := 31) hx hb (ly_X12 hE) (fun _ h9 => h9) hown hK hP 0 rfl rfl 10 (by decide) (wd_1391 hE) (fun _ h9 => h9) rfl dX12_four_11 ?_
  refine lv_iload_n hx hb dX12_four_14 rfl (lv_at hl 2 rfl) ?_
  refine lv_bipush (v := 8) hx hb dX12_four_15 (by decide) ?_
  refine lv_iload_n hx hb dX12_four_17 rfl (lv_at hl 0 rfl) ?_
  refine lv_imul hx hb dX12_four_18 ?_
  refine W.eq (g2 := F0 m 19 ls [.int 24, .int v0, .int 0, .ref a5]) rfl ?_
  refine lv_ishr hx hb dX12_four_19 ?_
  refine lv_i2b hx hb dX12_four_20 rfl ?_
  refine va_bast hx hb hK hP hD hS 1 0 rfl rfl (by unfold vp_in; decide) dX12_four_21 (fun H locs hP hD hS => ?_)
  have hP : va_P (dC, dI) vwCl [(a0, .inr (11, [.ref a1, .int 0, .int 0, .int 0, .ref a2, .int 0, .ref a3, .ref a4, .ref a5, .ref a6, .int 0, .int 0, .int 0, .int 0, .int 0, .int 0, .int 0, .int (-1), .int (-1), .int (-1), .int 0, .int 0, .int 0, .ref a7, .ref a8, .ref a9, .ref a10, .ref a11, .ref a12, .ref a13, .int 0])), (a5, .inl (k0, 700, .inl (upd (fun _ => 0) 0 (vp_nar .byte ((v0 >>> 24).toInt8.toInt32)))))] H := hP
  have hD : va_D A [(a0, .inr (11, [.ref a1, .int 0, .int 0, .int 0, .ref a2, .int 0, .ref a3, .ref a4, .ref a5, .ref a6, .int 0, .int 0, .int 0, .int 0, .int 0, .int 0, .int 0, .int (-1), .int (-1), .int (-1), .int 0, .int 0, .int 0, .ref a7, .ref a8, .ref a9, .ref a10, .ref a11, .ref a12, .ref a13, .int 0])), (a5, .inl (k0, 700, .inl (upd (fun _ => 0) 0 (vp_nar .byte ((v0 >>> 24).toInt8.toInt32)))))] := hD
  refine lv_aload_n hx hb dX12_four_22 rfl (lv_at hl 1 rfl) ?_
  refine lv_dup hx hb dX12_four_23 rfl ?_
  refine va_get (D := (dC, dI)) (ci := 11) (v := .int 0) (C := RX12) (T := TX12) (N := 31) hx hb (ly_X12 hE) (fun _ h9 => h9) hown hK hP 0 rfl rfl 10 (by decide) (wd_1391 hE) (fun _ h9 => h9) rfl dX12_four_24 ?_
  refine lv_iconst (v := 1) hx hb dX12_four_27 (by decide) ?_
  refine lv_iadd hx hb dX12_four_28 ?_
  refine W.eq (g2 := F0 m 29 ls [.int 1, .ref a0]) rfl ?_
  refine va_put (D := (dC, dI)) (ci := 11) (v := .int 1) (ty := .int) (C := RX12) (T := TX12) (N := 31) hx hb (ly_X12 hE) (fun _ h9 => h9) tyX12 tyX12_ok nmX12 hown hK hP hD hS 0 rfl rfl 10 (by decide) (wd_1391 hE) (fun _ h9 => h9) rfl (by decide +kernel) rfl rfl (Nat.le_of_ble_eq_true rfl) dX12_four_29 (fun H locs hP hD hS => ?_)
  have hP : va_P (dC, dI) vwCl [(a0, .inr (11, [.ref a1, .int 0, .int 0, .int 0, .ref a2, .int 0, .ref a3, .ref a4, .ref a5, .ref a6, .int 1, .int 0, .int 0, .int 0, .int 0, .int 0, .int 0, .int (-1), .int (-1), .int (-1), .int 0, .int 0, .int 0, .ref a7, .ref a8, .ref a9, .ref a10, .ref a11, .ref a12, .ref a13, .int 0])), (a5, .inl (k0, 700, .inl (upd (fun _ => 0) 0 (vp_nar .byte ((v0 >>> 24).toInt8.toInt32)))))] H := hP
  have hD : va_D A [(a0, .inr (11, [.ref a1, .int 0, .int 0, .int 0, .ref a2, .int 0, .ref a3, .ref a4, .ref a5, .ref a6, .int 1, .int 0, .int 0, .int 0, .int 0, .int 0, .int 0, .int (-1), .int (-1), .int (-1), .int 0, .int 0, .int 0, .ref a7, .ref a8, .ref a9, .ref a10, .ref a11, .ref a12, .ref a13, .int 0])), (a5, .inl (k0, 700, .inl (upd (fun _ => 0) 0 (vp_nar .byte ((v0 >>> 24).toInt8.toInt32)))))] := hD
  refine lv_iinc (v := 2) (lv' := [(2, .int 2), (0, .ref a0), (1, .int v0)]) hx hb dX12_four_32 hl (k := 0) rfl (by decide) (by decide) rfl (fun ls hl => ?_)
  refine lv_goto (tgt := 2) hx hb dX12_four_35 (by decide) ?_
  refine lv_iload_n hx hb dX12_four_2 rfl (lv_at hl 0 rfl) ?_
  refine lv_if_lt (tgt := 38) hx hb dX12_four_3 (by decide) (fun c3 => absurd c3 (by decide)) (fun c3 => ?_)
  refine lv_aload_n hx hb dX12_four_6 rfl (lv_at hl 1 rfl) ?_
  refine va_get (D := (dC, dI)) (ci := 11) (v := .ref a5) (C := RX12) (T := TX12) (N := 31) hx hb (ly_X12 hE) (fun _ h9 => h9) hown hK hP 0 rfl rfl 8 (by decide) (wd_1389 hE) (fun _ h9 => h9) rfl dX12_four_7 ?_
  refine lv_aload_n hx hb dX12_four_10 rfl (lv_at hl 1 rfl) ?_
  refine va_get (D := (dC, dI)) (ci := 11) (v := .int 1) (C := RX12) (T := TX12) (N := 31) hx hb (ly_X12 hE) (fun _ h9 => h9) hown hK hP 0 rfl rfl 10 (by decide) (wd_1391 hE) (fun _ h9 => h9) rfl dX12_four_11 ?_
  refine lv_iload_n hx hb dX12_four_14 rfl (lv_at hl 2 rfl) ?_
  refine lv_bipush (v := 8) hx hb dX12_four_15 (by decide) ?_
  refine lv_iload_n hx hb dX12_four_17 rfl (lv_at hl 0 rfl) ?_
  refine lv_imul hx hb dX12_four_18 ?_
  refine W.eq (g2 := F0 m 19 ls [.int 16, .int v0, .int 1, .ref a5]) rfl ?_
  refine lv_ishr hx hb dX12_four_19 ?_
  refine lv_i2b hx hb dX12_four_20 rfl ?_
  refine va_bast hx hb hK hP hD hS 1 0 rfl rfl (by unfold vp_in; decide) dX12_four_21 (fun H locs hP hD hS => ?_)
  have hP : va_P (dC, dI) vwCl [(a0, .inr (11, [.ref a1, .int 0, .int 0, .int 0, .ref a2, .int 0, .ref a3, .ref a4, .ref a5, .ref a6, .int 1, .int 0, .int 0, .int 0, .int 0, .int 0, .int 0, .int (-1), .int (-1), .int (-1), .int 0, .int 0, .int 0, .ref a7, .ref a8, .ref a9, .ref a10, .ref a11, .ref a12, .ref a13, .int 0])), (a5, .inl (k0, 700, .inl (upd (upd (fun _ => 0) 0 (vp_nar .byte ((v0 >>> 24).toInt8.toInt32))) 1 (vp_nar .byte ((v0 >>> 16).toInt8.toInt32)))))] H := hP
  have hD : va_D A [(a0, .inr (11, [.ref a1, .int 0, .int 0, .int 0, .ref a2, .int 0, .ref a3, .ref a4, .ref a5, .ref a6, .int 1, .int 0, .int 0, .int 0, .int 0, .int 0, .int 0, .int (-1), .int (-1), .int (-1), .int 0, .int 0, .int 0, .ref a7, .ref a8, .ref a9, .ref a10, .ref a11, .ref a12, .ref a13, .int 0])), (a5, .inl (k0, 700, .inl (upd (upd (fun _ => 0) 0 (vp_nar .byte ((v0 >>> 24).toInt8.toInt32))) 1 (vp_nar .byte ((v0 >>> 16).toInt8.toInt32)))))] := hD
  refine lv_aload_n hx hb dX12_four_22 rfl (lv_at hl 1 rfl) ?_
  refine lv_dup hx hb dX12_four_23 rfl ?_
  refine va_get (D := (dC, dI)) (ci := 11) (v := .int 1) (C := RX12) (T := TX12) (N := 31) hx hb (ly_X12 hE) (fun _ h9 => h9) hown hK hP 0 rfl rfl 10 (by decide) (wd_1391 hE) (fun _ h9 => h9) rfl dX12_four_24 ?_
  refine lv_iconst (v := 1) hx hb dX12_four_27 (by decide) ?_
  refine lv_iadd hx hb dX12_four_28 ?_
  refine W.eq (g2 := F0 m 29 ls [.int 2, .ref a0]) rfl ?_
  refine va_put (D := (dC, dI)) (ci := 11) (v := .int 2) (ty := .int) (C := RX12) (T := TX12) (N := 31) hx hb (ly_X12 hE) (fun _ h9 => h9) tyX12 tyX12_ok nmX12 hown hK hP hD hS 0 rfl rfl 10 (by decide) (wd_1391 hE) (fun _ h9 => h9) rfl (by decide +kernel) rfl rfl (Nat.le_of_ble_eq_true rfl) dX12_four_29 (fun H locs hP hD hS => ?_)
  have hP : va_P (dC, dI) vwCl [(a0, .inr (11, [.ref a1, .int 0, .int 0, .int 0, .ref a2, .int 0, .ref a3, .ref a4, .ref a5, .ref a6, .int 2, .int 0, .int 0, .int 0, .int 0, .int 0, .int 0, .int (-1), .int (-1), .int (-1), .int 0, .int 0, .int 0, .ref a7, .ref a8, .ref a9, .ref a10, .ref a11, .ref a12, .ref a13, .int 0])), (a5, .inl (k0, 700, .inl (upd (upd (fun _ => 0) 0 (vp_nar .byte ((v0 >>> 24).toInt8.toInt32))) 1 (vp_nar .byte ((v0 >>> 16).toInt8.toInt32)))))] H := hP
  have hD : va_D A [(a0, .inr (11, [.ref a1, .int 0, .int 0, .int 0, .ref a2, .int 0, .ref a3, .ref a4, .ref a5, .ref a6, .int 2, .int 0, .int 0, .int 0, .int 0, .int 0, .int 0, .int (-1), .int (-1), .int (-1), .int 0, .int 0, .int 0, .ref a7, .ref a8, .ref a9, .ref a10, .ref a11, .ref a12, .ref a13, .int 0])), (a5, .inl (k0, 700, .inl (upd (upd (fun _ => 0) 0 (vp_nar .byte ((v0 >>> 24).toInt8.toInt32))) 1 (vp_nar .byte ((v0 >>> 16).toInt8.toInt32)))))] := hD
  refine lv_iinc (v := 1) (lv' := [(2, .int 1), (0, .ref a0), (1, .int v0)]) hx hb dX12_four_32 hl (k := 0) rfl (by decide) (by decide) rfl (fun ls hl => ?_)
  refine lv_goto (tgt := 2) hx hb dX12_four_35 (by decide) ?_
  refine lv_iload_n hx hb dX12_four_2 rfl (lv_at hl 0 rfl) ?_
  refine lv_if_lt (tgt := 38) hx hb dX12_four_3 (by decide) (fun c5 => absurd c5 (by decide)) (fun c5 => ?_)
  refine lv_aload_n hx hb dX12_four_6 rfl (lv_at hl 1 rfl) ?_
  refine va_get (D := (dC, dI)) (ci := 11) (v := .ref a5) (C := RX12) (T := TX12) (N := 31) hx hb (ly_X12 hE) (fun _ h9 => h9) hown hK hP 0 rfl rfl 8 (by decide) (wd_1389 hE) (fun _ h9 => h9) rfl dX12_four_7 ?_
  refine lv_aload_n hx hb dX12_four_10 rfl (lv_at hl 1 rfl) ?_
  refine va_get (D := (dC, dI)) (ci := 11) (v := .int 2) (C := RX12) (T := TX12) (N := 31) hx hb (ly_X12 hE) (fun _ h9 => h9) hown hK hP 0 rfl rfl 10 (by decide) (wd_1391 hE) (fun _ h9 => h9) rfl dX12_four_11 ?_
  refine lv_iload_n hx hb dX12_four_14 rfl (lv_at hl 2 rfl) ?_
  refine lv_bipush (v := 8) hx hb dX12_four_15 (by decide) ?_
  refine lv_iload_n hx hb dX12_four_17 rfl (lv_at hl 0 rfl) ?_
  refine lv_imul hx hb dX12_four_18 ?_
  refine W.eq (g2 := F0 m 19 ls [.int 8, .int v0, .int 2, .ref a5]) rfl ?_
  refine lv_ishr hx hb dX12_four_19 ?_
  refine lv_i2b hx hb dX12_four_20 rfl ?_
  refine va_bast hx hb hK hP hD hS 1 0 rfl rfl (by unfold vp_in; decide) dX12_four_21 (fun H locs hP hD hS => ?_)
  have hP : va_P (dC, dI) vwCl [(a0, .inr (11, [.ref a1, .int 0, .int 0, .int 0, .ref a2, .int 0, .ref a3, .ref a4, .ref a5, .ref a6, .int 2, .int 0, .int 0, .int 0, .int 0, .int 0, .int 0, .int (-1), .int (-1), .int (-1), .int 0, .int 0, .int 0, .ref a7, .ref a8, .ref a9, .ref a10, .ref a11, .ref a12, .ref a13, .int 0])), (a5, .inl (k0, 700, .inl (upd (upd (upd (fun _ => 0) 0 (vp_nar .byte ((v0 >>> 24).toInt8.toInt32))) 1 (vp_nar .byte ((v0 >>> 16).toInt8.toInt32))) 2 (vp_nar .byte ((v0 >>> 8).toInt8.toInt32)))))] H := hP
  have hD : va_D A [(a0, .inr (11, [.ref a1, .int 0, .int 0, .int 0, .ref a2, .int 0, .ref a3, .ref a4, .ref a5, .ref a6, .int 2, .int 0, .int 0, .int 0, .int 0, .int 0, .int 0, .int (-1), .int (-1), .int (-1), .int 0, .int 0, .int 0, .ref a7, .ref a8, .ref a9, .ref a10, .ref a11, .ref a12, .ref a13, .int 0])), (a5, .inl (k0, 700, .inl (upd (upd (upd (fun _ => 0) 0 (vp_nar .byte ((v0 >>> 24).toInt8.toInt32))) 1 (vp_nar .byte ((v0 >>> 16).toInt8.toInt32))) 2 (vp_nar .byte ((v0 >>> 8).toInt8.toInt32)))))] := hD
  refine lv_aload_n hx hb dX12_four_22 rfl (lv_at hl 1 rfl) ?_
  refine lv_dup hx hb dX12_four_23 rfl ?_
  refine va_get (D := (dC, dI)) (ci := 11) (v := .int 2) (C := RX12) (T := TX12) (N := 31) hx hb (ly_X12 hE) (fun _ h9 => h9) hown hK hP 0 rfl rfl 10 (by decide) (wd_1391 hE) (fun _ h9 => h9) rfl dX12_four_24 ?_
  refine lv_iconst (v := 1) hx hb dX12_four_27 (by decide) ?_
  refine lv_iadd hx hb dX12_four_28 ?_
  refine W.eq (g2 := F0 m 29 ls [.int 3, .ref a0]) rfl ?_
  refine va_put (D := (dC, dI)) (ci := 11) (v := .int 3) (ty := .int) (C := RX12) (T := TX12) (N := 31) hx hb (ly_X12 hE) (fun _ h9 => h9) tyX12 tyX12_ok nmX12 hown hK hP hD hS 0 rfl rfl 10 (by decide) (wd_1391 hE) (fun _ h9 => h9) rfl (by decide +kernel) rfl rfl (Nat.le_of_ble_eq_true rfl) dX12_four_29 (fun H locs hP hD hS => ?_)
  have hP : va_P (dC, dI) vwCl [(a0, .inr (11, [.ref a1, .int 0, .int 0, .int 0, .ref a2, .int 0, .ref a3, .ref a4, .ref a5, .ref a6, .int 3, .int 0, .int 0, .int 0, .int 0, .int 0, .int 0, .int (-1), .int (-1), .int (-1), .int 0, .int 0, .int 0, .ref a7, .ref a8, .ref a9, .ref a10, .ref a11, .ref a12, .ref a13, .int 0])), (a5, .inl (k0, 700, .inl (upd (upd (upd (fun _ => 0) 0 (vp_nar .byte ((v0 >>> 24).toInt8.toInt32))) 1 (vp_nar .byte ((v0 >>> 16).toInt8.toInt32))) 2 (vp_nar .byte ((v0 >>> 8).toInt8.toInt32)))))] H := hP
  have hD : va_D A [(a0, .inr (11, [.ref a1, .int 0, .int 0, .int 0, .ref a2, .int 0, .ref a3, .ref a4, .ref a5, .ref a6, .int 3, .int 0, .int 0, .int 0, .int 0, .int 0, .int 0, .int (-1), .int (-1), .int (-1), .int 0, .int 0, .int 0, .ref a7, .ref a8, .ref a9, .ref a10, .ref a11, .ref a12, .ref a13, .int 0])), (a5, .inl (k0, 700, .inl (upd (upd (upd (fun _ => 0) 0 (vp_nar .byte ((v0 >>> 24).toInt8.toInt32))) 1 (vp_nar .byte ((v0 >>> 16).toInt8.toInt32))) 2 (vp_nar .byte ((v0 >>> 8).toInt8.toInt32)))))] := hD
  refine lv_iinc (v := 0) (lv' := [(2, .int 0), (0, .ref a0), (1, .int v0)]) hx hb dX12_four_32 hl (k := 0) rfl (by decide) (by decide) rfl (fun ls hl => ?_)
  refine lv_goto (tgt := 2) hx hb dX12_four_35 (by decide) ?_
  refine lv_iload_n hx hb dX12_four_2 rfl (lv_at hl 0 rfl) ?_
  refine lv_if_lt (tgt := 38) hx hb dX12_four_3 (by decide) (fun c7 => absurd c7 (by decide)) (fun c7 => ?_)
  refine lv_aload_n hx hb dX12_four_6 rfl (lv_at hl 1 rfl) ?_
  refine va_get (D := (dC, dI)) (ci := 11) (v := .ref a5) (C := RX12) (T := TX12) (N := 31) hx hb (ly_X12 hE) (fun _ h9 => h9) hown hK hP 0 rfl rfl 8 (by decide) (wd_1389 hE) (fun _ h9 => h9) rfl dX12_four_7 ?_
  refine lv_aload_n hx hb dX12_four_10 rfl (lv_at hl 1 rfl) ?_
  refine va_get (D := (dC, dI)) (ci := 11) (v := .int 3) (C := RX12) (T := TX12) (N := 31) hx hb (ly_X12 hE) (fun _ h9 => h9) hown hK hP 0 rfl rfl 10 (by decide) (wd_1391 hE) (fun _ h9 => h9) rfl dX12_four_11 ?_
  refine lv_iload_n hx hb dX12_four_14 rfl (lv_at hl 2 rfl) ?_
  refine lv_bipush (v := 8) hx hb dX12_four_15 (by decide) ?_
  refine lv_iload_n hx hb dX12_four_17 rfl (lv_at hl 0 rfl) ?_
  refine lv_imul hx hb dX12_four_18 ?_
  refine W.eq (g2 := F0 m 19 ls [.int 0, .int v0, .int 3, .ref a5]) rfl ?_
  refine lv_ishr hx hb dX12_four_19 ?_
  refine lv_i2b hx hb dX12_four_20 rfl ?_
  refine va_bast hx hb hK hP hD hS 1 0 rfl rfl (by unfold vp_in; decide) dX12_four_21 (fun H locs hP hD hS => ?_)
  have hP : va_P (dC, dI) vwCl [(a0, .inr (11, [.ref a1, .int 0, .int 0, .int 0, .ref a2, .int 0, .ref a3, .ref a4, .ref a5, .ref a6, .int 3, .int 0, .int 0, .int 0, .int 0, .int 0, .int 0, .int (-1), .int (-1), .int (-1), .int 0, .int 0, .int 0, .ref a7, .ref a8, .ref a9, .ref a10, .ref a11, .ref a12, .ref a13, .int 0])), (a5, .inl (k0, 700, .inl (upd (upd (upd (upd (fun _ => 0) 0 (vp_nar .byte ((v0 >>> 24).toInt8.toInt32))) 1 (vp_nar .byte ((v0 >>> 16).toInt8.toInt32))) 2 (vp_nar .byte ((v0 >>> 8).toInt8.toInt32))) 3 (vp_nar .byte ((v0 >>> 0).toInt8.toInt32)))))] H := hP
  have hD : va_D A [(a0, .inr (11, [.ref a1, .int 0, .int 0, .int 0, .ref a2, .int 0, .ref a3, .ref a4, .ref a5, .ref a6, .int 3, .int 0, .int 0, .int 0, .int 0, .int 0, .int 0, .int (-1), .int (-1), .int (-1), .int 0, .int 0, .int 0, .ref a7, .ref a8, .ref a9, .ref a10, .ref a11, .ref a12, .ref a13, .int 0])), (a5, .inl (k0, 700, .inl (upd (upd (upd (upd (fun _ => 0) 0 (vp_nar .byte ((v0 >>> 24).toInt8.toInt32))) 1 (vp_nar .byte ((v0 >>> 16).toInt8.toInt32))) 2 (vp_nar .byte ((v0 >>> 8).toInt8.toInt32))) 3 (vp_nar .byte ((v0 >>> 0).toInt8.toInt32)))))] := hD
  refine lv_aload_n hx hb dX12_four_22 rfl (lv_at hl 1 rfl) ?_
  refine lv_dup hx hb dX12_four_23 rfl ?_
  refine va_get (D := (dC, dI)) (ci := 11) (v := .int 3) (C := RX12) (T := TX12) (N := 31) hx hb (ly_X12 hE) (fun _ h9 => h9) hown hK hP 0 rfl rfl 10 (by decide) (wd_1391 hE) (fun _ h9 => h9) rfl dX12_four_24 ?_
  refine lv_iconst (v := 1) hx hb dX12_four_27 (by decide) ?_
  refine lv_iadd hx hb dX12_four_28 ?_
  refine W.eq (g2 := F0 m 29 ls [.int 4, .ref a0]) rfl ?_
  refine va_put (D := (dC, dI)) (ci := 11) (v := .int 4) (ty := .int) (C := RX12) (T := TX12) (N := 31) hx hb (ly_X12 hE) (fun _ h9 => h9) tyX12 tyX12_ok nmX12 hown hK hP hD hS 0 rfl rfl 10 (by decide) (wd_1391 hE) (fun _ h9 => h9) rfl (by decide +kernel) rfl rfl (Nat.le_of_ble_eq_true rfl) dX12_four_29 (fun H locs hP hD hS => ?_)
  have hP : va_P (dC, dI) vwCl [(a0, .inr (11, [.ref a1, .int 0, .int 0, .int 0, .ref a2, .int 0, .ref a3, .ref a4, .ref a5, .ref a6, .int 4, .int 0, .int 0, .int 0, .int 0, .int 0, .int 0, .int (-1), .int (-1), .int (-1), .int 0, .int 0, .int 0, .ref a7, .ref a8, .ref a9, .ref a10, .ref a11, .ref a12, .ref a13, .int 0])), (a5, .inl (k0, 700, .inl (upd (upd (upd (upd (fun _ => 0) 0 (vp_nar .byte ((v0 >>> 24).toInt8.toInt32))) 1 (vp_nar .byte ((v0 >>> 16).toInt8.toInt32))) 2 (vp_nar .byte ((v0 >>> 8).toInt8.toInt32))) 3 (vp_nar .byte ((v0 >>> 0).toInt8.toInt32)))))] H := hP
  have hD : va_D A [(a0, .inr (11, [.ref a1, .int 0, .int 0, .int 0, .ref a2, .int 0, .ref a3, .ref a4, .ref a5, .ref a6, .int 4, .int 0, .int 0, .int 0, .int 0, .int 0, .int 0, .int (-1), .int (-1), .int (-1), .int 0, .int 0, .int 0, .ref a7, .ref a8, .ref a9, .ref a10, .ref a11, .ref a12, .ref a13, .int 0])), (a5, .inl (k0, 700, .inl (upd (upd (upd (upd (fun _ => 0) 0 (vp_nar .byte ((v0 >>> 24).toInt8.toInt32))) 1 (vp_nar .byte ((v0 >>> 16).toInt8.toInt32))) 2 (vp_nar .byte ((v0 >>> 8).toInt8.toInt32))) 3 (vp_nar .byte ((v0 >>> 0).toInt8.toInt32)))))] := hD
  refine lv_iinc (v := -1) (lv' := [(2, .int (-1)), (0, .ref a0), (1, .int v0)]) hx hb dX12_four_32 hl (k := 0) rfl (by decide) (by decide) rfl (fun ls hl => ?_)
  refine lv_goto (tgt := 2) hx hb dX12_four_35 (by decide) ?_
  refine lv_iload_n hx hb dX12_four_2 rfl (lv_at hl 0 rfl) ?_
  refine lv_if_lt (tgt := 38) hx hb dX12_four_3 (by decide) (fun c9 => ?_) (fun c9 => absurd c9 (by decide))
  have hP9 := hP.sub (ws' := [(a0, .inr (11, [.ref a1, .int 0, .int 0, .int 0, .ref a2, .int 0, .ref a3, .ref a4, .ref a5, .ref a6, .int 4, .int 0, .int 0, .int 0, .int 0, .int 0, .int 0, .int (-1), .int (-1), .int (-1), .int 0, .int 0, .int 0, .ref a7, .ref a8, .ref a9, .ref a10, .ref a11, .ref a12, .ref a13, .int 0])), (a5, .inl (k0, 700, .inl (upd (upd (upd (upd (fun _ => 0) 0 (vp_nar .byte ((v0 >>> 24).toInt8.toInt32))) 1 (vp_nar .byte ((v0 >>> 16).toInt8.toInt32))) 2 (vp_nar .byte ((v0 >>> 8).toInt8.toInt32))) 3 (vp_nar .byte ((v0 >>> 0).toInt8.toInt32)))))]) [0, 1] rfl
  have hD9 := hD.sub (ws' := [(a0, .inr (11, [.ref a1, .int 0, .int 0, .int 0, .ref a2, .int 0, .ref a3, .ref a4, .ref a5, .ref a6, .int 4, .int 0, .int 0, .int 0, .int 0, .int 0, .int 0, .int (-1), .int (-1), .int (-1), .int 0, .int 0, .int 0, .ref a7, .ref a8, .ref a9, .ref a10, .ref a11, .ref a12, .ref a13, .int 0])), (a5, .inl (k0, 700, .inl (upd (upd (upd (upd (fun _ => 0) 0 (vp_nar .byte ((v0 >>> 24).toInt8.toInt32))) 1 (vp_nar .byte ((v0 >>> 16).toInt8.toInt32))) 2 (vp_nar .byte ((v0 >>> 8).toInt8.toInt32))) 3 (vp_nar .byte ((v0 >>> 0).toInt8.toInt32)))))]) [0, 1] (by decide) rfl
  have hK9 := hK.sub (tys' := []) [] rfl
  refine W.widen (k := 0) (n := 0) (Nat.le_of_ble_eq_true rfl) (Nat.le_of_ble_eq_true rfl) ?_
  exact W.vret hx hb hr (fun t ht hW => ⟨⟨(), rfl, trivial, by rw [ht]; exact hP9, va_K.moved hW.alike hK9, hD9⟩, hS.F ht⟩) hS.2.2 dX12_four_38

set_option maxHeartbeats 4000000 in
set_option maxRecDepth 100000 in
theorem c_X12_four_2 (l : Launch) (dC : Nat → ClassId) (dI : Nat → Nat → Nat) (sz : Nat)  (a0 a1 a2 a3 a4 a5 a6 a7 a8 a9 a10 a11 a12 a13 : Nat) (k0 : ClassId) (f0 : Nat → Int32) (v0 : Int32)  : Met l yX12_four [.code yX12_four cX12_four 3 none] ({ frames := 0, cells := 0, slots := 0, locals := 0 }) (PcE [.ref a0, .int v0] sz dC dI [(k0, .byte)] [(a0, .inr (11, [.ref a1, .int 0, .int 0, .int 0, .ref a2, .int 0, .ref a3, .ref a4, .ref a5, .ref a6, .int 4, .int 0, .int 0, .int 0, .int 0, .int 0, .int 0, .int (-1), .int (-1), .int (-1), .int 0, .int 0, .int 0, .ref a7, .ref a8, .ref a9, .ref a10, .ref a11, .ref a12, .ref a13, .int 0])), (a5, .inl (k0, 700, .inl f0))]) (va_Qv (fun (u : Unit) => True) (Bw dC dI (va_A [(a0, .inr (11, [.ref a1, .int 0, .int 0, .int 0, .ref a2, .int 0, .ref a3, .ref a4, .ref a5, .ref a6, .int 4, .int 0, .int 0, .int 0, .int 0, .int 0, .int 0, .int (-1), .int (-1), .int (-1), .int 0, .int 0, .int 0, .ref a7, .ref a8, .ref a9, .ref a10, .ref a11, .ref a12, .ref a13, .int 0])), (a5, .inl (k0, 700, .inl f0))] sz) (fun (u : Unit) => []) (fun (u : Unit) => [(a0, .inr (11, [.ref a1, .int 0, .int 0, .int 0, .ref a2, .int 0, .ref a3, .ref a4, .ref a5, .ref a6, .int 8, .int 0, .int 0, .int 0, .int 0, .int 0, .int 0, .int (-1), .int (-1), .int (-1), .int 0, .int 0, .int 0, .ref a7, .ref a8, .ref a9, .ref a10, .ref a11, .ref a12, .ref a13, .int 0])), (a5, .inl (k0, 700, .inl (upd (upd (upd (upd (f0) 4 (vp_nar .byte ((v0 >>> 24).toInt8.toInt32))) 5 (vp_nar .byte ((v0 >>> 16).toInt8.toInt32))) 6 (vp_nar .byte ((v0 >>> 8).toInt8.toInt32))) 7 (vp_nar .byte ((v0 >>> 0).toInt8.toInt32)))))])) (va_A [(a0, .inr (11, [.ref a1, .int 0, .int 0, .int 0, .ref a2, .int 0, .ref a3, .ref a4, .ref a5, .ref a6, .int 4, .int 0, .int 0, .int 0, .int 0, .int 0, .int 0, .int (-1), .int (-1), .int (-1), .int 0, .int 0, .int 0, .ref a7, .ref a8, .ref a9, .ref a10, .ref a11, .ref a12, .ref a13, .int 0])), (a5, .inl (k0, 700, .inl f0))] sz)) 0 0 (va_A [(a0, .inr (11, [.ref a1, .int 0, .int 0, .int 0, .ref a2, .int 0, .ref a3, .ref a4, .ref a5, .ref a6, .int 4, .int 0, .int 0, .int 0, .int 0, .int 0, .int 0, .int (-1), .int (-1), .int (-1), .int 0, .int 0, .int 0, .ref a7, .ref a8, .ref a9, .ref a10, .ref a11, .ref a12, .ref a13, .int 0])), (a5, .inl (k0, 700, .inl f0))] sz) := by
  refine Met.ofW (cc := cX12_four) (maxL := 3) (ret := none) (by decide) rfl ?_
  intro p e s m args below meth c s₁ B hml hv
  obtain ⟨rfl, hsz, hP, hK, hD0, hE⟩ := hv
  have hx := B.exec
  have hb := B.bytes
  have hr := B.returns
  have hown : s.vm.findClass RX12 = some m.cls := findClass_of_methodNamed B.named
  have hlocks := B.notSynchronized
  subst hsz
  have hD := hD0.self (sz := s.heap.size)
  generalize hAe : va_A [(a0, .inr (11, [.ref a1, .int 0, .int 0, .int 0, .ref a2, .int 0, .ref a3, .ref a4, .ref a5, .ref a6, .int 4, .int 0, .int 0, .int 0, .int 0, .int 0, .int 0, .int (-1), .int (-1), .int (-1), .int 0, .int 0, .int 0, .ref a7, .ref a8, .ref a9, .ref a10, .ref a11, .ref a12, .ref a13, .int 0])), (a5, .inl (k0, 700, .inl f0))] s.heap.size = A at hD ⊢
  have hA : ∀ q : Nat, s.heap.size ≤ q → A q := fun q h => by rw [← hAe]; exact Or.inr h
  have hS : va_S A s.heap s.heap [] := va_S.rf
  have hl := lv_entry ([.ref a0, .int v0]) (n := 3) (Nat.le_of_ble_eq_true rfl)
  rw [lg_entry_eq]
  generalize (lg_sl ([.ref a0, .int v0]) ++ List.replicate (3 - (lg_sl ([.ref a0, .int v0])).length) Slot.unset).toArray = ls at hl ⊢
  have hl : lv_has ls 3 [(0, .ref a0), (1, .int v0)] := hl
  refine lv_iconst (v := 3) hx hb dX12_four_0 (by decide) ?_
  refine lv_istore_n (lv' := [(2, .int 3), (0, .ref a0), (1, .int v0)]) hx hb dX12_four_1 rfl hl (by decide) rfl (fun ls hl => ?_)
  refine lv_iload_n hx hb dX12_four_2 rfl (lv_at hl 0 rfl) ?_
  refine lv_if_lt (tgt := 38) hx hb dX12_four_3 (by decide) (fun c1 => absurd c1 (by decide)) (fun c1 => ?_)
  refine lv_aload_n hx hb dX12_four_6 rfl (lv_at hl 1 rfl) ?_
  refine va_get (D := (dC, dI)) (ci := 11) (v := .ref a5) (C := RX12) (T := TX12) (N := 31) hx hb (ly_X12 hE) (fun _ h9 => h9) hown hK hP 0 rfl rfl 8 (by decide) (wd_1389 hE) (fun _ h9 => h9) rfl dX12_four_7 ?_
  refine lv_aload_n hx hb dX12_four_10 rfl (lv_at hl 1 rfl) ?_
  refine va_get (D := (dC, dI)) (ci := 11) (v := .int 4) (C := RX12) (T := TX12) (N := 31) hx hb (ly_X12 hE) (fun _ h9 => h9) hown hK hP 0 rfl rfl 10 (by decide) (wd_1391 hE) (fun _ h9 => h9) rfl dX12_four_11 ?_
  refine lv_iload_n hx hb dX12_four_14 rfl (lv_at hl 2 rfl) ?_
  refine lv_bipush (v := 8) hx hb dX12_four_15 (by decide) ?_
  refine lv_iload_n hx hb dX12_four_17 rfl (lv_at hl 0 rfl) ?_
  refine lv_imul hx hb dX12_four_18 ?_
  refine W.eq (g2 := F0 m 19 ls [.int 24, .int v0, .int 4, .ref a5]) rfl ?_
  refine lv_ishr hx hb dX12_four_19 ?_
  refine lv_i2b hx hb dX12_four_20 rfl ?_
  refine va_bast hx hb hK hP hD hS 1 0 rfl rfl (by unfold vp_in; decide) dX12_four_21 (fun H locs hP hD hS => ?_)
  have hP : va_P (dC, dI) vwCl [(a0, .inr (11, [.ref a1, .int 0, .int 0, .int 0, .ref a2, .int 0, .ref a3, .ref a4, .ref a5, .ref a6, .int 4, .int 0, .int 0, .int 0, .int 0, .int 0, .int 0, .int (-1), .int (-1), .int (-1), .int 0, .int 0, .int 0, .ref a7, .ref a8, .ref a9, .ref a10, .ref a11, .ref a12, .ref a13, .int 0])), (a5, .inl (k0, 700, .inl (upd (f0) 4 (vp_nar .byte ((v0 >>> 24).toInt8.toInt32)))))] H := hP
  have hD : va_D A [(a0, .inr (11, [.ref a1, .int 0, .int 0, .int 0, .ref a2, .int 0, .ref a3, .ref a4, .ref a5, .ref a6, .int 4, .int 0, .int 0, .int 0, .int 0, .int 0, .int 0, .int (-1), .int (-1), .int (-1), .int 0, .int 0, .int 0, .ref a7, .ref a8, .ref a9, .ref a10, .ref a11, .ref a12, .ref a13, .int 0])), (a5, .inl (k0, 700, .inl (upd (f0) 4 (vp_nar .byte ((v0 >>> 24).toInt8.toInt32)))))] := hD
  refine lv_aload_n hx hb dX12_four_22 rfl (lv_at hl 1 rfl) ?_
  refine lv_dup hx hb dX12_four_23 rfl ?_
  refine va_get (D := (dC, dI)) (ci := 11) (v := .int 4) (C := RX12) (T := TX12) (N := 31) hx hb (ly_X12 hE) (fun _ h9 => h9) hown hK hP 0 rfl rfl 10 (by decide) (wd_1391 hE) (fun _ h9 => h9) rfl dX12_four_24 ?_
  refine lv_iconst (v := 1) hx hb dX12_four_27 (by decide) ?_
  refine lv_iadd hx hb dX12_four_28 ?_
  refine W.eq (g2 := F0 m 29 ls [.int 5, .ref a0]) rfl ?_
  refine va_put (D := (dC, dI)) (ci := 11) (v := .int 5) (ty := .int) (C := RX12) (T := TX12) (N := 31) hx hb (ly_X12 hE) (fun _ h9 => h9) tyX12 tyX12_ok nmX12 hown hK hP hD hS 0 rfl rfl 10 (by decide) (wd_1391 hE) (fun _ h9 => h9) rfl (by decide +kernel) rfl rfl (Nat.le_of_ble_eq_true rfl) dX12_four_29 (fun H locs hP hD hS => ?_)
  have hP : va_P (dC, dI) vwCl [(a0, .inr (11, [.ref a1, .int 0, .int 0, .int 0, .ref a2, .int 0, .ref a3, .ref a4, .ref a5, .ref a6, .int 5, .int 0, .int 0, .int 0, .int 0, .int 0, .int 0, .int (-1), .int (-1), .int (-1), .int 0, .int 0, .int 0, .ref a7, .ref a8, .ref a9, .ref a10, .ref a11, .ref a12, .ref a13, .int 0])), (a5, .inl (k0, 700, .inl (upd (f0) 4 (vp_nar .byte ((v0 >>> 24).toInt8.toInt32)))))] H := hP
  have hD : va_D A [(a0, .inr (11, [.ref a1, .int 0, .int 0, .int 0, .ref a2, .int 0, .ref a3, .ref a4, .ref a5, .ref a6, .int 5, .int 0, .int 0, .int 0, .int 0, .int 0, .int 0, .int (-1), .int (-1), .int (-1), .int 0, .int 0, .int 0, .ref a7, .ref a8, .ref a9, .ref a10, .ref a11, .ref a12, .ref a13, .int 0])), (a5, .inl (k0, 700, .inl (upd (f0) 4 (vp_nar .byte ((v0 >>> 24).toInt8.toInt32)))))] := hD
  refine lv_iinc (v := 2) (lv' := [(2, .int 2), (0, .ref a0), (1, .int v0)]) hx hb dX12_four_32 hl (k := 0) rfl (by decide) (by decide) rfl (fun ls hl => ?_)
  refine lv_goto (tgt := 2) hx hb dX12_four_35 (by decide) ?_
  refine lv_iload_n hx hb dX12_four_2 rfl (lv_at hl 0 rfl) ?_
  refine lv_if_lt (tgt := 38) hx hb dX12_four_3 (by decide) (fun c3 => absurd c3 (by decide)) (fun c3 => ?_)
  refine lv_aload_n hx hb dX12_four_6 rfl (lv_at hl 1 rfl) ?_
  refine va_get (D := (dC, dI)) (ci := 11) (v := .ref a5) (C := RX12) (T := TX12) (N := 31) hx hb (ly_X12 hE) (fun _ h9 => h9) hown hK hP 0 rfl rfl 8 (by decide) (wd_1389 hE) (fun _ h9 => h9) rfl dX12_four_7 ?_
  refine lv_aload_n hx hb dX12_four_10 rfl (lv_at hl 1 rfl) ?_
  refine va_get (D := (dC, dI)) (ci := 11) (v := .int 5) (C := RX12) (T := TX12) (N := 31) hx hb (ly_X12 hE) (fun _ h9 => h9) hown hK hP 0 rfl rfl 10 (by decide) (wd_1391 hE) (fun _ h9 => h9) rfl dX12_four_11 ?_
  refine lv_iload_n hx hb dX12_four_14 rfl (lv_at hl 2 rfl) ?_
  refine lv_bipush (v := 8) hx hb dX12_four_15 (by decide) ?_
  refine lv_iload_n hx hb dX12_four_17 rfl (lv_at hl 0 rfl) ?_
  refine lv_imul hx hb dX12_four_18 ?_
  refine W.eq (g2 := F0 m 19 ls [.int 16, .int v0, .int 5, .ref a5]) rfl ?_
  refine lv_ishr hx hb dX12_four_19 ?_
  refine lv_i2b hx hb dX12_four_20 rfl ?_
  refine va_bast hx hb hK hP hD hS 1 0 rfl rfl (by unfold vp_in; decide) dX12_four_21 (fun H locs hP hD hS => ?_)
  have hP : va_P (dC, dI) vwCl [(a0, .inr (11, [.ref a1, .int 0, .int 0, .int 0, .ref a2, .int 0, .ref a3, .ref a4, .ref a5, .ref a6, .int 5, .int 0, .int 0, .int 0, .int 0, .int 0, .int 0, .int (-1), .int (-1), .int (-1), .int 0, .int 0, .int 0, .ref a7, .ref a8, .ref a9, .ref a10, .ref a11, .ref a12, .ref a13, .int 0])), (a5, .inl (k0, 700, .inl (upd (upd (f0) 4 (vp_nar .byte ((v0 >>> 24).toInt8.toInt32))) 5 (vp_nar .byte ((v0 >>> 16).toInt8.toInt32)))))] H := hP
  have hD : va_D A [(a0, .inr (11, [.ref a1, .int 0, .int 0, .int 0, .ref a2, .int 0, .ref a3, .ref a4, .ref a5, .ref a6, .int 5, .int 0, .int 0, .int 0, .int 0, .int 0, .int 0, .int (-1), .int (-1), .int (-1), .int 0, .int 0, .int 0, .ref a7, .ref a8, .ref a9, .ref a10, .ref a11, .ref a12, .ref a13, .int 0])), (a5, .inl (k0, 700, .inl (upd (upd (f0) 4 (vp_nar .byte ((v0 >>> 24).toInt8.toInt32))) 5 (vp_nar .byte ((v0 >>> 16).toInt8.toInt32)))))] := hD
  refine lv_aload_n hx hb dX12_four_22 rfl (lv_at hl 1 rfl) ?_
  refine lv_dup hx hb dX12_four_23 rfl ?_
  refine va_get (D := (dC, dI)) (ci := 11) (v := .int 5) (C := RX12) (T := TX12) (N := 31) hx hb (ly_X12 hE) (fun _ h9 => h9) hown hK hP 0 rfl rfl 10 (by decide) (wd_1391 hE) (fun _ h9 => h9) rfl dX12_four_24 ?_
  refine lv_iconst (v := 1) hx hb dX12_four_27 (by decide) ?_
  refine lv_iadd hx hb dX12_four_28 ?_
  refine W.eq (g2 := F0 m 29 ls [.int 6, .ref a0]) rfl ?_
  refine va_put (D := (dC, dI)) (ci := 11) (v := .int 6) (ty := .int) (C := RX12) (T := TX12) (N := 31) hx hb (ly_X12 hE) (fun _ h9 => h9) tyX12 tyX12_ok nmX12 hown hK hP hD hS 0 rfl rfl 10 (by decide) (wd_1391 hE) (fun _ h9 => h9) rfl (by decide +kernel) rfl rfl (Nat.le_of_ble_eq_true rfl) dX12_four_29 (fun H locs hP hD hS => ?_)
  have hP : va_P (dC, dI) vwCl [(a0, .inr (11, [.ref a1, .int 0, .int 0, .int 0, .ref a2, .int 0, .ref a3, .ref a4, .ref a5, .ref a6, .int 6, .int 0, .int 0, .int 0, .int 0, .int 0, .int 0, .int (-1), .int (-1), .int (-1), .int 0, .int 0, .int 0, .ref a7, .ref a8, .ref a9, .ref a10, .ref a11, .ref a12, .ref a13, .int 0])), (a5, .inl (k0, 700, .inl (upd (upd (f0) 4 (vp_nar .byte ((v0 >>> 24).toInt8.toInt32))) 5 (vp_nar .byte ((v0 >>> 16).toInt8.toInt32)))))] H := hP
  have hD : va_D A [(a0, .inr (11, [.ref a1, .int 0, .int 0, .int 0, .ref a2, .int 0, .ref a3, .ref a4, .ref a5, .ref a6, .int 6, .int 0, .int 0, .int 0, .int 0, .int 0, .int 0, .int (-1), .int (-1), .int (-1), .int 0, .int 0, .int 0, .ref a7, .ref a8, .ref a9, .ref a10, .ref a11, .ref a12, .ref a13, .int 0])), (a5, .inl (k0, 700, .inl (upd (upd (f0) 4 (vp_nar .byte ((v0 >>> 24).toInt8.toInt32))) 5 (vp_nar .byte ((v0 >>> 16).toInt8.toInt32)))))] := hD
  refine lv_iinc (v := 1) (lv' := [(2, .int 1), (0, .ref a0), (1, .int v0)]) hx hb dX12_four_32 hl (k := 0) rfl (by decide) (by decide) rfl (fun ls hl => ?_)
  refine lv_goto (tgt := 2) hx hb dX12_four_35 (by decide) ?_
  refine lv_iload_n hx hb dX12_four_2 rfl (lv_at hl 0 rfl) ?_
  refine lv_if_lt (tgt := 38) hx hb dX12_four_3 (by decide) (fun c5 => absurd c5 (by decide)) (fun c5 => ?_)
  refine lv_aload_n hx hb dX12_four_6 rfl (lv_at hl 1 rfl) ?_
  refine va_get (D := (dC, dI)) (ci := 11) (v := .ref a5) (C := RX12) (T := TX12) (N := 31) hx hb (ly_X12 hE) (fun _ h9 => h9) hown hK hP 0 rfl rfl 8 (by decide) (wd_1389 hE) (fun _ h9 => h9) rfl dX12_four_7 ?_
  refine lv_aload_n hx hb dX12_four_10 rfl (lv_at hl 1 rfl) ?_
  refine va_get (D := (dC, dI)) (ci := 11) (v := .int 6) (C := RX12) (T := TX12) (N := 31) hx hb (ly_X12 hE) (fun _ h9 => h9) hown hK hP 0 rfl rfl 10 (by decide) (wd_1391 hE) (fun _ h9 => h9) rfl dX12_four_11 ?_
  refine lv_iload_n hx hb dX12_four_14 rfl (lv_at hl 2 rfl) ?_
  refine lv_bipush (v := 8) hx hb dX12_four_15 (by decide) ?_
  refine lv_iload_n hx hb dX12_four_17 rfl (lv_at hl 0 rfl) ?_
  refine lv_imul hx hb dX12_four_18 ?_
  refine W.eq (g2 := F0 m 19 ls [.int 8, .int v0, .int 6, .ref a5]) rfl ?_
  refine lv_ishr hx hb dX12_four_19 ?_
  refine lv_i2b hx hb dX12_four_20 rfl ?_
  refine va_bast hx hb hK hP hD hS 1 0 rfl rfl (by unfold vp_in; decide) dX12_four_21 (fun H locs hP hD hS => ?_)
  have hP : va_P (dC, dI) vwCl [(a0, .inr (11, [.ref a1, .int 0, .int 0, .int 0, .ref a2, .int 0, .ref a3, .ref a4, .ref a5, .ref a6, .int 6, .int 0, .int 0, .int 0, .int 0, .int 0, .int 0, .int (-1), .int (-1), .int (-1), .int 0, .int 0, .int 0, .ref a7, .ref a8, .ref a9, .ref a10, .ref a11, .ref a12, .ref a13, .int 0])), (a5, .inl (k0, 700, .inl (upd (upd (upd (f0) 4 (vp_nar .byte ((v0 >>> 24).toInt8.toInt32))) 5 (vp_nar .byte ((v0 >>> 16).toInt8.toInt32))) 6 (vp_nar .byte ((v0 >>> 8).toInt8.toInt32)))))] H := hP
  have hD : va_D A [(a0, .inr (11, [.ref a1, .int 0, .int 0, .int 0, .ref a2, .int 0, .ref a3, .ref a4, .ref a5, .ref a6, .int 6, .int 0, .int 0, .int 0, .int 0, .int 0, .int 0, .int (-1), .int (-1), .int (-1), .int 0, .int 0, .int 0, .ref a7, .ref a8, .ref a9, .ref a10, .ref a11, .ref a12, .ref a13, .int 0])), (a5, .inl (k0, 700, .inl (upd (upd (upd (f0) 4 (vp_nar .byte ((v0 >>> 24).toInt8.toInt32))) 5 (vp_nar .byte ((v0 >>> 16).toInt8.toInt32))) 6 (vp_nar .byte ((v0 >>> 8).toInt8.toInt32)))))] := hD
  refine lv_aload_n hx hb dX12_four_22 rfl (lv_at hl 1 rfl) ?_
  refine lv_dup hx hb dX12_four_23 rfl ?_
  refine va_get (D := (dC, dI)) (ci := 11) (v := .int 6) (C := RX12) (T := TX12) (N := 31) hx hb (ly_X12 hE) (fun _ h9 => h9) hown hK hP 0 rfl rfl 10 (by decide) (wd_1391 hE) (fun _ h9 => h9) rfl dX12_four_24 ?_
  refine lv_iconst (v := 1) hx hb dX12_four_27 (by decide) ?_
  refine lv_iadd hx hb dX12_four_28 ?_
  refine W.eq (g2 := F0 m 29 ls [.int 7, .ref a0]) rfl ?_
  refine va_put (D := (dC, dI)) (ci := 11) (v := .int 7) (ty := .int) (C := RX12) (T := TX12) (N := 31) hx hb (ly_X12 hE) (fun _ h9 => h9) tyX12 tyX12_ok nmX12 hown hK hP hD hS 0 rfl rfl 10 (by decide) (wd_1391 hE) (fun _ h9 => h9) rfl (by decide +kernel) rfl rfl (Nat.le_of_ble_eq_true rfl) dX12_four_29 (fun H locs hP hD hS => ?_)
  have hP : va_P (dC, dI) vwCl [(a0, .inr (11, [.ref a1, .int 0, .int 0, .int 0, .ref a2, .int 0, .ref a3, .ref a4, .ref a5, .ref a6, .int 7, .int 0, .int 0, .int 0, .int 0, .int 0, .int 0, .int (-1), .int (-1), .int (-1), .int 0, .int 0, .int 0, .ref a7, .ref a8, .ref a9, .ref a10, .ref a11, .ref a12, .ref a13, .int 0])), (a5, .inl (k0, 700, .inl (upd (upd (upd (f0) 4 (vp_nar .byte ((v0 >>> 24).toInt8.toInt32))) 5 (vp_nar .byte ((v0 >>> 16).toInt8.toInt32))) 6 (vp_nar .byte ((v0 >>> 8).toInt8.toInt32)))))] H := hP
  have hD : va_D A [(a0, .inr (11, [.ref a1, .int 0, .int 0, .int 0, .ref a2, .int 0, .ref a3, .ref a4, .ref a5, .ref a6, .int 7, .int 0, .int 0, .int 0, .int 0, .int 0, .int 0, .int (-1), .int (-1), .int (-1), .int 0, .int 0, .int 0, .ref a7, .ref a8, .ref a9, .ref a10, .ref a11, .ref a12, .ref a13, .int 0])), (a5, .inl (k0, 700, .inl (upd (upd (upd (f0) 4 (vp_nar .byte ((v0 >>> 24).toInt8.toInt32))) 5 (vp_nar .byte ((v0 >>> 16).toInt8.toInt32))) 6 (vp_nar .byte ((v0 >>> 8).toInt8.toInt32)))))] := hD
  refine lv_iinc (v := 0) (lv' := [(2, .int 0), (0, .ref a0), (1, .int v0)]) hx hb dX12_four_32 hl (k := 0) rfl (by decide) (by decide) rfl (fun ls hl => ?_)
  refine lv_goto (tgt := 2) hx hb dX12_four_35 (by decide) ?_
  refine lv_iload_n hx hb dX12_four_2 rfl (lv_at hl 0 rfl) ?_
  refine lv_if_lt (tgt := 38) hx hb dX12_four_3 (by decide) (fun c7 => absurd c7 (by decide)) (fun c7 => ?_)
  refine lv_aload_n hx hb dX12_four_6 rfl (lv_at hl 1 rfl) ?_
  refine va_get (D := (dC, dI)) (ci := 11) (v := .ref a5) (C := RX12) (T := TX12) (N := 31) hx hb (ly_X12 hE) (fun _ h9 => h9) hown hK hP 0 rfl rfl 8 (by decide) (wd_1389 hE) (fun _ h9 => h9) rfl dX12_four_7 ?_
  refine lv_aload_n hx hb dX12_four_10 rfl (lv_at hl 1 rfl) ?_
  refine va_get (D := (dC, dI)) (ci := 11) (v := .int 7) (C := RX12) (T := TX12) (N := 31) hx hb (ly_X12 hE) (fun _ h9 => h9) hown hK hP 0 rfl rfl 10 (by decide) (wd_1391 hE) (fun _ h9 => h9) rfl dX12_four_11 ?_
  refine lv_iload_n hx hb dX12_four_14 rfl (lv_at hl 2 rfl) ?_
  refine lv_bipush (v := 8) hx hb dX12_four_15 (by decide) ?_
  refine lv_iload_n hx hb dX12_four_17 rfl (lv_at hl 0 rfl) ?_
  refine lv_imul hx hb dX12_four_18 ?_
  refine W.eq (g2 := F0 m 19 ls [.int 0, .int v0, .int 7, .ref a5]) rfl ?_
  refine lv_ishr hx hb dX12_four_19 ?_
  refine lv_i2b hx hb dX12_four_20 rfl ?_
  refine va_bast hx hb hK hP hD hS 1 0 rfl rfl (by unfold vp_in; decide) dX12_four_21 (fun H locs hP hD hS => ?_)
  have hP : va_P (dC, dI) vwCl [(a0, .inr (11, [.ref a1, .int 0, .int 0, .int 0, .ref a2, .int 0, .ref a3, .ref a4, .ref a5, .ref a6, .int 7, .int 0, .int 0, .int 0, .int 0, .int 0, .int 0, .int (-1), .int (-1), .int (-1), .int 0, .int 0, .int 0, .ref a7, .ref a8, .ref a9, .ref a10, .ref a11, .ref a12, .ref a13, .int 0])), (a5, .inl (k0, 700, .inl (upd (upd (upd (upd (f0) 4 (vp_nar .byte ((v0 >>> 24).toInt8.toInt32))) 5 (vp_nar .byte ((v0 >>> 16).toInt8.toInt32))) 6 (vp_nar .byte ((v0 >>> 8).toInt8.toInt32))) 7 (vp_nar .byte ((v0 >>> 0).toInt8.toInt32)))))] H := hP
  have hD : va_D A [(a0, .inr (11, [.ref a1, .int 0, .int 0, .int 0, .ref a2, .int 0, .ref a3, .ref a4, .ref a5, .ref a6, .int 7, .int 0, .int 0, .int 0, .int 0, .int 0, .int 0, .int (-1), .int (-1), .int (-1), .int 0, .int 0, .int 0, .ref a7, .ref a8, .ref a9, .ref a10, .ref a11, .ref a12, .ref a13, .int 0])), (a5, .inl (k0, 700, .inl (upd (upd (upd (upd (f0) 4 (vp_nar .byte ((v0 >>> 24).toInt8.toInt32))) 5 (vp_nar .byte ((v0 >>> 16).toInt8.toInt32))) 6 (vp_nar .byte ((v0 >>> 8).toInt8.toInt32))) 7 (vp_nar .byte ((v0 >>> 0).toInt8.toInt32)))))] := hD
  refine lv_aload_n hx hb dX12_four_22 rfl (lv_at hl 1 rfl) ?_
  refine lv_dup hx hb dX12_four_23 rfl ?_
  refine va_get (D := (dC, dI)) (ci := 11) (v := .int 7) (C := RX12) (T := TX12) (N := 31) hx hb (ly_X12 hE) (fun _ h9 => h9) hown hK hP 0 rfl rfl 10 (by decide) (wd_1391 hE) (fun _ h9 => h9) rfl dX12_four_24 ?_
  refine lv_iconst (v := 1) hx hb dX12_four_27 (by decide) ?_
  refine lv_iadd hx hb dX12_four_28 ?_
  refine W.eq (g2 := F0 m 29 ls [.int 8, .ref a0]) rfl ?_
  refine va_put (D := (dC, dI)) (ci := 11) (v := .int 8) (ty := .int) (C := RX12) (T := TX12) (N := 31) hx hb (ly_X12 hE) (fun _ h9 => h9) tyX12 tyX12_ok nmX12 hown hK hP hD hS 0 rfl rfl 10 (by decide) (wd_1391 hE) (fun _ h9 => h9) rfl (by decide +kernel) rfl rfl (Nat.le_of_ble_eq_true rfl) dX12_four_29 (fun H locs hP hD hS => ?_)
  have hP : va_P (dC, dI) vwCl [(a0, .inr (11, [.ref a1, .int 0, .int 0, .int 0, .ref a2, .int 0, .ref a3, .ref a4, .ref a5, .ref a6, .int 8, .int 0, .int 0, .int 0, .int 0, .int 0, .int 0, .int (-1), .int (-1), .int (-1), .int 0, .int 0, .int 0, .ref a7, .ref a8, .ref a9, .ref a10, .ref a11, .ref a12, .ref a13, .int 0])), (a5, .inl (k0, 700, .inl (upd (upd (upd (upd (f0) 4 (vp_nar .byte ((v0 >>> 24).toInt8.toInt32))) 5 (vp_nar .byte ((v0 >>> 16).toInt8.toInt32))) 6 (vp_nar .byte ((v0 >>> 8).toInt8.toInt32))) 7 (vp_nar .byte ((v0 >>> 0).toInt8.toInt32)))))] H := hP
  have hD : va_D A [(a0, .inr (11, [.ref a1, .int 0, .int 0, .int 0, .ref a2, .int 0, .ref a3, .ref a4, .ref a5, .ref a6, .int 8, .int 0, .int 0, .int 0, .int 0, .int 0, .int 0, .int (-1), .int (-1), .int (-1), .int 0, .int 0, .int 0, .ref a7, .ref a8, .ref a9, .ref a10, .ref a11, .ref a12, .ref a13, .int 0])), (a5, .inl (k0, 700, .inl (upd (upd (upd (upd (f0) 4 (vp_nar .byte ((v0 >>> 24).toInt8.toInt32))) 5 (vp_nar .byte ((v0 >>> 16).toInt8.toInt32))) 6 (vp_nar .byte ((v0 >>> 8).toInt8.toInt32))) 7 (vp_nar .byte ((v0 >>> 0).toInt8.toInt32)))))] := hD
  refine lv_iinc (v := -1) (lv' := [(2, .int (-1)), (0, .ref a0), (1, .int v0)]) hx hb dX12_four_32 hl (k := 0) rfl (by decide) (by decide) rfl (fun ls hl => ?_)
  refine lv_goto (tgt := 2) hx hb dX12_four_35 (by decide) ?_
  refine lv_iload_n hx hb dX12_four_2 rfl (lv_at hl 0 rfl) ?_
  refine lv_if_lt (tgt := 38) hx hb dX12_four_3 (by decide) (fun c9 => ?_) (fun c9 => absurd c9 (by decide))
  have hP9 := hP.sub (ws' := [(a0, .inr (11, [.ref a1, .int 0, .int 0, .int 0, .ref a2, .int 0, .ref a3, .ref a4, .ref a5, .ref a6, .int 8, .int 0, .int 0, .int 0, .int 0, .int 0, .int 0, .int (-1), .int (-1), .int (-1), .int 0, .int 0, .int 0, .ref a7, .ref a8, .ref a9, .ref a10, .ref a11, .ref a12, .ref a13, .int 0])), (a5, .inl (k0, 700, .inl (upd (upd (upd (upd (f0) 4 (vp_nar .byte ((v0 >>> 24).toInt8.toInt32))) 5 (vp_nar .byte ((v0 >>> 16).toInt8.toInt32))) 6 (vp_nar .byte ((v0 >>> 8).toInt8.toInt32))) 7 (vp_nar .byte ((v0 >>> 0).toInt8.toInt32)))))]) [0, 1] rfl
  have hD9 := hD.sub (ws' := [(a0, .inr (11, [.ref a1, .int 0, .int 0, .int 0, .ref a2, .int 0, .ref a3, .ref a4, .ref a5, .ref a6, .int 8, .int 0, .int 0, .int 0, .int 0, .int 0, .int 0, .int (-1), .int (-1), .int (-1), .int 0, .int 0, .int 0, .ref a7, .ref a8, .ref a9, .ref a10, .ref a11, .ref a12, .ref a13, .int 0])), (a5, .inl (k0, 700, .inl (upd (upd (upd (upd (f0) 4 (vp_nar .byte ((v0 >>> 24).toInt8.toInt32))) 5 (vp_nar .byte ((v0 >>> 16).toInt8.toInt32))) 6 (vp_nar .byte ((v0 >>> 8).toInt8.toInt32))) 7 (vp_nar .byte ((v0 >>> 0).toInt8.toInt32)))))]) [0, 1] (by decide) rfl
  have hK9 := hK.sub (tys' := []) [] rfl
  refine W.widen (k := 0) (n := 0) (Nat.le_of_ble_eq_true rfl) (Nat.le_of_ble_eq_true rfl) ?_
  exact W.vret hx hb hr (fun t ht hW => ⟨⟨(), rfl, trivial, by rw [ht]; exact hP9, va_K.moved hW.alike hK9, hD9⟩, hS.F ht⟩) hS.2.2 dX12_four_38

set_option maxHeartbeats 4000000 in
set_option maxRecDepth 100000 in
theorem c_X12_four_3 (l : Launch) (dC : Nat → ClassId) (dI : Nat → Nat → Nat) (sz : Nat)  (a0 a1 a2 a3 a4 a5 a6 a7 a8 a9 a10 a11 a12 a13 : Nat) (k0 : ClassId) (f0 : Nat → Int32) (v0 : Int32)  : Met l yX12_four [.code yX12_four cX12_four 3 none] ({ frames := 0, cells := 0, slots := 0, locals := 0 }) (PcE [.ref a0, .int v0] sz dC dI [(k0, .byte)] [(a0, .inr (11, [.ref a1, .int 0, .int 0, .int 0, .ref a2, .int 0, .ref a3, .ref a4, .ref a5, .ref a6, .int 8, .int 0, .int 0, .int 0, .int 0, .int 0, .int 0, .int (-1), .int (-1), .int (-1), .int 0, .int 0, .int 0, .ref a7, .ref a8, .ref a9, .ref a10, .ref a11, .ref a12, .ref a13, .int 0])), (a5, .inl (k0, 700, .inl f0))]) (va_Qv (fun (u : Unit) => True) (Bw dC dI (va_A [(a0, .inr (11, [.ref a1, .int 0, .int 0, .int 0, .ref a2, .int 0, .ref a3, .ref a4, .ref a5, .ref a6, .int 8, .int 0, .int 0, .int 0, .int 0, .int 0, .int 0, .int (-1), .int (-1), .int (-1), .int 0, .int 0, .int 0, .ref a7, .ref a8, .ref a9, .ref a10, .ref a11, .ref a12, .ref a13, .int 0])), (a5, .inl (k0, 700, .inl f0))] sz) (fun (u : Unit) => []) (fun (u : Unit) => [(a0, .inr (11, [.ref a1, .int 0, .int 0, .int 0, .ref a2, .int 0, .ref a3, .ref a4, .ref a5, .ref a6, .int 12, .int 0, .int 0, .int 0, .int 0, .int 0, .int 0, .int (-1), .int (-1), .int (-1), .int 0, .int 0, .int 0, .ref a7, .ref a8, .ref a9, .ref a10, .ref a11, .ref a12, .ref a13, .int 0])), (a5, .inl (k0, 700, .inl (upd (upd (upd (upd (f0) 8 (vp_nar .byte ((v0 >>> 24).toInt8.toInt32))) 9 (vp_nar .byte ((v0 >>> 16).toInt8.toInt32))) 10 (vp_nar .byte ((v0 >>> 8).toInt8.toInt32))) 11 (vp_nar .byte ((v0 >>> 0).toInt8.toInt32)))))])) (va_A [(a0, .inr (11, [.ref a1, .int 0, .int 0, .int 0, .ref a2, .int 0, .ref a3, .ref a4, .ref a5, .ref a6, .int 8, .int 0, .int 0, .int 0, .int 0, .int 0, .int 0, .int (-1), .int (-1), .int (-1), .int 0, .int 0, .int 0, .ref a7, .ref a8, .ref a9, .ref a10, .ref a11, .ref a12, .ref a13, .int 0])), (a5, .inl (k0, 700, .inl f0))] sz)) 0 0 (va_A [(a0, .inr (11, [.ref a1, .int 0, .int 0, .int 0, .ref a2, .int 0, .ref a3, .ref a4, .ref a5, .ref a6, .int 8, .int 0, .int 0, .int 0, .int 0, .int 0, .int 0, .int (-1), .int (-1), .int (-1), .int 0, .int 0, .int 0, .ref a7, .ref a8, .ref a9, .ref a10, .ref a11, .ref a12, .ref a13, .int 0])), (a5, .inl (k0, 700, .inl f0))] sz) := by
  refine Met.ofW (cc := cX12_four) (maxL := 3) (ret := none) (by decide) rfl ?_
  intro p e s m args below meth c s₁ B hml hv
  obtain ⟨rfl, hsz, hP, hK, hD0, hE⟩ := hv
  have hx := B.exec
  have hb := B.bytes
  have hr := B.returns
  have hown : s.vm.findClass RX12 = some m.cls := findClass_of_methodNamed B.named
  have hlocks := B.notSynchronized
  subst hsz
  have hD := hD0.self (sz := s.heap.size)
  generalize hAe : va_A [(a0, .inr (11, [.ref a1, .int 0, .int 0, .int 0, .ref a2, .int 0, .ref a3, .ref a4, .ref a5, .ref a6, .int 8, .int 0, .int 0, .int 0, .int 0, .int 0, .int 0, .int (-1), .int (-1), .int (-1), .int 0, .int 0, .int 0, .ref a7, .ref a8, .ref a9, .ref a10, .ref a11, .ref a12, .ref a13, .int 0])), (a5, .inl (k0, 700, .inl f0))] s.heap.size = A at hD ⊢
  have hA : ∀ q : Nat, s.heap.size ≤ q → A q := fun q h => by rw [← hAe]; exact Or.inr h
  have hS : va_S A s.heap s.heap [] := va_S.rf
  have hl := lv_entry ([.ref a0, .int v0]) (n := 3) (Nat.le_of_ble_eq_true rfl)
  rw [lg_entry_eq]
  generalize (lg_sl ([.ref a0, .int v0]) ++ List.replicate (3 - (lg_sl ([.ref a0, .int v0])).length) Slot.unset).toArray = ls at hl ⊢
  have hl : lv_has ls 3 [(0, .ref a0), (1, .int v0)] := hl
  refine lv_iconst (v := 3) hx hb dX12_four_0 (by decide) ?_
  refine lv_istore_n (lv' := [(2, .int 3), (0, .ref a0), (1, .int v0)]) hx hb dX12_four_1 rfl hl (by decide) rfl (fun ls hl => ?_)
  refine lv_iload_n hx hb dX12_four_2 rfl (lv_at hl 0 rfl) ?_
  refine lv_if_lt (tgt := 38) hx hb dX12_four_3 (by decide) (fun c1 => absurd c1 (by decide)) (fun c1 => ?_)
  refine lv_aload_n hx hb dX12_four_6 rfl (lv_at hl 1 rfl) ?_
  refine va_get (D := (dC, dI)) (ci := 11) (v := .ref a5) (C := RX12) (T := TX12) (N := 31) hx hb (ly_X12 hE) (fun _ h9 => h9) hown hK hP 0 rfl rfl 8 (by decide) (wd_1389 hE) (fun _ h9 => h9) rfl dX12_four_7 ?_
  refine lv_aload_n hx hb dX12_four_10 rfl (lv_at hl 1 rfl) ?_
  refine va_get (D := (dC, dI)) (ci := 11) (v := .int 8) (C := RX12) (T := TX12) (N := 31) hx hb (ly_X12 hE) (fun _ h9 => h9) hown hK hP 0 rfl rfl 10 (by decide) (wd_1391 hE) (fun _ h9 => h9) rfl dX12_four_11 ?_
  refine lv_iload_n hx hb dX12_four_14 rfl (lv_at hl 2 rfl) ?_
  refine lv_bipush (v := 8) hx hb dX12_four_15 (by decide) ?_
  refine lv_iload_n hx hb dX12_four_17 rfl (lv_at hl 0 rfl) ?_
  refine lv_imul hx hb dX12_four_18 ?_
  refine W.eq (g2 := F0 m 19 ls [.int 24, .int v0, .int 8, .ref a5]) rfl ?_
  refine lv_ishr hx hb dX12_four_19 ?_
  refine lv_i2b hx hb dX12_four_20 rfl ?_
  refine va_bast hx hb hK hP hD hS 1 0 rfl rfl (by unfold vp_in; decide) dX12_four_21 (fun H locs hP hD hS => ?_)
  have hP : va_P (dC, dI) vwCl [(a0, .inr (11, [.ref a1, .int 0, .int 0, .int 0, .ref a2, .int 0, .ref a3, .ref a4, .ref a5, .ref a6, .int 8, .int 0, .int 0, .int 0, .int 0, .int 0, .int 0, .int (-1), .int (-1), .int (-1), .int 0, .int 0, .int 0, .ref a7, .ref a8, .ref a9, .ref a10, .ref a11, .ref a12, .ref a13, .int 0])), (a5, .inl (k0, 700, .inl (upd (f0) 8 (vp_nar .byte ((v0 >>> 24).toInt8.toInt32)))))] H := hP
  have hD : va_D A [(a0, .inr (11, [.ref a1, .int 0, .int 0, .int 0, .ref a2, .int 0, .ref a3, .ref a4, .ref a5, .ref a6, .int 8, .int 0, .int 0, .int 0, .int 0, .int 0, .int 0, .int (-1), .int (-1), .int (-1), .int 0, .int 0, .int 0, .ref a7, .ref a8, .ref a9, .ref a10, .ref a11, .ref a12, .ref a13, .int 0])), (a5, .inl (k0, 700, .inl (upd (f0) 8 (vp_nar .byte ((v0 >>> 24).toInt8.toInt32)))))] := hD
  refine lv_aload_n hx hb dX12_four_22 rfl (lv_at hl 1 rfl) ?_
  refine lv_dup hx hb dX12_four_23 rfl ?_
  refine va_get (D := (dC, dI)) (ci := 11) (v := .int 8) (C := RX12) (T := TX12) (N := 31) hx hb (ly_X12 hE) (fun _ h9 => h9) hown hK hP 0 rfl rfl 10 (by decide) (wd_1391 hE) (fun _ h9 => h9) rfl dX12_four_24 ?_
  refine lv_iconst (v := 1) hx hb dX12_four_27 (by decide) ?_
  refine lv_iadd hx hb dX12_four_28 ?_
  refine W.eq (g2 := F0 m 29 ls [.int 9, .ref a0]) rfl ?_
  refine va_put (D := (dC, dI)) (ci := 11) (v := .int 9) (ty := .int) (C := RX12) (T := TX12) (N := 31) hx hb (ly_X12 hE) (fun _ h9 => h9) tyX12 tyX12_ok nmX12 hown hK hP hD hS 0 rfl rfl 10 (by decide) (wd_1391 hE) (fun _ h9 => h9) rfl (by decide +kernel) rfl rfl (Nat.le_of_ble_eq_true rfl) dX12_four_29 (fun H locs hP hD hS => ?_)
  have hP : va_P (dC, dI) vwCl [(a0, .inr (11, [.ref a1, .int 0, .int 0, .int 0, .ref a2, .int 0, .ref a3, .ref a4, .ref a5, .ref a6, .int 9, .int 0, .int 0, .int 0, .int 0, .int 0, .int 0, .int (-1), .int (-1), .int (-1), .int 0, .int 0, .int 0, .ref a7, .ref a8, .ref a9, .ref a10, .ref a11, .ref a12, .ref a13, .int 0])), (a5, .inl (k0, 700, .inl (upd (f0) 8 (vp_nar .byte ((v0 >>> 24).toInt8.toInt32)))))] H := hP
  have hD : va_D A [(a0, .inr (11, [.ref a1, .int 0, .int 0, .int 0, .ref a2, .int 0, .ref a3, .ref a4, .ref a5, .ref a6, .int 9, .int 0, .int 0, .int 0, .int 0, .int 0, .int 0, .int (-1), .int (-1), .int (-1), .int 0, .int 0, .int 0, .ref a7, .ref a8, .ref a9, .ref a10, .ref a11, .ref a12, .ref a13, .int 0])), (a5, .inl (k0, 700, .inl (upd (f0) 8 (vp_nar .byte ((v0 >>> 24).toInt8.toInt32)))))] := hD
  refine lv_iinc (v := 2) (lv' := [(2, .int 2), (0, .ref a0), (1, .int v0)]) hx hb dX12_four_32 hl (k := 0) rfl (by decide) (by decide) rfl (fun ls hl => ?_)
  refine lv_goto (tgt := 2) hx hb dX12_four_35 (by decide) ?_
  refine lv_iload_n hx hb dX12_four_2 rfl (lv_at hl 0 rfl) ?_
  refine lv_if_lt (tgt := 38) hx hb dX12_four_3 (by decide) (fun c3 => absurd c3 (by decide)) (fun c3 => ?_)
  refine lv_aload_n hx hb dX12_four_6 rfl (lv_at hl 1 rfl) ?_
  refine va_get (D := (dC, dI)) (ci := 11) (v := .ref a5) (C := RX12) (T := TX12) (N := 31) hx hb (ly_X12 hE) (fun _ h9 => h9) hown hK hP 0 rfl rfl 8 (by decide) (wd_1389 hE) (fun _ h9 => h9) rfl dX12_four_7 ?_
  refine lv_aload_n hx hb dX12_four_10 rfl (lv_at hl 1 rfl) ?_
  refine va_get (D := (dC, dI)) (ci := 11) (v := .int 9) (C := RX12) (T := TX12) (N := 31) hx hb (ly_X12 hE) (fun _ h9 => h9) hown hK hP 0 rfl rfl 10 (by decide) (wd_1391 hE) (fun _ h9 => h9) rfl dX12_four_11 ?_
  refine lv_iload_n hx hb dX12_four_14 rfl (lv_at hl 2 rfl) ?_
  refine lv_bipush (v := 8) hx hb dX12_four_15 (by decide) ?_
  refine lv_iload_n hx hb dX12_four_17 rfl (lv_at hl 0 rfl) ?_
  refine lv_imul hx hb dX12_four_18 ?_
  refine W.eq (g2 := F0 m 19 ls [.int 16, .int v0, .int 9, .ref a5]) rfl ?_
  refine lv_ishr hx hb dX12_four_19 ?_
  refine lv_i2b hx hb dX12_four_20 rfl ?_
  refine va_bast hx hb hK hP hD hS 1 0 rfl rfl (by unfold vp_in; decide) dX12_four_21 (fun H locs hP hD hS => ?_)
  have hP : va_P (dC, dI) vwCl [(a0, .inr (11, [.ref a1, .int 0, .int 0, .int 0, .ref a2, .int 0, .ref a3, .ref a4, .ref a5, .ref a6, .int 9, .int 0, .int 0, .int 0, .int 0, .int 0, .int 0, .int (-1), .int (-1), .int (-1), .int 0, .int 0, .int 0, .ref a7, .ref a8, .ref a9, .ref a10, .ref a11, .ref a12, .ref a13, .int 0])), (a5, .inl (k0, 700, .inl (upd (upd (f0) 8 (vp_nar .byte ((v0 >>> 24).toInt8.toInt32))) 9 (vp_nar .byte ((v0 >>> 16).toInt8.toInt32)))))] H := hP
  have hD : va_D A [(a0, .inr (11, [.ref a1, .int 0, .int 0, .int 0, .ref a2, .int 0, .ref a3, .ref a4, .ref a5, .ref a6, .int 9, .int 0, .int 0, .int 0, .int 0, .int 0, .int 0, .int (-1), .int (-1), .int (-1), .int 0, .int 0, .int 0, .ref a7, .ref a8, .ref a9, .ref a10, .ref a11, .ref a12, .ref a13, .int 0])), (a5, .inl (k0, 700, .inl (upd (upd (f0) 8 (vp_nar .byte ((v0 >>> 24).toInt8.toInt32))) 9 (vp_nar .byte ((v0 >>> 16).toInt8.toInt32)))))] := hD
  refine lv_aload_n hx hb dX12_four_22 rfl (lv_at hl 1 rfl) ?_
  refine lv_dup hx hb dX12_four_23 rfl ?_
  refine va_get (D := (dC, dI)) (ci := 11) (v := .int 9) (C := RX12) (T := TX12) (N := 31) hx hb (ly_X12 hE) (fun _ h9 => h9) hown hK hP 0 rfl rfl 10 (by decide) (wd_1391 hE) (fun _ h9 => h9) rfl dX12_four_24 ?_
  refine lv_iconst (v := 1) hx hb dX12_four_27 (by decide) ?_
  refine lv_iadd hx hb dX12_four_28 ?_
  refine W.eq (g2 := F0 m 29 ls [.int 10, .ref a0]) rfl ?_
  refine va_put (D := (dC, dI)) (ci := 11) (v := .int 10) (ty := .int) (C := RX12) (T := TX12) (N := 31) hx hb (ly_X12 hE) (fun _ h9 => h9) tyX12 tyX12_ok nmX12 hown hK hP hD hS 0 rfl rfl 10 (by decide) (wd_1391 hE) (fun _ h9 => h9) rfl (by decide +kernel) rfl rfl (Nat.le_of_ble_eq_true rfl) dX12_four_29 (fun H locs hP hD hS => ?_)
  have hP : va_P (dC, dI) vwCl [(a0, .inr (11, [.ref a1, .int 0, .int 0, .int 0, .ref a2, .int 0, .ref a3, .ref a4, .ref a5, .ref a6, .int 10, .int 0, .int 0, .int 0, .int 0, .int 0, .int 0, .int (-1), .int (-1), .int (-1), .int 0, .int 0, .int 0, .ref a7, .ref a8, .ref a9, .ref a10, .ref a11, .ref a12, .ref a13, .int 0])), (a5, .inl (k0, 700, .inl (upd (upd (f0) 8 (vp_nar .byte ((v0 >>> 24).toInt8.toInt32))) 9 (vp_nar .byte ((v0 >>> 16).toInt8.toInt32)))))] H := hP
  have hD : va_D A [(a0, .inr (11, [.ref a1, .int 0, .int 0, .int 0, .ref a2, .int 0, .ref a3, .ref a4, .ref a5, .ref a6, .int 10, .int 0, .int 0, .int 0, .int 0, .int 0, .int 0, .int (-1), .int (-1), .int (-1), .int 0, .int 0, .int 0, .ref a7, .ref a8, .ref a9, .ref a10, .ref a11, .ref a12, .ref a13, .int 0])), (a5, .inl (k0, 700, .inl (upd (upd (f0) 8 (vp_nar .byte ((v0 >>> 24).toInt8.toInt32))) 9 (vp_nar .byte ((v0 >>> 16).toInt8.toInt32)))))] := hD
  refine lv_iinc (v := 1) (lv' := [(2, .int 1), (0, .ref a0), (1, .int v0)]) hx hb dX12_four_32 hl (k := 0) rfl (by decide) (by decide) rfl (fun ls hl => ?_)
  refine lv_goto (tgt := 2) hx hb dX12_four_35 (by decide) ?_
  refine lv_iload_n hx hb dX12_four_2 rfl (lv_at hl 0 rfl) ?_
  refine lv_if_lt (tgt := 38) hx hb dX12_four_3 (by decide) (fun c5 => absurd c5 (by decide)) (fun c5 => ?_)
  refine lv_aload_n hx hb dX12_four_6 rfl (lv_at hl 1 rfl) ?_
  refine va_get (D := (dC, dI)) (ci := 11) (v := .ref a5) (C := RX12) (T := TX12) (N := 31) hx hb (ly_X12 hE) (fun _ h9 => h9) hown hK hP 0 rfl rfl 8 (by decide) (wd_1389 hE) (fun _ h9 => h9) rfl dX12_four_7 ?_
  refine lv_aload_n hx hb dX12_four_10 rfl (lv_at hl 1 rfl) ?_
  refine va_get (D := (dC, dI)) (ci := 11) (v := .int 10) (C := RX12) (T := TX12) (N := 31) hx hb (ly_X12 hE) (fun _ h9 => h9) hown hK hP 0 rfl rfl 10 (by decide) (wd_1391 hE) (fun _ h9 => h9) rfl dX12_four_11 ?_
  refine lv_iload_n hx hb dX12_four_14 rfl (lv_at hl 2 rfl) ?_
  refine lv_bipush (v := 8) hx hb dX12_four_15 (by decide) ?_
  refine lv_iload_n hx hb dX12_four_17 rfl (lv_at hl 0 rfl) ?_
  refine lv_imul hx hb dX12_four_18 ?_
  refine W.eq (g2 := F0 m 19 ls [.int 8, .int v0, .int 10, .ref a5]) rfl ?_
  refine lv_ishr hx hb dX12_four_19 ?_
  refine lv_i2b hx hb dX12_four_20 rfl ?_
  refine va_bast hx hb hK hP hD hS 1 0 rfl rfl (by unfold vp_in; decide) dX12_four_21 (fun H locs hP hD hS => ?_)
  have hP : va_P (dC, dI) vwCl [(a0, .inr (11, [.ref a1, .int 0, .int 0, .int 0, .ref a2, .int 0, .ref a3, .ref a4, .ref a5, .ref a6, .int 10, .int 0, .int 0, .int 0, .int 0, .int 0, .int 0, .int (-1), .int (-1), .int (-1), .int 0, .int 0, .int 0, .ref a7, .ref a8, .ref a9, .ref a10, .ref a11, .ref a12, .ref a13, .int 0])), (a5, .inl (k0, 700, .inl (upd (upd (upd (f0) 8 (vp_nar .byte ((v0 >>> 24).toInt8.toInt32))) 9 (vp_nar .byte ((v0 >>> 16).toInt8.toInt32))) 10 (vp_nar .byte ((v0 >>> 8).toInt8.toInt32)))))] H := hP
  have hD : va_D A [(a0, .inr (11, [.ref a1, .int 0, .int 0, .int 0, .ref a2, .int 0, .ref a3, .ref a4, .ref a5, .ref a6, .int 10, .int 0, .int 0, .int 0, .int 0, .int 0, .int 0, .int (-1), .int (-1), .int (-1), .int 0, .int 0, .int 0, .ref a7, .ref a8, .ref a9, .ref a10, .ref a11, .ref a12, .ref a13, .int 0])), (a5, .inl (k0, 700, .inl (upd (upd (upd (f0) 8 (vp_nar .byte ((v0 >>> 24).toInt8.toInt32))) 9 (vp_nar .byte ((v0 >>> 16).toInt8.toInt32))) 10 (vp_nar .byte ((v0 >>> 8).toInt8.toInt32)))))] := hD
  refine lv_aload_n hx hb dX12_four_22 rfl (lv_at hl 1 rfl) ?_
  refine lv_dup hx hb dX12_four_23 rfl ?_
  refine va_get (D := (dC, dI)) (ci := 11) (v := .int 10) (C := RX12) (T := TX12) (N := 31) hx hb (ly_X12 hE) (fun _ h9 => h9) hown hK hP 0 rfl rfl 10 (by decide) (wd_1391 hE) (fun _ h9 => h9) rfl dX12_four_24 ?_
  refine lv_iconst (v := 1) hx hb dX12_four_27 (by decide) ?_
  refine lv_iadd hx hb dX12_four_28 ?_
  refine W.eq (g2 := F0 m 29 ls [.int 11, .ref a0]) rfl ?_
  refine va_put (D := (dC, dI)) (ci := 11) (v := .int 11) (ty := .int) (C := RX12) (T := TX12) (N := 31) hx hb (ly_X12 hE) (fun _ h9 => h9) tyX12 tyX12_ok nmX12 hown hK hP hD hS 0 rfl rfl 10 (by decide) (wd_1391 hE) (fun _ h9 => h9) rfl (by decide +kernel) rfl rfl (Nat.le_of_ble_eq_true rfl) dX12_four_29 (fun H locs hP hD hS => ?_)
  have hP : va_P (dC, dI) vwCl [(a0, .inr (11, [.ref a1, .int 0, .int 0, .int 0, .ref a2, .int 0, .ref a3, .ref a4, .ref a5, .ref a6, .int 11, .int 0, .int 0, .int 0, .int 0, .int 0, .int 0, .int (-1), .int (-1), .int (-1), .int 0, .int 0, .int 0, .ref a7, .ref a8, .ref a9, .ref a10, .ref a11, .ref a12, .ref a13, .int 0])), (a5, .inl (k0, 700, .inl (upd (upd (upd (f0) 8 (vp_nar .byte ((v0 >>> 24).toInt8.toInt32))) 9 (vp_nar .byte ((v0 >>> 16).toInt8.toInt32))) 10 (vp_nar .byte ((v0 >>> 8).toInt8.toInt32)))))] H := hP
  have hD : va_D A [(a0, .inr (11, [.ref a1, .int 0, .int 0, .int 0, .ref a2, .int 0, .ref a3, .ref a4, .ref a5, .ref a6, .int 11, .int 0, .int 0, .int 0, .int 0, .int 0, .int 0, .int (-1), .int (-1), .int (-1), .int 0, .int 0, .int 0, .ref a7, .ref a8, .ref a9, .ref a10, .ref a11, .ref a12, .ref a13, .int 0])), (a5, .inl (k0, 700, .inl (upd (upd (upd (f0) 8 (vp_nar .byte ((v0 >>> 24).toInt8.toInt32))) 9 (vp_nar .byte ((v0 >>> 16).toInt8.toInt32))) 10 (vp_nar .byte ((v0 >>> 8).toInt8.toInt32)))))] := hD
  refine lv_iinc (v := 0) (lv' := [(2, .int 0), (0, .ref a0), (1, .int v0)]) hx hb dX12_four_32 hl (k := 0) rfl (by decide) (by decide) rfl (fun ls hl => ?_)
  refine lv_goto (tgt := 2) hx hb dX12_four_35 (by decide) ?_
  refine lv_iload_n hx hb dX12_four_2 rfl (lv_at hl 0 rfl) ?_
  refine lv_if_lt (tgt := 38) hx hb dX12_four_3 (by decide) (fun c7 => absurd c7 (by decide)) (fun c7 => ?_)
  refine lv_aload_n hx hb dX12_four_6 rfl (lv_at hl 1 rfl) ?_
  refine va_get (D := (dC, dI)) (ci := 11) (v := .ref a5) (C := RX12) (T := TX12) (N := 31) hx hb (ly_X12 hE) (fun _ h9 => h9) hown hK hP 0 rfl rfl 8 (by decide) (wd_1389 hE) (fun _ h9 => h9) rfl dX12_four_7 ?_
  refine lv_aload_n hx hb dX12_four_10 rfl (lv_at hl 1 rfl) ?_
  refine va_get (D := (dC, dI)) (ci := 11) (v := .int 11) (C := RX12) (T := TX12) (N := 31) hx hb (ly_X12 hE) (fun _ h9 => h9) hown hK hP 0 rfl rfl 10 (by decide) (wd_1391 hE) (fun _ h9 => h9) rfl dX12_four_11 ?_
  refine lv_iload_n hx hb dX12_four_14 rfl (lv_at hl 2 rfl) ?_
  refine lv_bipush (v := 8) hx hb dX12_four_15 (by decide) ?_
  refine lv_iload_n hx hb dX12_four_17 rfl (lv_at hl 0 rfl) ?_
  refine lv_imul hx hb dX12_four_18 ?_
  refine W.eq (g2 := F0 m 19 ls [.int 0, .int v0, .int 11, .ref a5]) rfl ?_
  refine lv_ishr hx hb dX12_four_19 ?_
  refine lv_i2b hx hb dX12_four_20 rfl ?_
  refine va_bast hx hb hK hP hD hS 1 0 rfl rfl (by unfold vp_in; decide) dX12_four_21 (fun H locs hP hD hS => ?_)
  have hP : va_P (dC, dI) vwCl [(a0, .inr (11, [.ref a1, .int 0, .int 0, .int 0, .ref a2, .int 0, .ref a3, .ref a4, .ref a5, .ref a6, .int 11, .int 0, .int 0, .int 0, .int 0, .int 0, .int 0, .int (-1), .int (-1), .int (-1), .int 0, .int 0, .int 0, .ref a7, .ref a8, .ref a9, .ref a10, .ref a11, .ref a12, .ref a13, .int 0])), (a5, .inl (k0, 700, .inl (upd (upd (upd (upd (f0) 8 (vp_nar .byte ((v0 >>> 24).toInt8.toInt32))) 9 (vp_nar .byte ((v0 >>> 16).toInt8.toInt32))) 10 (vp_nar .byte ((v0 >>> 8).toInt8.toInt32))) 11 (vp_nar .byte ((v0 >>> 0).toInt8.toInt32)))))] H := hP
  have hD : va_D A [(a0, .inr (11, [.ref a1, .int 0, .int 0, .int 0, .ref a2, .int 0, .ref a3, .ref a4, .ref a5, .ref a6, .int 11, .int 0, .int 0, .int 0, .int 0, .int 0, .int 0, .int (-1), .int (-1), .int (-1), .int 0, .int 0, .int 0, .ref a7, .ref a8, .ref a9, .ref a10, .ref a11, .ref a12, .ref a13, .int 0])), (a5, .inl (k0, 700, .inl (upd (upd (upd (upd (f0) 8 (vp_nar .byte ((v0 >>> 24).toInt8.toInt32))) 9 (vp_nar .byte ((v0 >>> 16).toInt8.toInt32))) 10 (vp_nar .byte ((v0 >>> 8).toInt8.toInt32))) 11 (vp_nar .byte ((v0 >>> 0).toInt8.toInt32)))))] := hD
  refine lv_aload_n hx hb dX12_four_22 rfl (lv_at hl 1 rfl) ?_
  refine lv_dup hx hb dX12_four_23 rfl ?_
  refine va_get (D := (dC, dI)) (ci := 11) (v := .int 11) (C := RX12) (T := TX12) (N := 31) hx hb (ly_X12 hE) (fun _ h9 => h9) hown hK hP 0 rfl rfl 10 (by decide) (wd_1391 hE) (fun _ h9 => h9) rfl dX12_four_24 ?_
  refine lv_iconst (v := 1) hx hb dX12_four_27 (by decide) ?_
  refine lv_iadd hx hb dX12_four_28 ?_
  refine W.eq (g2 := F0 m 29 ls [.int 12, .ref a0]) rfl ?_
  refine va_put (D := (dC, dI)) (ci := 11) (v := .int 12) (ty := .int) (C := RX12) (T := TX12) (N := 31) hx hb (ly_X12 hE) (fun _ h9 => h9) tyX12 tyX12_ok nmX12 hown hK hP hD hS 0 rfl rfl 10 (by decide) (wd_1391 hE) (fun _ h9 => h9) rfl (by decide +kernel) rfl rfl (Nat.le_of_ble_eq_true rfl) dX12_four_29 (fun H locs hP hD hS => ?_)
  have hP : va_P (dC, dI) vwCl [(a0, .inr (11, [.ref a1, .int 0, .int 0, .int 0, .ref a2, .int 0, .ref a3, .ref a4, .ref a5, .ref a6, .int 12, .int 0, .int 0, .int 0, .int 0, .int 0, .int 0, .int (-1), .int (-1), .int (-1), .int 0, .int 0, .int 0, .ref a7, .ref a8, .ref a9, .ref a10, .ref a11, .ref a12, .ref a13, .int 0])), (a5, .inl (k0, 700, .inl (upd (upd (upd (upd (f0) 8 (vp_nar .byte ((v0 >>> 24).toInt8.toInt32))) 9 (vp_nar .byte ((v0 >>> 16).toInt8.toInt32))) 10 (vp_nar .byte ((v0 >>> 8).toInt8.toInt32))) 11 (vp_nar .byte ((v0 >>> 0).toInt8.toInt32)))))] H := hP
  have hD : va_D A [(a0, .inr (11, [.ref a1, .int 0, .int 0, .int 0, .ref a2, .int 0, .ref a3, .ref a4, .ref a5, .ref a6, .int 12, .int 0, .int 0, .int 0, .int 0, .int 0, .int 0, .int (-1), .int (-1), .int (-1), .int 0, .int 0, .int 0, .ref a7, .ref a8, .ref a9, .ref a10, .ref a11, .ref a12, .ref a13, .int 0])), (a5, .inl (k0, 700, .inl (upd (upd (upd (upd (f0) 8 (vp_nar .byte ((v0 >>> 24).toInt8.toInt32))) 9 (vp_nar .byte ((v0 >>> 16).toInt8.toInt32))) 10 (vp_nar .byte ((v0 >>> 8).toInt8.toInt32))) 11 (vp_nar .byte ((v0 >>> 0).toInt8.toInt32)))))] := hD
  refine lv_iinc (v := -1) (lv' := [(2, .int (-1)), (0, .ref a0), (1, .int v0)]) hx hb dX12_four_32 hl (k := 0) rfl (by decide) (by decide) rfl (fun ls hl => ?_)
  refine lv_goto (tgt := 2) hx hb dX12_four_35 (by decide) ?_
  refine lv_iload_n hx hb dX12_four_2 rfl (lv_at hl 0 rfl) ?_
  refine lv_if_lt (tgt := 38) hx hb dX12_four_3 (by decide) (fun c9 => ?_) (fun c9 => absurd c9 (by decide))
  have hP9 := hP.sub (ws' := [(a0, .inr (11, [.ref a1, .int 0, .int 0, .int 0, .ref a2, .int 0, .ref a3, .ref a4, .ref a5, .ref a6, .int 12, .int 0, .int 0, .int 0, .int 0, .int 0, .int 0, .int (-1), .int (-1), .int (-1), .int 0, .int 0, .int 0, .ref a7, .ref a8, .ref a9, .ref a10, .ref a11, .ref a12, .ref a13, .int 0])), (a5, .inl (k0, 700, .inl (upd (upd (upd (upd (f0) 8 (vp_nar .byte ((v0 >>> 24).toInt8.toInt32))) 9 (vp_nar .byte ((v0 >>> 16).toInt8.toInt32))) 10 (vp_nar .byte ((v0 >>> 8).toInt8.toInt32))) 11 (vp_nar .byte ((v0 >>> 0).toInt8.toInt32)))))]) [0, 1] rfl
  have hD9 := hD.sub (ws' := [(a0, .inr (11, [.ref a1, .int 0, .int 0, .int 0, .ref a2, .int 0, .ref a3, .ref a4, .ref a5, .ref a6, .int 12, .int 0, .int 0, .int 0, .int 0, .int 0, .int 0, .int (-1), .int (-1), .int (-1), .int 0, .int 0, .int 0, .ref a7, .ref a8, .ref a9, .ref a10, .ref a11, .ref a12, .ref a13, .int 0])), (a5, .inl (k0, 700, .inl (upd (upd (upd (upd (f0) 8 (vp_nar .byte ((v0 >>> 24).toInt8.toInt32))) 9 (vp_nar .byte ((v0 >>> 16).toInt8.toInt32))) 10 (vp_nar .byte ((v0 >>> 8).toInt8.toInt32))) 11 (vp_nar .byte ((v0 >>> 0).toInt8.toInt32)))))]) [0, 1] (by decide) rfl
  have hK9 := hK.sub (tys' := []) [] rfl
  refine W.widen (k := 0) (n := 0) (Nat.le_of_ble_eq_true rfl) (Nat.le_of_ble_eq_true rfl) ?_
  exact W.vret hx hb hr (fun t ht hW => ⟨⟨(), rfl, trivial, by rw [ht]; exact hP9, va_K.moved hW.alike hK9, hD9⟩, hS.F ht⟩) hS.2.2 dX12_four_38

set_option maxHeartbeats 4000000 in
set_option maxRecDepth 100000 in
theorem c_X12_four_4 (l : Launch) (dC : Nat → ClassId) (dI : Nat → Nat → Nat) (sz : Nat)  (a0 a1 a2 a3 a4 a5 a6 a7 a8 a9 a10 a11 a12 a13 : Nat) (k0 : ClassId) (f0 : Nat → Int32) (v0 : Int32)  : Met l yX12_four [.code yX12_four cX12_four 3 none] ({ frames := 0, cells := 0, slots := 0, locals := 0 }) (PcE [.ref a0, .int v0] sz dC dI [(k0, .byte)] [(a0, .inr (11, [.ref a1, .int 0, .int 0, .int 0, .ref a2, .int 0, .ref a3, .ref a4, .ref a5, .ref a6, .int 12, .int 0, .int 0, .int 0, .int 0, .int 0, .int 0, .int (-1), .int (-1), .int (-1), .int 0, .int 0, .int 0, .ref a7, .ref a8, .ref a9, .ref a10, .ref a11, .ref a12, .ref a13, .int 0])), (a5, .inl (k0, 700, .inl f0))]) (va_Qv (fun (u : Unit) => True) (Bw dC dI (va_A [(a0, .inr (11, [.ref a1, .int 0, .int 0, .int 0, .ref a2, .int 0, .ref a3, .ref a4, .ref a5, .ref a6, .int 12, .int 0, .int 0, .int 0, .int 0, .int 0, .int 0, .int (-1), .int (-1), .int (-1), .int 0, .int 0, .int 0, .ref a7, .ref a8, .ref a9, .ref a10, .ref a11, .ref a12, .ref a13, .int 0])), (a5, .inl (k0, 700, .inl f0))] sz) (fun (u : Unit) => []) (fun (u : Unit) => [(a0, .inr (11, [.ref a1, .int 0, .int 0, .int 0, .ref a2, .int 0, .ref a3, .ref a4, .ref a5, .ref a6, .int 16, .int 0, .int 0, .int 0, .int 0, .int 0, .int 0, .int (-1), .int (-1), .int (-1), .int 0, .int 0, .int 0, .ref a7, .ref a8, .ref a9, .ref a10, .ref a11, .ref a12, .ref a13, .int 0])), (a5, .inl (k0, 700, .inl (upd (upd (upd (upd (f0) 12 (vp_nar .byte ((v0 >>> 24).toInt8.toInt32))) 13 (vp_nar .byte ((v0 >>> 16).toInt8.toInt32))) 14 (vp_nar .byte ((v0 >>> 8).toInt8.toInt32))) 15 (vp_nar .byte ((v0 >>> 0).toInt8.toInt32)))))])) (va_A [(a0, .inr (11, [.ref a1, .int 0, .int 0, .int 0, .ref a2, .int 0, .ref a3, .ref a4, .ref a5, .ref a6, .int 12, .int 0, .int 0, .int 0, .int 0, .int 0, .int 0, .int (-1), .int (-1), .int (-1), .int 0, .int 0, .int 0, .ref a7, .ref a8, .ref a9, .ref a10, .ref a11, .ref a12, .ref a13, .int 0])), (a5, .inl (k0, 700, .inl f0))] sz)) 0 0 (va_A [(a0, .inr (11, [.ref a1, .int 0, .int 0, .int 0, .ref a2, .int 0, .ref a3, .ref a4, .ref a5, .ref a6, .int 12, .int 0, .int 0, .int 0, .int 0, .int 0, .int 0, .int (-1), .int (-1), .int (-1), .int 0, .int 0, .int 0, .ref a7, .ref a8, .ref a9, .ref a10, .ref a11, .ref a12, .ref a13, .int 0])), (a5, .inl (k0, 700, .inl f0))] sz) := by
  refine Met.ofW (cc := cX12_four) (maxL := 3) (ret := none) (by decide) rfl ?_
  intro p e s m args below meth c s₁ B hml hv
  obtain ⟨rfl, hsz, hP, hK, hD0, hE⟩ := hv
  have hx := B.exec
  have hb := B.bytes
  have hr := B.returns
  have hown : s.vm.findClass RX12 = some m.cls := findClass_of_methodNamed B.named
  have hlocks := B.notSynchronized
  subst hsz
  have hD := hD0.self (sz := s.heap.size)
  generalize hAe : va_A [(a0, .inr (11, [.ref a1, .int 0, .int 0, .int 0, .ref a2, .int 0, .ref a3, .ref a4, .ref a5, .ref a6, .int 12, .int 0, .int 0, .int 0, .int 0, .int 0, .int 0, .int (-1), .int (-1), .int (-1), .int 0, .int 0, .int 0, .ref a7, .ref a8, .ref a9, .ref a10, .ref a11, .ref a12, .ref a13, .int 0])), (a5, .inl (k0, 700, .inl f0))] s.heap.size = A at hD ⊢
  have hA : ∀ q : Nat, s.heap.size ≤ q → A q := fun q h => by rw [← hAe]; exact Or.inr h
  have hS : va_S A s.heap s.heap [] := va_S.rf
  have hl := lv_entry ([.ref a0, .int v0]) (n := 3) (Nat.le_of_ble_eq_true rfl)
  rw [lg_entry_eq]
  generalize (lg_sl ([.ref a0, .int v0]) ++ List.replicate (3 - (lg_sl ([.ref a0, .int v0])).length) Slot.unset).toArray = ls at hl ⊢
  have hl : lv_has ls 3 [(0, .ref a0), (1, .int v0)] := hl
  refine lv_iconst (v := 3) hx hb dX12_four_0 (by decide) ?_
  refine lv_istore_n (lv' := [(2, .int 3), (0, .ref a0), (1, .int v0)]) hx hb dX12_four_1 rfl hl (by decide) rfl (fun ls hl => ?_)
  refine lv_iload_n hx hb dX12_four_2 rfl (lv_at hl 0 rfl) ?_
  refine lv_if_lt (tgt := 38) hx hb dX12_four_3 (by decide) (fun c1 => absurd c1 (by decide)) (fun c1 => ?_)
  refine lv_aload_n hx hb dX12_four_6 rfl (lv_at hl 1 rfl) ?_
  refine va_get (D := (dC, dI)) (ci := 11) (v := .ref a5) (C := RX12) (T := TX12) (N := 31) hx hb (ly_X12 hE) (fun _ h9 => h9) hown hK hP 0 rfl rfl 8 (by decide) (wd_1389 hE) (fun _ h9 => h9) rfl dX12_four_7 ?_
  refine lv_aload_n hx hb dX12_four_10 rfl (lv_at hl 1 rfl) ?_
  refine va_get (D := (dC, dI)) (ci := 11) (v := .int 12) (C := RX12) (T := TX12) (N := 31) hx hb (ly_X12 hE) (fun _ h9 => h9) hown hK hP 0 rfl rfl 10 (by decide) (wd_1391 hE) (fun _ h9 => h9) rfl dX12_four_11 ?_
  refine lv_iload_n hx hb dX12_four_14 rfl (lv_at hl 2 rfl) ?_
  refine lv_bipush (v := 8) hx hb dX12_four_15 (by decide) ?_
  refine lv_iload_n hx hb dX12_four_17 rfl (lv_at hl 0 rfl) ?_
  refine lv_imul hx hb dX12_four_18 ?_
  refine W.eq (g2 := F0 m 19 ls [.int 24, .int v0, .int 12, .ref a5]) rfl ?_
  refine lv_ishr hx hb dX12_four_19 ?_
  refine lv_i2b hx hb dX12_four_20 rfl ?_
  refine va_bast hx hb hK hP hD hS 1 0 rfl rfl (by unfold vp_in; decide) dX12_four_21 (fun H locs hP hD hS => ?_)
  have hP : va_P (dC, dI) vwCl [(a0, .inr (11, [.ref a1, .int 0, .int 0, .int 0, .ref a2, .int 0, .ref a3, .ref a4, .ref a5, .ref a6, .int 12, .int 0, .int 0, .int 0, .int 0, .int 0, .int 0, .int (-1), .int (-1), .int (-1), .int 0, .int 0, .int 0, .ref a7, .ref a8, .ref a9, .ref a10, .ref a11, .ref a12, .ref a13, .int 0])), (a5, .inl (k0, 700, .inl (upd (f0) 12 (vp_nar .byte ((v0 >>> 24).toInt8.toInt32)))))] H := hP
  have hD : va_D A [(a0, .inr (11, [.ref a1, .int 0, .int 0, .int 0, .ref a2, .int 0, .ref a3, .ref a4, .ref a5, .ref a6, .int 12, .int 0, .int 0, .int 0, .int 0, .int 0, .int 0, .int (-1), .int (-1), .int (-1), .int 0, .int 0, .int 0, .ref a7, .ref a8, .ref a9, .ref a10, .ref a11, .ref a12, .ref a13, .int 0])), (a5, .inl (k0, 700, .inl (upd (f0) 12 (vp_nar .byte ((v0 >>> 24).toInt8.toInt32)))))] := hD
  refine lv_aload_n hx hb dX12_four_22 rfl (lv_at hl 1 rfl) ?_
  refine lv_dup hx hb dX12_four_23 rfl ?_
  refine va_get (D := (dC, dI)) (ci := 11) (v := .int 12) (C := RX12) (T := TX12) (N := 31) hx hb (ly_X12 hE) (fun _ h9 => h9) hown hK hP 0 rfl rfl 10 (by decide) (wd_1391 hE) (fun _ h9 => h9) rfl dX12_four_24 ?_
  refine lv_iconst (v := 1) hx hb dX12_four_27 (by decide) ?_
  refine lv_iadd hx hb dX12_four_28 ?_
  refine W.eq (g2 := F0 m 29 ls [.int 13, .ref a0]) rfl ?_
  refine va_put (D := (dC, dI)) (ci := 11) (v := .int 13) (ty := .int) (C := RX12) (T := TX12) (N := 31) hx hb (ly_X12 hE) (fun _ h9 => h9) tyX12 tyX12_ok nmX12 hown hK hP hD hS 0 rfl rfl 10 (by decide) (wd_1391 hE) (fun _ h9 => h9) rfl (by decide +kernel) rfl rfl (Nat.le_of_ble_eq_true rfl) dX12_four_29 (fun H locs hP hD hS => ?_)
  have hP : va_P (dC, dI) vwCl [(a0, .inr (11, [.ref a1, .int 0, .int 0, .int 0, .ref a2, .int 0, .ref a3, .ref a4, .ref a5, .ref a6, .int 13, .int 0, .int 0, .int 0, .int 0, .int 0, .int 0, .int (-1), .int (-1), .int (-1), .int 0, .int 0, .int 0, .ref a7, .ref a8, .ref a9, .ref a10, .ref a11, .ref a12, .ref a13, .int 0])), (a5, .inl (k0, 700, .inl (upd (f0) 12 (vp_nar .byte ((v0 >>> 24).toInt8.toInt32)))))] H := hP
  have hD : va_D A [(a0, .inr (11, [.ref a1, .int 0, .int 0, .int 0, .ref a2, .int 0, .ref a3, .ref a4, .ref a5, .ref a6, .int 13, .int 0, .int 0, .int 0, .int 0, .int 0, .int 0, .int (-1), .int (-1), .int (-1), .int 0, .int 0, .int 0, .ref a7, .ref a8, .ref a9, .ref a10, .ref a11, .ref a12, .ref a13, .int 0])), (a5, .inl (k0, 700, .inl (upd (f0) 12 (vp_nar .byte ((v0 >>> 24).toInt8.toInt32)))))] := hD
  refine lv_iinc (v := 2) (lv' := [(2, .int 2), (0, .ref a0), (1, .int v0)]) hx hb dX12_four_32 hl (k := 0) rfl (by decide) (by decide) rfl (fun ls hl => ?_)
  refine lv_goto (tgt := 2) hx hb dX12_four_35 (by decide) ?_
  refine lv_iload_n hx hb dX12_four_2 rfl (lv_at hl 0 rfl) ?_
  refine lv_if_lt (tgt := 38) hx hb dX12_four_3 (by decide) (fun c3 => absurd c3 (by decide)) (fun c3 => ?_)
  refine lv_aload_n hx hb dX12_four_6 rfl (lv_at hl 1 rfl) ?_
  refine va_get (D := (dC, dI)) (ci := 11) (v := .ref a5) (C := RX12) (T := TX12) (N := 31) hx hb (ly_X12 hE) (fun _ h9 => h9) hown hK hP 0 rfl rfl 8 (by decide) (wd_1389 hE) (fun _ h9 => h9) rfl dX12_four_7 ?_
  refine lv_aload_n hx hb dX12_four_10 rfl (lv_at hl 1 rfl) ?_
  refine va_get (D := (dC, dI)) (ci := 11) (v := .int 13) (C := RX12) (T := TX12) (N := 31) hx hb (ly_X12 hE) (fun _ h9 => h9) hown hK hP 0 rfl rfl 10 (by decide) (wd_1391 hE) (fun _ h9 => h9) rfl dX12_four_11 ?_
  refine lv_iload_n hx hb dX12_four_14 rfl (lv_at hl 2 rfl) ?_
  refine lv_bipush (v := 8) hx hb dX12_four_15 (by decide) ?_
  refine lv_iload_n hx hb dX12_four_17 rfl (lv_at hl 0 rfl) ?_
  refine lv_imul hx hb dX12_four_18 ?_
  refine W.eq (g2 := F0 m 19 ls [.int 16, .int v0, .int 13, .ref a5]) rfl ?_
  refine lv_ishr hx hb dX12_four_19 ?_
  refine lv_i2b hx hb dX12_four_20 rfl ?_
  refine va_bast hx hb hK hP hD hS 1 0 rfl rfl (by unfold vp_in; decide) dX12_four_21 (fun H locs hP hD hS => ?_)
  have hP : va_P (dC, dI) vwCl [(a0, .inr (11, [.ref a1, .int 0, .int 0, .int 0, .ref a2, .int 0, .ref a3, .ref a4, .ref a5, .ref a6, .int 13, .int 0, .int 0, .int 0, .int 0, .int 0, .int 0, .int (-1), .int (-1), .int (-1), .int 0, .int 0, .int 0, .ref a7, .ref a8, .ref a9, .ref a10, .ref a11, .ref a12, .ref a13, .int 0])), (a5, .inl (k0, 700, .inl (upd (upd (f0) 12 (vp_nar .byte ((v0 >>> 24).toInt8.toInt32))) 13 (vp_nar .byte ((v0 >>> 16).toInt8.toInt32)))))] H := hP
  have hD : va_D A [(a0, .inr (11, [.ref a1, .int 0, .int 0, .int 0, .ref a2, .int 0, .ref a3, .ref a4, .ref a5, .ref a6, .int 13, .int 0, .int 0, .int 0, .int 0, .int 0, .int 0, .int (-1), .int (-1), .int (-1), .int 0, .int 0, .int 0, .ref a7, .ref a8, .ref a9, .ref a10, .ref a11, .ref a12, .ref a13, .int 0])), (a5, .inl (k0, 700, .inl (upd (upd (f0) 12 (vp_nar .byte ((v0 >>> 24).toInt8.toInt32))) 13 (vp_nar .byte ((v0 >>> 16).toInt8.toInt32)))))] := hD
  refine lv_aload_n hx hb dX12_four_22 rfl (lv_at hl 1 rfl) ?_
  refine lv_dup hx hb dX12_four_23 rfl ?_
  refine va_get (D := (dC, dI)) (ci := 11) (v := .int 13) (C := RX12) (T := TX12) (N := 31) hx hb (ly_X12 hE) (fun _ h9 => h9) hown hK hP 0 rfl rfl 10 (by decide) (wd_1391 hE) (fun _ h9 => h9) rfl dX12_four_24 ?_
  refine lv_iconst (v := 1) hx hb dX12_four_27 (by decide) ?_
  refine lv_iadd hx hb dX12_four_28 ?_
  refine W.eq (g2 := F0 m 29 ls [.int 14, .ref a0]) rfl ?_
  refine va_put (D := (dC, dI)) (ci := 11) (v := .int 14) (ty := .int) (C := RX12) (T := TX12) (N := 31) hx hb (ly_X12 hE) (fun _ h9 => h9) tyX12 tyX12_ok nmX12 hown hK hP hD hS 0 rfl rfl 10 (by decide) (wd_1391 hE) (fun _ h9 => h9) rfl (by decide +kernel) rfl rfl (Nat.le_of_ble_eq_true rfl) dX12_four_29 (fun H locs hP hD hS => ?_)
  have hP : va_P (dC, dI) vwCl [(a0, .inr (11, [.ref a1, .int 0, .int 0, .int 0, .ref a2, .int 0, .ref a3, .ref a4, .ref a5, .ref a6, .int 14, .int 0, .int 0, .int 0, .int 0, .int 0, .int 0, .int (-1), .int (-1), .int (-1), .int 0, .int 0, .int 0, .ref a7, .ref a8, .ref a9, .ref a10, .ref a11, .ref a12, .ref a13, .int 0])), (a5, .inl (k0, 700, .inl (upd (upd (f0) 12 (vp_nar .byte ((v0 >>> 24).toInt8.toInt32))) 13 (vp_nar .byte ((v0 >>> 16).toInt8.toInt32)))))] H := hP
  have hD : va_D A [(a0, .inr (11, [.ref a1, .int 0, .int 0, .int 0, .ref a2, .int 0, .ref a3, .ref a4, .ref a5, .ref a6, .int 14, .int 0, .int 0, .int 0, .int 0, .int 0, .int 0, .int (-1), .int (-1), .int (-1), .int 0, .int 0, .int 0, .ref a7, .ref a8, .ref a9, .ref a10, .ref a11, .ref a12, .ref a13, .int 0])), (a5, .inl (k0, 700, .inl (upd (upd (f0) 12 (vp_nar .byte ((v0 >>> 24).toInt8.toInt32))) 13 (vp_nar .byte ((v0 >>> 16).toInt8.toInt32)))))] := hD
  refine lv_iinc (v := 1) (lv' := [(2, .int 1), (0, .ref a0), (1, .int v0)]) hx hb dX12_four_32 hl (k := 0) rfl (by decide) (by decide) rfl (fun ls hl => ?_)
  refine lv_goto (tgt := 2) hx hb dX12_four_35 (by decide) ?_
  refine lv_iload_n hx hb dX12_four_2 rfl (lv_at hl 0 rfl) ?_
  refine lv_if_lt (tgt := 38) hx hb dX12_four_3 (by decide) (fun c5 => absurd c5 (by decide)) (fun c5 => ?_)
  refine lv_aload_n hx hb dX12_four_6 rfl (lv_at hl 1 rfl) ?_
  refine va_get (D := (dC, dI)) (ci := 11) (v := .ref a5) (C := RX12) (T := TX12) (N := 31) hx hb (ly_X12 hE) (fun _ h9 => h9) hown hK hP 0 rfl rfl 8 (by decide) (wd_1389 hE) (fun _ h9 => h9) rfl dX12_four_7 ?_
  refine lv_aload_n hx hb dX12_four_10 rfl (lv_at hl 1 rfl) ?_
  refine va_get (D := (dC, dI)) (ci := 11) (v := .int 14) (C := RX12) (T := TX12) (N := 31) hx hb (ly_X12 hE) (fun _ h9 => h9) hown hK hP 0 rfl rfl 10 (by decide) (wd_1391 hE) (fun _ h9 => h9) rfl dX12_four_11 ?_
  refine lv_iload_n hx hb dX12_four_14 rfl (lv_at hl 2 rfl) ?_
  refine lv_bipush (v := 8) hx hb dX12_four_15 (by decide) ?_
  refine lv_iload_n hx hb dX12_four_17 rfl (lv_at hl 0 rfl) ?_
  refine lv_imul hx hb dX12_four_18 ?_
  refine W.eq (g2 := F0 m 19 ls [.int 8, .int v0, .int 14, .ref a5]) rfl ?_
  refine lv_ishr hx hb dX12_four_19 ?_
  refine lv_i2b hx hb dX12_four_20 rfl ?_
  refine va_bast hx hb hK hP hD hS 1 0 rfl rfl (by unfold vp_in; decide) dX12_four_21 (fun H locs hP hD hS => ?_)
  have hP : va_P (dC, dI) vwCl [(a0, .inr (11, [.ref a1, .int 0, .int 0, .int 0, .ref a2, .int 0, .ref a3, .ref a4, .ref a5, .ref a6, .int 14, .int 0, .int 0, .int 0, .int 0, .int 0, .int 0, .int (-1), .int (-1), .int (-1), .int 0, .int 0, .int 0, .ref a7, .ref a8, .ref a9, .ref a10, .ref a11, .ref a12, .ref a13, .int 0])), (a5, .inl (k0, 700, .inl (upd (upd (upd (f0) 12 (vp_nar .byte ((v0 >>> 24).toInt8.toInt32))) 13 (vp_nar .byte ((v0 >>> 16).toInt8.toInt32))) 14 (vp_nar .byte ((v0 >>> 8).toInt8.toInt32)))))] H := hP
  have hD : va_D A [(a0, .inr (11, [.ref a1, .int 0, .int 0, .int 0, .ref a2, .int 0, .ref a3, .ref a4, .ref a5, .ref a6, .int 14, .int 0, .int 0, .int 0, .int 0, .int 0, .int 0, .int (-1), .int (-1), .int (-1), .int 0, .int 0, .int 0, .ref a7, .ref a8, .ref a9, .ref a10, .ref a11, .ref a12, .ref a13, .int 0])), (a5, .inl (k0, 700, .inl (upd (upd (upd (f0) 12 (vp_nar .byte ((v0 >>> 24).toInt8.toInt32))) 13 (vp_nar .byte ((v0 >>> 16).toInt8.toInt32))) 14 (vp_nar .byte ((v0 >>> 8).toInt8.toInt32)))))] := hD
  refine lv_aload_n hx hb dX12_four_22 rfl (lv_at hl 1 rfl) ?_
  refine lv_dup hx hb dX12_four_23 rfl ?_
  refine va_get (D := (dC, dI)) (ci := 11) (v := .int 14) (C := RX12) (T := TX12) (N := 31) hx hb (ly_X12 hE) (fun _ h9 => h9) hown hK hP 0 rfl rfl 10 (by decide) (wd_1391 hE) (fun _ h9 => h9) rfl dX12_four_24 ?_
  refine lv_iconst (v := 1) hx hb dX12_four_27 (by decide) ?_
  refine lv_iadd hx hb dX12_four_28 ?_
  refine W.eq (g2 := F0 m 29 ls [.int 15, .ref a0]) rfl ?_
  refine va_put (D := (dC, dI)) (ci := 11) (v := .int 15) (ty := .int) (C := RX12) (T := TX12) (N := 31) hx hb (ly_X12 hE) (fun _ h9 => h9) tyX12 tyX12_ok nmX12 hown hK hP hD hS 0 rfl rfl 10 (by decide) (wd_1391 hE) (fun _ h9 => h9) rfl (by decide +kernel) rfl rfl (Nat.le_of_ble_eq_true rfl) dX12_four_29 (fun H locs hP hD hS => ?_)
  have hP : va_P (dC, dI) vwCl [(a0, .inr (11, [.ref a1, .int 0, .int 0, .int 0, .ref a2, .int 0, .ref a3, .ref a4, .ref a5, .ref a6, .int 15, .int 0, .int 0, .int 0, .int 0, .int 0, .int 0, .int (-1), .int (-1), .int (-1), .int 0, .int 0, .int 0, .ref a7, .ref a8, .ref a9, .ref a10, .ref a11, .ref a12, .ref a13, .int 0])), (a5, .inl (k0, 700, .inl (upd (upd (upd (f0) 12 (vp_nar .byte ((v0 >>> 24).toInt8.toInt32))) 13 (vp_nar .byte ((v0 >>> 16).toInt8.toInt32))) 14 (vp_nar .byte ((v0 >>> 8).toInt8.toInt32)))))] H := hP
  have hD : va_D A [(a0, .inr (11, [.ref a1, .int 0, .int 0, .int 0, .ref a2, .int 0, .ref a3, .ref a4, .ref a5, .ref a6, .int 15, .int 0, .int 0, .int 0, .int 0, .int 0, .int 0, .int (-1), .int (-1), .int (-1), .int 0, .int 0, .int 0, .ref a7, .ref a8, .ref a9, .ref a10, .ref a11, .ref a12, .ref a13, .int 0])), (a5, .inl (k0, 700, .inl (upd (upd (upd (f0) 12 (vp_nar .byte ((v0 >>> 24).toInt8.toInt32))) 13 (vp_nar .byte ((v0 >>> 16).toInt8.toInt32))) 14 (vp_nar .byte ((v0 >>> 8).toInt8.toInt32)))))] := hD
  refine lv_iinc (v := 0) (lv' := [(2, .int 0), (0, .ref a0), (1, .int v0)]) hx hb dX12_four_32 hl (k := 0) rfl (by decide) (by decide) rfl (fun ls hl => ?_)
  refine lv_goto (tgt := 2) hx hb dX12_four_35 (by decide) ?_
  refine lv_iload_n hx hb dX12_four_2 rfl (lv_at hl 0 rfl) ?_
  refine lv_if_lt (tgt := 38) hx hb dX12_four_3 (by decide) (fun c7 => absurd c7 (by decide)) (fun c7 => ?_)
  refine lv_aload_n hx hb dX12_four_6 rfl (lv_at hl 1 rfl) ?_
  refine va_get (D := (dC, dI)) (ci := 11) (v := .ref a5) (C := RX12) (T := TX12) (N := 31) hx hb (ly_X12 hE) (fun _ h9 => h9) hown hK hP 0 rfl rfl 8 (by decide) (wd_1389 hE) (fun _ h9 => h9) rfl dX12_four_7 ?_
  refine lv_aload_n hx hb dX12_four_10 rfl (lv_at hl 1 rfl) ?_
  refine va_get (D := (dC, dI)) (ci := 11) (v := .int 15) (C := RX12) (T := TX12) (N := 31) hx hb (ly_X12 hE) (fun _ h9 => h9) hown hK hP 0 rfl rfl 10 (by decide) (wd_1391 hE) (fun _ h9 => h9) rfl dX12_four_11 ?_
  refine lv_iload_n hx hb dX12_four_14 rfl (lv_at hl 2 rfl) ?_
  refine lv_bipush (v := 8) hx hb dX12_four_15 (by decide) ?_
  refine lv_iload_n hx hb dX12_four_17 rfl (lv_at hl 0 rfl) ?_
  refine lv_imul hx hb dX12_four_18 ?_
  refine W.eq (g2 := F0 m 19 ls [.int 0, .int v0, .int 15, .ref a5]) rfl ?_
  refine lv_ishr hx hb dX12_four_19 ?_
  refine lv_i2b hx hb dX12_four_20 rfl ?_
  refine va_bast hx hb hK hP hD hS 1 0 rfl rfl (by unfold vp_in; decide) dX12_four_21 (fun H locs hP hD hS => ?_)
  have hP : va_P (dC, dI) vwCl [(a0, .inr (11, [.ref a1, .int 0, .int 0, .int 0, .ref a2, .int 0, .ref a3, .ref a4, .ref a5, .ref a6, .int 15, .int 0, .int 0, .int 0, .int 0, .int 0, .int 0, .int (-1), .int (-1), .int (-1), .int 0, .int 0, .int 0, .ref a7, .ref a8, .ref a9, .ref a10, .ref a11, .ref a12, .ref a13, .int 0])), (a5, .inl (k0, 700, .inl (upd (upd (upd (upd (f0) 12 (vp_nar .byte ((v0 >>> 24).toInt8.toInt32))) 13 (vp_nar .byte ((v0 >>> 16).toInt8.toInt32))) 14 (vp_nar .byte ((v0 >>> 8).toInt8.toInt32))) 15 (vp_nar .byte ((v0 >>> 0).toInt8.toInt32)))))] H := hP
  have hD : va_D A [(a0, .inr (11, [.ref a1, .int 0, .int 0, .int 0, .ref a2, .int 0, .ref a3, .ref a4, .ref a5, .ref a6, .int 15, .int 0, .int 0, .int 0, .int 0, .int 0, .int 0, .int (-1), .int (-1), .int (-1), .int 0, .int 0, .int 0, .ref a7, .ref a8, .ref a9, .ref a10, .ref a11, .ref a12, .ref a13, .int 0])), (a5, .inl (k0, 700, .inl (upd (upd (upd (upd (f0) 12 (vp_nar .byte ((v0 >>> 24).toInt8.toInt32))) 13 (vp_nar .byte ((v0 >>> 16).toInt8.toInt32))) 14 (vp_nar .byte ((v0 >>> 8).toInt8.toInt32))) 15 (vp_nar .byte ((v0 >>> 0).toInt8.toInt32)))))] := hD
  refine lv_aload_n hx hb dX12_four_22 rfl (lv_at hl 1 rfl) ?_
  refine lv_dup hx hb dX12_four_23 rfl ?_
  refine va_get (D := (dC, dI)) (ci := 11) (v := .int 15) (C := RX12) (T := TX12) (N := 31) hx hb (ly_X12 hE) (fun _ h9 => h9) hown hK hP 0 rfl rfl 10 (by decide) (wd_1391 hE) (fun _ h9 => h9) rfl dX12_four_24 ?_
  refine lv_iconst (v := 1) hx hb dX12_four_27 (by decide) ?_
  refine lv_iadd hx hb dX12_four_28 ?_
  refine W.eq (g2 := F0 m 29 ls [.int 16, .ref a0]) rfl ?_
  refine va_put (D := (dC, dI)) (ci := 11) (v := .int 16) (ty := .int) (C := RX12) (T := TX12) (N := 31) hx hb (ly_X12 hE) (fun _ h9 => h9) tyX12 tyX12_ok nmX12 hown hK hP hD hS 0 rfl rfl 10 (by decide) (wd_1391 hE) (fun _ h9 => h9) rfl (by decide +kernel) rfl rfl (Nat.le_of_ble_eq_true rfl) dX12_four_29 (fun H locs hP hD hS => ?_)
  have hP : va_P (dC, dI) vwCl [(a0, .inr (11, [.ref a1, .int 0, .int 0, .int 0, .ref a2, .int 0, .ref a3, .ref a4, .ref a5, .ref a6, .int 16, .int 0, .int 0, .int 0, .int 0, .int 0, .int 0, .int (-1), .int (-1), .int (-1), .int 0, .int 0, .int 0, .ref a7, .ref a8, .ref a9, .ref a10, .ref a11, .ref a12, .ref a13, .int 0])), (a5, .inl (k0, 700, .inl (upd (upd (upd (upd (f0) 12 (vp_nar .byte ((v0 >>> 24).toInt8.toInt32))) 13 (vp_nar .byte ((v0 >>> 16).toInt8.toInt32))) 14 (vp_nar .byte ((v0 >>> 8).toInt8.toInt32))) 15 (vp_nar .byte ((v0 >>> 0).toInt8.toInt32)))))] H := hP
  have hD : va_D A [(a0, .inr (11, [.ref a1, .int 0, .int 0, .int 0, .ref a2, .int 0, .ref a3, .ref a4, .ref a5, .ref a6, .int 16, .int 0, .int 0, .int 0, .int 0, .int 0, .int 0, .int (-1), .int (-1), .int (-1), .int 0, .int 0, .int 0, .ref a7, .ref a8, .ref a9, .ref a10, .ref a11, .ref a12, .ref a13, .int 0])), (a5, .inl (k0, 700, .inl (upd (upd (upd (upd (f0) 12 (vp_nar .byte ((v0 >>> 24).toInt8.toInt32))) 13 (vp_nar .byte ((v0 >>> 16).toInt8.toInt32))) 14 (vp_nar .byte ((v0 >>> 8).toInt8.toInt32))) 15 (vp_nar .byte ((v0 >>> 0).toInt8.toInt32)))))] := hD
  refine lv_iinc (v := -1) (lv' := [(2, .int (-1)), (0, .ref a0), (1, .int v0)]) hx hb dX12_four_32 hl (k := 0) rfl (by decide) (by decide) rfl (fun ls hl => ?_)
  refine lv_goto (tgt := 2) hx hb dX12_four_35 (by decide) ?_
  refine lv_iload_n hx hb dX12_four_2 rfl (lv_at hl 0 rfl) ?_
  refine lv_if_lt (tgt := 38) hx hb dX12_four_3 (by decide) (fun c9 => ?_) (fun c9 => absurd c9 (by decide))
  have hP9 := hP.sub (ws' := [(a0, .inr (11, [.ref a1, .int 0, .int 0, .int 0, .ref a2, .int 0, .ref a3, .ref a4, .ref a5, .ref a6, .int 16, .int 0, .int 0, .int 0, .int 0, .int 0, .int 0, .int (-1), .int (-1), .int (-1), .int 0, .int 0, .int 0, .ref a7, .ref a8, .ref a9, .ref a10, .ref a11, .ref a12, .ref a13, .int 0])), (a5, .inl (k0, 700, .inl (upd (upd (upd (upd (f0) 12 (vp_nar .byte ((v0 >>> 24).toInt8.toInt32))) 13 (vp_nar .byte ((v0 >>> 16).toInt8.toInt32))) 14 (vp_nar .byte ((v0 >>> 8).toInt8.toInt32))) 15 (vp_nar .byte ((v0 >>> 0).toInt8.toInt32)))))]) [0, 1] rfl
  have hD9 := hD.sub (ws' := [(a0, .inr (11, [.ref a1, .int 0, .int 0, .int 0, .ref a2, .int 0, .ref a3, .ref a4, .ref a5, .ref a6, .int 16, .int 0, .int 0, .int 0, .int 0, .int 0, .int 0, .int (-1), .int (-1), .int (-1), .int 0, .int 0, .int 0, .ref a7, .ref a8, .ref a9, .ref a10, .ref a11, .ref a12, .ref a13, .int 0])), (a5, .inl (k0, 700, .inl (upd (upd (upd (upd (f0) 12 (vp_nar .byte ((v0 >>> 24).toInt8.toInt32))) 13 (vp_nar .byte ((v0 >>> 16).toInt8.toInt32))) 14 (vp_nar .byte ((v0 >>> 8).toInt8.toInt32))) 15 (vp_nar .byte ((v0 >>> 0).toInt8.toInt32)))))]) [0, 1] (by decide) rfl
  have hK9 := hK.sub (tys' := []) [] rfl
  refine W.widen (k := 0) (n := 0) (Nat.le_of_ble_eq_true rfl) (Nat.le_of_ble_eq_true rfl) ?_
  exact W.vret hx hb hr (fun t ht hW => ⟨⟨(), rfl, trivial, by rw [ht]; exact hP9, va_K.moved hW.alike hK9, hD9⟩, hS.F ht⟩) hS.2.2 dX12_four_38

set_option maxHeartbeats 4000000 in
set_option maxRecDepth 100000 in
theorem c_X12_four_5 (l : Launch) (dC : Nat → ClassId) (dI : Nat → Nat → Nat) (sz : Nat)  (a0 a1 a2 a3 a4 a5 a6 a7 a8 a9 a10 a11 a12 a13 : Nat) (k0 : ClassId) (f0 : Nat → Int32) (v0 : Int32)  : Met l yX12_four [.code yX12_four cX12_four 3 none] ({ frames := 0, cells := 0, slots := 0, locals := 0 }) (PcE [.ref a0, .int v0] sz dC dI [(k0, .byte)] [(a0, .inr (11, [.ref a1, .int 0, .int 0, .int 0, .ref a2, .int 0, .ref a3, .ref a4, .ref a5, .ref a6, .int 16, .int 0, .int 0, .int 0, .int 0, .int 0, .int 0, .int (-1), .int (-1), .int (-1), .int 0, .int 0, .int 0, .ref a7, .ref a8, .ref a9, .ref a10, .ref a11, .ref a12, .ref a13, .int 0])), (a5, .inl (k0, 700, .inl f0))]) (va_Qv (fun (u : Unit) => True) (Bw dC dI (va_A [(a0, .inr (11, [.ref a1, .int 0, .int 0, .int 0, .ref a2, .int 0, .ref a3, .ref a4, .ref a5, .ref a6, .int 16, .int 0, .int 0, .int 0, .int 0, .int 0, .int 0, .int (-1), .int (-1), .int (-1), .int 0, .int 0, .int 0, .ref a7, .ref a8, .ref a9, .ref a10, .ref a11, .ref a12, .ref a13, .int 0])), (a5, .inl (k0, 700, .inl f0))] sz) (fun (u : Unit) => []) (fun (u : Unit) => [(a0, .inr (11, [.ref a1, .int 0, .int 0, .int 0, .ref a2, .int 0, .ref a3, .ref a4, .ref a5, .ref a6, .int 20, .int 0, .int 0, .int 0, .int 0, .int 0, .int 0, .int (-1), .int (-1), .int (-1), .int 0, .int 0, .int 0, .ref a7, .ref a8, .ref a9, .ref a10, .ref a11, .ref a12, .ref a13, .int 0])), (a5, .inl (k0, 700, .inl (upd (upd (upd (upd (f0) 16 (vp_nar .byte ((v0 >>> 24).toInt8.toInt32))) 17 (vp_nar .byte ((v0 >>> 16).toInt8.toInt32))) 18 (vp_nar .byte ((v0 >>> 8).toInt8.toInt32))) 19 (vp_nar .byte ((v0 >>> 0).toInt8.toInt32)))))])) (va_A [(a0, .inr (11, [.ref a1, .int 0, .int 0, .int 0, .ref a2, .int 0, .ref a3, .ref a4, .ref a5, .ref a6, .int 16, .int 0, .int 0, .int 0, .int 0, .int 0, .int 0, .int (-1), .int (-1), .int (-1), .int 0, .int 0, .int 0, .ref a7, .ref a8, .ref a9, .ref a10, .ref a11, .ref a12, .ref a13, .int 0])), (a5, .inl (k0, 700, .inl f0))] sz)) 0 0 (va_A [(a0, .inr (11, [.ref a1, .int 0, .int 0, .int 0, .ref a2, .int 0, .ref a3, .ref a4, .ref a5, .ref a6, .int 16, .int 0, .int 0, .int 0, .int 0, .int 0, .int 0, .int (-1), .int (-1), .int (-1), .int 0, .int 0, .int 0, .ref a7, .ref a8, .ref a9, .ref a10, .ref a11, .ref a12, .ref a13, .int 0])), (a5, .inl (k0, 700, .inl f0))] sz) := by
  refine Met.ofW (cc := cX12_four) (maxL := 3) (ret := none) (by decide) rfl ?_
  intro p e s m args below meth c s₁ B hml hv
  obtain ⟨rfl, hsz, hP, hK, hD0, hE⟩ := hv
  have hx := B.exec
  have hb := B.bytes
  have hr := B.returns
  have hown : s.vm.findClass RX12 = some m.cls := findClass_of_methodNamed B.named
  have hlocks := B.notSynchronized
  subst hsz
  have hD := hD0.self (sz := s.heap.size)
  generalize hAe : va_A [(a0, .inr (11, [.ref a1, .int 0, .int 0, .int 0, .ref a2, .int 0, .ref a3, .ref a4, .ref a5, .ref a6, .int 16, .int 0, .int 0, .int 0, .int 0, .int 0, .int 0, .int (-1), .int (-1), .int (-1), .int 0, .int 0, .int 0, .ref a7, .ref a8, .ref a9, .ref a10, .ref a11, .ref a12, .ref a13, .int 0])), (a5, .inl (k0, 700, .inl f0))] s.heap.size = A at hD ⊢
  have hA : ∀ q : Nat, s.heap.size ≤ q → A q := fun q h => by rw [← hAe]; exact Or.inr h
  have hS : va_S A s.heap s.heap [] := va_S.rf
  have hl := lv_entry ([.ref a0, .int v0]) (n := 3) (Nat.le_of_ble_eq_true rfl)
  rw [lg_entry_eq]
  generalize (lg_sl ([.ref a0, .int v0]) ++ List.replicate (3 - (lg_sl ([.ref a0, .int v0])).length) Slot.unset).toArray = ls at hl ⊢
  have hl : lv_has ls 3 [(0, .ref a0), (1, .int v0)] := hl
  refine lv_iconst (v := 3) hx hb dX12_four_0 (by decide) ?_
  refine lv_istore_n (lv' := [(2, .int 3), (0, .ref a0), (1, .int v0)]) hx hb dX12_four_1 rfl hl (by decide) rfl (fun ls hl => ?_)
  refine lv_iload_n hx hb dX12_four_2 rfl (lv_at hl 0 rfl) ?_
  refine lv_if_lt (tgt := 38) hx hb dX12_four_3 (by decide) (fun c1 => absurd c1 (by decide)) (fun c1 => ?_)
  refine lv_aload_n hx hb dX12_four_6 rfl (lv_at hl 1 rfl) ?_
  refine va_get (D := (dC, dI)) (ci := 11) (v := .ref a5) (C := RX12) (T := TX12) (N := 31) hx hb (ly_X12 hE) (fun _ h9 => h9) hown hK hP 0 rfl rfl 8 (by decide) (wd_1389 hE) (fun _ h9 => h9) rfl dX12_four_7 ?_
  refine lv_aload_n hx hb dX12_four_10 rfl (lv_at hl 1 rfl) ?_
  refine va_get (D := (dC, dI)) (ci := 11) (v := .int 16) (C := RX12) (T := TX12) (N := 31) hx hb (ly_X12 hE) (fun _ h9 => h9) hown hK hP 0 rfl rfl 10 (by decide) (wd_1391 hE) (fun _ h9 => h9) rfl dX12_four_11 ?_
  refine lv_iload_n hx hb dX12_four_14 rfl (lv_at hl 2 rfl) ?_
  refine lv_bipush (v := 8) hx hb dX12_four_15 (by decide) ?_
  refine lv_iload_n hx hb dX12_four_17 rfl (lv_at hl 0 rfl) ?_
  refine lv_imul hx hb dX12_four_18 ?_
  refine W.eq (g2 := F0 m 19 ls [.int 24, .int v0, .int 16, .ref a5]) rfl ?_
  refine lv_ishr hx hb dX12_four_19 ?_
  refine lv_i2b hx hb dX12_four_20 rfl ?_
  refine va_bast hx hb hK hP hD hS 1 0 rfl rfl (by unfold vp_in; decide) dX12_four_21 (fun H locs hP hD hS => ?_)
  have hP : va_P (dC, dI) vwCl [(a0, .inr (11, [.ref a1, .int 0, .int 0, .int 0, .ref a2, .int 0, .ref a3, .ref a4, .ref a5, .ref a6, .int 16, .int 0, .int 0, .int 0, .int 0, .int 0, .int 0, .int (-1), .int (-1), .int (-1), .int 0, .int 0, .int 0, .ref a7, .ref a8, .ref a9, .ref a10, .ref a11, .ref a12, .ref a13, .int 0])), (a5, .inl (k0, 700, .inl (upd (f0) 16 (vp_nar .byte ((v0 >>> 24).toInt8.toInt32)))))] H := hP
  have hD : va_D A [(a0, .inr (11, [.ref a1, .int 0, .int 0, .int 0, .ref a2, .int 0, .ref a3, .ref a4, .ref a5, .ref a6, .int 16, .int 0, .int 0, .int 0, .int 0, .int 0, .int 0, .int (-1), .int (-1), .int (-1), .int 0, .int 0, .int 0, .ref a7, .ref a8, .ref a9, .ref a10, .ref a11, .ref a12, .ref a13, .int 0])), (a5, .inl (k0, 700, .inl (upd (f0) 16 (vp_nar .byte ((v0 >>> 24).toInt8.toInt32)))))] := hD
  refine lv_aload_n hx hb dX12_four_22 rfl (lv_at hl 1 rfl) ?_
  refine lv_dup hx hb dX12_four_23 rfl ?_
  refine va_get (D := (dC, dI)) (ci := 11) (v := .int 16) (C := RX12) (T := TX12) (N := 31) hx hb (ly_X12 hE) (fun _ h9 => h9) hown hK hP 0 rfl rfl 10 (by decide) (wd_1391 hE) (fun _ h9 => h9) rfl dX12_four_24 ?_
  refine lv_iconst (v := 1) hx hb dX12_four_27 (by decide) ?_
  refine lv_iadd hx hb dX12_four_28 ?_
  refine W.eq (g2 := F0 m 29 ls [.int 17, .ref a0]) rfl ?_
  refine va_put (D := (dC, dI)) (ci := 11) (v := .int 17) (ty := .int) (C := RX12) (T := TX12) (N := 31) hx hb (ly_X12 hE) (fun _ h9 => h9) tyX12 tyX12_ok nmX12 hown hK hP hD hS 0 rfl rfl 10 (by decide) (wd_1391 hE) (fun _ h9 => h9) rfl (by decide +kernel) rfl rfl (Nat.le_of_ble_eq_true rfl) dX12_four_29 (fun H locs hP hD hS => ?_)
  have hP : va_P (dC, dI) vwCl [(a0, .inr (11, [.ref a1, .int 0, .int 0, .int 0, .ref a2, .int 0, .ref a3, .ref a4, .ref a5, .ref a6, .int 17, .int 0, .int 0, .int 0, .int 0, .int 0, .int 0, .int (-1), .int (-1), .int (-1), .int 0, .int 0, .int 0, .ref a7, .ref a8, .ref a9, .ref a10, .ref a11, .ref a12, .ref a13, .int 0])), (a5, .inl (k0, 700, .inl (upd (f0) 16 (vp_nar .byte ((v0 >>> 24).toInt8.toInt32)))))] H := hP
  have hD : va_D A [(a0, .inr (11, [.ref a1, .int 0, .int 0, .int 0, .ref a2, .int 0, .ref a3, .ref a4, .ref a5, .ref a6, .int 17, .int 0, .int 0, .int 0, .int 0, .int 0, .int 0, .int (-1), .int (-1), .int (-1), .int 0, .int 0, .int 0, .ref a7, .ref a8, .ref a9, .ref a10, .ref a11, .ref a12, .ref a13, .int 0])), (a5, .inl (k0, 700, .inl (upd (f0) 16 (vp_nar .byte ((v0 >>> 24).toInt8.toInt32)))))] := hD
  refine lv_iinc (v := 2) (lv' := [(2, .int 2), (0, .ref a0), (1, .int v0)]) hx hb dX12_four_32 hl (k := 0) rfl (by decide) (by decide) rfl (fun ls hl => ?_)
  refine lv_goto (tgt := 2) hx hb dX12_four_35 (by decide) ?_
  refine lv_iload_n hx hb dX12_four_2 rfl (lv_at hl 0 rfl) ?_
  refine lv_if_lt (tgt := 38) hx hb dX12_four_3 (by decide) (fun c3 => absurd c3 (by decide)) (fun c3 => ?_)
  refine lv_aload_n hx hb dX12_four_6 rfl (lv_at hl 1 rfl) ?_
  refine va_get (D := (dC, dI)) (ci := 11) (v := .ref a5) (C := RX12) (T := TX12) (N := 31) hx hb (ly_X12 hE) (fun _ h9 => h9) hown hK hP 0 rfl rfl 8 (by decide) (wd_1389 hE) (fun _ h9 => h9) rfl dX12_four_7 ?_
  refine lv_aload_n hx hb dX12_four_10 rfl (lv_at hl 1 rfl) ?_
  refine va_get (D := (dC, dI)) (ci := 11) (v := .int 17) (C := RX12) (T := TX12) (N := 31) hx hb (ly_X12 hE) (fun _ h9 => h9) hown hK hP 0 rfl rfl 10 (by decide) (wd_1391 hE) (fun _ h9 => h9) rfl dX12_four_11 ?_
  refine lv_iload_n hx hb dX12_four_14 rfl (lv_at hl 2 rfl) ?_
  refine lv_bipush (v := 8) hx hb dX12_four_15 (by decide) ?_
  refine lv_iload_n hx hb dX12_four_17 rfl (lv_at hl 0 rfl) ?_
  refine lv_imul hx hb dX12_four_18 ?_
  refine W.eq (g2 := F0 m 19 ls [.int 16, .int v0, .int 17, .ref a5]) rfl ?_
  refine lv_ishr hx hb dX12_four_19 ?_
  refine lv_i2b hx hb dX12_four_20 rfl ?_
  refine va_bast hx hb hK hP hD hS 1 0 rfl rfl (by unfold vp_in; decide) dX12_four_21 (fun H locs hP hD hS => ?_)
  have hP : va_P (dC, dI) vwCl [(a0, .inr (11, [.ref a1, .int 0, .int 0, .int 0, .ref a2, .int 0, .ref a3, .ref a4, .ref a5, .ref a6, .int 17, .int 0, .int 0, .int 0, .int 0, .int 0, .int 0, .int (-1), .int (-1), .int (-1), .int 0, .int 0, .int 0, .ref a7, .ref a8, .ref a9, .ref a10, .ref a11, .ref a12, .ref a13, .int 0])), (a5, .inl (k0, 700, .inl (upd (upd (f0) 16 (vp_nar .byte ((v0 >>> 24).toInt8.toInt32))) 17 (vp_nar .byte ((v0 >>> 16).toInt8.toInt32)))))] H := hP
  have hD : va_D A [(a0, .inr (11, [.ref a1, .int 0, .int 0, .int 0, .ref a2, .int 0, .ref a3, .ref a4, .ref a5, .ref a6, .int 17, .int 0, .int 0, .int 0, .int 0, .int 0, .int 0, .int (-1), .int (-1), .int (-1), .int 0, .int 0, .int 0, .ref a7, .ref a8, .ref a9, .ref a10, .ref a11, .ref a12, .ref a13, .int 0])), (a5, .inl (k0, 700, .inl (upd (upd (f0) 16 (vp_nar .byte ((v0 >>> 24).toInt8.toInt32))) 17 (vp_nar .byte ((v0 >>> 16).toInt8.toInt32)))))] := hD
  refine lv_aload_n hx hb dX12_four_22 rfl (lv_at hl 1 rfl) ?_
  refine lv_dup hx hb dX12_four_23 rfl ?_
  refine va_get (D := (dC, dI)) (ci := 11) (v := .int 17) (C := RX12) (T := TX12) (N := 31) hx hb (ly_X12 hE) (fun _ h9 => h9) hown hK hP 0 rfl rfl 10 (by decide) (wd_1391 hE) (fun _ h9 => h9) rfl dX12_four_24 ?_
  refine lv_iconst (v := 1) hx hb dX12_four_27 (by decide) ?_
  refine lv_iadd hx hb dX12_four_28 ?_
  refine W.eq (g2 := F0 m 29 ls [.int 18, .ref a0]) rfl ?_
  refine va_put (D := (dC, dI)) (ci := 11) (v := .int 18) (ty := .int) (C := RX12) (T := TX12) (N := 31) hx hb (ly_X12 hE) (fun _ h9 => h9) tyX12 tyX12_ok nmX12 hown hK hP hD hS 0 rfl rfl 10 (by decide) (wd_1391 hE) (fun _ h9 => h9) rfl (by decide +kernel) rfl rfl (Nat.le_of_ble_eq_true rfl) dX12_four_29 (fun H locs hP hD hS => ?_)
  have hP : va_P (dC, dI) vwCl [(a0, .inr (11, [.ref a1, .int 0, .int 0, .int 0, .ref a2, .int 0, .ref a3, .ref a4, .ref a5, .ref a6, .int 18, .int 0, .int 0, .int 0, .int 0, .int 0, .int 0, .int (-1), .int (-1), .int (-1), .int 0, .int 0, .int 0, .ref a7, .ref a8, .ref a9, .ref a10, .ref a11, .ref a12, .ref a13, .int 0])), (a5, .inl (k0, 700, .inl (upd (upd (f0) 16 (vp_nar .byte ((v0 >>> 24).toInt8.toInt32))) 17 (vp_nar .byte ((v0 >>> 16).toInt8.toInt32)))))] H := hP
  have hD : va_D A [(a0, .inr (11, [.ref a1, .int 0, .int 0, .int 0, .ref a2, .int 0, .ref a3, .ref a4, .ref a5, .ref a6, .int 18, .int 0, .int 0, .int 0, .int 0, .int 0, .int 0, .int (-1), .int (-1), .int (-1), .int 0, .int 0, .int 0, .ref a7, .ref a8, .ref a9, .ref a10, .ref a11, .ref a12, .ref a13, .int 0])), (a5, .inl (k0, 700, .inl (upd (upd (f0) 16 (vp_nar .byte ((v0 >>> 24).toInt8.toInt32))) 17 (vp_nar .byte ((v0 >>> 16).toInt8.toInt32)))))] := hD
  refine lv_iinc (v := 1) (lv' := [(2, .int 1), (0, .ref a0), (1, .int v0)]) hx hb dX12_four_32 hl (k := 0) rfl (by decide) (by decide) rfl (fun ls hl => ?_)
  refine lv_goto (tgt := 2) hx hb dX12_four_35 (by decide) ?_
  refine lv_iload_n hx hb dX12_four_2 rfl (lv_at hl 0 rfl) ?_
  refine lv_if_lt (tgt := 38) hx hb dX12_four_3 (by decide) (fun c5 => absurd c5 (by decide)) (fun c5 => ?_)
  refine lv_aload_n hx hb dX12_four_6 rfl (lv_at hl 1 rfl) ?_
  refine va_get (D := (dC, dI)) (ci := 11) (v := .ref a5) (C := RX12) (T := TX12) (N := 31) hx hb (ly_X12 hE) (fun _ h9 => h9) hown hK hP 0 rfl rfl 8 (by decide) (wd_1389 hE) (fun _ h9 => h9) rfl dX12_four_7 ?_
  refine lv_aload_n hx hb dX12_four_10 rfl (lv_at hl 1 rfl) ?_
  refine va_get (D := (dC, dI)) (ci := 11) (v := .int 18) (C := RX12) (T := TX12) (N := 31) hx hb (ly_X12 hE) (fun _ h9 => h9) hown hK hP 0 rfl rfl 10 (by decide) (wd_1391 hE) (fun _ h9 => h9) rfl dX12_four_11 ?_
  refine lv_iload_n hx hb dX12_four_14 rfl (lv_at hl 2 rfl) ?_
  refine lv_bipush (v := 8) hx hb dX12_four_15 (by decide) ?_
  refine lv_iload_n hx hb dX12_four_17 rfl (lv_at hl 0 rfl) ?_
  refine lv_imul hx hb dX12_four_18 ?_
  refine W.eq (g2 := F0 m 19 ls [.int 8, .int v0, .int 18, .ref a5]) rfl ?_
  refine lv_ishr hx hb dX12_four_19 ?_
  refine lv_i2b hx hb dX12_four_20 rfl ?_
  refine va_bast hx hb hK hP hD hS 1 0 rfl rfl (by unfold vp_in; decide) dX12_four_21 (fun H locs hP hD hS => ?_)
  have hP : va_P (dC, dI) vwCl [(a0, .inr (11, [.ref a1, .int 0, .int 0, .int 0, .ref a2, .int 0, .ref a3, .ref a4, .ref a5, .ref a6, .int 18, .int 0, .int 0, .int 0, .int 0, .int 0, .int 0, .int (-1), .int (-1), .int (-1), .int 0, .int 0, .int 0, .ref a7, .ref a8, .ref a9, .ref a10, .ref a11, .ref a12, .ref a13, .int 0])), (a5, .inl (k0, 700, .inl (upd (upd (upd (f0) 16 (vp_nar .byte ((v0 >>> 24).toInt8.toInt32))) 17 (vp_nar .byte ((v0 >>> 16).toInt8.toInt32))) 18 (vp_nar .byte ((v0 >>> 8).toInt8.toInt32)))))] H := hP
  have hD : va_D A [(a0, .inr (11, [.ref a1, .int 0, .int 0, .int 0, .ref a2, .int 0, .ref a3, .ref a4, .ref a5, .ref a6, .int 18, .int 0, .int 0, .int 0, .int 0, .int 0, .int 0, .int (-1), .int (-1), .int (-1), .int 0, .int 0, .int 0, .ref a7, .ref a8, .ref a9, .ref a10, .ref a11, .ref a12, .ref a13, .int 0])), (a5, .inl (k0, 700, .inl (upd (upd (upd (f0) 16 (vp_nar .byte ((v0 >>> 24).toInt8.toInt32))) 17 (vp_nar .byte ((v0 >>> 16).toInt8.toInt32))) 18 (vp_nar .byte ((v0 >>> 8).toInt8.toInt32)))))] := hD
  refine lv_aload_n hx hb dX12_four_22 rfl (lv_at hl 1 rfl) ?_
  refine lv_dup hx hb dX12_four_23 rfl ?_
  refine va_get (D := (dC, dI)) (ci := 11) (v := .int 18) (C := RX12) (T := TX12) (N := 31) hx hb (ly_X12 hE) (fun _ h9 => h9) hown hK hP 0 rfl rfl 10 (by decide) (wd_1391 hE) (fun _ h9 => h9) rfl dX12_four_24 ?_
  refine lv_iconst (v := 1) hx hb dX12_four_27 (by decide) ?_
  refine lv_iadd hx hb dX12_four_28 ?_
  refine W.eq (g2 := F0 m 29 ls [.int 19, .ref a0]) rfl ?_
  refine va_put (D := (dC, dI)) (ci := 11) (v := .int 19) (ty := .int) (C := RX12) (T := TX12) (N := 31) hx hb (ly_X12 hE) (fun _ h9 => h9) tyX12 tyX12_ok nmX12 hown hK hP hD hS 0 rfl rfl 10 (by decide) (wd_1391 hE) (fun _ h9 => h9) rfl (by decide +kernel) rfl rfl (Nat.le_of_ble_eq_true rfl) dX12_four_29 (fun H locs hP hD hS => ?_)
  have hP : va_P (dC, dI) vwCl [(a0, .inr (11, [.ref a1, .int 0, .int 0, .int 0, .ref a2, .int 0, .ref a3, .ref a4, .ref a5, .ref a6, .int 19, .int 0, .int 0, .int 0, .int 0, .int 0, .int 0, .int (-1), .int (-1), .int (-1), .int 0, .int 0, .int 0, .ref a7, .ref a8, .ref a9, .ref a10, .ref a11, .ref a12, .ref a13, .int 0])), (a5, .inl (k0, 700, .inl (upd (upd (upd (f0) 16 (vp_nar .byte ((v0 >>> 24).toInt8.toInt32))) 17 (vp_nar .byte ((v0 >>> 16).toInt8.toInt32))) 18 (vp_nar .byte ((v0 >>> 8).toInt8.toInt32)))))] H := hP
  have hD : va_D A [(a0, .inr (11, [.ref a1, .int 0, .int 0, .int 0, .ref a2, .int 0, .ref a3, .ref a4, .ref a5, .ref a6, .int 19, .int 0, .int 0, .int 0, .int 0, .int 0, .int 0, .int (-1), .int (-1), .int (-1), .int 0, .int 0, .int 0, .ref a7, .ref a8, .ref a9, .ref a10, .ref a11, .ref a12, .ref a13, .int 0])), (a5, .inl (k0, 700, .inl (upd (upd (upd (f0) 16 (vp_nar .byte ((v0 >>> 24).toInt8.toInt32))) 17 (vp_nar .byte ((v0 >>> 16).toInt8.toInt32))) 18 (vp_nar .byte ((v0 >>> 8).toInt8.toInt32)))))] := hD
  refine lv_iinc (v := 0) (lv' := [(2, .int 0), (0, .ref a0), (1, .int v0)]) hx hb dX12_four_32 hl (k := 0) rfl (by decide) (by decide) rfl (fun ls hl => ?_)
  refine lv_goto (tgt := 2) hx hb dX12_four_35 (by decide) ?_
  refine lv_iload_n hx hb dX12_four_2 rfl (lv_at hl 0 rfl) ?_
  refine lv_if_lt (tgt := 38) hx hb dX12_four_3 (by decide) (fun c7 => absurd c7 (by decide)) (fun c7 => ?_)
  refine lv_aload_n hx hb dX12_four_6 rfl (lv_at hl 1 rfl) ?_
  refine va_get (D := (dC, dI)) (ci := 11) (v := .ref a5) (C := RX12) (T := TX12) (N := 31) hx hb (ly_X12 hE) (fun _ h9 => h9) hown hK hP 0 rfl rfl 8 (by decide) (wd_1389 hE) (fun _ h9 => h9) rfl dX12_four_7 ?_
  refine lv_aload_n hx hb dX12_four_10 rfl (lv_at hl 1 rfl) ?_
  refine va_get (D := (dC, dI)) (ci := 11) (v := .int 19) (C := RX12) (T := TX12) (N := 31) hx hb (ly_X12 hE) (fun _ h9 => h9) hown hK hP 0 rfl rfl 10 (by decide) (wd_1391 hE) (fun _ h9 => h9) rfl dX12_four_11 ?_
  refine lv_iload_n hx hb dX12_four_14 rfl (lv_at hl 2 rfl) ?_
  refine lv_bipush (v := 8) hx hb dX12_four_15 (by decide) ?_
  refine lv_iload_n hx hb dX12_four_17 rfl (lv_at hl 0 rfl) ?_
  refine lv_imul hx hb dX12_four_18 ?_
  refine W.eq (g2 := F0 m 19 ls [.int 0, .int v0, .int 19, .ref a5]) rfl ?_
  refine lv_ishr hx hb dX12_four_19 ?_
  refine lv_i2b hx hb dX12_four_20 rfl ?_
  refine va_bast hx hb hK hP hD hS 1 0 rfl rfl (by unfold vp_in; decide) dX12_four_21 (fun H locs hP hD hS => ?_)
  have hP : va_P (dC, dI) vwCl [(a0, .inr (11, [.ref a1, .int 0, .int 0, .int 0, .ref a2, .int 0, .ref a3, .ref a4, .ref a5, .ref a6, .int 19, .int 0, .int 0, .int 0, .int 0, .int 0, .int 0, .int (-1), .int (-1), .int (-1), .int 0, .int 0, .int 0, .ref a7, .ref a8, .ref a9, .ref a10, .ref a11, .ref a12, .ref a13, .int 0])), (a5, .inl (k0, 700, .inl (upd (upd (upd (upd (f0) 16 (vp_nar .byte ((v0 >>> 24).toInt8.toInt32))) 17 (vp_nar .byte ((v0 >>> 16).toInt8.toInt32))) 18 (vp_nar .byte ((v0 >>> 8).toInt8.toInt32))) 19 (vp_nar .byte ((v0 >>> 0).toInt8.toInt32)))))] H := hP
  have hD : va_D A [(a0, .inr (11, [.ref a1, .int 0, .int 0, .int 0, .ref a2, .int 0, .ref a3, .ref a4, .ref a5, .ref a6, .int 19, .int 0, .int 0, .int 0, .int 0, .int 0, .int 0, .int (-1), .int (-1), .int (-1), .int 0, .int 0, .int 0, .ref a7, .ref a8, .ref a9, .ref a10, .ref a11, .ref a12, .ref a13, .int 0])), (a5, .inl (k0, 700, .inl (upd (upd (upd (upd (f0) 16 (vp_nar .byte ((v0 >>> 24).toInt8.toInt32))) 17 (vp_nar .byte ((v0 >>> 16).toInt8.toInt32))) 18 (vp_nar .byte ((v0 >>> 8).toInt8.toInt32))) 19 (vp_nar .byte ((v0 >>> 0).toInt8.toInt32)))))] := hD
  refine lv_aload_n hx hb dX12_four_22 rfl (lv_at hl 1 rfl) ?_
  refine lv_dup hx hb dX12_four_23 rfl ?_
  refine va_get (D := (dC, dI)) (ci := 11) (v := .int 19) (C := RX12) (T := TX12) (N := 31) hx hb (ly_X12 hE) (fun _ h9 => h9) hown hK hP 0 rfl rfl 10 (by decide) (wd_1391 hE) (fun _ h9 => h9) rfl dX12_four_24 ?_
  refine lv_iconst (v := 1) hx hb dX12_four_27 (by decide) ?_
  refine lv_iadd hx hb dX12_four_28 ?_
  refine W.eq (g2 := F0 m 29 ls [.int 20, .ref a0]) rfl ?_
  refine va_put (D := (dC, dI)) (ci := 11) (v := .int 20) (ty := .int) (C := RX12) (T := TX12) (N := 31) hx hb (ly_X12 hE) (fun _ h9 => h9) tyX12 tyX12_ok nmX12 hown hK hP hD hS 0 rfl rfl 10 (by decide) (wd_1391 hE) (fun _ h9 => h9) rfl (by decide +kernel) rfl rfl (Nat.le_of_ble_eq_true rfl) dX12_four_29 (fun H locs hP hD hS => ?_)
  have hP : va_P (dC, dI) vwCl [(a0, .inr (11, [.ref a1, .int 0, .int 0, .int 0, .ref a2, .int 0, .ref a3, .ref a4, .ref a5, .ref a6, .int 20, .int 0, .int 0, .int 0, .int 0, .int 0, .int 0, .int (-1), .int (-1), .int (-1), .int 0, .int 0, .int 0, .ref a7, .ref a8, .ref a9, .ref a10, .ref a11, .ref a12, .ref a13, .int 0])), (a5, .inl (k0, 700, .inl (upd (upd (upd (upd (f0) 16 (vp_nar .byte ((v0 >>> 24).toInt8.toInt32))) 17 (vp_nar .byte ((v0 >>> 16).toInt8.toInt32))) 18 (vp_nar .byte ((v0 >>> 8).toInt8.toInt32))) 19 (vp_nar .byte ((v0 >>> 0).toInt8.toInt32)))))] H := hP
  have hD : va_D A [(a0, .inr (11, [.ref a1, .int 0, .int 0, .int 0, .ref a2, .int 0, .ref a3, .ref a4, .ref a5, .ref a6, .int 20, .int 0, .int 0, .int 0, .int 0, .int 0, .int 0, .int (-1), .int (-1), .int (-1), .int 0, .int 0, .int 0, .ref a7, .ref a8, .ref a9, .ref a10, .ref a11, .ref a12, .ref a13, .int 0])), (a5, .inl (k0, 700, .inl (upd (upd (upd (upd (f0) 16 (vp_nar .byte ((v0 >>> 24).toInt8.toInt32))) 17 (vp_nar .byte ((v0 >>> 16).toInt8.toInt32))) 18 (vp_nar .byte ((v0 >>> 8).toInt8.toInt32))) 19 (vp_nar .byte ((v0 >>> 0).toInt8.toInt32)))))] := hD
  refine lv_iinc (v := -1) (lv' := [(2, .int (-1)), (0, .ref a0), (1, .int v0)]) hx hb dX12_four_32 hl (k := 0) rfl (by decide) (by decide) rfl (fun ls hl => ?_)
  refine lv_goto (tgt := 2) hx hb dX12_four_35 (by decide) ?_
  refine lv_iload_n hx hb dX12_four_2 rfl (lv_at hl 0 rfl) ?_
  refine lv_if_lt (tgt := 38) hx hb dX12_four_3 (by decide) (fun c9 => ?_) (fun c9 => absurd c9 (by decide))
  have hP9 := hP.sub (ws' := [(a0, .inr (11, [.ref a1, .int 0, .int 0, .int 0, .ref a2, .int 0, .ref a3, .ref a4, .ref a5, .ref a6, .int 20, .int 0, .int 0, .int 0, .int 0, .int 0, .int 0, .int (-1), .int (-1), .int (-1), .int 0, .int 0, .int 0, .ref a7, .ref a8, .ref a9, .ref a10, .ref a11, .ref a12, .ref a13, .int 0])), (a5, .inl (k0, 700, .inl (upd (upd (upd (upd (f0) 16 (vp_nar .byte ((v0 >>> 24).toInt8.toInt32))) 17 (vp_nar .byte ((v0 >>> 16).toInt8.toInt32))) 18 (vp_nar .byte ((v0 >>> 8).toInt8.toInt32))) 19 (vp_nar .byte ((v0 >>> 0).toInt8.toInt32)))))]) [0, 1] rfl
  have hD9 := hD.sub (ws' := [(a0, .inr (11, [.ref a1, .int 0, .int 0, .int 0, .ref a2, .int 0, .ref a3, .ref a4, .ref a5, .ref a6, .int 20, .int 0, .int 0, .int 0, .int 0, .int 0, .int 0, .int (-1), .int (-1), .int (-1), .int 0, .int 0, .int 0, .ref a7, .ref a8, .ref a9, .ref a10, .ref a11, .ref a12, .ref a13, .int 0])), (a5, .inl (k0, 700, .inl (upd (upd (upd (upd (f0) 16 (vp_nar .byte ((v0 >>> 24).toInt8.toInt32))) 17 (vp_nar .byte ((v0 >>> 16).toInt8.toInt32))) 18 (vp_nar .byte ((v0 >>> 8).toInt8.toInt32))) 19 (vp_nar .byte ((v0 >>> 0).toInt8.toInt32)))))]) [0, 1] (by decide) rfl
  have hK9 := hK.sub (tys' := []) [] rfl
  refine W.widen (k := 0) (n := 0) (Nat.le_of_ble_eq_true rfl) (Nat.le_of_ble_eq_true rfl) ?_
  exact W.vret hx hb hr (fun t ht hW => ⟨⟨(), rfl, trivial, by rw [ht]; exact hP9, va_K.moved hW.alike hK9, hD9⟩, hS.F ht⟩) hS.2.2 dX12_four_38

set_option maxHeartbeats 4000000 in
set_option maxRecDepth 100000 in
theorem c_X12_feed (l : Launch) (dC : Nat → ClassId) (dI : Nat → Nat → Nat) (sz : Nat)  (a0 a1 a2 a3 a4 a5 a6 a7 a8 a9 a10 a11 a12 a13 : Nat) (k0 : ClassId) (v0 : Int32) (v1 : Int32) (v2 : Int32) (v3 : Int32) (v4 : Int32)  : Met l yX12_feed [.code yX12_feed cX12_feed 6 (some .int)] ({ frames := 1, cells := 0, slots := 0, locals := 40 }) (PcE [.ref a0, .int v0, .int v1, .int v2, .int v3, .int v4] sz dC dI [(k0, .byte)] [(a0, .inr (11, [.ref a1, .int 0, .int 0, .int 0, .ref a2, .int 0, .ref a3, .ref a4, .ref a5, .ref a6, .int 0, .int 0, .int 0, .int 0, .int 0, .int 0, .int 0, .int (-1), .int (-1), .int (-1), .int 0, .int 0, .int 0, .ref a7, .ref a8, .ref a9, .ref a10, .ref a11, .ref a12, .ref a13, .int 0])), (a5, .inl (k0, 700, .inl (fun _ => 0)))]) (va_Qi (fun (r : Int32) (u : Unit) => r = 20) (Bw dC dI (va_A [(a0, .inr (11, [.ref a1, .int 0, .int 0, .int 0, .ref a2, .int 0, .ref a3, .ref a4, .ref a5, .ref a6, .int 0, .int 0, .int 0, .int 0, .int 0, .int 0, .int 0, .int (-1), .int (-1), .int (-1), .int 0, .int 0, .int 0, .ref a7, .ref a8, .ref a9, .ref a10, .ref a11, .ref a12, .ref a13, .int 0])), (a5, .inl (k0, 700, .inl (fun _ => 0)))] sz) (fun (u : Unit) => []) (fun (u : Unit) => [])) (va_A [(a0, .inr (11, [.ref a1, .int 0, .int 0, .int 0, .ref a2, .int 0, .ref a3, .ref a4, .ref a5, .ref a6, .int 0, .int 0, .int 0, .int 0, .int 0, .int 0, .int 0, .int (-1), .int (-1), .int (-1), .int 0, .int 0, .int 0, .ref a7, .ref a8, .ref a9, .ref a10, .ref a11, .ref a12, .ref a13, .int 0])), (a5, .inl (k0, 700, .inl (fun _ => 0)))] sz)) 0 0 (va_A [(a0, .inr (11, [.ref a1, .int 0, .int 0, .int 0, .ref a2, .int 0, .ref a3, .ref a4, .ref a5, .ref a6, .int 0, .int 0, .int 0, .int 0, .int 0, .int 0, .int 0, .int (-1), .int (-1), .int (-1), .int 0, .int 0, .int 0, .ref a7, .ref a8, .ref a9, .ref a10, .ref a11, .ref a12, .ref a13, .int 0])), (a5, .inl (k0, 700, .inl (fun _ => 0)))] sz) := by
  refine Met.ofW (cc := cX12_feed) (maxL := 6) (ret := (some .int)) (by decide) rfl ?_
  intro p e s m args below meth c s₁ B hml hv
  obtain ⟨rfl, hsz, hP, hK, hD0, hE⟩ := hv
  have hx := B.exec
  have hb := B.bytes
  have hr := B.returns
  have hown : s.vm.findClass RX12 = some m.cls := findClass_of_methodNamed B.named
  have hlocks := B.notSynchronized
  subst hsz
  have hD := hD0.self (sz := s.heap.size)
  generalize hAe : va_A [(a0, .inr (11, [.ref a1, .int 0, .int 0, .int 0, .ref a2, .int 0, .ref a3, .ref a4, .ref a5, .ref a6, .int 0, .int 0, .int 0, .int 0, .int 0, .int 0, .int 0, .int (-1), .int (-1), .int (-1), .int 0, .int 0, .int 0, .ref a7, .ref a8, .ref a9, .ref a10, .ref a11, .ref a12, .ref a13, .int 0])), (a5, .inl (k0, 700, .inl (fun _ => 0)))] s.heap.size = A at hD ⊢
  have hA : ∀ q : Nat, s.heap.size ≤ q → A q := fun q h => by rw [← hAe]; exact Or.inr h
  have hS : va_S A s.heap s.heap [] := va_S.rf
  have hl := lv_entry ([.ref a0, .int v0, .int v1, .int v2, .int v3, .int v4]) (n := 6) (Nat.le_of_ble_eq_true rfl)
  rw [lg_entry_eq]
  generalize (lg_sl ([.ref a0, .int v0, .int v1, .int v2, .int v3, .int v4]) ++ List.replicate (6 - (lg_sl ([.ref a0, .int v0, .int v1, .int v2, .int v3, .int v4])).length) Slot.unset).toArray = ls at hl ⊢
  have hl : lv_has ls 6 [(0, .ref a0), (1, .int v0), (2, .int v1), (3, .int v2), (4, .int v3), (5, .int v4)] := hl
  refine lv_aload_n hx hb dX12_feed_0 rfl (lv_at hl 0 rfl) ?_
  refine va_get (D := (dC, dI)) (ci := 11) (v := .int 0) (C := RX12) (T := TX12) (N := 31) hx hb (ly_X12 hE) (fun _ h9 => h9) hown hK hP 0 rfl rfl 10 (by decide) (wd_1391 hE) (fun _ h9 => h9) rfl dX12_feed_1 ?_
  refine lv_sipush (v := 680) hx hb dX12_feed_4 (by decide) ?_
  refine lv_icmp_le (tgt := 12) hx hb dX12_feed_7 (by decide) (fun c1 => ?_) (fun c1 => absurd c1 (by decide))
  refine lv_aload_n hx hb dX12_feed_12 rfl (lv_at hl 0 rfl) ?_
  refine lv_iload_n hx hb dX12_feed_13 rfl (lv_at hl 1 rfl) ?_
  refine cl_v (wc := [(a0, .inr (11, [.ref a1, .int 0, .int 0, .int 0, .ref a2, .int 0, .ref a3, .ref a4, .ref a5, .ref a6, .int 0, .int 0, .int 0, .int 0, .int 0, .int 0, .int 0, .int (-1), .int (-1), .int (-1), .int 0, .int 0, .int 0, .ref a7, .ref a8, .ref a9, .ref a10, .ref a11, .ref a12, .ref a13, .int 0])), (a5, .inl (k0, 700, .inl (fun _ => 0)))]) (wr := []) [0, 1] [] rfl rfl (by decide) (by decide) hK hP hD hS hA (va_runV (As := [.int v0]) (rest := []) ⟨hx, hb, hml, hown, noTs⟩ (c_X12_four l dC dI s.heap.size a0 a1 a2 a3 a4 a5 a6 a7 a8 a9 a10 a11 a12 a13 k0 v0) ⟨cbE 1 (wd_1487 hE) (wd_126 hE) (wd_1484 hE) rfl rfl (by decide +kernel) ⟨Nat.le_of_ble_eq_true rfl, Nat.le_of_ble_eq_true rfl⟩, (wd_1486 hE), (wd_53 hE)⟩ ⟨PcE.blind, va_recv hK hP (ci := 11) (q0 := 0) rfl rfl, (pre_E (av := [.ref a0, .int v0]) (wc := [(a0, .inr (11, [.ref a1, .int 0, .int 0, .int 0, .ref a2, .int 0, .ref a3, .ref a4, .ref a5, .ref a6, .int 0, .int 0, .int 0, .int 0, .int 0, .int 0, .int 0, .int (-1), .int (-1), .int (-1), .int 0, .int 0, .int 0, .ref a7, .ref a8, .ref a9, .ref a10, .ref a11, .ref a12, .ref a13, .int 0])), (a5, .inl (k0, 700, .inl (fun _ => 0)))]) (tysc := [(k0, .byte)]) [0, 1] [0] rfl (by decide) rfl rfl hK hP hD hE)⟩ rfl rfl hl.1 rfl (lv_room (Nat.le_of_ble_eq_true rfl)) dX12_feed_14 ⟨Nat.le_of_ble_eq_true rfl, Nat.le_of_ble_eq_true rfl⟩) (fun u2 H locs hw2 hK hP hD hS => ?_)
  have hK : va_K (dC, dI) vwCl [(k0, .byte)] s := hK
  have hP : va_P (dC, dI) vwCl [(a0, .inr (11, [.ref a1, .int 0, .int 0, .int 0, .ref a2, .int 0, .ref a3, .ref a4, .ref a5, .ref a6, .int 4, .int 0, .int 0, .int 0, .int 0, .int 0, .int 0, .int (-1), .int (-1), .int (-1), .int 0, .int 0, .int 0, .ref a7, .ref a8, .ref a9, .ref a10, .ref a11, .ref a12, .ref a13, .int 0])), (a5, .inl (k0, 700, .inl (upd (upd (upd (upd (fun _ => 0) 0 (vp_nar .byte ((v0 >>> 24).toInt8.toInt32))) 1 (vp_nar .byte ((v0 >>> 16).toInt8.toInt32))) 2 (vp_nar .byte ((v0 >>> 8).toInt8.toInt32))) 3 (vp_nar .byte ((v0 >>> 0).toInt8.toInt32)))))] H := hP
  have hD : va_D A [(a0, .inr (11, [.ref a1, .int 0, .int 0, .int 0, .ref a2, .int 0, .ref a3, .ref a4, .ref a5, .ref a6, .int 4, .int 0, .int 0, .int 0, .int 0, .int 0, .int 0, .int (-1), .int (-1), .int (-1), .int 0, .int 0, .int 0, .ref a7, .ref a8, .ref a9, .ref a10, .ref a11, .ref a12, .ref a13, .int 0])), (a5, .inl (k0, 700, .inl (upd (upd (upd (upd (fun _ => 0) 0 (vp_nar .byte ((v0 >>> 24).toInt8.toInt32))) 1 (vp_nar .byte ((v0 >>> 16).toInt8.toInt32))) 2 (vp_nar .byte ((v0 >>> 8).toInt8.toInt32))) 3 (vp_nar .byte ((v0 >>> 0).toInt8.toInt32)))))] := hD
  refine lv_aload_n hx hb dX12_feed_17 rfl (lv_at hl 0 rfl) ?_
  refine lv_iload_n hx hb dX12_feed_18 rfl (lv_at hl 2 rfl) ?_
  refine cl_v (wc := [(a0, .inr (11, [.ref a1, .int 0, .int 0, .int 0, .ref a2, .int 0, .ref a3, .ref a4, .ref a5, .ref a6, .int 4, .int 0, .int 0, .int 0, .int 0, .int 0, .int 0, .int (-1), .int (-1), .int (-1), .int 0, .int 0, .int 0, .ref a7, .ref a8, .ref a9, .ref a10, .ref a11, .ref a12, .ref a13, .int 0])), (a5, .inl (k0, 700, .inl (upd (upd (upd (upd (fun _ => 0) 0 (vp_nar .byte ((v0 >>> 24).toInt8.toInt32))) 1 (vp_nar .byte ((v0 >>> 16).toInt8.toInt32))) 2 (vp_nar .byte ((v0 >>> 8).toInt8.toInt32))) 3 (vp_nar .byte ((v0 >>> 0).toInt8.toInt32)))))]) (wr := []) [0, 1] [] rfl rfl (by decide) (by decide) hK hP hD hS hA (va_runV (As := [.int v1]) (rest := []) ⟨hx, hb, hml, hown, noTs⟩ (c_X12_four_2 l dC dI H.size a0 a1 a2 a3 a4 a5 a6 a7 a8 a9 a10 a11 a12 a13 k0 (upd (upd (upd (upd (fun _ => 0) 0 (vp_nar .byte ((v0 >>> 24).toInt8.toInt32))) 1 (vp_nar .byte ((v0 >>> 16).toInt8.toInt32))) 2 (vp_nar .byte ((v0 >>> 8).toInt8.toInt32))) 3 (vp_nar .byte ((v0 >>> 0).toInt8.toInt32))) v1) ⟨cbE 1 (wd_1487 hE) (wd_126 hE) (wd_1484 hE) rfl rfl (by decide +kernel) ⟨Nat.le_of_ble_eq_true rfl, Nat.le_of_ble_eq_true rfl⟩, (wd_1486 hE), (wd_53 hE)⟩ ⟨PcE.blind, va_recv hK hP (ci := 11) (q0 := 0) rfl rfl, (pre_E (av := [.ref a0, .int v1]) (wc := [(a0, .inr (11, [.ref a1, .int 0, .int 0, .int 0, .ref a2, .int 0, .ref a3, .ref a4, .ref a5, .ref a6, .int 4, .int 0, .int 0, .int 0, .int 0, .int 0, .int 0, .int (-1), .int (-1), .int (-1), .int 0, .int 0, .int 0, .ref a7, .ref a8, .ref a9, .ref a10, .ref a11, .ref a12, .ref a13, .int 0])), (a5, .inl (k0, 700, .inl (upd (upd (upd (upd (fun _ => 0) 0 (vp_nar .byte ((v0 >>> 24).toInt8.toInt32))) 1 (vp_nar .byte ((v0 >>> 16).toInt8.toInt32))) 2 (vp_nar .byte ((v0 >>> 8).toInt8.toInt32))) 3 (vp_nar .byte ((v0 >>> 0).toInt8.toInt32)))))]) (tysc := [(k0, .byte)]) [0, 1] [0] rfl (by decide) rfl rfl hK hP hD hE)⟩ rfl rfl hl.1 rfl (lv_room (Nat.le_of_ble_eq_true rfl)) dX12_feed_19 ⟨Nat.le_of_ble_eq_true rfl, Nat.le_of_ble_eq_true rfl⟩) (fun u3 H locs hw3 hK hP hD hS => ?_)
  have hK : va_K (dC, dI) vwCl [(k0, .byte)] s := hK
  have hP : va_P (dC, dI) vwCl [(a0, .inr (11, [.ref a1, .int 0, .int 0, .int 0, .ref a2, .int 0, .ref a3, .ref a4, .ref a5, .ref a6, .int 8, .int 0, .int 0, .int 0, .int 0, .int 0, .int 0, .int (-1), .int (-1), .int (-1), .int 0, .int 0, .int 0, .ref a7, .ref a8, .ref a9, .ref a10, .ref a11, .ref a12, .ref a13, .int 0])), (a5, .inl (k0, 700, .inl (upd (upd (upd (upd ((upd (upd (upd (upd (fun _ => 0) 0 (vp_nar .byte ((v0 >>> 24).toInt8.toInt32))) 1 (vp_nar .byte ((v0 >>> 16).toInt8.toInt32))) 2 (vp_nar .byte ((v0 >>> 8).toInt8.toInt32))) 3 (vp_nar .byte ((v0 >>> 0).toInt8.toInt32)))) 4 (vp_nar .byte ((v1 >>> 24).toInt8.toInt32))) 5 (vp_nar .byte ((v1 >>> 16).toInt8.toInt32))) 6 (vp_nar .byte ((v1 >>> 8).toInt8.toInt32))) 7 (vp_nar .byte ((v1 >>> 0).toInt8.toInt32)))))] H := hP
  have hD : va_D A [(a0, .inr (11, [.ref a1, .int 0, .int 0, .int 0, .ref a2, .int 0, .ref a3, .ref a4, .ref a5, .ref a6, .int 8, .int 0, .int 0, .int 0, .int 0, .int 0, .int 0, .int (-1), .int (-1), .int (-1), .int 0, .int 0, .int 0, .ref a7, .ref a8, .ref a9, .ref a10, .ref a11, .ref a12, .ref a13, .int 0])), (a5, .inl (k0, 700, .inl (upd (upd (upd (upd ((upd (upd (upd (upd (fun _ => 0) 0 (vp_nar .byte ((v0 >>> 24).toInt8.toInt32))) 1 (vp_nar .byte ((v0 >>> 16).toInt8.toInt32))) 2 (vp_nar .byte ((v0 >>> 8).toInt8.toInt32))) 3 (vp_nar .byte ((v0 >>> 0).toInt8.toInt32)))) 4 (vp_nar .byte ((v1 >>> 24).toInt8.toInt32))) 5 (vp_nar .byte ((v1 >>> 16).toInt8.toInt32))) 6 (vp_nar .byte ((v1 >>> 8).toInt8.toInt32))) 7 (vp_nar .byte ((v1 >>> 0).toInt8.toInt32)))))] := hD
  refine lv_aload_n hx hb dX12_feed_22 rfl (lv_at hl 0 rfl) ?_
  refine lv_iload_n hx hb dX12_feed_23 rfl (lv_at hl 3 rfl) ?_
  refine cl_v (wc := [(a0, .inr (11, [.ref a1, .int 0, .int 0, .int 0, .ref a2, .int 0, .ref a3, .ref a4, .ref a5, .ref a6, .int 8, .int 0, .int 0, .int 0, .int 0, .int 0, .int 0, .int (-1), .int (-1), .int (-1), .int 0, .int 0, .int 0, .ref a7, .ref a8, .ref a9, .ref a10, .ref a11, .ref a12, .ref a13, .int 0])), (a5, .inl (k0, 700, .inl (upd (upd (upd (upd ((upd (upd (upd (upd (fun _ => 0) 0 (vp_nar .byte ((v0 >>> 24).toInt8.toInt32))) 1 (vp_nar .byte ((v0 >>> 16).toInt8.toInt32))) 2 (vp_nar .byte ((v0 >>> 8).toInt8.toInt32))) 3 (vp_nar .byte ((v0 >>> 0).toInt8.toInt32)))) 4 (vp_nar .byte ((v1 >>> 24).toInt8.toInt32))) 5 (vp_nar .byte ((v1 >>> 16).toInt8.toInt32))) 6 (vp_nar .byte ((v1 >>> 8).toInt8.toInt32))) 7 (vp_nar .byte ((v1 >>> 0).toInt8.toInt32)))))]) (wr := []) [0, 1] [] rfl rfl (by decide) (by decide) hK hP hD hS hA (va_runV (As := [.int v2]) (rest := []) ⟨hx, hb, hml, hown, noTs⟩ (c_X12_four_3 l dC dI H.size a0 a1 a2 a3 a4 a5 a6 a7 a8 a9 a10 a11 a12 a13 k0 (upd (upd (upd (upd ((upd (upd (upd (upd (fun _ => 0) 0 (vp_nar .byte ((v0 >>> 24).toInt8.toInt32))) 1 (vp_nar .byte ((v0 >>> 16).toInt8.toInt32))) 2 (vp_nar .byte ((v0 >>> 8).toInt8.toInt32))) 3 (vp_nar .byte ((v0 >>> 0).toInt8.toInt32)))) 4 (vp_nar .byte ((v1 >>> 24).toInt8.toInt32))) 5 (vp_nar .byte ((v1 >>> 16).toInt8.toInt32))) 6 (vp_nar .byte ((v1 >>> 8).toInt8.toInt32))) 7 (vp_nar .byte ((v1 >>> 0).toInt8.toInt32))) v2) ⟨cbE 1 (wd_1487 hE) (wd_126 hE) (wd_1484 hE) rfl rfl (by decide +kernel) ⟨Nat.le_of_ble_eq_true rfl, Nat.le_of_ble_eq_true rfl⟩, (wd_1486 hE), (wd_53 hE)⟩ ⟨PcE.blind, va_recv hK hP (ci := 11) (q0 := 0) rfl rfl, (pre_E (av := [.ref a0, .int v2]) (wc := [(a0, .inr (11, [.ref a1, .int 0, .int 0, .int 0, .ref a2, .int 0, .ref a3, .ref a4, .ref a5, .ref a6, .int 8, .int 0, .int 0, .int 0, .int 0, .int 0, .int 0, .int (-1), .int (-1), .int (-1), .int 0, .int 0, .int 0, .ref a7, .ref a8, .ref a9, .ref a10, .ref a11, .ref a12, .ref a13, .int 0])), (a5, .inl (k0, 700, .inl (upd (upd (upd (upd ((upd (upd (upd (upd (fun _ => 0) 0 (vp_nar .byte ((v0 >>> 24).toInt8.toInt32))) 1 (vp_nar .byte ((v0 >>> 16).toInt8.toInt32))) 2 (vp_nar .byte ((v0 >>> 8).toInt8.toInt32))) 3 (vp_nar .byte ((v0 >>> 0).toInt8.toInt32)))) 4 (vp_nar .byte ((v1 >>> 24).toInt8.toInt32))) 5 (vp_nar .byte ((v1 >>> 16).toInt8.toInt32))) 6 (vp_nar .byte ((v1 >>> 8).toInt8.toInt32))) 7 (vp_nar .byte ((v1 >>> 0).toInt8.toInt32)))))]) (tysc := [(k0, .byte)]) [0, 1] [0] rfl (by decide) rfl rfl hK hP hD hE)⟩ rfl rfl hl.1 rfl (lv_room (Nat.le_of_ble_eq_true rfl)) dX12_feed_24 ⟨Nat.le_of_ble_eq_true rfl, Nat.le_of_ble_eq_true rfl⟩) (fun u4 H locs hw4 hK hP hD hS => ?_)
  have hK : va_K (dC, dI) vwCl [(k0, .byte)] s := hK
  have hP : va_P (dC, dI) vwCl [(a0, .inr (11, [.ref a1, .int 0, .int 0, .int 0, .ref a2, .int 0, .ref a3, .ref a4, .ref a5, .ref a6, .int 12, .int 0, .int 0, .int 0, .int 0, .int 0, .int 0, .int (-1), .int (-1), .int (-1), .int 0, .int 0, .int 0, .ref a7, .ref a8, .ref a9, .ref a10, .ref a11, .ref a12, .ref a13, .int 0])), (a5, .inl (k0, 700, .inl (upd (upd (upd (upd ((upd (upd (upd (upd ((upd (upd (upd (upd (fun _ => 0) 0 (vp_nar .byte ((v0 >>> 24).toInt8.toInt32))) 1 (vp_nar .byte ((v0 >>> 16).toInt8.toInt32))) 2 (vp_nar .byte ((v0 >>> 8).toInt8.toInt32))) 3 (vp_nar .byte ((v0 >>> 0).toInt8.toInt32)))) 4 (vp_nar .byte ((v1 >>> 24).toInt8.toInt32))) 5 (vp_nar .byte ((v1 >>> 16).toInt8.toInt32))) 6 (vp_nar .byte ((v1 >>> 8).toInt8.toInt32))) 7 (vp_nar .byte ((v1 >>> 0).toInt8.toInt32)))) 8 (vp_nar .byte ((v2 >>> 24).toInt8.toInt32))) 9 (vp_nar .byte ((v2 >>> 16).toInt8.toInt32))) 10 (vp_nar .byte ((v2 >>> 8).toInt8.toInt32))) 11 (vp_nar .byte ((v2 >>> 0).toInt8.toInt32)))))] H := hP
  have hD : va_D A [(a0, .inr (11, [.ref a1, .int 0, .int 0, .int 0, .ref a2, .int 0, .ref a3, .ref a4, .ref a5, .ref a6, .int 12, .int 0, .int 0, .int 0, .int 0, .int 0, .int 0, .int (-1), .int (-1), .int (-1), .int 0, .int 0, .int 0, .ref a7, .ref a8, .ref a9, .ref a10, .ref a11, .ref a12, .ref a13, .int 0])), (a5, .inl (k0, 700, .inl (upd (upd (upd (upd ((upd (upd (upd (upd ((upd (upd (upd (upd (fun _ => 0) 0 (vp_nar .byte ((v0 >>> 24).toInt8.toInt32))) 1 (vp_nar .byte ((v0 >>> 16).toInt8.toInt32))) 2 (vp_nar .byte ((v0 >>> 8).toInt8.toInt32))) 3 (vp_nar .byte ((v0 >>> 0).toInt8.toInt32)))) 4 (vp_nar .byte ((v1 >>> 24).toInt8.toInt32))) 5 (vp_nar .byte ((v1 >>> 16).toInt8.toInt32))) 6 (vp_nar .byte ((v1 >>> 8).toInt8.toInt32))) 7 (vp_nar .byte ((v1 >>> 0).toInt8.toInt32)))) 8 (vp_nar .byte ((v2 >>> 24).toInt8.toInt32))) 9 (vp_nar .byte ((v2 >>> 16).toInt8.toInt32))) 10 (vp_nar .byte ((v2 >>> 8).toInt8.toInt32))) 11 (vp_nar .byte ((v2 >>> 0).toInt8.toInt32)))))] := hD
  refine lv_aload_n hx hb dX12_feed_27 rfl (lv_at hl 0 rfl) ?_
  refine lv_iload hx hb dX12_feed_28 (lv_at hl 4 rfl) ?_
  refine cl_v (wc := [(a0, .inr (11, [.ref a1, .int 0, .int 0, .int 0, .ref a2, .int 0, .ref a3, .ref a4, .ref a5, .ref a6, .int 12, .int 0, .int 0, .int 0, .int 0, .int 0, .int 0, .int (-1), .int (-1), .int (-1), .int 0, .int 0, .int 0, .ref a7, .ref a8, .ref a9, .ref a10, .ref a11, .ref a12, .ref a13, .int 0])), (a5, .inl (k0, 700, .inl (upd (upd (upd (upd ((upd (upd (upd (upd ((upd (upd (upd (upd (fun _ => 0) 0 (vp_nar .byte ((v0 >>> 24).toInt8.toInt32))) 1 (vp_nar .byte ((v0 >>> 16).toInt8.toInt32))) 2 (vp_nar .byte ((v0 >>> 8).toInt8.toInt32))) 3 (vp_nar .byte ((v0 >>> 0).toInt8.toInt32)))) 4 (vp_nar .byte ((v1 >>> 24).toInt8.toInt32))) 5 (vp_nar .byte ((v1 >>> 16).toInt8.toInt32))) 6 (vp_nar .byte ((v1 >>> 8).toInt8.toInt32))) 7 (vp_nar .byte ((v1 >>> 0).toInt8.toInt32)))) 8 (vp_nar .byte ((v2 >>> 24).toInt8.toInt32))) 9 (vp_nar .byte ((v2 >>> 16).toInt8.toInt32))) 10 (vp_nar .byte ((v2 >>> 8).toInt8.toInt32))) 11 (vp_nar .byte ((v2 >>> 0).toInt8.toInt32)))))]) (wr := []) [0, 1] [] rfl rfl (by decide) (by decide) hK hP hD hS hA (va_runV (As := [.int v3]) (rest := []) ⟨hx, hb, hml, hown, noTs⟩ (c_X12_four_4 l dC dI H.size a0 a1 a2 a3 a4 a5 a6 a7 a8 a9 a10 a11 a12 a13 k0 (upd (upd (upd (upd ((upd (upd (upd (upd ((upd (upd (upd (upd (fun _ => 0) 0 (vp_nar .byte ((v0 >>> 24).toInt8.toInt32))) 1 (vp_nar .byte ((v0 >>> 16).toInt8.toInt32))) 2 (vp_nar .byte ((v0 >>> 8).toInt8.toInt32))) 3 (vp_nar .byte ((v0 >>> 0).toInt8.toInt32)))) 4 (vp_nar .byte ((v1 >>> 24).toInt8.toInt32))) 5 (vp_nar .byte ((v1 >>> 16).toInt8.toInt32))) 6 (vp_nar .byte ((v1 >>> 8).toInt8.toInt32))) 7 (vp_nar .byte ((v1 >>> 0).toInt8.toInt32)))) 8 (vp_nar .byte ((v2 >>> 24).toInt8.toInt32))) 9 (vp_nar .byte ((v2 >>> 16).toInt8.toInt32))) 10 (vp_nar .byte ((v2 >>> 8).toInt8.toInt32))) 11 (vp_nar .byte ((v2 >>> 0).toInt8.toInt32))) v3) ⟨cbE 1 (wd_1487 hE) (wd_126 hE) (wd_1484 hE) rfl rfl (by decide +kernel) ⟨Nat.le_of_ble_eq_true rfl, Nat.le_of_ble_eq_true rfl⟩, (wd_1486 hE), (wd_53 hE)⟩ ⟨PcE.blind, va_recv hK hP (ci := 11) (q0 := 0) rfl rfl, (pre_E (av := [.ref a0, .int v3]) (wc := [(a0, .inr (11, [.ref a1, .int 0, .int 0, .int 0, .ref a2, .int 0, .ref a3, .ref a4, .ref a5, .ref a6, .int 12, .int 0, .int 0, .int 0, .int 0, .int 0, .int 0, .int (-1), .int (-1), .int (-1), .int 0, .int 0, .int 0, .ref a7, .ref a8, .ref a9, .ref a10, .ref a11, .ref a12, .ref a13, .int 0])), (a5, .inl (k0, 700, .inl (upd (upd (upd (upd ((upd (upd (upd (upd ((upd (upd (upd (upd (fun _ => 0) 0 (vp_nar .byte ((v0 >>> 24).toInt8.toInt32))) 1 (vp_nar .byte ((v0 >>> 16).toInt8.toInt32))) 2 (vp_nar .byte ((v0 >>> 8).toInt8.toInt32))) 3 (vp_nar .byte ((v0 >>> 0).toInt8.toInt32)))) 4 (vp_nar .byte ((v1 >>> 24).toInt8.toInt32))) 5 (vp_nar .byte ((v1 >>> 16).toInt8.toInt32))) 6 (vp_nar .byte ((v1 >>> 8).toInt8.toInt32))) 7 (vp_nar .byte ((v1 >>> 0).toInt8.toInt32)))) 8 (vp_nar .byte ((v2 >>> 24).toInt8.toInt32))) 9 (vp_nar .byte ((v2 >>> 16).toInt8.toInt32))) 10 (vp_nar .byte ((v2 >>> 8).toInt8.toInt32))) 11 (vp_nar .byte ((v2 >>> 0).toInt8.toInt32)))))]) (tysc := [(k0, .byte)]) [0, 1] [0] rfl (by decide) rfl rfl hK hP hD hE)⟩ rfl rfl hl.1 rfl (lv_room (Nat.le_of_ble_eq_true rfl)) dX12_feed_30 ⟨Nat.le_of_ble_eq_true rfl, Nat.le_of_ble_eq_true rfl⟩) (fun u5 H locs hw5 hK hP hD hS => ?_)
  have hK : va_K (dC, dI) vwCl [(k0, .byte)] s := hK
  have hP : va_P (dC, dI) vwCl [(a0, .inr (11, [.ref a1, .int 0, .int 0, .int 0, .ref a2, .int 0, .ref a3, .ref a4, .ref a5, .ref a6, .int 16, .int 0, .int 0, .int 0, .int 0, .int 0, .int 0, .int (-1), .int (-1), .int (-1), .int 0, .int 0, .int 0, .ref a7, .ref a8, .ref a9, .ref a10, .ref a11, .ref a12, .ref a13, .int 0])), (a5, .inl (k0, 700, .inl (upd (upd (upd (upd ((upd (upd (upd (upd ((upd (upd (upd (upd ((upd (upd (upd (upd (fun _ => 0) 0 (vp_nar .byte ((v0 >>> 24).toInt8.toInt32))) 1 (vp_nar .byte ((v0 >>> 16).toInt8.toInt32))) 2 (vp_nar .byte ((v0 >>> 8).toInt8.toInt32))) 3 (vp_nar .byte ((v0 >>> 0).toInt8.toInt32)))) 4 (vp_nar .byte ((v1 >>> 24).toInt8.toInt32))) 5 (vp_nar .byte ((v1 >>> 16).toInt8.toInt32))) 6 (vp_nar .byte ((v1 >>> 8).toInt8.toInt32))) 7 (vp_nar .byte ((v1 >>> 0).toInt8.toInt32)))) 8 (vp_nar .byte ((v2 >>> 24).toInt8.toInt32))) 9 (vp_nar .byte ((v2 >>> 16).toInt8.toInt32))) 10 (vp_nar .byte ((v2 >>> 8).toInt8.toInt32))) 11 (vp_nar .byte ((v2 >>> 0).toInt8.toInt32)))) 12 (vp_nar .byte ((v3 >>> 24).toInt8.toInt32))) 13 (vp_nar .byte ((v3 >>> 16).toInt8.toInt32))) 14 (vp_nar .byte ((v3 >>> 8).toInt8.toInt32))) 15 (vp_nar .byte ((v3 >>> 0).toInt8.toInt32)))))] H := hP
  have hD : va_D A [(a0, .inr (11, [.ref a1, .int 0, .int 0, .int 0, .ref a2, .int 0, .ref a3, .ref a4, .ref a5, .ref a6, .int 16, .int 0, .int 0, .int 0, .int 0, .int 0, .int 0, .int (-1), .int (-1), .int (-1), .int 0, .int 0, .int 0, .ref a7, .ref a8, .ref a9, .ref a10, .ref a11, .ref a12, .ref a13, .int 0])), (a5, .inl (k0, 700, .inl (upd (upd (upd (upd ((upd (upd (upd (upd ((upd (upd (upd (upd ((upd (upd (upd (upd (fun _ => 0) 0 (vp_nar .byte ((v0 >>> 24).toInt8.toInt32))) 1 (vp_nar .byte ((v0 >>> 16).toInt8.toInt32))) 2 (vp_nar .byte ((v0 >>> 8).toInt8.toInt32))) 3 (vp_nar .byte ((v0 >>> 0).toInt8.toInt32)))) 4 (vp_nar .byte ((v1 >>> 24).toInt8.toInt32))) 5 (vp_nar .byte ((v1 >>> 16).toInt8.toInt32))) 6 (vp_nar .byte ((v1 >>> 8).toInt8.toInt32))) 7 (vp_nar .byte ((v1 >>> 0).toInt8.toInt32)))) 8 (vp_nar .byte ((v2 >>> 24).toInt8.toInt32))) 9 (vp_nar .byte ((v2 >>> 16).toInt8.toInt32))) 10 (vp_nar .byte ((v2 >>> 8).toInt8.toInt32))) 11 (vp_nar .byte ((v2 >>> 0).toInt8.toInt32)))) 12 (vp_nar .byte ((v3 >>> 24).toInt8.toInt32))) 13 (vp_nar .byte ((v3 >>> 16).toInt8.toInt32))) 14 (vp_nar .byte ((v3 >>> 8).toInt8.toInt32))) 15 (vp_nar .byte ((v3 >>> 0).toInt8.toInt32)))))] := hD
  refine lv_aload_n hx hb dX12_feed_33 rfl (lv_at hl 0 rfl) ?_
  refine lv_iload hx hb dX12_feed_34 (lv_at hl 5 rfl) ?_
  refine cl_v (wc := [(a0, .inr (11, [.ref a1, .int 0, .int 0, .int 0, .ref a2, .int 0, .ref a3, .ref a4, .ref a5, .ref a6, .int 16, .int 0, .int 0, .int 0, .int 0, .int 0, .int 0, .int (-1), .int (-1), .int (-1), .int 0, .int 0, .int 0, .ref a7, .ref a8, .ref a9, .ref a10, .ref a11, .ref a12, .ref a13, .int 0])), (a5, .inl (k0, 700, .inl (upd (upd (upd (upd ((upd (upd (upd (upd ((upd (upd (upd (upd ((upd (upd (upd (upd (fun _ => 0) 0 (vp_nar .byte ((v0 >>> 24).toInt8.toInt32))) 1 (vp_nar .byte ((v0 >>> 16).toInt8.toInt32))) 2 (vp_nar .byte ((v0 >>> 8).toInt8.toInt32))) 3 (vp_nar .byte ((v0 >>> 0).toInt8.toInt32)))) 4 (vp_nar .byte ((v1 >>> 24).toInt8.toInt32))) 5 (vp_nar .byte ((v1 >>> 16).toInt8.toInt32))) 6 (vp_nar .byte ((v1 >>> 8).toInt8.toInt32))) 7 (vp_nar .byte ((v1 >>> 0).toInt8.toInt32)))) 8 (vp_nar .byte ((v2 >>> 24).toInt8.toInt32))) 9 (vp_nar .byte ((v2 >>> 16).toInt8.toInt32))) 10 (vp_nar .byte ((v2 >>> 8).toInt8.toInt32))) 11 (vp_nar .byte ((v2 >>> 0).toInt8.toInt32)))) 12 (vp_nar .byte ((v3 >>> 24).toInt8.toInt32))) 13 (vp_nar .byte ((v3 >>> 16).toInt8.toInt32))) 14 (vp_nar .byte ((v3 >>> 8).toInt8.toInt32))) 15 (vp_nar .byte ((v3 >>> 0).toInt8.toInt32)))))]) (wr := []) [0, 1] [] rfl rfl (by decide) (by decide) hK hP hD hS hA (va_runV (As := [.int v4]) (rest := []) ⟨hx, hb, hml, hown, noTs⟩ (c_X12_four_5 l dC dI H.size a0 a1 a2 a3 a4 a5 a6 a7 a8 a9 a10 a11 a12 a13 k0 (upd (upd (upd (upd ((upd (upd (upd (upd ((upd (upd (upd (upd ((upd (upd (upd (upd (fun _ => 0) 0 (vp_nar .byte ((v0 >>> 24).toInt8.toInt32))) 1 (vp_nar .byte ((v0 >>> 16).toInt8.toInt32))) 2 (vp_nar .byte ((v0 >>> 8).toInt8.toInt32))) 3 (vp_nar .byte ((v0 >>> 0).toInt8.toInt32)))) 4 (vp_nar .byte ((v1 >>> 24).toInt8.toInt32))) 5 (vp_nar .byte ((v1 >>> 16).toInt8.toInt32))) 6 (vp_nar .byte ((v1 >>> 8).toInt8.toInt32))) 7 (vp_nar .byte ((v1 >>> 0).toInt8.toInt32)))) 8 (vp_nar .byte ((v2 >>> 24).toInt8.toInt32))) 9 (vp_nar .byte ((v2 >>> 16).toInt8.toInt32))) 10 (vp_nar .byte ((v2 >>> 8).toInt8.toInt32))) 11 (vp_nar .byte ((v2 >>> 0).toInt8.toInt32)))) 12 (vp_nar .byte ((v3 >>> 24).toInt8.toInt32))) 13 (vp_nar .byte ((v3 >>> 16).toInt8.toInt32))) 14 (vp_nar .byte ((v3 >>> 8).toInt8.toInt32))) 15 (vp_nar .byte ((v3 >>> 0).toInt8.toInt32))) v4) ⟨cbE 1 (wd_1487 hE) (wd_126 hE) (wd_1484 hE) rfl rfl (by decide +kernel) ⟨Nat.le_of_ble_eq_true rfl, Nat.le_of_ble_eq_true rfl⟩, (wd_1486 hE), (wd_53 hE)⟩ ⟨PcE.blind, va_recv hK hP (ci := 11) (q0 := 0) rfl rfl, (pre_E (av := [.ref a0, .int v4]) (wc := [(a0, .inr (11, [.ref a1, .int 0, .int 0, .int 0, .ref a2, .int 0, .ref a3, .ref a4, .ref a5, .ref a6, .int 16, .int 0, .int 0, .int 0, .int 0, .int 0, .int 0, .int (-1), .int (-1), .int (-1), .int 0, .int 0, .int 0, .ref a7, .ref a8, .ref a9, .ref a10, .ref a11, .ref a12, .ref a13, .int 0])), (a5, .inl (k0, 700, .inl (upd (upd (upd (upd ((upd (upd (upd (upd ((upd (upd (upd (upd ((upd (upd (upd (upd (fun _ => 0) 0 (vp_nar .byte ((v0 >>> 24).toInt8.toInt32))) 1 (vp_nar .byte ((v0 >>> 16).toInt8.toInt32))) 2 (vp_nar .byte ((v0 >>> 8).toInt8.toInt32))) 3 (vp_nar .byte ((v0 >>> 0).toInt8.toInt32)))) 4 (vp_nar .byte ((v1 >>> 24).toInt8.toInt32))) 5 (vp_nar .byte ((v1 >>> 16).toInt8.toInt32))) 6 (vp_nar .byte ((v1 >>> 8).toInt8.toInt32))) 7 (vp_nar .byte ((v1 >>> 0).toInt8.toInt32)))) 8 (vp_nar .byte ((v2 >>> 24).toInt8.toInt32))) 9 (vp_nar .byte ((v2 >>> 16).toInt8.toInt32))) 10 (vp_nar .byte ((v2 >>> 8).toInt8.toInt32))) 11 (vp_nar .byte ((v2 >>> 0).toInt8.toInt32)))) 12 (vp_nar .byte ((v3 >>> 24).toInt8.toInt32))) 13 (vp_nar .byte ((v3 >>> 16).toInt8.toInt32))) 14 (vp_nar .byte ((v3 >>> 8).toInt8.toInt32))) 15 (vp_nar .byte ((v3 >>> 0).toInt8.toInt32)))))]) (tysc := [(k0, .byte)]) [0, 1] [0] rfl (by decide) rfl rfl hK hP hD hE)⟩ rfl rfl hl.1 rfl (lv_room (Nat.le_of_ble_eq_true rfl)) dX12_feed_36 ⟨Nat.le_of_ble_eq_true rfl, Nat.le_of_ble_eq_true rfl⟩) (fun u6 H locs hw6 hK hP hD hS => ?_)
  have hK : va_K (dC, dI) vwCl [(k0, .byte)] s := hK
  have hP : va_P (dC, dI) vwCl [(a0, .inr (11, [.ref a1, .int 0, .int 0, .int 0, .ref a2, .int 0, .ref a3, .ref a4, .ref a5, .ref a6, .int 20, .int 0, .int 0, .int 0, .int 0, .int 0, .int 0, .int (-1), .int (-1), .int (-1), .int 0, .int 0, .int 0, .ref a7, .ref a8, .ref a9, .ref a10, .ref a11, .ref a12, .ref a13, .int 0])), (a5, .inl (k0, 700, .inl (upd (upd (upd (upd ((upd (upd (upd (upd ((upd (upd (upd (upd ((upd (upd (upd (upd ((upd (upd (upd (upd (fun _ => 0) 0 (vp_nar .byte ((v0 >>> 24).toInt8.toInt32))) 1 (vp_nar .byte ((v0 >>> 16).toInt8.toInt32))) 2 (vp_nar .byte ((v0 >>> 8).toInt8.toInt32))) 3 (vp_nar .byte ((v0 >>> 0).toInt8.toInt32)))) 4 (vp_nar .byte ((v1 >>> 24).toInt8.toInt32))) 5 (vp_nar .byte ((v1 >>> 16).toInt8.toInt32))) 6 (vp_nar .byte ((v1 >>> 8).toInt8.toInt32))) 7 (vp_nar .byte ((v1 >>> 0).toInt8.toInt32)))) 8 (vp_nar .byte ((v2 >>> 24).toInt8.toInt32))) 9 (vp_nar .byte ((v2 >>> 16).toInt8.toInt32))) 10 (vp_nar .byte ((v2 >>> 8).toInt8.toInt32))) 11 (vp_nar .byte ((v2 >>> 0).toInt8.toInt32)))) 12 (vp_nar .byte ((v3 >>> 24).toInt8.toInt32))) 13 (vp_nar .byte ((v3 >>> 16).toInt8.toInt32))) 14 (vp_nar .byte ((v3 >>> 8).toInt8.toInt32))) 15 (vp_nar .byte ((v3 >>> 0).toInt8.toInt32)))) 16 (vp_nar .byte ((v4 >>> 24).toInt8.toInt32))) 17 (vp_nar .byte ((v4 >>> 16).toInt8.toInt32))) 18 (vp_nar .byte ((v4 >>> 8).toInt8.toInt32))) 19 (vp_nar .byte ((v4 >>> 0).toInt8.toInt32)))))] H := hP
  have hD : va_D A [(a0, .inr (11, [.ref a1, .int 0, .int 0, .int 0, .ref a2, .int 0, .ref a3, .ref a4, .ref a5, .ref a6, .int 20, .int 0, .int 0, .int 0, .int 0, .int 0, .int 0, .int (-1), .int (-1), .int (-1), .int 0, .int 0, .int 0, .ref a7, .ref a8, .ref a9, .ref a10, .ref a11, .ref a12, .ref a13, .int 0])), (a5, .inl (k0, 700, .inl (upd (upd (upd (upd ((upd (upd (upd (upd ((upd (upd (upd (upd ((upd (upd (upd (upd ((upd (upd (upd (upd (fun _ => 0) 0 (vp_nar .byte ((v0 >>> 24).toInt8.toInt32))) 1 (vp_nar .byte ((v0 >>> 16).toInt8.toInt32))) 2 (vp_nar .byte ((v0 >>> 8).toInt8.toInt32))) 3 (vp_nar .byte ((v0 >>> 0).toInt8.toInt32)))) 4 (vp_nar .byte ((v1 >>> 24).toInt8.toInt32))) 5 (vp_nar .byte ((v1 >>> 16).toInt8.toInt32))) 6 (vp_nar .byte ((v1 >>> 8).toInt8.toInt32))) 7 (vp_nar .byte ((v1 >>> 0).toInt8.toInt32)))) 8 (vp_nar .byte ((v2 >>> 24).toInt8.toInt32))) 9 (vp_nar .byte ((v2 >>> 16).toInt8.toInt32))) 10 (vp_nar .byte ((v2 >>> 8).toInt8.toInt32))) 11 (vp_nar .byte ((v2 >>> 0).toInt8.toInt32)))) 12 (vp_nar .byte ((v3 >>> 24).toInt8.toInt32))) 13 (vp_nar .byte ((v3 >>> 16).toInt8.toInt32))) 14 (vp_nar .byte ((v3 >>> 8).toInt8.toInt32))) 15 (vp_nar .byte ((v3 >>> 0).toInt8.toInt32)))) 16 (vp_nar .byte ((v4 >>> 24).toInt8.toInt32))) 17 (vp_nar .byte ((v4 >>> 16).toInt8.toInt32))) 18 (vp_nar .byte ((v4 >>> 8).toInt8.toInt32))) 19 (vp_nar .byte ((v4 >>> 0).toInt8.toInt32)))))] := hD
  refine lv_aload_n hx hb dX12_feed_39 rfl (lv_at hl 0 rfl) ?_
  refine va_get (D := (dC, dI)) (ci := 11) (v := .int 20) (C := RX12) (T := TX12) (N := 31) hx hb (ly_X12 hE) (fun _ h9 => h9) hown hK hP 0 rfl rfl 10 (by decide) (wd_1391 hE) (fun _ h9 => h9) rfl dX12_feed_40 ?_
  have hP9 := hP.sub (ws' := []) [] rfl
  have hD9 := hD.sub (ws' := []) [] (by decide) rfl
  have hK9 := hK.sub (tys' := []) [] rfl
  refine W.widen (k := 0) (n := 0) (Nat.le_of_ble_eq_true rfl) (Nat.le_of_ble_eq_true rfl) ?_
  exact W.iret (v := 20) hx hb hr (fun t ht hW => ⟨⟨20, (), rfl, rfl, by rw [ht]; exact hP9, va_K.moved hW.alike hK9, hD9⟩, hS.F ht⟩) hS.2.2 dX12_feed_43

set_option maxHeartbeats 4000000 in
set_option maxRecDepth 100000 in
theorem c_isFrom_0_0 (l : Launch) (dC : Nat → ClassId) (dI : Nat → Nat → Nat) (sz : Nat)  (v0 : Int32)  : Met l yX12_isFrom [.code yX12_isFrom cX12_isFrom 3 (some .boolean)] ({ frames := 0, cells := 0, slots := 0, locals := 0 }) (PcE [.int v0, .int 0, .int 0] sz dC dI [] []) (va_Qi (fun (r : Int32) (u : Unit) => (r = 1 ∧ 0 ≤ v0 ∧ v0 ≤ 0) ∨ (r = 0 ∧ ¬ (0 ≤ v0 ∧ v0 ≤ 0))) (Bw dC dI (va_A [] sz) (fun (u : Unit) => []) (fun (u : Unit) => [])) (va_A [] sz)) 0 0 (va_A [] sz) := by
  refine Met.ofW (cc := cX12_isFrom) (maxL := 3) (ret := (some .boolean)) (by decide) rfl ?_
  intro p e s m args below meth c s₁ B hml hv
  obtain ⟨rfl, hsz, hP, hK, hD0, hE⟩ := hv
  have hx := B.exec
  have hb := B.bytes
  have hr := B.returns
  have hown : s.vm.findClass RX12 = some m.cls := findClass_of_methodNamed B.named
  have hlocks := B.notSynchronized
  subst hsz
  have hD := hD0.self (sz := s.heap.size)
  generalize hAe : va_A [] s.heap.size = A at hD ⊢
  have hA : ∀ q : Nat, s.heap.size ≤ q → A q := fun q h => by rw [← hAe]; exact Or.inr h
  have hS : va_S A s.heap s.heap [] := va_S.rf
  have hl := lv_entry ([.int v0, .int 0, .int 0]) (n := 3) (Nat.le_of_ble_eq_true rfl)
  rw [lg_entry_eq]
  generalize (lg_sl ([.int v0, .int 0, .int 0]) ++ List.replicate (3 - (lg_sl ([.int v0, .int 0, .int 0])).length) Slot.unset).toArray = ls at hl ⊢
  have hl : lv_has ls 3 [(0, .int v0), (1, .int 0), (2, .int 0)] := hl
  refine lv_iload_n hx hb dX12_isFrom_0 rfl (lv_at hl 0 rfl) ?_
  refine lv_iload_n hx hb dX12_isFrom_1 rfl (lv_at hl 1 rfl) ?_
  refine lv_icmp_lt (tgt := 14) hx hb dX12_isFrom_2 (by decide) (fun c1 => ?_) (fun c1 => ?_)
  · refine lv_iconst (v := 0) hx hb dX12_isFrom_14 (by decide) ?_
    have hP9 := hP.sub (ws' := []) [] rfl
    have hD9 := hD.sub (ws' := []) [] (by decide) rfl
    have hK9 := hK.sub (tys' := []) [] rfl
    refine W.widen (k := 0) (n := 0) (Nat.le_of_ble_eq_true rfl) (Nat.le_of_ble_eq_true rfl) ?_
    exact W.zret (v := 0) hx hb hr rfl (fun t ht hW => ⟨⟨0, (), rfl, Or.inr ⟨rfl, (by simp only [i_lt, i_le, i_eq, ti_m9, ti_m1, ti_0, ti_1, ti_2, ti_3, ti_4, ti_5, ti_6, ti_7, ti_9, ti_12, ti_20, ti_99, ti_700] at c1 ⊢; omega)⟩, by rw [ht]; exact hP9, va_K.moved hW.alike hK9, hD9⟩, hS.F ht⟩) hS.2.2 dX12_isFrom_15
  · refine lv_iload_n hx hb dX12_isFrom_5 rfl (lv_at hl 0 rfl) ?_
    refine lv_iload_n hx hb dX12_isFrom_6 rfl (lv_at hl 2 rfl) ?_
    refine lv_icmp_gt (tgt := 14) hx hb dX12_isFrom_7 (by decide) (fun c2 => ?_) (fun c2 => ?_)
    · refine lv_iconst (v := 0) hx hb dX12_isFrom_14 (by decide) ?_
      have hP9 := hP.sub (ws' := []) [] rfl
      have hD9 := hD.sub (ws' := []) [] (by decide) rfl
      have hK9 := hK.sub (tys' := []) [] rfl
      refine W.widen (k := 0) (n := 0) (Nat.le_of_ble_eq_true rfl) (Nat.le_of_ble_eq_true rfl) ?_
      exact W.zret (v := 0) hx hb hr rfl (fun t ht hW => ⟨⟨0, (), rfl, Or.inr ⟨rfl, (by simp only [i_lt, i_le, i_eq, ti_m9, ti_m1, ti_0, ti_1, ti_2, ti_3, ti_4, ti_5, ti_6, ti_7, ti_9, ti_12, ti_20, ti_99, ti_700] at c1 c2 ⊢; omega)⟩, by rw [ht]; exact hP9, va_K.moved hW.alike hK9, hD9⟩, hS.F ht⟩) hS.2.2 dX12_isFrom_15
    · obtain rfl : v0 = 0 := by simp only [i_lt, i_le, i_eq, ti_m9, ti_m1, ti_0, ti_1, ti_2, ti_3, ti_4, ti_5, ti_6, ti_7, ti_9, ti_12, ti_20, ti_99, ti_700] at c1 c2 ⊢; omega
      refine lv_iconst (v := 1) hx hb dX12_isFrom_10 (by decide) ?_
      refine lv_goto (tgt := 15) hx hb dX12_isFrom_11 (by decide) ?_
      have hP9 := hP.sub (ws' := []) [] rfl
      have hD9 := hD.sub (ws' := []) [] (by decide) rfl
      have hK9 := hK.sub (tys' := []) [] rfl
      refine W.widen (k := 0) (n := 0) (Nat.le_of_ble_eq_true rfl) (Nat.le_of_ble_eq_true rfl) ?_
      exact W.zret (v := 1) hx hb hr rfl (fun t ht hW => ⟨⟨1, (), rfl, Or.inl ⟨rfl, (by simp only [i_lt, i_le, i_eq, ti_m9, ti_m1, ti_0, ti_1, ti_2, ti_3, ti_4, ti_5, ti_6, ti_7, ti_9, ti_12, ti_20, ti_99, ti_700] at  ⊢; omega), (by simp only [i_lt, i_le, i_eq, ti_m9, ti_m1, ti_0, ti_1, ti_2, ti_3, ti_4, ti_5, ti_6, ti_7, ti_9, ti_12, ti_20, ti_99, ti_700] at  ⊢; omega)⟩, by rw [ht]; exact hP9, va_K.moved hW.alike hK9, hD9⟩, hS.F ht⟩) hS.2.2 dX12_isFrom_15

set_option maxHeartbeats 4000000 in
set_option maxRecDepth 100000 in
theorem c_X12_copies (l : Launch) (dC : Nat → ClassId) (dI : Nat → Nat → Nat) (sz : Nat)  (a0 a1 a2 a3 a4 a5 a6 a7 a8 a9 a10 a11 a12 a13 : Nat) (k0 : ClassId)  : Met l yX12_copies [.code yX12_copies cX12_copies 4 none] ({ frames := 0, cells := 0, slots := 0, locals := 0 }) (PcE [.ref a0, .int 0, .int 554] sz dC dI [(k0, .int)] [(a0, .inr (11, [.ref a1, .int 0, .int 0, .int 0, .ref a2, .int 0, .ref a3, .ref a4, .ref a5, .ref a6, .int 0, .int 0, .int 0, .int 0, .int 0, .int 0, .int 0, .int (-1), .int (-1), .int (-1), .int 0, .int 0, .int 0, .ref a7, .ref a8, .ref a9, .ref a10, .ref a11, .ref a12, .ref a13, .int 0])), (a1, .inl (k0, 7202, .inl (fun _ => 0)))]) (va_Qv (fun (u : Unit) => True) (Bw dC dI (va_A [(a0, .inr (11, [.ref a1, .int 0, .int 0, .int 0, .ref a2, .int 0, .ref a3, .ref a4, .ref a5, .ref a6, .int 0, .int 0, .int 0, .int 0, .int 0, .int 0, .int 0, .int (-1), .int (-1), .int (-1), .int 0, .int 0, .int 0, .ref a7, .ref a8, .ref a9, .ref a10, .ref a11, .ref a12, .ref a13, .int 0])), (a1, .inl (k0, 7202, .inl (fun _ => 0)))] sz) (fun (u : Unit) => []) (fun (u : Unit) => [(a0, .inr (11, [.ref a1, .int 0, .int 0, .int 0, .ref a2, .int 0, .ref a3, .ref a4, .ref a5, .ref a6, .int 0, .int 0, .int 0, .int 0, .int 0, .int 0, .int 0, .int (-1), .int (-1), .int (-1), .int 0, .int 0, .int 0, .ref a7, .ref a8, .ref a9, .ref a10, .ref a11, .ref a12, .ref a13, .int 0])), (a1, .inl (k0, 7202, .inl (fun _ => 0)))])) (va_A [(a0, .inr (11, [.ref a1, .int 0, .int 0, .int 0, .ref a2, .int 0, .ref a3, .ref a4, .ref a5, .ref a6, .int 0, .int 0, .int 0, .int 0, .int 0, .int 0, .int 0, .int (-1), .int (-1), .int (-1), .int 0, .int 0, .int 0, .ref a7, .ref a8, .ref a9, .ref a10, .ref a11, .ref a12, .ref a13, .int 0])), (a1, .inl (k0, 7202, .inl (fun _ => 0)))] sz)) 0 0 (va_A [(a0, .inr (11, [.ref a1, .int 0, .int 0, .int 0, .ref a2, .int 0, .ref a3, .ref a4, .ref a5, .ref a6, .int 0, .int 0, .int 0, .int 0, .int 0, .int 0, .int 0, .int (-1), .int (-1), .int (-1), .int 0, .int 0, .int 0, .ref a7, .ref a8, .ref a9, .ref a10, .ref a11, .ref a12, .ref a13, .int 0])), (a1, .inl (k0, 7202, .inl (fun _ => 0)))] sz) := by
  refine Met.ofW (cc := cX12_copies) (maxL := 4) (ret := none) (by decide) rfl ?_
  intro p e s m args below meth c s₁ B hml hv
  obtain ⟨rfl, hsz, hP, hK, hD0, hE⟩ := hv
  have hx := B.exec
  have hb := B.bytes
  have hr := B.returns
  have hown : s.vm.findClass RX12 = some m.cls := findClass_of_methodNamed B.named
  have hlocks := B.notSynchronized
  subst hsz
  have hD := hD0.self (sz := s.heap.size)
  generalize hAe : va_A [(a0, .inr (11, [.ref a1, .int 0, .int 0, .int 0, .ref a2, .int 0, .ref a3, .ref a4, .ref a5, .ref a6, .int 0, .int 0, .int 0, .int 0, .int 0, .int 0, .int 0, .int (-1), .int (-1), .int (-1), .int 0, .int 0, .int 0, .ref a7, .ref a8, .ref a9, .ref a10, .ref a11, .ref a12, .ref a13, .int 0])), (a1, .inl (k0, 7202, .inl (fun _ => 0)))] s.heap.size = A at hD ⊢
  have hA : ∀ q : Nat, s.heap.size ≤ q → A q := fun q h => by rw [← hAe]; exact Or.inr h
  have hS : va_S A s.heap s.heap [] := va_S.rf
  have hl := lv_entry ([.ref a0, .int 0, .int 554]) (n := 4) (Nat.le_of_ble_eq_true rfl)
  rw [lg_entry_eq]
  generalize (lg_sl ([.ref a0, .int 0, .int 554]) ++ List.replicate (4 - (lg_sl ([.ref a0, .int 0, .int 554])).length) Slot.unset).toArray = ls at hl ⊢
  have hl : lv_has ls 4 [(0, .ref a0), (1, .int 0), (2, .int 554)] := hl
  refine lv_iconst (v := 0) hx hb dX12_copies_0 (by decide) ?_
  refine lv_istore_n (lv' := [(3, .int 0), (0, .ref a0), (1, .int 0), (2, .int 554)]) hx hb dX12_copies_1 rfl hl (by decide) rfl (fun ls hl => ?_)
  refine w_loop (pc := 2) (N := 554) (I := fun k H locs ls => va_P (dC, dI) vwCl [(a0, .inr (11, [.ref a1, .int 0, .int 0, .int 0, .ref a2, .int 0, .ref a3, .ref a4, .ref a5, .ref a6, .int 0, .int 0, .int 0, .int 0, .int 0, .int 0, .int 0, .int (-1), .int (-1), .int (-1), .int 0, .int 0, .int 0, .ref a7, .ref a8, .ref a9, .ref a10, .ref a11, .ref a12, .ref a13, .int 0])), (a1, .inl (k0, 7202, .inl (fun _ => 0)))] H ∧ va_D A [(a0, .inr (11, [.ref a1, .int 0, .int 0, .int 0, .ref a2, .int 0, .ref a3, .ref a4, .ref a5, .ref a6, .int 0, .int 0, .int 0, .int 0, .int 0, .int 0, .int 0, .int (-1), .int (-1), .int (-1), .int 0, .int 0, .int 0, .ref a7, .ref a8, .ref a9, .ref a10, .ref a11, .ref a12, .ref a13, .int 0])), (a1, .inl (k0, 7202, .inl (fun _ => 0)))] ∧ va_S A s.heap H locs ∧ lv_has ls 4 [(0, .ref a0), (1, .int 0), (2, .int 554), (3, .int (nI k))]) (fun k H locs ls hk hI ih => ?_) 0 _ _ _ (Nat.zero_le _) ⟨hP, hD, hS, lv_sub hl [1, 2, 3, 0] rfl⟩
  obtain ⟨hP, hD, hS, hl⟩ := hI
  refine lv_iload_n hx hb dX12_copies_2 rfl (lv_at hl 3 rfl) ?_
  refine lv_sipush (v := 554) hx hb dX12_copies_3 (by decide) ?_
  rcases Nat.lt_or_ge k 554 with hlt | hge
  · refine lv_icmp_ge (tgt := 31) hx hb dX12_copies_6 (by decide) (fun c1 => absurd c1 (nI_ge (b := 554) hlt (by decide))) (fun _ => ?_)
    refine lv_aload_n hx hb dX12_copies_9 rfl (lv_at hl 0 rfl) ?_
    refine va_get (D := (dC, dI)) (ci := 11) (v := .ref a1) (C := RX12) (T := TX12) (N := 31) hx hb (ly_X12 hE) (fun _ h9 => h9) hown hK hP 0 rfl rfl 0 (by decide) (wd_1381 hE) (fun _ h9 => h9) rfl dX12_copies_10 ?_
    refine lv_iload_n hx hb dX12_copies_13 rfl (lv_at hl 2 rfl) ?_
    refine lv_iload_n hx hb dX12_copies_14 rfl (lv_at hl 3 rfl) ?_
    refine lv_iadd hx hb dX12_copies_15 ?_
    refine W.eq (g2 := F0 m 16 ls [.int (nI (554 + k)), .ref a1]) (congrArg (fun z : Int32 => F0 m 16 ls (.int z :: [.ref a1])) (nI_add 554 k)) ?_
    refine lv_aload_n hx hb dX12_copies_16 rfl (lv_at hl 0 rfl) ?_
    refine va_get (D := (dC, dI)) (ci := 11) (v := .ref a1) (C := RX12) (T := TX12) (N := 31) hx hb (ly_X12 hE) (fun _ h9 => h9) hown hK hP 0 rfl rfl 0 (by decide) (wd_1381 hE) (fun _ h9 => h9) rfl dX12_copies_17 ?_
    refine lv_iload_n hx hb dX12_copies_20 rfl (lv_at hl 1 rfl) ?_
    refine lv_iload_n hx hb dX12_copies_21 rfl (lv_at hl 3 rfl) ?_
    refine lv_iadd hx hb dX12_copies_22 ?_
    refine W.eq (g2 := F0 m 23 ls [.int (nI (0 + k)), .ref a1, .int (nI (554 + k)), .ref a1]) (congrArg (fun z : Int32 => F0 m 23 ls (.int z :: [.ref a1, .int (nI (554 + k)), .ref a1])) (nI_add 0 k)) ?_
    refine va_iald hx hb hK hP 1 0 rfl rfl (vp_in_nI (by omega) (by omega)) dX12_copies_23 ?_
    refine W.eq (g2 := F0 m 24 ls [.int 0, .int (nI (554 + k)), .ref a1]) rfl ?_
    refine va_iast hx hb hK hP hD hS 1 0 rfl rfl (vp_in_nI (by omega) (by omega)) dX12_copies_24 (fun H locs hP hD hS => ?_)
    rw [nI_clamp (show 554 + k < 2 ^ 31 by omega)] at hP hD
    rw [zz_upd] at hP hD
    have hP : va_P (dC, dI) vwCl [(a0, .inr (11, [.ref a1, .int 0, .int 0, .int 0, .ref a2, .int 0, .ref a3, .ref a4, .ref a5, .ref a6, .int 0, .int 0, .int 0, .int 0, .int 0, .int 0, .int 0, .int (-1), .int (-1), .int (-1), .int 0, .int 0, .int 0, .ref a7, .ref a8, .ref a9, .ref a10, .ref a11, .ref a12, .ref a13, .int 0])), (a1, .inl (k0, 7202, .inl (fun _ => 0)))] H := hP
    have hD : va_D A [(a0, .inr (11, [.ref a1, .int 0, .int 0, .int 0, .ref a2, .int 0, .ref a3, .ref a4, .ref a5, .ref a6, .int 0, .int 0, .int 0, .int 0, .int 0, .int 0, .int 0, .int (-1), .int (-1), .int (-1), .int 0, .int 0, .int 0, .ref a7, .ref a8, .ref a9, .ref a10, .ref a11, .ref a12, .ref a13, .int 0])), (a1, .inl (k0, 7202, .inl (fun _ => 0)))] := hD
    refine lv_iinc (v := nI (k + 1)) (lv' := [(3, .int (nI (k + 1))), (0, .ref a0), (1, .int 0), (2, .int 554)]) hx hb dX12_copies_25 hl (k := 3) rfl (nI_1 k) (by decide) rfl (fun ls hl => ?_)
    refine lv_goto (tgt := 2) hx hb dX12_copies_28 (by decide) ?_
    exact ih hlt _ _ _ ⟨hP, hD, hS, lv_sub hl [1, 2, 3, 0] rfl⟩
  · refine lv_icmp_ge (tgt := 31) hx hb dX12_copies_6 (by decide) (fun _ => ?_) (fun c1 => absurd (nI_le hge (by omega)) c1)
    have hP9 := hP.sub (ws' := [(a0, .inr (11, [.ref a1, .int 0, .int 0, .int 0, .ref a2, .int 0, .ref a3, .ref a4, .ref a5, .ref a6, .int 0, .int 0, .int 0, .int 0, .int 0, .int 0, .int 0, .int (-1), .int (-1), .int (-1), .int 0, .int 0, .int 0, .ref a7, .ref a8, .ref a9, .ref a10, .ref a11, .ref a12, .ref a13, .int 0])), (a1, .inl (k0, 7202, .inl (fun _ => 0)))]) [0, 1] rfl
    have hD9 := hD.sub (ws' := [(a0, .inr (11, [.ref a1, .int 0, .int 0, .int 0, .ref a2, .int 0, .ref a3, .ref a4, .ref a5, .ref a6, .int 0, .int 0, .int 0, .int 0, .int 0, .int 0, .int 0, .int (-1), .int (-1), .int (-1), .int 0, .int 0, .int 0, .ref a7, .ref a8, .ref a9, .ref a10, .ref a11, .ref a12, .ref a13, .int 0])), (a1, .inl (k0, 7202, .inl (fun _ => 0)))]) [0, 1] (by decide) rfl
    have hK9 := hK.sub (tys' := []) [] rfl
    refine W.widen (k := 0) (n := 0) (Nat.le_of_ble_eq_true rfl) (Nat.le_of_ble_eq_true rfl) ?_
    exact W.vret hx hb hr (fun t ht hW => ⟨⟨(), rfl, trivial, by rw [ht]; exact hP9, va_K.moved hW.alike hK9, hD9⟩, hS.F ht⟩) hS.2.2 dX12_copies_31

set_option maxHeartbeats 4000000 in
set_option maxRecDepth 100000 in
theorem c_X12_byteAt (l : Launch) (dC : Nat → ClassId) (dI : Nat → Nat → Nat) (sz : Nat)  (a0 a1 a2 a3 a4 a5 a6 a7 a8 a9 a10 a11 a12 a13 : Nat)  : Met l yX12_byteAt [.code yX12_byteAt cX12_byteAt 2 (some .int)] ({ frames := 0, cells := 0, slots := 0, locals := 0 }) (PcE [.ref a0, .int 0] sz dC dI [] [(a0, .inr (11, [.ref a1, .int 0, .int 0, .int 0, .ref a2, .int 0, .ref a3, .ref a4, .ref a5, .ref a6, .int 0, .int 0, .int 0, .int 0, .int 0, .int 0, .int 0, .int (-1), .int (-1), .int (-1), .int 0, .int 0, .int 0, .ref a7, .ref a8, .ref a9, .ref a10, .ref a11, .ref a12, .ref a13, .int 0]))]) (va_Qi (fun (r : Int32) (u : Unit) => r = -1) (Bw dC dI (va_A [(a0, .inr (11, [.ref a1, .int 0, .int 0, .int 0, .ref a2, .int 0, .ref a3, .ref a4, .ref a5, .ref a6, .int 0, .int 0, .int 0, .int 0, .int 0, .int 0, .int 0, .int (-1), .int (-1), .int (-1), .int 0, .int 0, .int 0, .ref a7, .ref a8, .ref a9, .ref a10, .ref a11, .ref a12, .ref a13, .int 0]))] sz) (fun (u : Unit) => []) (fun (u : Unit) => [(a0, .inr (11, [.ref a1, .int 0, .int 0, .int 0, .ref a2, .int 0, .ref a3, .ref a4, .ref a5, .ref a6, .int 0, .int 0, .int 0, .int 0, .int 0, .int 0, .int 0, .int (-1), .int (-1), .int (-1), .int 0, .int 0, .int 0, .ref a7, .ref a8, .ref a9, .ref a10, .ref a11, .ref a12, .ref a13, .int 0]))])) (va_A [(a0, .inr (11, [.ref a1, .int 0, .int 0, .int 0, .ref a2, .int 0, .ref a3, .ref a4, .ref a5, .ref a6, .int 0, .int 0, .int 0, .int 0, .int 0, .int 0, .int 0, .int (-1), .int (-1), .int (-1), .int 0, .int 0, .int 0, .ref a7, .ref a8, .ref a9, .ref a10, .ref a11, .ref a12, .ref a13, .int 0]))] sz)) 0 0 (va_A [(a0, .inr (11, [.ref a1, .int 0, .int 0, .int 0, .ref a2, .int 0, .ref a3, .ref a4, .ref a5, .ref a6, .int 0, .int 0, .int 0, .int 0, .int 0, .int 0, .int 0, .int (-1), .int (-1), .int (-1), .int 0, .int 0, .int 0, .ref a7, .ref a8, .ref a9, .ref a10, .ref a11, .ref a12, .ref a13, .int 0]))] sz) := by
  refine Met.ofW (cc := cX12_byteAt) (maxL := 2) (ret := (some .int)) (by decide) rfl ?_
  intro p e s m args below meth c s₁ B hml hv
  obtain ⟨rfl, hsz, hP, hK, hD0, hE⟩ := hv
  have hx := B.exec
  have hb := B.bytes
  have hr := B.returns
  have hown : s.vm.findClass RX12 = some m.cls := findClass_of_methodNamed B.named
  have hlocks := B.notSynchronized
  subst hsz
  have hD := hD0.self (sz := s.heap.size)
  generalize hAe : va_A [(a0, .inr (11, [.ref a1, .int 0, .int 0, .int 0, .ref a2, .int 0, .ref a3, .ref a4, .ref a5, .ref a6, .int 0, .int 0, .int 0, .int 0, .int 0, .int 0, .int 0, .int (-1), .int (-1), .int (-1), .int 0, .int 0, .int 0, .ref a7, .ref a8, .ref a9, .ref a10, .ref a11, .ref a12, .ref a13, .int 0]))] s.heap.size = A at hD ⊢
  have hA : ∀ q : Nat, s.heap.size ≤ q → A q := fun q h => by rw [← hAe]; exact Or.inr h
  have hS : va_S A s.heap s.heap [] := va_S.rf
  have hl := lv_entry ([.ref a0, .int 0]) (n := 2) (Nat.le_of_ble_eq_true rfl)
  rw [lg_entry_eq]
  generalize (lg_sl ([.ref a0, .int 0]) ++ List.replicate (2 - (lg_sl ([.ref a0, .int 0])).length) Slot.unset).toArray = ls at hl ⊢
  have hl : lv_has ls 2 [(0, .ref a0), (1, .int 0)] := hl
  refine lv_iload_n hx hb dX12_byteAt_0 rfl (lv_at hl 1 rfl) ?_
  refine lv_aload_n hx hb dX12_byteAt_1 rfl (lv_at hl 0 rfl) ?_
  refine va_get (D := (dC, dI)) (ci := 11) (v := .int 0) (C := RX12) (T := TX12) (N := 31) hx hb (ly_X12 hE) (fun _ h9 => h9) hown hK hP 0 rfl rfl 11 (by decide) (wd_1392 hE) (fun _ h9 => h9) rfl dX12_byteAt_2 ?_
  refine lv_icmp_ge (tgt := 21) hx hb dX12_byteAt_5 (by decide) (fun c1 => ?_) (fun c1 => absurd c1 (by decide))
  refine lv_iconst (v := -1) hx hb dX12_byteAt_21 (by decide) ?_
  have hP9 := hP.sub (ws' := [(a0, .inr (11, [.ref a1, .int 0, .int 0, .int 0, .ref a2, .int 0, .ref a3, .ref a4, .ref a5, .ref a6, .int 0, .int 0, .int 0, .int 0, .int 0, .int 0, .int 0, .int (-1), .int (-1), .int (-1), .int 0, .int 0, .int 0, .ref a7, .ref a8, .ref a9, .ref a10, .ref a11, .ref a12, .ref a13, .int 0]))]) [0] rfl
  have hD9 := hD.sub (ws' := [(a0, .inr (11, [.ref a1, .int 0, .int 0, .int 0, .ref a2, .int 0, .ref a3, .ref a4, .ref a5, .ref a6, .int 0, .int 0, .int 0, .int 0, .int 0, .int 0, .int 0, .int (-1), .int (-1), .int (-1), .int 0, .int 0, .int 0, .ref a7, .ref a8, .ref a9, .ref a10, .ref a11, .ref a12, .ref a13, .int 0]))]) [0] (by decide) rfl
  have hK9 := hK.sub (tys' := []) [] rfl
  refine W.widen (k := 0) (n := 0) (Nat.le_of_ble_eq_true rfl) (Nat.le_of_ble_eq_true rfl) ?_
  exact W.iret (v := -1) hx hb hr (fun t ht hW => ⟨⟨-1, (), rfl, rfl, by rw [ht]; exact hP9, va_K.moved hW.alike hK9, hD9⟩, hS.F ht⟩) hS.2.2 dX12_byteAt_22

set_option maxHeartbeats 4000000 in
set_option maxRecDepth 100000 in
theorem c_X12_ahead (l : Launch) (dC : Nat → ClassId) (dI : Nat → Nat → Nat) (sz : Nat)  (a0 a1 a2 a3 a4 a5 a6 a7 a8 a9 a10 a11 a12 a13 : Nat)  : Met l yX12_ahead [.code yX12_ahead cX12_ahead 2 none] ({ frames := 1, cells := 0, slots := 0, locals := 40 }) (PcE [.ref a0] sz dC dI [] [(a0, .inr (11, [.ref a1, .int 0, .int 0, .int 0, .ref a2, .int 0, .ref a3, .ref a4, .ref a5, .ref a6, .int 0, .int 0, .int 0, .int 0, .int 0, .int 0, .int 0, .int (-1), .int (-1), .int (-1), .int 0, .int 0, .int 0, .ref a7, .ref a8, .ref a9, .ref a10, .ref a11, .ref a12, .ref a13, .int 0]))]) (va_Qv (fun (u : Unit) => True) (Bw dC dI (va_A [(a0, .inr (11, [.ref a1, .int 0, .int 0, .int 0, .ref a2, .int 0, .ref a3, .ref a4, .ref a5, .ref a6, .int 0, .int 0, .int 0, .int 0, .int 0, .int 0, .int 0, .int (-1), .int (-1), .int (-1), .int 0, .int 0, .int 0, .ref a7, .ref a8, .ref a9, .ref a10, .ref a11, .ref a12, .ref a13, .int 0]))] sz) (fun (u : Unit) => []) (fun (u : Unit) => [(a0, .inr (11, [.ref a1, .int 0, .int 0, .int 0, .ref a2, .int 0, .ref a3, .ref a4, .ref a5, .ref a6, .int 0, .int 0, .int 0, .int 0, .int 0, .int 0, .int 0, .int (-1), .int (-1), .int (-1), .int 0, .int 0, .int 0, .ref a7, .ref a8, .ref a9, .ref a10, .ref a11, .ref a12, .ref a13, .int 0]))])) (va_A [(a0, .inr (11, [.ref a1, .int 0, .int 0, .int 0, .ref a2, .int 0, .ref a3, .ref a4, .ref a5, .ref a6, .int 0, .int 0, .int 0, .int 0, .int 0, .int 0, .int 0, .int (-1), .int (-1), .int (-1), .int 0, .int 0, .int 0, .ref a7, .ref a8, .ref a9, .ref a10, .ref a11, .ref a12, .ref a13, .int 0]))] sz)) 0 0 (va_A [(a0, .inr (11, [.ref a1, .int 0, .int 0, .int 0, .ref a2, .int 0, .ref a3, .ref a4, .ref a5, .ref a6, .int 0, .int 0, .int 0, .int 0, .int 0, .int 0, .int 0, .int (-1), .int (-1), .int (-1), .int 0, .int 0, .int 0, .ref a7, .ref a8, .ref a9, .ref a10, .ref a11, .ref a12, .ref a13, .int 0]))] sz) := by
  refine Met.ofW (cc := cX12_ahead) (maxL := 2) (ret := none) (by decide) rfl ?_
  intro p e s m args below meth c s₁ B hml hv
  obtain ⟨rfl, hsz, hP, hK, hD0, hE⟩ := hv
  have hx := B.exec
  have hb := B.bytes
  have hr := B.returns
  have hown : s.vm.findClass RX12 = some m.cls := findClass_of_methodNamed B.named
  have hlocks := B.notSynchronized
  subst hsz
  have hD := hD0.self (sz := s.heap.size)
  generalize hAe : va_A [(a0, .inr (11, [.ref a1, .int 0, .int 0, .int 0, .ref a2, .int 0, .ref a3, .ref a4, .ref a5, .ref a6, .int 0, .int 0, .int 0, .int 0, .int 0, .int 0, .int 0, .int (-1), .int (-1), .int (-1), .int 0, .int 0, .int 0, .ref a7, .ref a8, .ref a9, .ref a10, .ref a11, .ref a12, .ref a13, .int 0]))] s.heap.size = A at hD ⊢
  have hA : ∀ q : Nat, s.heap.size ≤ q → A q := fun q h => by rw [← hAe]; exact Or.inr h
  have hS : va_S A s.heap s.heap [] := va_S.rf
  have hl := lv_entry ([.ref a0]) (n := 2) (Nat.le_of_ble_eq_true rfl)
  rw [lg_entry_eq]
  generalize (lg_sl ([.ref a0]) ++ List.replicate (2 - (lg_sl ([.ref a0])).length) Slot.unset).toArray = ls at hl ⊢
  have hl : lv_has ls 2 [(0, .ref a0)] := hl
  refine lv_aload_n hx hb dX12_ahead_0 rfl (lv_at hl 0 rfl) ?_
  refine lv_aload_n hx hb dX12_ahead_1 rfl (lv_at hl 0 rfl) ?_
  refine va_get (D := (dC, dI)) (ci := 11) (v := .int 0) (C := RX12) (T := TX12) (N := 31) hx hb (ly_X12 hE) (fun _ h9 => h9) hown hK hP 0 rfl rfl 14 (by decide) (wd_1395 hE) (fun _ h9 => h9) rfl dX12_ahead_2 ?_
  refine cl_i (wc := [(a0, .inr (11, [.ref a1, .int 0, .int 0, .int 0, .ref a2, .int 0, .ref a3, .ref a4, .ref a5, .ref a6, .int 0, .int 0, .int 0, .int 0, .int 0, .int 0, .int 0, .int (-1), .int (-1), .int (-1), .int 0, .int 0, .int 0, .ref a7, .ref a8, .ref a9, .ref a10, .ref a11, .ref a12, .ref a13, .int 0]))]) (wr := []) [0] [] rfl rfl (by decide) (by decide) hK hP hD hS hA (va_runV (As := [.int 0]) (rest := []) ⟨hx, hb, hml, hown, noTs⟩ (c_X12_byteAt l dC dI s.heap.size a0 a1 a2 a3 a4 a5 a6 a7 a8 a9 a10 a11 a12 a13) ⟨cbE 1 (wd_1510 hE) (wd_126 hE) (wd_1507 hE) rfl rfl (by decide +kernel) ⟨Nat.le_of_ble_eq_true rfl, Nat.le_of_ble_eq_true rfl⟩, (wd_1509 hE), (wd_57 hE)⟩ ⟨PcE.blind, va_recv hK hP (ci := 11) (q0 := 0) rfl rfl, (pre_E (av := [.ref a0, .int 0]) (wc := [(a0, .inr (11, [.ref a1, .int 0, .int 0, .int 0, .ref a2, .int 0, .ref a3, .ref a4, .ref a5, .ref a6, .int 0, .int 0, .int 0, .int 0, .int 0, .int 0, .int 0, .int (-1), .int (-1), .int (-1), .int 0, .int 0, .int 0, .ref a7, .ref a8, .ref a9, .ref a10, .ref a11, .ref a12, .ref a13, .int 0]))]) (tysc := []) [0] [] rfl (by decide) rfl rfl hK hP hD hE)⟩ rfl rfl hl.1 rfl (lv_room (Nat.le_of_ble_eq_true rfl)) dX12_ahead_5 ⟨Nat.le_of_ble_eq_true rfl, Nat.le_of_ble_eq_true rfl⟩) (fun r1 u1 H locs hw1 hK hP hD hS => ?_)
  have hK : va_K (dC, dI) vwCl [] s := hK
  have hP : va_P (dC, dI) vwCl [(a0, .inr (11, [.ref a1, .int 0, .int 0, .int 0, .ref a2, .int 0, .ref a3, .ref a4, .ref a5, .ref a6, .int 0, .int 0, .int 0, .int 0, .int 0, .int 0, .int 0, .int (-1), .int (-1), .int (-1), .int 0, .int 0, .int 0, .ref a7, .ref a8, .ref a9, .ref a10, .ref a11, .ref a12, .ref a13, .int 0]))] H := hP
  have hD : va_D A [(a0, .inr (11, [.ref a1, .int 0, .int 0, .int 0, .ref a2, .int 0, .ref a3, .ref a4, .ref a5, .ref a6, .int 0, .int 0, .int 0, .int 0, .int 0, .int 0, .int 0, .int (-1), .int (-1), .int (-1), .int 0, .int 0, .int 0, .ref a7, .ref a8, .ref a9, .ref a10, .ref a11, .ref a12, .ref a13, .int 0]))] := hD
  subst hw1
  refine W.eq (g2 := F0 m 8 ls [.int (-1)]) rfl ?_
  refine lv_bipush (v := 32) hx hb dX12_ahead_8 (by decide) ?_
  refine lv_icmp_eq (tgt := 26) hx hb dX12_ahead_10 (by decide) (fun c2 => absurd c2 (by decide)) (fun c2 => ?_)
  refine lv_aload_n hx hb dX12_ahead_13 rfl (lv_at hl 0 rfl) ?_
  refine lv_aload_n hx hb dX12_ahead_14 rfl (lv_at hl 0 rfl) ?_
  refine va_get (D := (dC, dI)) (ci := 11) (v := .int 0) (C := RX12) (T := TX12) (N := 31) hx hb (ly_X12 hE) (fun _ h9 => h9) hown hK hP 0 rfl rfl 14 (by decide) (wd_1395 hE) (fun _ h9 => h9) rfl dX12_ahead_15 ?_
  refine cl_i (wc := [(a0, .inr (11, [.ref a1, .int 0, .int 0, .int 0, .ref a2, .int 0, .ref a3, .ref a4, .ref a5, .ref a6, .int 0, .int 0, .int 0, .int 0, .int 0, .int 0, .int 0, .int (-1), .int (-1), .int (-1), .int 0, .int 0, .int 0, .ref a7, .ref a8, .ref a9, .ref a10, .ref a11, .ref a12, .ref a13, .int 0]))]) (wr := []) [0] [] rfl rfl (by decide) (by decide) hK hP hD hS hA (va_runV (As := [.int 0]) (rest := []) ⟨hx, hb, hml, hown, noTs⟩ (c_X12_byteAt l dC dI H.size a0 a1 a2 a3 a4 a5 a6 a7 a8 a9 a10 a11 a12 a13) ⟨cbE 1 (wd_1510 hE) (wd_126 hE) (wd_1507 hE) rfl rfl (by decide +kernel) ⟨Nat.le_of_ble_eq_true rfl, Nat.le_of_ble_eq_true rfl⟩, (wd_1509 hE), (wd_57 hE)⟩ ⟨PcE.blind, va_recv hK hP (ci := 11) (q0 := 0) rfl rfl, (pre_E (av := [.ref a0, .int 0]) (wc := [(a0, .inr (11, [.ref a1, .int 0, .int 0, .int 0, .ref a2, .int 0, .ref a3, .ref a4, .ref a5, .ref a6, .int 0, .int 0, .int 0, .int 0, .int 0, .int 0, .int 0, .int (-1), .int (-1), .int (-1), .int 0, .int 0, .int 0, .ref a7, .ref a8, .ref a9, .ref a10, .ref a11, .ref a12, .ref a13, .int 0]))]) (tysc := []) [0] [] rfl (by decide) rfl rfl hK hP hD hE)⟩ rfl rfl hl.1 rfl (lv_room (Nat.le_of_ble_eq_true rfl)) dX12_ahead_18 ⟨Nat.le_of_ble_eq_true rfl, Nat.le_of_ble_eq_true rfl⟩) (fun r3 u3 H locs hw3 hK hP hD hS => ?_)
  have hK : va_K (dC, dI) vwCl [] s := hK
  have hP : va_P (dC, dI) vwCl [(a0, .inr (11, [.ref a1, .int 0, .int 0, .int 0, .ref a2, .int 0, .ref a3, .ref a4, .ref a5, .ref a6, .int 0, .int 0, .int 0, .int 0, .int 0, .int 0, .int 0, .int (-1), .int (-1), .int (-1), .int 0, .int 0, .int 0, .ref a7, .ref a8, .ref a9, .ref a10, .ref a11, .ref a12, .ref a13, .int 0]))] H := hP
  have hD : va_D A [(a0, .inr (11, [.ref a1, .int 0, .int 0, .int 0, .ref a2, .int 0, .ref a3, .ref a4, .ref a5, .ref a6, .int 0, .int 0, .int 0, .int 0, .int 0, .int 0, .int 0, .int (-1), .int (-1), .int (-1), .int 0, .int 0, .int 0, .ref a7, .ref a8, .ref a9, .ref a10, .ref a11, .ref a12, .ref a13, .int 0]))] := hD
  subst hw3
  refine W.eq (g2 := F0 m 21 ls [.int (-1)]) rfl ?_
  refine lv_bipush (v := 10) hx hb dX12_ahead_21 (by decide) ?_
  refine lv_icmp_ne (tgt := 39) hx hb dX12_ahead_23 (by decide) (fun c4 => ?_) (fun c4 => absurd c4 (by decide))
  refine lv_aload_n hx hb dX12_ahead_39 rfl (lv_at hl 0 rfl) ?_
  refine lv_aload_n hx hb dX12_ahead_40 rfl (lv_at hl 0 rfl) ?_
  refine va_get (D := (dC, dI)) (ci := 11) (v := .int 0) (C := RX12) (T := TX12) (N := 31) hx hb (ly_X12 hE) (fun _ h9 => h9) hown hK hP 0 rfl rfl 14 (by decide) (wd_1395 hE) (fun _ h9 => h9) rfl dX12_ahead_41 ?_
  refine va_put (D := (dC, dI)) (ci := 11) (v := .int 0) (ty := .int) (C := RX12) (T := TX12) (N := 31) hx hb (ly_X12 hE) (fun _ h9 => h9) tyX12 tyX12_ok nmX12 hown hK hP hD hS 0 rfl rfl 13 (by decide) (wd_1394 hE) (fun _ h9 => h9) rfl (by decide +kernel) rfl rfl (Nat.le_of_ble_eq_true rfl) dX12_ahead_44 (fun H locs hP hD hS => ?_)
  have hP : va_P (dC, dI) vwCl [(a0, .inr (11, [.ref a1, .int 0, .int 0, .int 0, .ref a2, .int 0, .ref a3, .ref a4, .ref a5, .ref a6, .int 0, .int 0, .int 0, .int 0, .int 0, .int 0, .int 0, .int (-1), .int (-1), .int (-1), .int 0, .int 0, .int 0, .ref a7, .ref a8, .ref a9, .ref a10, .ref a11, .ref a12, .ref a13, .int 0]))] H := hP
  have hD : va_D A [(a0, .inr (11, [.ref a1, .int 0, .int 0, .int 0, .ref a2, .int 0, .ref a3, .ref a4, .ref a5, .ref a6, .int 0, .int 0, .int 0, .int 0, .int 0, .int 0, .int 0, .int (-1), .int (-1), .int (-1), .int 0, .int 0, .int 0, .ref a7, .ref a8, .ref a9, .ref a10, .ref a11, .ref a12, .ref a13, .int 0]))] := hD
  refine lv_aload_n hx hb dX12_ahead_47 rfl (lv_at hl 0 rfl) ?_
  refine lv_aload_n hx hb dX12_ahead_48 rfl (lv_at hl 0 rfl) ?_
  refine va_get (D := (dC, dI)) (ci := 11) (v := .int 0) (C := RX12) (T := TX12) (N := 31) hx hb (ly_X12 hE) (fun _ h9 => h9) hown hK hP 0 rfl rfl 14 (by decide) (wd_1395 hE) (fun _ h9 => h9) rfl dX12_ahead_49 ?_
  refine cl_i (wc := [(a0, .inr (11, [.ref a1, .int 0, .int 0, .int 0, .ref a2, .int 0, .ref a3, .ref a4, .ref a5, .ref a6, .int 0, .int 0, .int 0, .int 0, .int 0, .int 0, .int 0, .int (-1), .int (-1), .int (-1), .int 0, .int 0, .int 0, .ref a7, .ref a8, .ref a9, .ref a10, .ref a11, .ref a12, .ref a13, .int 0]))]) (wr := []) [0] [] rfl rfl (by decide) (by decide) hK hP hD hS hA (va_runV (As := [.int 0]) (rest := []) ⟨hx, hb, hml, hown, noTs⟩ (c_X12_byteAt l dC dI H.size a0 a1 a2 a3 a4 a5 a6 a7 a8 a9 a10 a11 a12 a13) ⟨cbE 1 (wd_1510 hE) (wd_126 hE) (wd_1507 hE) rfl rfl (by decide +kernel) ⟨Nat.le_of_ble_eq_true rfl, Nat.le_of_ble_eq_true rfl⟩, (wd_1509 hE), (wd_57 hE)⟩ ⟨PcE.blind, va_recv hK hP (ci := 11) (q0 := 0) rfl rfl, (pre_E (av := [.ref a0, .int 0]) (wc := [(a0, .inr (11, [.ref a1, .int 0, .int 0, .int 0, .ref a2, .int 0, .ref a3, .ref a4, .ref a5, .ref a6, .int 0, .int 0, .int 0, .int 0, .int 0, .int 0, .int 0, .int (-1), .int (-1), .int (-1), .int 0, .int 0, .int 0, .ref a7, .ref a8, .ref a9, .ref a10, .ref a11, .ref a12, .ref a13, .int 0]))]) (tysc := []) [0] [] rfl (by decide) rfl rfl hK hP hD hE)⟩ rfl rfl hl.1 rfl (lv_room (Nat.le_of_ble_eq_true rfl)) dX12_ahead_52 ⟨Nat.le_of_ble_eq_true rfl, Nat.le_of_ble_eq_true rfl⟩) (fun r5 u5 H locs hw5 hK hP hD hS => ?_)
  have hK : va_K (dC, dI) vwCl [] s := hK
  have hP : va_P (dC, dI) vwCl [(a0, .inr (11, [.ref a1, .int 0, .int 0, .int 0, .ref a2, .int 0, .ref a3, .ref a4, .ref a5, .ref a6, .int 0, .int 0, .int 0, .int 0, .int 0, .int 0, .int 0, .int (-1), .int (-1), .int (-1), .int 0, .int 0, .int 0, .ref a7, .ref a8, .ref a9, .ref a10, .ref a11, .ref a12, .ref a13, .int 0]))] H := hP
  have hD : va_D A [(a0, .inr (11, [.ref a1, .int 0, .int 0, .int 0, .ref a2, .int 0, .ref a3, .ref a4, .ref a5, .ref a6, .int 0, .int 0, .int 0, .int 0, .int 0, .int 0, .int 0, .int (-1), .int (-1), .int (-1), .int 0, .int 0, .int 0, .ref a7, .ref a8, .ref a9, .ref a10, .ref a11, .ref a12, .ref a13, .int 0]))] := hD
  subst hw5
  refine W.eq (g2 := F0 m 55 ls [.int (-1)]) rfl ?_
  refine lv_istore_n (lv' := [(1, .int (-1)), (0, .ref a0)]) hx hb dX12_ahead_55 rfl hl (by decide) rfl (fun ls hl => ?_)
  refine lv_iload_n hx hb dX12_ahead_56 rfl (lv_at hl 0 rfl) ?_
  refine lv_iconst (v := -1) hx hb dX12_ahead_57 (by decide) ?_
  refine lv_icmp_ne (tgt := 69) hx hb dX12_ahead_58 (by decide) (fun c6 => absurd c6 (by decide)) (fun c6 => ?_)
  refine lv_aload_n hx hb dX12_ahead_61 rfl (lv_at hl 1 rfl) ?_
  refine lv_iconst (v := 0) hx hb dX12_ahead_62 (by decide) ?_
  refine va_put (D := (dC, dI)) (ci := 11) (v := .int 0) (ty := .int) (C := RX12) (T := TX12) (N := 31) hx hb (ly_X12 hE) (fun _ h9 => h9) tyX12 tyX12_ok nmX12 hown hK hP hD hS 0 rfl rfl 12 (by decide) (wd_1393 hE) (fun _ h9 => h9) rfl (by decide +kernel) rfl rfl (Nat.le_of_ble_eq_true rfl) dX12_ahead_63 (fun H locs hP hD hS => ?_)
  have hP : va_P (dC, dI) vwCl [(a0, .inr (11, [.ref a1, .int 0, .int 0, .int 0, .ref a2, .int 0, .ref a3, .ref a4, .ref a5, .ref a6, .int 0, .int 0, .int 0, .int 0, .int 0, .int 0, .int 0, .int (-1), .int (-1), .int (-1), .int 0, .int 0, .int 0, .ref a7, .ref a8, .ref a9, .ref a10, .ref a11, .ref a12, .ref a13, .int 0]))] H := hP
  have hD : va_D A [(a0, .inr (11, [.ref a1, .int 0, .int 0, .int 0, .ref a2, .int 0, .ref a3, .ref a4, .ref a5, .ref a6, .int 0, .int 0, .int 0, .int 0, .int 0, .int 0, .int 0, .int (-1), .int (-1), .int (-1), .int 0, .int 0, .int 0, .ref a7, .ref a8, .ref a9, .ref a10, .ref a11, .ref a12, .ref a13, .int 0]))] := hD
  refine lv_goto (tgt := 241) hx hb dX12_ahead_66 (by decide) ?_
  have hP9 := hP.sub (ws' := [(a0, .inr (11, [.ref a1, .int 0, .int 0, .int 0, .ref a2, .int 0, .ref a3, .ref a4, .ref a5, .ref a6, .int 0, .int 0, .int 0, .int 0, .int 0, .int 0, .int 0, .int (-1), .int (-1), .int (-1), .int 0, .int 0, .int 0, .ref a7, .ref a8, .ref a9, .ref a10, .ref a11, .ref a12, .ref a13, .int 0]))]) [0] rfl
  have hD9 := hD.sub (ws' := [(a0, .inr (11, [.ref a1, .int 0, .int 0, .int 0, .ref a2, .int 0, .ref a3, .ref a4, .ref a5, .ref a6, .int 0, .int 0, .int 0, .int 0, .int 0, .int 0, .int 0, .int (-1), .int (-1), .int (-1), .int 0, .int 0, .int 0, .ref a7, .ref a8, .ref a9, .ref a10, .ref a11, .ref a12, .ref a13, .int 0]))]) [0] (by decide) rfl
  have hK9 := hK.sub (tys' := []) [] rfl
  refine W.widen (k := 0) (n := 0) (Nat.le_of_ble_eq_true rfl) (Nat.le_of_ble_eq_true rfl) ?_
  exact W.vret hx hb hr (fun t ht hW => ⟨⟨(), rfl, trivial, by rw [ht]; exact hP9, va_K.moved hW.alike hK9, hD9⟩, hS.F ht⟩) hS.2.2 dX12_ahead_241

set_option maxHeartbeats 4000000 in
set_option maxRecDepth 100000 in
theorem c_X12_copies_2 (l : Launch) (dC : Nat → ClassId) (dI : Nat → Nat → Nat) (sz : Nat)  (a0 a1 a2 a3 a4 a5 a6 a7 a8 a9 a10 a11 a12 a13 : Nat) (k0 : ClassId)  : Met l yX12_copies [.code yX12_copies cX12_copies 4 none] ({ frames := 0, cells := 0, slots := 0, locals := 0 }) (PcE [.ref a0, .int 554, .int 1108] sz dC dI [(k0, .int)] [(a1, .inl (k0, 7202, .inl (fun _ => 0))), (a0, .inr (11, [.ref a1, .int 0, .int 0, .int 0, .ref a2, .int 0, .ref a3, .ref a4, .ref a5, .ref a6, .int 0, .int 0, .int 0, .int 0, .int 0, .int 0, .int 0, .int (-1), .int (-1), .int 0, .int 0, .int 0, .int 0, .ref a7, .ref a8, .ref a9, .ref a10, .ref a11, .ref a12, .ref a13, .int 0]))]) (va_Qv (fun (u : Unit) => True) (Bw dC dI (va_A [(a1, .inl (k0, 7202, .inl (fun _ => 0))), (a0, .inr (11, [.ref a1, .int 0, .int 0, .int 0, .ref a2, .int 0, .ref a3, .ref a4, .ref a5, .ref a6, .int 0, .int 0, .int 0, .int 0, .int 0, .int 0, .int 0, .int (-1), .int (-1), .int 0, .int 0, .int 0, .int 0, .ref a7, .ref a8, .ref a9, .ref a10, .ref a11, .ref a12, .ref a13, .int 0]))] sz) (fun (u : Unit) => []) (fun (u : Unit) => [(a1, .inl (k0, 7202, .inl (fun _ => 0))), (a0, .inr (11, [.ref a1, .int 0, .int 0, .int 0, .ref a2, .int 0, .ref a3, .ref a4, .ref a5, .ref a6, .int 0, .int 0, .int 0, .int 0, .int 0, .int 0, .int 0, .int (-1), .int (-1), .int 0, .int 0, .int 0, .int 0, .ref a7, .ref a8, .ref a9, .ref a10, .ref a11, .ref a12, .ref a13, .int 0]))])) (va_A [(a1, .inl (k0, 7202, .inl (fun _ => 0))), (a0, .inr (11, [.ref a1, .int 0, .int 0, .int 0, .ref a2, .int 0, .ref a3, .ref a4, .ref a5, .ref a6, .int 0, .int 0, .int 0, .int 0, .int 0, .int 0, .int 0, .int (-1), .int (-1), .int 0, .int 0, .int 0, .int 0, .ref a7, .ref a8, .ref a9, .ref a10, .ref a11, .ref a12, .ref a13, .int 0]))] sz)) 0 0 (va_A [(a1, .inl (k0, 7202, .inl (fun _ => 0))), (a0, .inr (11, [.ref a1, .int 0, .int 0, .int 0, .ref a2, .int 0, .ref a3, .ref a4, .ref a5, .ref a6, .int 0, .int 0, .int 0, .int 0, .int 0, .int 0, .int 0, .int (-1), .int (-1), .int 0, .int 0, .int 0, .int 0, .ref a7, .ref a8, .ref a9, .ref a10, .ref a11, .ref a12, .ref a13, .int 0]))] sz) := by
  refine Met.ofW (cc := cX12_copies) (maxL := 4) (ret := none) (by decide) rfl ?_
  intro p e s m args below meth c s₁ B hml hv
  obtain ⟨rfl, hsz, hP, hK, hD0, hE⟩ := hv
  have hx := B.exec
  have hb := B.bytes
  have hr := B.returns
  have hown : s.vm.findClass RX12 = some m.cls := findClass_of_methodNamed B.named
  have hlocks := B.notSynchronized
  subst hsz
  have hD := hD0.self (sz := s.heap.size)
  generalize hAe : va_A [(a1, .inl (k0, 7202, .inl (fun _ => 0))), (a0, .inr (11, [.ref a1, .int 0, .int 0, .int 0, .ref a2, .int 0, .ref a3, .ref a4, .ref a5, .ref a6, .int 0, .int 0, .int 0, .int 0, .int 0, .int 0, .int 0, .int (-1), .int (-1), .int 0, .int 0, .int 0, .int 0, .ref a7, .ref a8, .ref a9, .ref a10, .ref a11, .ref a12, .ref a13, .int 0]))] s.heap.size = A at hD ⊢
  have hA : ∀ q : Nat, s.heap.size ≤ q → A q := fun q h => by rw [← hAe]; exact Or.inr h
  have hS : va_S A s.heap s.heap [] := va_S.rf
  have hl := lv_entry ([.ref a0, .int 554, .int 1108]) (n := 4) (Nat.le_of_ble_eq_true rfl)
  rw [lg_entry_eq]
  generalize (lg_sl ([.ref a0, .int 554, .int 1108]) ++ List.replicate (4 - (lg_sl ([.ref a0, .int 554, .int 1108])).length) Slot.unset).toArray = ls at hl ⊢
  have hl : lv_has ls 4 [(0, .ref a0), (1, .int 554), (2, .int 1108)] := hl
  refine lv_iconst (v := 0) hx hb dX12_copies_0 (by decide) ?_
  refine lv_istore_n (lv' := [(3, .int 0), (0, .ref a0), (1, .int 554), (2, .int 1108)]) hx hb dX12_copies_1 rfl hl (by decide) rfl (fun ls hl => ?_)
  refine w_loop (pc := 2) (N := 554) (I := fun k H locs ls => va_P (dC, dI) vwCl [(a1, .inl (k0, 7202, .inl (fun _ => 0))), (a0, .inr (11, [.ref a1, .int 0, .int 0, .int 0, .ref a2, .int 0, .ref a3, .ref a4, .ref a5, .ref a6, .int 0, .int 0, .int 0, .int 0, .int 0, .int 0, .int 0, .int (-1), .int (-1), .int 0, .int 0, .int 0, .int 0, .ref a7, .ref a8, .ref a9, .ref a10, .ref a11, .ref a12, .ref a13, .int 0]))] H ∧ va_D A [(a1, .inl (k0, 7202, .inl (fun _ => 0))), (a0, .inr (11, [.ref a1, .int 0, .int 0, .int 0, .ref a2, .int 0, .ref a3, .ref a4, .ref a5, .ref a6, .int 0, .int 0, .int 0, .int 0, .int 0, .int 0, .int 0, .int (-1), .int (-1), .int 0, .int 0, .int 0, .int 0, .ref a7, .ref a8, .ref a9, .ref a10, .ref a11, .ref a12, .ref a13, .int 0]))] ∧ va_S A s.heap H locs ∧ lv_has ls 4 [(0, .ref a0), (1, .int 554), (2, .int 1108), (3, .int (nI k))]) (fun k H locs ls hk hI ih => ?_) 0 _ _ _ (Nat.zero_le _) ⟨hP, hD, hS, lv_sub hl [1, 2, 3, 0] rfl⟩
  obtain ⟨hP, hD, hS, hl⟩ := hI
  refine lv_iload_n hx hb dX12_copies_2 rfl (lv_at hl 3 rfl) ?_
  refine lv_sipush (v := 554) hx hb dX12_copies_3 (by decide) ?_
  rcases Nat.lt_or_ge k 554 with hlt | hge
  · refine lv_icmp_ge (tgt := 31) hx hb dX12_copies_6 (by decide) (fun c1 => absurd c1 (nI_ge (b := 554) hlt (by decide))) (fun _ => ?_)
    refine lv_aload_n hx hb dX12_copies_9 rfl (lv_at hl 0 rfl) ?_
    refine va_get (D := (dC, dI)) (ci := 11) (v := .ref a1) (C := RX12) (T := TX12) (N := 31) hx hb (ly_X12 hE) (fun _ h9 => h9) hown hK hP 1 rfl rfl 0 (by decide) (wd_1381 hE) (fun _ h9 => h9) rfl dX12_copies_10 ?_
    refine lv_iload_n hx hb dX12_copies_13 rfl (lv_at hl 2 rfl) ?_
    refine lv_iload_n hx hb dX12_copies_14 rfl (lv_at hl 3 rfl) ?_
    refine lv_iadd hx hb dX12_copies_15 ?_
    refine W.eq (g2 := F0 m 16 ls [.int (nI (1108 + k)), .ref a1]) (congrArg (fun z : Int32 => F0 m 16 ls (.int z :: [.ref a1])) (nI_add 1108 k)) ?_
    refine lv_aload_n hx hb dX12_copies_16 rfl (lv_at hl 0 rfl) ?_
    refine va_get (D := (dC, dI)) (ci := 11) (v := .ref a1) (C := RX12) (T := TX12) (N := 31) hx hb (ly_X12 hE) (fun _ h9 => h9) hown hK hP 1 rfl rfl 0 (by decide) (wd_1381 hE) (fun _ h9 => h9) rfl dX12_copies_17 ?_
    refine lv_iload_n hx hb dX12_copies_20 rfl (lv_at hl 1 rfl) ?_
    refine lv_iload_n hx hb dX12_copies_21 rfl (lv_at hl 3 rfl) ?_
    refine lv_iadd hx hb dX12_copies_22 ?_
    refine W.eq (g2 := F0 m 23 ls [.int (nI (554 + k)), .ref a1, .int (nI (1108 + k)), .ref a1]) (congrArg (fun z : Int32 => F0 m 23 ls (.int z :: [.ref a1, .int (nI (1108 + k)), .ref a1])) (nI_add 554 k)) ?_
    refine va_iald hx hb hK hP 0 0 rfl rfl (vp_in_nI (by omega) (by omega)) dX12_copies_23 ?_
    refine W.eq (g2 := F0 m 24 ls [.int 0, .int (nI (1108 + k)), .ref a1]) rfl ?_
    refine va_iast hx hb hK hP hD hS 0 0 rfl rfl (vp_in_nI (by omega) (by omega)) dX12_copies_24 (fun H locs hP hD hS => ?_)
    rw [nI_clamp (show 1108 + k < 2 ^ 31 by omega)] at hP hD
    rw [zz_upd] at hP hD
    have hP : va_P (dC, dI) vwCl [(a1, .inl (k0, 7202, .inl (fun _ => 0))), (a0, .inr (11, [.ref a1, .int 0, .int 0, .int 0, .ref a2, .int 0, .ref a3, .ref a4, .ref a5, .ref a6, .int 0, .int 0, .int 0, .int 0, .int 0, .int 0, .int 0, .int (-1), .int (-1), .int 0, .int 0, .int 0, .int 0, .ref a7, .ref a8, .ref a9, .ref a10, .ref a11, .ref a12, .ref a13, .int 0]))] H := hP
    have hD : va_D A [(a1, .inl (k0, 7202, .inl (fun _ => 0))), (a0, .inr (11, [.ref a1, .int 0, .int 0, .int 0, .ref a2, .int 0, .ref a3, .ref a4, .ref a5, .ref a6, .int 0, .int 0, .int 0, .int 0, .int 0, .int 0, .int 0, .int (-1), .int (-1), .int 0, .int 0, .int 0, .int 0, .ref a7, .ref a8, .ref a9, .ref a10, .ref a11, .ref a12, .ref a13, .int 0]))] := hD
    refine lv_iinc (v := nI (k + 1)) (lv' := [(3, .int (nI (k + 1))), (0, .ref a0), (1, .int 554), (2, .int 1108)]) hx hb dX12_copies_25 hl (k := 3) rfl (nI_1 k) (by decide) rfl (fun ls hl => ?_)
    refine lv_goto (tgt := 2) hx hb dX12_copies_28 (by decide) ?_
    exact ih hlt _ _ _ ⟨hP, hD, hS, lv_sub hl [1, 2, 3, 0] rfl⟩
  · refine lv_icmp_ge (tgt := 31) hx hb dX12_copies_6 (by decide) (fun _ => ?_) (fun c1 => absurd (nI_le hge (by omega)) c1)
    have hP9 := hP.sub (ws' := [(a1, .inl (k0, 7202, .inl (fun _ => 0))), (a0, .inr (11, [.ref a1, .int 0, .int 0, .int 0, .ref a2, .int 0, .ref a3, .ref a4, .ref a5, .ref a6, .int 0, .int 0, .int 0, .int 0, .int 0, .int 0, .int 0, .int (-1), .int (-1), .int 0, .int 0, .int 0, .int 0, .ref a7, .ref a8, .ref a9, .ref a10, .ref a11, .ref a12, .ref a13, .int 0]))]) [0, 1] rfl
    have hD9 := hD.sub (ws' := [(a1, .inl (k0, 7202, .inl (fun _ => 0))), (a0, .inr (11, [.ref a1, .int 0, .int 0, .int 0, .ref a2, .int 0, .ref a3, .ref a4, .ref a5, .ref a6, .int 0, .int 0, .int 0, .int 0, .int 0, .int 0, .int 0, .int (-1), .int (-1), .int 0, .int 0, .int 0, .int 0, .ref a7, .ref a8, .ref a9, .ref a10, .ref a11, .ref a12, .ref a13, .int 0]))]) [0, 1] (by decide) rfl
    have hK9 := hK.sub (tys' := []) [] rfl
    refine W.widen (k := 0) (n := 0) (Nat.le_of_ble_eq_true rfl) (Nat.le_of_ble_eq_true rfl) ?_
    exact W.vret hx hb hr (fun t ht hW => ⟨⟨(), rfl, trivial, by rw [ht]; exact hP9, va_K.moved hW.alike hK9, hD9⟩, hS.F ht⟩) hS.2.2 dX12_copies_31

set_option maxHeartbeats 4000000 in
set_option maxRecDepth 100000 in
theorem c_X12_acted (l : Launch) (dC : Nat → ClassId) (dI : Nat → Nat → Nat) (sz : Nat)  (a0 a1 a2 a3 a4 a5 a6 a7 a8 a9 a10 a11 a12 a13 : Nat) (k0 : ClassId)  : Met l yX12_acted [.code yX12_acted cX12_acted 3 none] ({ frames := 1, cells := 0, slots := 0, locals := 40 }) (PcE [.ref a0, .int 554] sz dC dI [(k0, .int)] [(a1, .inl (k0, 7202, .inl (fun _ => 0))), (a0, .inr (11, [.ref a1, .int 0, .int 0, .int 0, .ref a2, .int 0, .ref a3, .ref a4, .ref a5, .ref a6, .int 0, .int 0, .int 0, .int 0, .int 0, .int 0, .int 0, .int (-1), .int (-1), .int 0, .int 0, .int 0, .int 0, .ref a7, .ref a8, .ref a9, .ref a10, .ref a11, .ref a12, .ref a13, .int 0]))]) (va_Qv (fun (u : Unit) => True) (Bw dC dI (va_A [(a1, .inl (k0, 7202, .inl (fun _ => 0))), (a0, .inr (11, [.ref a1, .int 0, .int 0, .int 0, .ref a2, .int 0, .ref a3, .ref a4, .ref a5, .ref a6, .int 0, .int 0, .int 0, .int 0, .int 0, .int 0, .int 0, .int (-1), .int (-1), .int 0, .int 0, .int 0, .int 0, .ref a7, .ref a8, .ref a9, .ref a10, .ref a11, .ref a12, .ref a13, .int 0]))] sz) (fun (u : Unit) => []) (fun (u : Unit) => [(a1, .inl (k0, 7202, .inl (fun _ => 0))), (a0, .inr (11, [.ref a1, .int 0, .int 1, .int 0, .ref a2, .int 0, .ref a3, .ref a4, .ref a5, .ref a6, .int 0, .int 0, .int 0, .int 0, .int 0, .int 0, .int 0, .int (-1), .int (-1), .int 0, .int 0, .int 0, .int 0, .ref a7, .ref a8, .ref a9, .ref a10, .ref a11, .ref a12, .ref a13, .int 0]))])) (va_A [(a1, .inl (k0, 7202, .inl (fun _ => 0))), (a0, .inr (11, [.ref a1, .int 0, .int 0, .int 0, .ref a2, .int 0, .ref a3, .ref a4, .ref a5, .ref a6, .int 0, .int 0, .int 0, .int 0, .int 0, .int 0, .int 0, .int (-1), .int (-1), .int 0, .int 0, .int 0, .int 0, .ref a7, .ref a8, .ref a9, .ref a10, .ref a11, .ref a12, .ref a13, .int 0]))] sz)) 0 0 (va_A [(a1, .inl (k0, 7202, .inl (fun _ => 0))), (a0, .inr (11, [.ref a1, .int 0, .int 0, .int 0, .ref a2, .int 0, .ref a3, .ref a4, .ref a5, .ref a6, .int 0, .int 0, .int 0, .int 0, .int 0, .int 0, .int 0, .int (-1), .int (-1), .int 0, .int 0, .int 0, .int 0, .ref a7, .ref a8, .ref a9, .ref a10, .ref a11, .ref a12, .ref a13, .int 0]))] sz) := by
  refine Met.ofW (cc := cX12_acted) (maxL := 3) (ret := none) (by decide) rfl ?_
  intro p e s m args below meth c s₁ B hml hv
  obtain ⟨rfl, hsz, hP, hK, hD0, hE⟩ := hv
  have hx := B.exec
  have hb := B.bytes
  have hr := B.returns
  have hown : s.vm.findClass RX12 = some m.cls := findClass_of_methodNamed B.named
  have hlocks := B.notSynchronized
  subst hsz
  have hD := hD0.self (sz := s.heap.size)
  generalize hAe : va_A [(a1, .inl (k0, 7202, .inl (fun _ => 0))), (a0, .inr (11, [.ref a1, .int 0, .int 0, .int 0, .ref a2, .int 0, .ref a3, .ref a4, .ref a5, .ref a6, .int 0, .int 0, .int 0, .int 0, .int 0, .int 0, .int 0, .int (-1), .int (-1), .int 0, .int 0, .int 0, .int 0, .ref a7, .ref a8, .ref a9, .ref a10, .ref a11, .ref a12, .ref a13, .int 0]))] s.heap.size = A at hD ⊢
  have hA : ∀ q : Nat, s.heap.size ≤ q → A q := fun q h => by rw [← hAe]; exact Or.inr h
  have hS : va_S A s.heap s.heap [] := va_S.rf
  have hl := lv_entry ([.ref a0, .int 554]) (n := 3) (Nat.le_of_ble_eq_true rfl)
  rw [lg_entry_eq]
  generalize (lg_sl ([.ref a0, .int 554]) ++ List.replicate (3 - (lg_sl ([.ref a0, .int 554])).length) Slot.unset).toArray = ls at hl ⊢
  have hl : lv_has ls 3 [(0, .ref a0), (1, .int 554)] := hl
  refine lv_aload_n hx hb dX12_acted_0 rfl (lv_at hl 0 rfl) ?_
  refine va_get (D := (dC, dI)) (ci := 11) (v := .int 0) (C := RX12) (T := TX12) (N := 31) hx hb (ly_X12 hE) (fun _ h9 => h9) hown hK hP 1 rfl rfl 2 (by decide) (wd_1383 hE) (fun _ h9 => h9) rfl dX12_acted_1 ?_
  refine lv_bipush (v := 8) hx hb dX12_acted_4 (by decide) ?_
  refine lv_icmp_ne (tgt := 57) hx hb dX12_acted_6 (by decide) (fun c1 => ?_) (fun c1 => absurd c1 (by decide))
  refine lv_aload_n hx hb dX12_acted_57 rfl (lv_at hl 0 rfl) ?_
  refine lv_iload_n hx hb dX12_acted_58 rfl (lv_at hl 1 rfl) ?_
  refine lv_sipush (v := 1108) hx hb dX12_acted_59 (by decide) ?_
  refine lv_sipush (v := 554) hx hb dX12_acted_62 (by decide) ?_
  refine lv_aload_n hx hb dX12_acted_65 rfl (lv_at hl 0 rfl) ?_
  refine va_get (D := (dC, dI)) (ci := 11) (v := .int 0) (C := RX12) (T := TX12) (N := 31) hx hb (ly_X12 hE) (fun _ h9 => h9) hown hK hP 1 rfl rfl 2 (by decide) (wd_1383 hE) (fun _ h9 => h9) rfl dX12_acted_66 ?_
  refine lv_imul hx hb dX12_acted_69 ?_
  refine W.eq (g2 := F0 m 70 ls [.int 0, .int 1108, .int 554, .ref a0]) rfl ?_
  refine lv_iadd hx hb dX12_acted_70 ?_
  refine W.eq (g2 := F0 m 71 ls [.int 1108, .int 554, .ref a0]) rfl ?_
  refine cl_v (wc := [(a1, .inl (k0, 7202, .inl (fun _ => 0))), (a0, .inr (11, [.ref a1, .int 0, .int 0, .int 0, .ref a2, .int 0, .ref a3, .ref a4, .ref a5, .ref a6, .int 0, .int 0, .int 0, .int 0, .int 0, .int 0, .int 0, .int (-1), .int (-1), .int 0, .int 0, .int 0, .int 0, .ref a7, .ref a8, .ref a9, .ref a10, .ref a11, .ref a12, .ref a13, .int 0]))]) (wr := []) [0, 1] [] rfl rfl (by decide) (by decide) hK hP hD hS hA (va_runV (As := [.int 554, .int 1108]) (rest := []) ⟨hx, hb, hml, hown, noTs⟩ (c_X12_copies_2 l dC dI s.heap.size a0 a1 a2 a3 a4 a5 a6 a7 a8 a9 a10 a11 a12 a13 k0) ⟨cbE 2 (wd_1502 hE) (wd_126 hE) (wd_1499 hE) rfl rfl (by decide +kernel) ⟨Nat.le_of_ble_eq_true rfl, Nat.le_of_ble_eq_true rfl⟩, (wd_1501 hE), (wd_55 hE)⟩ ⟨PcE.blind, va_recv hK hP (ci := 11) (q0 := 1) rfl rfl, (pre_E (av := [.ref a0, .int 554, .int 1108]) (wc := [(a1, .inl (k0, 7202, .inl (fun _ => 0))), (a0, .inr (11, [.ref a1, .int 0, .int 0, .int 0, .ref a2, .int 0, .ref a3, .ref a4, .ref a5, .ref a6, .int 0, .int 0, .int 0, .int 0, .int 0, .int 0, .int 0, .int (-1), .int (-1), .int 0, .int 0, .int 0, .int 0, .ref a7, .ref a8, .ref a9, .ref a10, .ref a11, .ref a12, .ref a13, .int 0]))]) (tysc := [(k0, .int)]) [0, 1] [0] rfl (by decide) rfl rfl hK hP hD hE)⟩ rfl rfl hl.1 rfl (lv_room (Nat.le_of_ble_eq_true rfl)) dX12_acted_71 ⟨Nat.le_of_ble_eq_true rfl, Nat.le_of_ble_eq_true rfl⟩) (fun u2 H locs hw2 hK hP hD hS => ?_)
  have hK : va_K (dC, dI) vwCl [(k0, .int)] s := hK
  have hP : va_P (dC, dI) vwCl [(a1, .inl (k0, 7202, .inl (fun _ => 0))), (a0, .inr (11, [.ref a1, .int 0, .int 0, .int 0, .ref a2, .int 0, .ref a3, .ref a4, .ref a5, .ref a6, .int 0, .int 0, .int 0, .int 0, .int 0, .int 0, .int 0, .int (-1), .int (-1), .int 0, .int 0, .int 0, .int 0, .ref a7, .ref a8, .ref a9, .ref a10, .ref a11, .ref a12, .ref a13, .int 0]))] H := hP
  have hD : va_D A [(a1, .inl (k0, 7202, .inl (fun _ => 0))), (a0, .inr (11, [.ref a1, .int 0, .int 0, .int 0, .ref a2, .int 0, .ref a3, .ref a4, .ref a5, .ref a6, .int 0, .int 0, .int 0, .int 0, .int 0, .int 0, .int 0, .int (-1), .int (-1), .int 0, .int 0, .int 0, .int 0, .ref a7, .ref a8, .ref a9, .ref a10, .ref a11, .ref a12, .ref a13, .int 0]))] := hD
  refine lv_aload_n hx hb dX12_acted_74 rfl (lv_at hl 0 rfl) ?_
  refine lv_dup hx hb dX12_acted_75 rfl ?_
  refine va_get (D := (dC, dI)) (ci := 11) (v := .int 0) (C := RX12) (T := TX12) (N := 31) hx hb (ly_X12 hE) (fun _ h9 => h9) hown hK hP 1 rfl rfl 2 (by decide) (wd_1383 hE) (fun _ h9 => h9) rfl dX12_acted_76 ?_
  refine lv_iconst (v := 1) hx hb dX12_acted_79 (by decide) ?_
  refine lv_iadd hx hb dX12_acted_80 ?_
  refine W.eq (g2 := F0 m 81 ls [.int 1, .ref a0]) rfl ?_
  refine va_put (D := (dC, dI)) (ci := 11) (v := .int 1) (ty := .int) (C := RX12) (T := TX12) (N := 31) hx hb (ly_X12 hE) (fun _ h9 => h9) tyX12 tyX12_ok nmX12 hown hK hP hD hS 1 rfl rfl 2 (by decide) (wd_1383 hE) (fun _ h9 => h9) rfl (by decide +kernel) rfl rfl (Nat.le_of_ble_eq_true rfl) dX12_acted_81 (fun H locs hP hD hS => ?_)
  have hP : va_P (dC, dI) vwCl [(a1, .inl (k0, 7202, .inl (fun _ => 0))), (a0, .inr (11, [.ref a1, .int 0, .int 1, .int 0, .ref a2, .int 0, .ref a3, .ref a4, .ref a5, .ref a6, .int 0, .int 0, .int 0, .int 0, .int 0, .int 0, .int 0, .int (-1), .int (-1), .int 0, .int 0, .int 0, .int 0, .ref a7, .ref a8, .ref a9, .ref a10, .ref a11, .ref a12, .ref a13, .int 0]))] H := hP
  have hD : va_D A [(a1, .inl (k0, 7202, .inl (fun _ => 0))), (a0, .inr (11, [.ref a1, .int 0, .int 1, .int 0, .ref a2, .int 0, .ref a3, .ref a4, .ref a5, .ref a6, .int 0, .int 0, .int 0, .int 0, .int 0, .int 0, .int 0, .int (-1), .int (-1), .int 0, .int 0, .int 0, .int 0, .ref a7, .ref a8, .ref a9, .ref a10, .ref a11, .ref a12, .ref a13, .int 0]))] := hD
  have hP9 := hP.sub (ws' := [(a1, .inl (k0, 7202, .inl (fun _ => 0))), (a0, .inr (11, [.ref a1, .int 0, .int 1, .int 0, .ref a2, .int 0, .ref a3, .ref a4, .ref a5, .ref a6, .int 0, .int 0, .int 0, .int 0, .int 0, .int 0, .int 0, .int (-1), .int (-1), .int 0, .int 0, .int 0, .int 0, .ref a7, .ref a8, .ref a9, .ref a10, .ref a11, .ref a12, .ref a13, .int 0]))]) [0, 1] rfl
  have hD9 := hD.sub (ws' := [(a1, .inl (k0, 7202, .inl (fun _ => 0))), (a0, .inr (11, [.ref a1, .int 0, .int 1, .int 0, .ref a2, .int 0, .ref a3, .ref a4, .ref a5, .ref a6, .int 0, .int 0, .int 0, .int 0, .int 0, .int 0, .int 0, .int (-1), .int (-1), .int 0, .int 0, .int 0, .int 0, .ref a7, .ref a8, .ref a9, .ref a10, .ref a11, .ref a12, .ref a13, .int 0]))]) [0, 1] (by decide) rfl
  have hK9 := hK.sub (tys' := []) [] rfl
  refine W.widen (k := 0) (n := 0) (Nat.le_of_ble_eq_true rfl) (Nat.le_of_ble_eq_true rfl) ?_
  exact W.vret hx hb hr (fun t ht hW => ⟨⟨(), rfl, trivial, by rw [ht]; exact hP9, va_K.moved hW.alike hK9, hD9⟩, hS.F ht⟩) hS.2.2 dX12_acted_84

set_option maxHeartbeats 4000000 in
set_option maxRecDepth 100000 in
theorem c_X12_of (l : Launch) (dC : Nat → ClassId) (dI : Nat → Nat → Nat) (sz : Nat)  (a0 a1 a2 a3 a4 a5 a6 a7 a8 a9 a10 a11 a12 a13 : Nat) (k0 : ClassId)  : Met l yX12_of [.code yX12_of cX12_of 2 (some .int)] ({ frames := 0, cells := 0, slots := 0, locals := 0 }) (PcE [.ref a0, .int 2] sz dC dI [(k0, .int)] [(a1, .inl (k0, 7202, .inl (fun _ => 0))), (a0, .inr (11, [.ref a1, .int 0, .int 1, .int 0, .ref a2, .int 0, .ref a3, .ref a4, .ref a5, .ref a6, .int 0, .int 0, .int 0, .int 0, .int 0, .int 0, .int 0, .int (-1), .int (-1), .int 0, .int 0, .int 0, .int 0, .ref a7, .ref a8, .ref a9, .ref a10, .ref a11, .ref a12, .ref a13, .int 0]))]) (va_Qi (fun (r : Int32) (u : Unit) => r = 0) (Bw dC dI (va_A [(a1, .inl (k0, 7202, .inl (fun _ => 0))), (a0, .inr (11, [.ref a1, .int 0, .int 1, .int 0, .ref a2, .int 0, .ref a3, .ref a4, .ref a5, .ref a6, .int 0, .int 0, .int 0, .int 0, .int 0, .int 0, .int 0, .int (-1), .int (-1), .int 0, .int 0, .int 0, .int 0, .ref a7, .ref a8, .ref a9, .ref a10, .ref a11, .ref a12, .ref a13, .int 0]))] sz) (fun (u : Unit) => []) (fun (u : Unit) => [(a1, .inl (k0, 7202, .inl (fun _ => 0))), (a0, .inr (11, [.ref a1, .int 0, .int 1, .int 0, .ref a2, .int 0, .ref a3, .ref a4, .ref a5, .ref a6, .int 0, .int 0, .int 0, .int 0, .int 0, .int 0, .int 0, .int (-1), .int (-1), .int 0, .int 0, .int 0, .int 0, .ref a7, .ref a8, .ref a9, .ref a10, .ref a11, .ref a12, .ref a13, .int 0]))])) (va_A [(a1, .inl (k0, 7202, .inl (fun _ => 0))), (a0, .inr (11, [.ref a1, .int 0, .int 1, .int 0, .ref a2, .int 0, .ref a3, .ref a4, .ref a5, .ref a6, .int 0, .int 0, .int 0, .int 0, .int 0, .int 0, .int 0, .int (-1), .int (-1), .int 0, .int 0, .int 0, .int 0, .ref a7, .ref a8, .ref a9, .ref a10, .ref a11, .ref a12, .ref a13, .int 0]))] sz)) 0 0 (va_A [(a1, .inl (k0, 7202, .inl (fun _ => 0))), (a0, .inr (11, [.ref a1, .int 0, .int 1, .int 0, .ref a2, .int 0, .ref a3, .ref a4, .ref a5, .ref a6, .int 0, .int 0, .int 0, .int 0, .int 0, .int 0, .int 0, .int (-1), .int (-1), .int 0, .int 0, .int 0, .int 0, .ref a7, .ref a8, .ref a9, .ref a10, .ref a11, .ref a12, .ref a13, .int 0]))] sz) := by
  refine Met.ofW (cc := cX12_of) (maxL := 2) (ret := (some .int)) (by decide) rfl ?_
  intro p e s m args below meth c s₁ B hml hv
  obtain ⟨rfl, hsz, hP, hK, hD0, hE⟩ := hv
  have hx := B.exec
  have hb := B.bytes
  have hr := B.returns
  have hown : s.vm.findClass RX12 = some m.cls := findClass_of_methodNamed B.named
  have hlocks := B.notSynchronized
  subst hsz
  have hD := hD0.self (sz := s.heap.size)
  generalize hAe : va_A [(a1, .inl (k0, 7202, .inl (fun _ => 0))), (a0, .inr (11, [.ref a1, .int 0, .int 1, .int 0, .ref a2, .int 0, .ref a3, .ref a4, .ref a5, .ref a6, .int 0, .int 0, .int 0, .int 0, .int 0, .int 0, .int 0, .int (-1), .int (-1), .int 0, .int 0, .int 0, .int 0, .ref a7, .ref a8, .ref a9, .ref a10, .ref a11, .ref a12, .ref a13, .int 0]))] s.heap.size = A at hD ⊢
  have hA : ∀ q : Nat, s.heap.size ≤ q → A q := fun q h => by rw [← hAe]; exact Or.inr h
  have hS : va_S A s.heap s.heap [] := va_S.rf
  have hl := lv_entry ([.ref a0, .int 2]) (n := 2) (Nat.le_of_ble_eq_true rfl)
  rw [lg_entry_eq]
  generalize (lg_sl ([.ref a0, .int 2]) ++ List.replicate (2 - (lg_sl ([.ref a0, .int 2])).length) Slot.unset).toArray = ls at hl ⊢
  have hl : lv_has ls 2 [(0, .ref a0), (1, .int 2)] := hl
  refine lv_aload_n hx hb dX12_of_0 rfl (lv_at hl 0 rfl) ?_
  refine va_get (D := (dC, dI)) (ci := 11) (v := .ref a1) (C := RX12) (T := TX12) (N := 31) hx hb (ly_X12 hE) (fun _ h9 => h9) hown hK hP 1 rfl rfl 0 (by decide) (wd_1381 hE) (fun _ h9 => h9) rfl dX12_of_1 ?_
  refine lv_iload_n hx hb dX12_of_4 rfl (lv_at hl 1 rfl) ?_
  refine va_iald hx hb hK hP 0 0 rfl rfl (by unfold vp_in; decide) dX12_of_5 ?_
  refine W.eq (g2 := F0 m 6 ls [.int 0]) rfl ?_
  have hP9 := hP.sub (ws' := [(a1, .inl (k0, 7202, .inl (fun _ => 0))), (a0, .inr (11, [.ref a1, .int 0, .int 1, .int 0, .ref a2, .int 0, .ref a3, .ref a4, .ref a5, .ref a6, .int 0, .int 0, .int 0, .int 0, .int 0, .int 0, .int 0, .int (-1), .int (-1), .int 0, .int 0, .int 0, .int 0, .ref a7, .ref a8, .ref a9, .ref a10, .ref a11, .ref a12, .ref a13, .int 0]))]) [0, 1] rfl
  have hD9 := hD.sub (ws' := [(a1, .inl (k0, 7202, .inl (fun _ => 0))), (a0, .inr (11, [.ref a1, .int 0, .int 1, .int 0, .ref a2, .int 0, .ref a3, .ref a4, .ref a5, .ref a6, .int 0, .int 0, .int 0, .int 0, .int 0, .int 0, .int 0, .int (-1), .int (-1), .int 0, .int 0, .int 0, .int 0, .ref a7, .ref a8, .ref a9, .ref a10, .ref a11, .ref a12, .ref a13, .int 0]))]) [0, 1] (by decide) rfl
  have hK9 := hK.sub (tys' := []) [] rfl
  refine W.widen (k := 0) (n := 0) (Nat.le_of_ble_eq_true rfl) (Nat.le_of_ble_eq_true rfl) ?_
  exact W.iret (v := 0) hx hb hr (fun t ht hW => ⟨⟨0, (), rfl, rfl, by rw [ht]; exact hP9, va_K.moved hW.alike hK9, hD9⟩, hS.F ht⟩) hS.2.2 dX12_of_6

set_option maxHeartbeats 4000000 in
set_option maxRecDepth 100000 in
theorem c_X12_gives (l : Launch) (dC : Nat → ClassId) (dI : Nat → Nat → Nat) (sz : Nat)  (a0 a1 a2 a3 a4 a5 a6 a7 a8 a9 a10 a11 a12 a13 : Nat)  : Met l yX12_gives [.code yX12_gives cX12_gives 2 (some .int)] ({ frames := 0, cells := 0, slots := 0, locals := 0 }) (PcE [.ref a0, .int 0] sz dC dI [] [(a0, .inr (11, [.ref a1, .int 0, .int 1, .int 0, .ref a2, .int 0, .ref a3, .ref a4, .ref a5, .ref a6, .int 0, .int 0, .int 0, .int 0, .int 0, .int 0, .int 0, .int (-1), .int (-1), .int 0, .int 0, .int 0, .int 0, .ref a7, .ref a8, .ref a9, .ref a10, .ref a11, .ref a12, .ref a13, .int 0]))]) (va_Qi (fun (r : Int32) (u : Unit) => r = 0) (Bw dC dI (va_A [(a0, .inr (11, [.ref a1, .int 0, .int 1, .int 0, .ref a2, .int 0, .ref a3, .ref a4, .ref a5, .ref a6, .int 0, .int 0, .int 0, .int 0, .int 0, .int 0, .int 0, .int (-1), .int (-1), .int 0, .int 0, .int 0, .int 0, .ref a7, .ref a8, .ref a9, .ref a10, .ref a11, .ref a12, .ref a13, .int 0]))] sz) (fun (u : Unit) => []) (fun (u : Unit) => [(a0, .inr (11, [.ref a1, .int 0, .int 1, .int 0, .ref a2, .int 0, .ref a3, .ref a4, .ref a5, .ref a6, .int 0, .int 0, .int 0, .int 0, .int 0, .int 0, .int 0, .int (-1), .int (-1), .int 0, .int 0, .int 0, .int 0, .ref a7, .ref a8, .ref a9, .ref a10, .ref a11, .ref a12, .ref a13, .int 0]))])) (va_A [(a0, .inr (11, [.ref a1, .int 0, .int 1, .int 0, .ref a2, .int 0, .ref a3, .ref a4, .ref a5, .ref a6, .int 0, .int 0, .int 0, .int 0, .int 0, .int 0, .int 0, .int (-1), .int (-1), .int 0, .int 0, .int 0, .int 0, .ref a7, .ref a8, .ref a9, .ref a10, .ref a11, .ref a12, .ref a13, .int 0]))] sz)) 0 0 (va_A [(a0, .inr (11, [.ref a1, .int 0, .int 1, .int 0, .ref a2, .int 0, .ref a3, .ref a4, .ref a5, .ref a6, .int 0, .int 0, .int 0, .int 0, .int 0, .int 0, .int 0, .int (-1), .int (-1), .int 0, .int 0, .int 0, .int 0, .ref a7, .ref a8, .ref a9, .ref a10, .ref a11, .ref a12, .ref a13, .int 0]))] sz) := by
  refine Met.ofW (cc := cX12_gives) (maxL := 2) (ret := (some .int)) (by decide) rfl ?_
  intro p e s m args below meth c s₁ B hml hv
  obtain ⟨rfl, hsz, hP, hK, hD0, hE⟩ := hv
  have hx := B.exec
  have hb := B.bytes
  have hr := B.returns
  have hown : s.vm.findClass RX12 = some m.cls := findClass_of_methodNamed B.named
  have hlocks := B.notSynchronized
  subst hsz
  have hD := hD0.self (sz := s.heap.size)
  generalize hAe : va_A [(a0, .inr (11, [.ref a1, .int 0, .int 1, .int 0, .ref a2, .int 0, .ref a3, .ref a4, .ref a5, .ref a6, .int 0, .int 0, .int 0, .int 0, .int 0, .int 0, .int 0, .int (-1), .int (-1), .int 0, .int 0, .int 0, .int 0, .ref a7, .ref a8, .ref a9, .ref a10, .ref a11, .ref a12, .ref a13, .int 0]))] s.heap.size = A at hD ⊢
  have hA : ∀ q : Nat, s.heap.size ≤ q → A q := fun q h => by rw [← hAe]; exact Or.inr h
  have hS : va_S A s.heap s.heap [] := va_S.rf
  have hl := lv_entry ([.ref a0, .int 0]) (n := 2) (Nat.le_of_ble_eq_true rfl)
  rw [lg_entry_eq]
  generalize (lg_sl ([.ref a0, .int 0]) ++ List.replicate (2 - (lg_sl ([.ref a0, .int 0])).length) Slot.unset).toArray = ls at hl ⊢
  have hl : lv_has ls 2 [(0, .ref a0), (1, .int 0)] := hl
  refine lv_aload_n hx hb dX12_gives_0 rfl (lv_at hl 0 rfl) ?_
  refine lv_iconst (v := 0) hx hb dX12_gives_1 (by decide) ?_
  refine va_put (D := (dC, dI)) (ci := 11) (v := .int 0) (ty := .int) (C := RX12) (T := TX12) (N := 31) hx hb (ly_X12 hE) (fun _ h9 => h9) tyX12 tyX12_ok nmX12 hown hK hP hD hS 0 rfl rfl 1 (by decide) (wd_1382 hE) (fun _ h9 => h9) rfl (by decide +kernel) rfl rfl (Nat.le_of_ble_eq_true rfl) dX12_gives_2 (fun H locs hP hD hS => ?_)
  have hP : va_P (dC, dI) vwCl [(a0, .inr (11, [.ref a1, .int 0, .int 1, .int 0, .ref a2, .int 0, .ref a3, .ref a4, .ref a5, .ref a6, .int 0, .int 0, .int 0, .int 0, .int 0, .int 0, .int 0, .int (-1), .int (-1), .int 0, .int 0, .int 0, .int 0, .ref a7, .ref a8, .ref a9, .ref a10, .ref a11, .ref a12, .ref a13, .int 0]))] H := hP
  have hD : va_D A [(a0, .inr (11, [.ref a1, .int 0, .int 1, .int 0, .ref a2, .int 0, .ref a3, .ref a4, .ref a5, .ref a6, .int 0, .int 0, .int 0, .int 0, .int 0, .int 0, .int 0, .int (-1), .int (-1), .int 0, .int 0, .int 0, .int 0, .ref a7, .ref a8, .ref a9, .ref a10, .ref a11, .ref a12, .ref a13, .int 0]))] := hD
  refine lv_iload_n hx hb dX12_gives_5 rfl (lv_at hl 1 rfl) ?_
  have hP9 := hP.sub (ws' := [(a0, .inr (11, [.ref a1, .int 0, .int 1, .int 0, .ref a2, .int 0, .ref a3, .ref a4, .ref a5, .ref a6, .int 0, .int 0, .int 0, .int 0, .int 0, .int 0, .int 0, .int (-1), .int (-1), .int 0, .int 0, .int 0, .int 0, .ref a7, .ref a8, .ref a9, .ref a10, .ref a11, .ref a12, .ref a13, .int 0]))]) [0] rfl
  have hD9 := hD.sub (ws' := [(a0, .inr (11, [.ref a1, .int 0, .int 1, .int 0, .ref a2, .int 0, .ref a3, .ref a4, .ref a5, .ref a6, .int 0, .int 0, .int 0, .int 0, .int 0, .int 0, .int 0, .int (-1), .int (-1), .int 0, .int 0, .int 0, .int 0, .ref a7, .ref a8, .ref a9, .ref a10, .ref a11, .ref a12, .ref a13, .int 0]))]) [0] (by decide) rfl
  have hK9 := hK.sub (tys' := []) [] rfl
  refine W.widen (k := 0) (n := 0) (Nat.le_of_ble_eq_true rfl) (Nat.le_of_ble_eq_true rfl) ?_
  exact W.iret (v := 0) hx hb hr (fun t ht hW => ⟨⟨0, (), rfl, rfl, by rw [ht]; exact hP9, va_K.moved hW.alike hK9, hD9⟩, hS.F ht⟩) hS.2.2 dX12_gives_6

set_option maxHeartbeats 4000000 in
set_option maxRecDepth 100000 in
theorem c_X12_refuse (l : Launch) (dC : Nat → ClassId) (dI : Nat → Nat → Nat) (sz : Nat)  (a0 a1 a2 a3 a4 a5 a6 a7 a8 a9 a10 a11 a12 a13 : Nat)  : Met l yX12_refuse [.code yX12_refuse cX12_refuse 2 (some .int)] ({ frames := 0, cells := 0, slots := 0, locals := 0 }) (PcE [.ref a0, .int 1] sz dC dI [] [(a0, .inr (11, [.ref a1, .int 0, .int 0, .int 0, .ref a2, .int 0, .ref a3, .ref a4, .ref a5, .ref a6, .int 0, .int 0, .int 0, .int 0, .int 0, .int 0, .int 0, .int (-1), .int (-1), .int (-1), .int 0, .int 0, .int 0, .ref a7, .ref a8, .ref a9, .ref a10, .ref a11, .ref a12, .ref a13, .int 0]))]) (va_Qi (fun (r : Int32) (u : Unit) => r = -1) (Bw dC dI (va_A [(a0, .inr (11, [.ref a1, .int 0, .int 0, .int 0, .ref a2, .int 0, .ref a3, .ref a4, .ref a5, .ref a6, .int 0, .int 0, .int 0, .int 0, .int 0, .int 0, .int 0, .int (-1), .int (-1), .int (-1), .int 0, .int 0, .int 0, .ref a7, .ref a8, .ref a9, .ref a10, .ref a11, .ref a12, .ref a13, .int 0]))] sz) (fun (u : Unit) => []) (fun (u : Unit) => [(a0, .inr (11, [.ref a1, .int 1, .int 0, .int 0, .ref a2, .int 0, .ref a3, .ref a4, .ref a5, .ref a6, .int 0, .int 0, .int 0, .int 0, .int 0, .int 0, .int 0, .int (-1), .int (-1), .int (-1), .int 0, .int 0, .int 0, .ref a7, .ref a8, .ref a9, .ref a10, .ref a11, .ref a12, .ref a13, .int 0]))])) (va_A [(a0, .inr (11, [.ref a1, .int 0, .int 0, .int 0, .ref a2, .int 0, .ref a3, .ref a4, .ref a5, .ref a6, .int 0, .int 0, .int 0, .int 0, .int 0, .int 0, .int 0, .int (-1), .int (-1), .int (-1), .int 0, .int 0, .int 0, .ref a7, .ref a8, .ref a9, .ref a10, .ref a11, .ref a12, .ref a13, .int 0]))] sz)) 0 0 (va_A [(a0, .inr (11, [.ref a1, .int 0, .int 0, .int 0, .ref a2, .int 0, .ref a3, .ref a4, .ref a5, .ref a6, .int 0, .int 0, .int 0, .int 0, .int 0, .int 0, .int 0, .int (-1), .int (-1), .int (-1), .int 0, .int 0, .int 0, .ref a7, .ref a8, .ref a9, .ref a10, .ref a11, .ref a12, .ref a13, .int 0]))] sz) := by
  refine Met.ofW (cc := cX12_refuse) (maxL := 2) (ret := (some .int)) (by decide) rfl ?_
  intro p e s m args below meth c s₁ B hml hv
  obtain ⟨rfl, hsz, hP, hK, hD0, hE⟩ := hv
  have hx := B.exec
  have hb := B.bytes
  have hr := B.returns
  have hown : s.vm.findClass RX12 = some m.cls := findClass_of_methodNamed B.named
  have hlocks := B.notSynchronized
  subst hsz
  have hD := hD0.self (sz := s.heap.size)
  generalize hAe : va_A [(a0, .inr (11, [.ref a1, .int 0, .int 0, .int 0, .ref a2, .int 0, .ref a3, .ref a4, .ref a5, .ref a6, .int 0, .int 0, .int 0, .int 0, .int 0, .int 0, .int 0, .int (-1), .int (-1), .int (-1), .int 0, .int 0, .int 0, .ref a7, .ref a8, .ref a9, .ref a10, .ref a11, .ref a12, .ref a13, .int 0]))] s.heap.size = A at hD ⊢
  have hA : ∀ q : Nat, s.heap.size ≤ q → A q := fun q h => by rw [← hAe]; exact Or.inr h
  have hS : va_S A s.heap s.heap [] := va_S.rf
  have hl := lv_entry ([.ref a0, .int 1]) (n := 2) (Nat.le_of_ble_eq_true rfl)
  rw [lg_entry_eq]
  generalize (lg_sl ([.ref a0, .int 1]) ++ List.replicate (2 - (lg_sl ([.ref a0, .int 1])).length) Slot.unset).toArray = ls at hl ⊢
  have hl : lv_has ls 2 [(0, .ref a0), (1, .int 1)] := hl
  refine lv_aload_n hx hb dX12_refuse_0 rfl (lv_at hl 0 rfl) ?_
  refine lv_iload_n hx hb dX12_refuse_1 rfl (lv_at hl 1 rfl) ?_
  refine va_put (D := (dC, dI)) (ci := 11) (v := .int 1) (ty := .int) (C := RX12) (T := TX12) (N := 31) hx hb (ly_X12 hE) (fun _ h9 => h9) tyX12 tyX12_ok nmX12 hown hK hP hD hS 0 rfl rfl 1 (by decide) (wd_1382 hE) (fun _ h9 => h9) rfl (by decide +kernel) rfl rfl (Nat.le_of_ble_eq_true rfl) dX12_refuse_2 (fun H locs hP hD hS => ?_)
  have hP : va_P (dC, dI) vwCl [(a0, .inr (11, [.ref a1, .int 1, .int 0, .int 0, .ref a2, .int 0, .ref a3, .ref a4, .ref a5, .ref a6, .int 0, .int 0, .int 0, .int 0, .int 0, .int 0, .int 0, .int (-1), .int (-1), .int (-1), .int 0, .int 0, .int 0, .ref a7, .ref a8, .ref a9, .ref a10, .ref a11, .ref a12, .ref a13, .int 0]))] H := hP
  have hD : va_D A [(a0, .inr (11, [.ref a1, .int 1, .int 0, .int 0, .ref a2, .int 0, .ref a3, .ref a4, .ref a5, .ref a6, .int 0, .int 0, .int 0, .int 0, .int 0, .int 0, .int 0, .int (-1), .int (-1), .int (-1), .int 0, .int 0, .int 0, .ref a7, .ref a8, .ref a9, .ref a10, .ref a11, .ref a12, .ref a13, .int 0]))] := hD
  refine lv_iconst (v := -1) hx hb dX12_refuse_5 (by decide) ?_
  have hP9 := hP.sub (ws' := [(a0, .inr (11, [.ref a1, .int 1, .int 0, .int 0, .ref a2, .int 0, .ref a3, .ref a4, .ref a5, .ref a6, .int 0, .int 0, .int 0, .int 0, .int 0, .int 0, .int 0, .int (-1), .int (-1), .int (-1), .int 0, .int 0, .int 0, .ref a7, .ref a8, .ref a9, .ref a10, .ref a11, .ref a12, .ref a13, .int 0]))]) [0] rfl
  have hD9 := hD.sub (ws' := [(a0, .inr (11, [.ref a1, .int 1, .int 0, .int 0, .ref a2, .int 0, .ref a3, .ref a4, .ref a5, .ref a6, .int 0, .int 0, .int 0, .int 0, .int 0, .int 0, .int 0, .int (-1), .int (-1), .int (-1), .int 0, .int 0, .int 0, .ref a7, .ref a8, .ref a9, .ref a10, .ref a11, .ref a12, .ref a13, .int 0]))]) [0] (by decide) rfl
  have hK9 := hK.sub (tys' := []) [] rfl
  refine W.widen (k := 0) (n := 0) (Nat.le_of_ble_eq_true rfl) (Nat.le_of_ble_eq_true rfl) ?_
  exact W.iret (v := -1) hx hb hr (fun t ht hW => ⟨⟨-1, (), rfl, rfl, by rw [ht]; exact hP9, va_K.moved hW.alike hK9, hD9⟩, hS.F ht⟩) hS.2.2 dX12_refuse_6

set_option maxHeartbeats 4000000 in
set_option maxRecDepth 100000 in
theorem c_X12_load (l : Launch) (dC : Nat → ClassId) (dI : Nat → Nat → Nat) (sz : Nat)  (a0 a1 a2 a3 a4 a5 a6 a7 a8 a9 a10 a11 a12 a13 : Nat) (k0 : ClassId) (v0 : Int32)  : Met l yX12_load [.code yX12_load cX12_load 3 (some .int)] ({ frames := 2, cells := 0, slots := 0, locals := 80 }) (PcE [.ref a0, .int v0] sz dC dI [(k0, .int)] [(a0, .inr (11, [.ref a1, .int 0, .int 0, .int 0, .ref a2, .int 0, .ref a3, .ref a4, .ref a5, .ref a6, .int 0, .int 0, .int 0, .int 0, .int 0, .int 0, .int 0, .int (-1), .int (-1), .int (-1), .int 0, .int 0, .int 0, .ref a7, .ref a8, .ref a9, .ref a10, .ref a11, .ref a12, .ref a13, .int 0])), (a1, .inl (k0, 7202, .inl (fun _ => 0)))]) (va_Qi (fun (r : Int32) (u : Unit) => r = if v0 = 0 then 0 else -1) (Bw dC dI (va_A [(a0, .inr (11, [.ref a1, .int 0, .int 0, .int 0, .ref a2, .int 0, .ref a3, .ref a4, .ref a5, .ref a6, .int 0, .int 0, .int 0, .int 0, .int 0, .int 0, .int 0, .int (-1), .int (-1), .int (-1), .int 0, .int 0, .int 0, .ref a7, .ref a8, .ref a9, .ref a10, .ref a11, .ref a12, .ref a13, .int 0])), (a1, .inl (k0, 7202, .inl (fun _ => 0)))] sz) (fun (u : Unit) => []) (fun (u : Unit) => [])) (va_A [(a0, .inr (11, [.ref a1, .int 0, .int 0, .int 0, .ref a2, .int 0, .ref a3, .ref a4, .ref a5, .ref a6, .int 0, .int 0, .int 0, .int 0, .int 0, .int 0, .int 0, .int (-1), .int (-1), .int (-1), .int 0, .int 0, .int 0, .ref a7, .ref a8, .ref a9, .ref a10, .ref a11, .ref a12, .ref a13, .int 0])), (a1, .inl (k0, 7202, .inl (fun _ => 0)))] sz)) 0 0 (va_A [(a0, .inr (11, [.ref a1, .int 0, .int 0, .int 0, .ref a2, .int 0, .ref a3, .ref a4, .ref a5, .ref a6, .int 0, .int 0, .int 0, .int 0, .int 0, .int 0, .int 0, .int (-1), .int (-1), .int (-1), .int 0, .int 0, .int 0, .ref a7, .ref a8, .ref a9, .ref a10, .ref a11, .ref a12, .ref a13, .int 0])), (a1, .inl (k0, 7202, .inl (fun _ => 0)))] sz) := by
  refine Met.ofW (cc := cX12_load) (maxL := 3) (ret := (some .int)) (by decide) rfl ?_
  intro p e s m args below meth c s₁ B hml hv
  obtain ⟨rfl, hsz, hP, hK, hD0, hE⟩ := hv
  have hx := B.exec
  have hb := B.bytes
  have hr := B.returns
  have hown : s.vm.findClass RX12 = some m.cls := findClass_of_methodNamed B.named
  have hlocks := B.notSynchronized
  subst hsz
  have hD := hD0.self (sz := s.heap.size)
  generalize hAe : va_A [(a0, .inr (11, [.ref a1, .int 0, .int 0, .int 0, .ref a2, .int 0, .ref a3, .ref a4, .ref a5, .ref a6, .int 0, .int 0, .int 0, .int 0, .int 0, .int 0, .int 0, .int (-1), .int (-1), .int (-1), .int 0, .int 0, .int 0, .ref a7, .ref a8, .ref a9, .ref a10, .ref a11, .ref a12, .ref a13, .int 0])), (a1, .inl (k0, 7202, .inl (fun _ => 0)))] s.heap.size = A at hD ⊢
  have hA : ∀ q : Nat, s.heap.size ≤ q → A q := fun q h => by rw [← hAe]; exact Or.inr h
  have hS : va_S A s.heap s.heap [] := va_S.rf
  have hl := lv_entry ([.ref a0, .int v0]) (n := 3) (Nat.le_of_ble_eq_true rfl)
  rw [lg_entry_eq]
  generalize (lg_sl ([.ref a0, .int v0]) ++ List.replicate (3 - (lg_sl ([.ref a0, .int v0])).length) Slot.unset).toArray = ls at hl ⊢
  have hl : lv_has ls 3 [(0, .ref a0), (1, .int v0)] := hl
  refine lv_iload_n hx hb dX12_load_0 rfl (lv_at hl 1 rfl) ?_
  refine lv_iconst (v := 0) hx hb dX12_load_1 (by decide) ?_
  refine lv_aload_n hx hb dX12_load_2 rfl (lv_at hl 0 rfl) ?_
  refine va_get (D := (dC, dI)) (ci := 11) (v := .int 0) (C := RX12) (T := TX12) (N := 31) hx hb (ly_X12 hE) (fun _ h9 => h9) hown hK hP 0 rfl rfl 10 (by decide) (wd_1391 hE) (fun _ h9 => h9) rfl dX12_load_3 ?_
  refine cl_i (wc := []) (wr := [(a0, .inr (11, [.ref a1, .int 0, .int 0, .int 0, .ref a2, .int 0, .ref a3, .ref a4, .ref a5, .ref a6, .int 0, .int 0, .int 0, .int 0, .int 0, .int 0, .int 0, .int (-1), .int (-1), .int (-1), .int 0, .int 0, .int 0, .ref a7, .ref a8, .ref a9, .ref a10, .ref a11, .ref a12, .ref a13, .int 0])), (a1, .inl (k0, 7202, .inl (fun _ => 0)))]) [] [0, 1] rfl rfl (by decide) (by decide) hK hP hD hS hA (va_runS (As := [.int v0, .int 0, .int 0]) (rest := []) ⟨hx, hb, hml, hown, noTs⟩ (c_isFrom_0_0 l dC dI s.heap.size v0) ⟨cbE 3 (wd_1494 hE) (wd_126 hE) (wd_1492 hE) rfl rfl (by decide +kernel) ⟨Nat.le_of_ble_eq_true rfl, Nat.le_of_ble_eq_true rfl⟩, (wd_1493 hE)⟩ ⟨PcE.blind, (pre_E (av := [.int v0, .int 0, .int 0]) (wc := []) (tysc := []) [] [] rfl (by decide) rfl rfl hK hP hD hE)⟩ rfl rfl hl.1 rfl (lv_room (Nat.le_of_ble_eq_true rfl)) dX12_load_6 ⟨Nat.le_of_ble_eq_true rfl, Nat.le_of_ble_eq_true rfl⟩) (fun r1 u1 H locs hw1 hK hP hD hS => ?_)
  have hK : va_K (dC, dI) vwCl [(k0, .int)] s := hK
  have hP : va_P (dC, dI) vwCl [(a0, .inr (11, [.ref a1, .int 0, .int 0, .int 0, .ref a2, .int 0, .ref a3, .ref a4, .ref a5, .ref a6, .int 0, .int 0, .int 0, .int 0, .int 0, .int 0, .int 0, .int (-1), .int (-1), .int (-1), .int 0, .int 0, .int 0, .ref a7, .ref a8, .ref a9, .ref a10, .ref a11, .ref a12, .ref a13, .int 0])), (a1, .inl (k0, 7202, .inl (fun _ => 0)))] H := hP
  have hD : va_D A [(a0, .inr (11, [.ref a1, .int 0, .int 0, .int 0, .ref a2, .int 0, .ref a3, .ref a4, .ref a5, .ref a6, .int 0, .int 0, .int 0, .int 0, .int 0, .int 0, .int 0, .int (-1), .int (-1), .int (-1), .int 0, .int 0, .int 0, .ref a7, .ref a8, .ref a9, .ref a10, .ref a11, .ref a12, .ref a13, .int 0])), (a1, .inl (k0, 7202, .inl (fun _ => 0)))] := hD
  rcases hw1 with ⟨rfl, ha1, hb1⟩ | ⟨rfl, ha1⟩
  · obtain rfl : v0 = 0 := by simp only [i_lt, i_le, i_eq, ti_m9, ti_m1, ti_0, ti_1, ti_2, ti_3, ti_4, ti_5, ti_6, ti_7, ti_9, ti_12, ti_20, ti_99, ti_700] at ha1 hb1 ⊢; omega
    refine W.eq (g2 := F0 m 9 ls [.int 1]) rfl ?_
    refine lv_if_ne (tgt := 18) hx hb dX12_load_9 (by decide) (fun c2 => ?_) (fun c2 => absurd c2 (by decide))
    refine lv_aload_n hx hb dX12_load_18 rfl (lv_at hl 0 rfl) ?_
    refine lv_iload_n hx hb dX12_load_19 rfl (lv_at hl 1 rfl) ?_
    refine va_put (D := (dC, dI)) (ci := 11) (v := .int 0) (ty := .int) (C := RX12) (T := TX12) (N := 31) hx hb (ly_X12 hE) (fun _ h9 => h9) tyX12 tyX12_ok nmX12 hown hK hP hD hS 0 rfl rfl 11 (by decide) (wd_1392 hE) (fun _ h9 => h9) rfl (by decide +kernel) rfl rfl (Nat.le_of_ble_eq_true rfl) dX12_load_20 (fun H locs hP hD hS => ?_)
    have hP : va_P (dC, dI) vwCl [(a0, .inr (11, [.ref a1, .int 0, .int 0, .int 0, .ref a2, .int 0, .ref a3, .ref a4, .ref a5, .ref a6, .int 0, .int 0, .int 0, .int 0, .int 0, .int 0, .int 0, .int (-1), .int (-1), .int (-1), .int 0, .int 0, .int 0, .ref a7, .ref a8, .ref a9, .ref a10, .ref a11, .ref a12, .ref a13, .int 0])), (a1, .inl (k0, 7202, .inl (fun _ => 0)))] H := hP
    have hD : va_D A [(a0, .inr (11, [.ref a1, .int 0, .int 0, .int 0, .ref a2, .int 0, .ref a3, .ref a4, .ref a5, .ref a6, .int 0, .int 0, .int 0, .int 0, .int 0, .int 0, .int 0, .int (-1), .int (-1), .int (-1), .int 0, .int 0, .int 0, .ref a7, .ref a8, .ref a9, .ref a10, .ref a11, .ref a12, .ref a13, .int 0])), (a1, .inl (k0, 7202, .inl (fun _ => 0)))] := hD
    refine lv_iconst (v := 0) hx hb dX12_load_23 (by decide) ?_
    refine lv_istore_n (lv' := [(2, .int 0), (0, .ref a0), (1, .int 0)]) hx hb dX12_load_24 rfl hl (by decide) rfl (fun ls hl => ?_)
    refine lv_iload_n hx hb dX12_load_25 rfl (lv_at hl 0 rfl) ?_
    refine lv_iload_n hx hb dX12_load_26 rfl (lv_at hl 2 rfl) ?_
    refine lv_icmp_ge (tgt := 48) hx hb dX12_load_27 (by decide) (fun c3 => ?_) (fun c3 => absurd c3 (by decide))
    refine lv_aload_n hx hb dX12_load_48 rfl (lv_at hl 1 rfl) ?_
    refine lv_iconst (v := 0) hx hb dX12_load_49 (by decide) ?_
    refine va_put (D := (dC, dI)) (ci := 11) (v := .int 0) (ty := .int) (C := RX12) (T := TX12) (N := 31) hx hb (ly_X12 hE) (fun _ h9 => h9) tyX12 tyX12_ok nmX12 hown hK hP hD hS 0 rfl rfl 10 (by decide) (wd_1391 hE) (fun _ h9 => h9) rfl (by decide +kernel) rfl rfl (Nat.le_of_ble_eq_true rfl) dX12_load_50 (fun H locs hP hD hS => ?_)
    have hP : va_P (dC, dI) vwCl [(a0, .inr (11, [.ref a1, .int 0, .int 0, .int 0, .ref a2, .int 0, .ref a3, .ref a4, .ref a5, .ref a6, .int 0, .int 0, .int 0, .int 0, .int 0, .int 0, .int 0, .int (-1), .int (-1), .int (-1), .int 0, .int 0, .int 0, .ref a7, .ref a8, .ref a9, .ref a10, .ref a11, .ref a12, .ref a13, .int 0])), (a1, .inl (k0, 7202, .inl (fun _ => 0)))] H := hP
    have hD : va_D A [(a0, .inr (11, [.ref a1, .int 0, .int 0, .int 0, .ref a2, .int 0, .ref a3, .ref a4, .ref a5, .ref a6, .int 0, .int 0, .int 0, .int 0, .int 0, .int 0, .int 0, .int (-1), .int (-1), .int (-1), .int 0, .int 0, .int 0, .ref a7, .ref a8, .ref a9, .ref a10, .ref a11, .ref a12, .ref a13, .int 0])), (a1, .inl (k0, 7202, .inl (fun _ => 0)))] := hD
    refine lv_aload_n hx hb dX12_load_53 rfl (lv_at hl 1 rfl) ?_
    refine lv_iconst (v := 0) hx hb dX12_load_54 (by decide) ?_
    refine va_put (D := (dC, dI)) (ci := 11) (v := .int 0) (ty := .int) (C := RX12) (T := TX12) (N := 31) hx hb (ly_X12 hE) (fun _ h9 => h9) tyX12 tyX12_ok nmX12 hown hK hP hD hS 0 rfl rfl 16 (by decide) (wd_1397 hE) (fun _ h9 => h9) rfl (by decide +kernel) rfl rfl (Nat.le_of_ble_eq_true rfl) dX12_load_55 (fun H locs hP hD hS => ?_)
    have hP : va_P (dC, dI) vwCl [(a0, .inr (11, [.ref a1, .int 0, .int 0, .int 0, .ref a2, .int 0, .ref a3, .ref a4, .ref a5, .ref a6, .int 0, .int 0, .int 0, .int 0, .int 0, .int 0, .int 0, .int (-1), .int (-1), .int (-1), .int 0, .int 0, .int 0, .ref a7, .ref a8, .ref a9, .ref a10, .ref a11, .ref a12, .ref a13, .int 0])), (a1, .inl (k0, 7202, .inl (fun _ => 0)))] H := hP
    have hD : va_D A [(a0, .inr (11, [.ref a1, .int 0, .int 0, .int 0, .ref a2, .int 0, .ref a3, .ref a4, .ref a5, .ref a6, .int 0, .int 0, .int 0, .int 0, .int 0, .int 0, .int 0, .int (-1), .int (-1), .int (-1), .int 0, .int 0, .int 0, .ref a7, .ref a8, .ref a9, .ref a10, .ref a11, .ref a12, .ref a13, .int 0])), (a1, .inl (k0, 7202, .inl (fun _ => 0)))] := hD
    refine lv_aload_n hx hb dX12_load_58 rfl (lv_at hl 1 rfl) ?_
    refine lv_iconst (v := -1) hx hb dX12_load_59 (by decide) ?_
    refine va_put (D := (dC, dI)) (ci := 11) (v := .int (-1)) (ty := .int) (C := RX12) (T := TX12) (N := 31) hx hb (ly_X12 hE) (fun _ h9 => h9) tyX12 tyX12_ok nmX12 hown hK hP hD hS 0 rfl rfl 17 (by decide) (wd_1398 hE) (fun _ h9 => h9) rfl (by decide +kernel) rfl rfl (Nat.le_of_ble_eq_true rfl) dX12_load_60 (fun H locs hP hD hS => ?_)
    have hP : va_P (dC, dI) vwCl [(a0, .inr (11, [.ref a1, .int 0, .int 0, .int 0, .ref a2, .int 0, .ref a3, .ref a4, .ref a5, .ref a6, .int 0, .int 0, .int 0, .int 0, .int 0, .int 0, .int 0, .int (-1), .int (-1), .int (-1), .int 0, .int 0, .int 0, .ref a7, .ref a8, .ref a9, .ref a10, .ref a11, .ref a12, .ref a13, .int 0])), (a1, .inl (k0, 7202, .inl (fun _ => 0)))] H := hP
    have hD : va_D A [(a0, .inr (11, [.ref a1, .int 0, .int 0, .int 0, .ref a2, .int 0, .ref a3, .ref a4, .ref a5, .ref a6, .int 0, .int 0, .int 0, .int 0, .int 0, .int 0, .int 0, .int (-1), .int (-1), .int (-1), .int 0, .int 0, .int 0, .ref a7, .ref a8, .ref a9, .ref a10, .ref a11, .ref a12, .ref a13, .int 0])), (a1, .inl (k0, 7202, .inl (fun _ => 0)))] := hD
    refine lv_aload_n hx hb dX12_load_63 rfl (lv_at hl 1 rfl) ?_
    refine lv_iconst (v := -1) hx hb dX12_load_64 (by decide) ?_
    refine va_put (D := (dC, dI)) (ci := 11) (v := .int (-1)) (ty := .int) (C := RX12) (T := TX12) (N := 31) hx hb (ly_X12 hE) (fun _ h9 => h9) tyX12 tyX12_ok nmX12 hown hK hP hD hS 0 rfl rfl 18 (by decide) (wd_1399 hE) (fun _ h9 => h9) rfl (by decide +kernel) rfl rfl (Nat.le_of_ble_eq_true rfl) dX12_load_65 (fun H locs hP hD hS => ?_)
    have hP : va_P (dC, dI) vwCl [(a0, .inr (11, [.ref a1, .int 0, .int 0, .int 0, .ref a2, .int 0, .ref a3, .ref a4, .ref a5, .ref a6, .int 0, .int 0, .int 0, .int 0, .int 0, .int 0, .int 0, .int (-1), .int (-1), .int (-1), .int 0, .int 0, .int 0, .ref a7, .ref a8, .ref a9, .ref a10, .ref a11, .ref a12, .ref a13, .int 0])), (a1, .inl (k0, 7202, .inl (fun _ => 0)))] H := hP
    have hD : va_D A [(a0, .inr (11, [.ref a1, .int 0, .int 0, .int 0, .ref a2, .int 0, .ref a3, .ref a4, .ref a5, .ref a6, .int 0, .int 0, .int 0, .int 0, .int 0, .int 0, .int 0, .int (-1), .int (-1), .int (-1), .int 0, .int 0, .int 0, .ref a7, .ref a8, .ref a9, .ref a10, .ref a11, .ref a12, .ref a13, .int 0])), (a1, .inl (k0, 7202, .inl (fun _ => 0)))] := hD
    refine lv_aload_n hx hb dX12_load_68 rfl (lv_at hl 1 rfl) ?_
    refine lv_iconst (v := 0) hx hb dX12_load_69 (by decide) ?_
    refine va_put (D := (dC, dI)) (ci := 11) (v := .int 0) (ty := .int) (C := RX12) (T := TX12) (N := 31) hx hb (ly_X12 hE) (fun _ h9 => h9) tyX12 tyX12_ok nmX12 hown hK hP hD hS 0 rfl rfl 20 (by decide) (wd_1401 hE) (fun _ h9 => h9) rfl (by decide +kernel) rfl rfl (Nat.le_of_ble_eq_true rfl) dX12_load_70 (fun H locs hP hD hS => ?_)
    have hP : va_P (dC, dI) vwCl [(a0, .inr (11, [.ref a1, .int 0, .int 0, .int 0, .ref a2, .int 0, .ref a3, .ref a4, .ref a5, .ref a6, .int 0, .int 0, .int 0, .int 0, .int 0, .int 0, .int 0, .int (-1), .int (-1), .int (-1), .int 0, .int 0, .int 0, .ref a7, .ref a8, .ref a9, .ref a10, .ref a11, .ref a12, .ref a13, .int 0])), (a1, .inl (k0, 7202, .inl (fun _ => 0)))] H := hP
    have hD : va_D A [(a0, .inr (11, [.ref a1, .int 0, .int 0, .int 0, .ref a2, .int 0, .ref a3, .ref a4, .ref a5, .ref a6, .int 0, .int 0, .int 0, .int 0, .int 0, .int 0, .int 0, .int (-1), .int (-1), .int (-1), .int 0, .int 0, .int 0, .ref a7, .ref a8, .ref a9, .ref a10, .ref a11, .ref a12, .ref a13, .int 0])), (a1, .inl (k0, 7202, .inl (fun _ => 0)))] := hD
    refine lv_aload_n hx hb dX12_load_73 rfl (lv_at hl 1 rfl) ?_
    refine lv_iconst (v := 0) hx hb dX12_load_74 (by decide) ?_
    refine va_put (D := (dC, dI)) (ci := 11) (v := .int 0) (ty := .int) (C := RX12) (T := TX12) (N := 31) hx hb (ly_X12 hE) (fun _ h9 => h9) tyX12 tyX12_ok nmX12 hown hK hP hD hS 0 rfl rfl 14 (by decide) (wd_1395 hE) (fun _ h9 => h9) rfl (by decide +kernel) rfl rfl (Nat.le_of_ble_eq_true rfl) dX12_load_75 (fun H locs hP hD hS => ?_)
    have hP : va_P (dC, dI) vwCl [(a0, .inr (11, [.ref a1, .int 0, .int 0, .int 0, .ref a2, .int 0, .ref a3, .ref a4, .ref a5, .ref a6, .int 0, .int 0, .int 0, .int 0, .int 0, .int 0, .int 0, .int (-1), .int (-1), .int (-1), .int 0, .int 0, .int 0, .ref a7, .ref a8, .ref a9, .ref a10, .ref a11, .ref a12, .ref a13, .int 0])), (a1, .inl (k0, 7202, .inl (fun _ => 0)))] H := hP
    have hD : va_D A [(a0, .inr (11, [.ref a1, .int 0, .int 0, .int 0, .ref a2, .int 0, .ref a3, .ref a4, .ref a5, .ref a6, .int 0, .int 0, .int 0, .int 0, .int 0, .int 0, .int 0, .int (-1), .int (-1), .int (-1), .int 0, .int 0, .int 0, .ref a7, .ref a8, .ref a9, .ref a10, .ref a11, .ref a12, .ref a13, .int 0])), (a1, .inl (k0, 7202, .inl (fun _ => 0)))] := hD
    refine lv_aload_n hx hb dX12_load_78 rfl (lv_at hl 1 rfl) ?_
    refine lv_iconst (v := 0) hx hb dX12_load_79 (by decide) ?_
    refine lv_sipush (v := 554) hx hb dX12_load_80 (by decide) ?_
    refine cl_v (wc := [(a0, .inr (11, [.ref a1, .int 0, .int 0, .int 0, .ref a2, .int 0, .ref a3, .ref a4, .ref a5, .ref a6, .int 0, .int 0, .int 0, .int 0, .int 0, .int 0, .int 0, .int (-1), .int (-1), .int (-1), .int 0, .int 0, .int 0, .ref a7, .ref a8, .ref a9, .ref a10, .ref a11, .ref a12, .ref a13, .int 0])), (a1, .inl (k0, 7202, .inl (fun _ => 0)))]) (wr := []) [0, 1] [] rfl rfl (by decide) (by decide) hK hP hD hS hA (va_runV (As := [.int 0, .int 554]) (rest := []) ⟨hx, hb, hml, hown, noTs⟩ (c_X12_copies l dC dI H.size a0 a1 a2 a3 a4 a5 a6 a7 a8 a9 a10 a11 a12 a13 k0) ⟨cbE 2 (wd_1502 hE) (wd_126 hE) (wd_1499 hE) rfl rfl (by decide +kernel) ⟨Nat.le_of_ble_eq_true rfl, Nat.le_of_ble_eq_true rfl⟩, (wd_1501 hE), (wd_55 hE)⟩ ⟨PcE.blind, va_recv hK hP (ci := 11) (q0 := 0) rfl rfl, (pre_E (av := [.ref a0, .int 0, .int 554]) (wc := [(a0, .inr (11, [.ref a1, .int 0, .int 0, .int 0, .ref a2, .int 0, .ref a3, .ref a4, .ref a5, .ref a6, .int 0, .int 0, .int 0, .int 0, .int 0, .int 0, .int 0, .int (-1), .int (-1), .int (-1), .int 0, .int 0, .int 0, .ref a7, .ref a8, .ref a9, .ref a10, .ref a11, .ref a12, .ref a13, .int 0])), (a1, .inl (k0, 7202, .inl (fun _ => 0)))]) (tysc := [(k0, .int)]) [0, 1] [0] rfl (by decide) rfl rfl hK hP hD hE)⟩ rfl rfl hl.1 rfl (lv_room (Nat.le_of_ble_eq_true rfl)) dX12_load_83 ⟨Nat.le_of_ble_eq_true rfl, Nat.le_of_ble_eq_true rfl⟩) (fun u4 H locs hw4 hK hP hD hS => ?_)
    have hK : va_K (dC, dI) vwCl [(k0, .int)] s := hK
    have hP : va_P (dC, dI) vwCl [(a0, .inr (11, [.ref a1, .int 0, .int 0, .int 0, .ref a2, .int 0, .ref a3, .ref a4, .ref a5, .ref a6, .int 0, .int 0, .int 0, .int 0, .int 0, .int 0, .int 0, .int (-1), .int (-1), .int (-1), .int 0, .int 0, .int 0, .ref a7, .ref a8, .ref a9, .ref a10, .ref a11, .ref a12, .ref a13, .int 0])), (a1, .inl (k0, 7202, .inl (fun _ => 0)))] H := hP
    have hD : va_D A [(a0, .inr (11, [.ref a1, .int 0, .int 0, .int 0, .ref a2, .int 0, .ref a3, .ref a4, .ref a5, .ref a6, .int 0, .int 0, .int 0, .int 0, .int 0, .int 0, .int 0, .int (-1), .int (-1), .int (-1), .int 0, .int 0, .int 0, .ref a7, .ref a8, .ref a9, .ref a10, .ref a11, .ref a12, .ref a13, .int 0])), (a1, .inl (k0, 7202, .inl (fun _ => 0)))] := hD
    refine lv_iconst (v := 0) hx hb dX12_load_86 (by decide) ?_
    refine lv_istore_n (lv' := [(2, .int 0), (0, .ref a0), (1, .int 0)]) hx hb dX12_load_87 rfl hl (by decide) rfl (fun ls hl => ?_)
    refine w_loop (pc := 88) (N := 554) (I := fun k H locs ls => va_P (dC, dI) vwCl [(a0, .inr (11, [.ref a1, .int 0, .int 0, .int 0, .ref a2, .int 0, .ref a3, .ref a4, .ref a5, .ref a6, .int 0, .int 0, .int 0, .int 0, .int 0, .int 0, .int 0, .int (-1), .int (-1), .int (-1), .int 0, .int 0, .int 0, .ref a7, .ref a8, .ref a9, .ref a10, .ref a11, .ref a12, .ref a13, .int 0])), (a1, .inl (k0, 7202, .inl (fun _ => 0)))] H ∧ va_D A [(a0, .inr (11, [.ref a1, .int 0, .int 0, .int 0, .ref a2, .int 0, .ref a3, .ref a4, .ref a5, .ref a6, .int 0, .int 0, .int 0, .int 0, .int 0, .int 0, .int 0, .int (-1), .int (-1), .int (-1), .int 0, .int 0, .int 0, .ref a7, .ref a8, .ref a9, .ref a10, .ref a11, .ref a12, .ref a13, .int 0])), (a1, .inl (k0, 7202, .inl (fun _ => 0)))] ∧ va_S A s.heap H locs ∧ lv_has ls 3 [(0, .ref a0), (1, .int 0), (2, .int (nI k))]) (fun k H locs ls hk hI ih => ?_) 0 _ _ _ (Nat.zero_le _) ⟨hP, hD, hS, lv_sub hl [1, 2, 0] rfl⟩
    obtain ⟨hP, hD, hS, hl⟩ := hI
    refine lv_iload_n hx hb dX12_load_88 rfl (lv_at hl 2 rfl) ?_
    refine lv_sipush (v := 554) hx hb dX12_load_89 (by decide) ?_
    rcases Nat.lt_or_ge k 554 with hlt | hge
    · refine lv_icmp_ge (tgt := 108) hx hb dX12_load_92 (by decide) (fun c5 => absurd c5 (nI_ge (b := 554) hlt (by decide))) (fun _ => ?_)
      refine lv_aload_n hx hb dX12_load_95 rfl (lv_at hl 0 rfl) ?_
      refine va_get (D := (dC, dI)) (ci := 11) (v := .ref a1) (C := RX12) (T := TX12) (N := 31) hx hb (ly_X12 hE) (fun _ h9 => h9) hown hK hP 0 rfl rfl 0 (by decide) (wd_1381 hE) (fun _ h9 => h9) rfl dX12_load_96 ?_
      refine lv_iload_n hx hb dX12_load_99 rfl (lv_at hl 2 rfl) ?_
      refine lv_iconst (v := 0) hx hb dX12_load_100 (by decide) ?_
      refine va_iast hx hb hK hP hD hS 1 0 rfl rfl (vp_in_nI (by omega) (by omega)) dX12_load_101 (fun H locs hP hD hS => ?_)
      rw [nI_clamp (show k < 2 ^ 31 by omega)] at hP hD
      rw [zz_upd] at hP hD
      have hP : va_P (dC, dI) vwCl [(a0, .inr (11, [.ref a1, .int 0, .int 0, .int 0, .ref a2, .int 0, .ref a3, .ref a4, .ref a5, .ref a6, .int 0, .int 0, .int 0, .int 0, .int 0, .int 0, .int 0, .int (-1), .int (-1), .int (-1), .int 0, .int 0, .int 0, .ref a7, .ref a8, .ref a9, .ref a10, .ref a11, .ref a12, .ref a13, .int 0])), (a1, .inl (k0, 7202, .inl (fun _ => 0)))] H := hP
      have hD : va_D A [(a0, .inr (11, [.ref a1, .int 0, .int 0, .int 0, .ref a2, .int 0, .ref a3, .ref a4, .ref a5, .ref a6, .int 0, .int 0, .int 0, .int 0, .int 0, .int 0, .int 0, .int (-1), .int (-1), .int (-1), .int 0, .int 0, .int 0, .ref a7, .ref a8, .ref a9, .ref a10, .ref a11, .ref a12, .ref a13, .int 0])), (a1, .inl (k0, 7202, .inl (fun _ => 0)))] := hD
      refine lv_iinc (v := nI (k + 1)) (lv' := [(2, .int (nI (k + 1))), (0, .ref a0), (1, .int 0)]) hx hb dX12_load_102 hl (k := 2) rfl (nI_1 k) (by decide) rfl (fun ls hl => ?_)
      refine lv_goto (tgt := 88) hx hb dX12_load_105 (by decide) ?_
      exact ih hlt _ _ _ ⟨hP, hD, hS, lv_sub hl [1, 2, 0] rfl⟩
    · refine lv_icmp_ge (tgt := 108) hx hb dX12_load_92 (by decide) (fun _ => ?_) (fun c5 => absurd (nI_le hge (by omega)) c5)
      refine lv_aload_n hx hb dX12_load_108 rfl (lv_at hl 0 rfl) ?_
      refine cl_v (wc := [(a0, .inr (11, [.ref a1, .int 0, .int 0, .int 0, .ref a2, .int 0, .ref a3, .ref a4, .ref a5, .ref a6, .int 0, .int 0, .int 0, .int 0, .int 0, .int 0, .int 0, .int (-1), .int (-1), .int (-1), .int 0, .int 0, .int 0, .ref a7, .ref a8, .ref a9, .ref a10, .ref a11, .ref a12, .ref a13, .int 0]))]) (wr := [(a1, .inl (k0, 7202, .inl (fun _ => 0)))]) [0] [1] rfl rfl (by decide) (by decide) hK hP hD hS hA (va_runV (As := []) (rest := []) ⟨hx, hb, hml, hown, noTs⟩ (c_X12_ahead l dC dI H.size a0 a1 a2 a3 a4 a5 a6 a7 a8 a9 a10 a11 a12 a13) ⟨cbE 0 (wd_1506 hE) (wd_126 hE) (wd_1503 hE) rfl rfl (by decide +kernel) ⟨Nat.le_of_ble_eq_true rfl, Nat.le_of_ble_eq_true rfl⟩, (wd_1505 hE), (wd_56 hE)⟩ ⟨PcE.blind, va_recv hK hP (ci := 11) (q0 := 0) rfl rfl, (pre_E (av := [.ref a0]) (wc := [(a0, .inr (11, [.ref a1, .int 0, .int 0, .int 0, .ref a2, .int 0, .ref a3, .ref a4, .ref a5, .ref a6, .int 0, .int 0, .int 0, .int 0, .int 0, .int 0, .int 0, .int (-1), .int (-1), .int (-1), .int 0, .int 0, .int 0, .ref a7, .ref a8, .ref a9, .ref a10, .ref a11, .ref a12, .ref a13, .int 0]))]) (tysc := []) [0] [] rfl (by decide) rfl rfl hK hP hD hE)⟩ rfl rfl hl.1 rfl (lv_room (Nat.le_of_ble_eq_true rfl)) dX12_load_109 ⟨Nat.le_of_ble_eq_true rfl, Nat.le_of_ble_eq_true rfl⟩) (fun u6 H locs hw6 hK hP hD hS => ?_)
      have hK : va_K (dC, dI) vwCl [(k0, .int)] s := hK
      have hP : va_P (dC, dI) vwCl [(a1, .inl (k0, 7202, .inl (fun _ => 0))), (a0, .inr (11, [.ref a1, .int 0, .int 0, .int 0, .ref a2, .int 0, .ref a3, .ref a4, .ref a5, .ref a6, .int 0, .int 0, .int 0, .int 0, .int 0, .int 0, .int 0, .int (-1), .int (-1), .int (-1), .int 0, .int 0, .int 0, .ref a7, .ref a8, .ref a9, .ref a10, .ref a11, .ref a12, .ref a13, .int 0]))] H := hP
      have hD : va_D A [(a1, .inl (k0, 7202, .inl (fun _ => 0))), (a0, .inr (11, [.ref a1, .int 0, .int 0, .int 0, .ref a2, .int 0, .ref a3, .ref a4, .ref a5, .ref a6, .int 0, .int 0, .int 0, .int 0, .int 0, .int 0, .int 0, .int (-1), .int (-1), .int (-1), .int 0, .int 0, .int 0, .ref a7, .ref a8, .ref a9, .ref a10, .ref a11, .ref a12, .ref a13, .int 0]))] := hD
      refine lv_iconst (v := 1) hx hb dX12_load_112 (by decide) ?_
      refine lv_istore_n (lv' := [(2, .int 1), (0, .ref a0), (1, .int 0)]) hx hb dX12_load_113 rfl hl (by decide) rfl (fun ls hl => ?_)
      refine lv_iload_n hx hb dX12_load_114 rfl (lv_at hl 0 rfl) ?_
      refine lv_if_eq (tgt := 133) hx hb dX12_load_115 (by decide) (fun c7 => absurd c7 (by decide)) (fun c7 => ?_)
      refine lv_aload_n hx hb dX12_load_118 rfl (lv_at hl 1 rfl) ?_
      refine va_get (D := (dC, dI)) (ci := 11) (v := .int 0) (C := RX12) (T := TX12) (N := 31) hx hb (ly_X12 hE) (fun _ h9 => h9) hown hK hP 1 rfl rfl 12 (by decide) (wd_1393 hE) (fun _ h9 => h9) rfl dX12_load_119 ?_
      refine lv_if_eq (tgt := 133) hx hb dX12_load_122 (by decide) (fun c8 => ?_) (fun c8 => absurd c8 (by decide))
      refine lv_aload_n hx hb dX12_load_133 rfl (lv_at hl 1 rfl) ?_
      refine lv_aload_n hx hb dX12_load_134 rfl (lv_at hl 1 rfl) ?_
      refine va_get (D := (dC, dI)) (ci := 11) (v := .int 0) (C := RX12) (T := TX12) (N := 31) hx hb (ly_X12 hE) (fun _ h9 => h9) hown hK hP 1 rfl rfl 16 (by decide) (wd_1397 hE) (fun _ h9 => h9) rfl dX12_load_135 ?_
      refine va_put (D := (dC, dI)) (ci := 11) (v := .int 0) (ty := .int) (C := RX12) (T := TX12) (N := 31) hx hb (ly_X12 hE) (fun _ h9 => h9) tyX12 tyX12_ok nmX12 hown hK hP hD hS 1 rfl rfl 19 (by decide) (wd_1400 hE) (fun _ h9 => h9) rfl (by decide +kernel) rfl rfl (Nat.le_of_ble_eq_true rfl) dX12_load_138 (fun H locs hP hD hS => ?_)
      have hP : va_P (dC, dI) vwCl [(a1, .inl (k0, 7202, .inl (fun _ => 0))), (a0, .inr (11, [.ref a1, .int 0, .int 0, .int 0, .ref a2, .int 0, .ref a3, .ref a4, .ref a5, .ref a6, .int 0, .int 0, .int 0, .int 0, .int 0, .int 0, .int 0, .int (-1), .int (-1), .int 0, .int 0, .int 0, .int 0, .ref a7, .ref a8, .ref a9, .ref a10, .ref a11, .ref a12, .ref a13, .int 0]))] H := hP
      have hD : va_D A [(a1, .inl (k0, 7202, .inl (fun _ => 0))), (a0, .inr (11, [.ref a1, .int 0, .int 0, .int 0, .ref a2, .int 0, .ref a3, .ref a4, .ref a5, .ref a6, .int 0, .int 0, .int 0, .int 0, .int 0, .int 0, .int 0, .int (-1), .int (-1), .int 0, .int 0, .int 0, .int 0, .ref a7, .ref a8, .ref a9, .ref a10, .ref a11, .ref a12, .ref a13, .int 0]))] := hD
      refine lv_aload_n hx hb dX12_load_141 rfl (lv_at hl 1 rfl) ?_
      refine va_get (D := (dC, dI)) (ci := 11) (v := .int 0) (C := RX12) (T := TX12) (N := 31) hx hb (ly_X12 hE) (fun _ h9 => h9) hown hK hP 1 rfl rfl 16 (by decide) (wd_1397 hE) (fun _ h9 => h9) rfl dX12_load_142 ?_
      refine lv_if_le (tgt := 163) hx hb dX12_load_145 (by decide) (fun c9 => ?_) (fun c9 => absurd c9 (by decide))
      refine lv_aload_n hx hb dX12_load_163 rfl (lv_at hl 1 rfl) ?_
      refine lv_sipush (v := 554) hx hb dX12_load_164 (by decide) ?_
      refine cl_v (wc := [(a1, .inl (k0, 7202, .inl (fun _ => 0))), (a0, .inr (11, [.ref a1, .int 0, .int 0, .int 0, .ref a2, .int 0, .ref a3, .ref a4, .ref a5, .ref a6, .int 0, .int 0, .int 0, .int 0, .int 0, .int 0, .int 0, .int (-1), .int (-1), .int 0, .int 0, .int 0, .int 0, .ref a7, .ref a8, .ref a9, .ref a10, .ref a11, .ref a12, .ref a13, .int 0]))]) (wr := []) [0, 1] [] rfl rfl (by decide) (by decide) hK hP hD hS hA (va_runV (As := [.int 554]) (rest := []) ⟨hx, hb, hml, hown, noTs⟩ (c_X12_acted l dC dI H.size a0 a1 a2 a3 a4 a5 a6 a7 a8 a9 a10 a11 a12 a13 k0) ⟨cbE 1 (wd_1617 hE) (wd_126 hE) (wd_1614 hE) rfl rfl (by decide +kernel) ⟨Nat.le_of_ble_eq_true rfl, Nat.le_of_ble_eq_true rfl⟩, (wd_1616 hE), (wd_79 hE)⟩ ⟨PcE.blind, va_recv hK hP (ci := 11) (q0 := 1) rfl rfl, (pre_E (av := [.ref a0, .int 554]) (wc := [(a1, .inl (k0, 7202, .inl (fun _ => 0))), (a0, .inr (11, [.ref a1, .int 0, .int 0, .int 0, .ref a2, .int 0, .ref a3, .ref a4, .ref a5, .ref a6, .int 0, .int 0, .int 0, .int 0, .int 0, .int 0, .int 0, .int (-1), .int (-1), .int 0, .int 0, .int 0, .int 0, .ref a7, .ref a8, .ref a9, .ref a10, .ref a11, .ref a12, .ref a13, .int 0]))]) (tysc := [(k0, .int)]) [0, 1] [0] rfl (by decide) rfl rfl hK hP hD hE)⟩ rfl rfl hl.1 rfl (lv_room (Nat.le_of_ble_eq_true rfl)) dX12_load_167 ⟨Nat.le_of_ble_eq_true rfl, Nat.le_of_ble_eq_true rfl⟩) (fun u10 H locs hw10 hK hP hD hS => ?_)
      have hK : va_K (dC, dI) vwCl [(k0, .int)] s := hK
      have hP : va_P (dC, dI) vwCl [(a1, .inl (k0, 7202, .inl (fun _ => 0))), (a0, .inr (11, [.ref a1, .int 0, .int 1, .int 0, .ref a2, .int 0, .ref a3, .ref a4, .ref a5, .ref a6, .int 0, .int 0, .int 0, .int 0, .int 0, .int 0, .int 0, .int (-1), .int (-1), .int 0, .int 0, .int 0, .int 0, .ref a7, .ref a8, .ref a9, .ref a10, .ref a11, .ref a12, .ref a13, .int 0]))] H := hP
      have hD : va_D A [(a1, .inl (k0, 7202, .inl (fun _ => 0))), (a0, .inr (11, [.ref a1, .int 0, .int 1, .int 0, .ref a2, .int 0, .ref a3, .ref a4, .ref a5, .ref a6, .int 0, .int 0, .int 0, .int 0, .int 0, .int 0, .int 0, .int (-1), .int (-1), .int 0, .int 0, .int 0, .int 0, .ref a7, .ref a8, .ref a9, .ref a10, .ref a11, .ref a12, .ref a13, .int 0]))] := hD
      refine lv_aload_n hx hb dX12_load_170 rfl (lv_at hl 1 rfl) ?_
      refine lv_aload_n hx hb dX12_load_171 rfl (lv_at hl 1 rfl) ?_
      refine lv_iconst (v := 2) hx hb dX12_load_172 (by decide) ?_
      refine cl_i (wc := [(a1, .inl (k0, 7202, .inl (fun _ => 0))), (a0, .inr (11, [.ref a1, .int 0, .int 1, .int 0, .ref a2, .int 0, .ref a3, .ref a4, .ref a5, .ref a6, .int 0, .int 0, .int 0, .int 0, .int 0, .int 0, .int 0, .int (-1), .int (-1), .int 0, .int 0, .int 0, .int 0, .ref a7, .ref a8, .ref a9, .ref a10, .ref a11, .ref a12, .ref a13, .int 0]))]) (wr := []) [0, 1] [] rfl rfl (by decide) (by decide) hK hP hD hS hA (va_runV (As := [.int 2]) (rest := [.ref a0]) ⟨hx, hb, hml, hown, noTs⟩ (c_X12_of l dC dI H.size a0 a1 a2 a3 a4 a5 a6 a7 a8 a9 a10 a11 a12 a13 k0) ⟨cbE 1 (wd_1536 hE) (wd_126 hE) (wd_1533 hE) rfl rfl (by decide +kernel) ⟨Nat.le_of_ble_eq_true rfl, Nat.le_of_ble_eq_true rfl⟩, (wd_1535 hE), (wd_61 hE)⟩ ⟨PcE.blind, va_recv hK hP (ci := 11) (q0 := 1) rfl rfl, (pre_E (av := [.ref a0, .int 2]) (wc := [(a1, .inl (k0, 7202, .inl (fun _ => 0))), (a0, .inr (11, [.ref a1, .int 0, .int 1, .int 0, .ref a2, .int 0, .ref a3, .ref a4, .ref a5, .ref a6, .int 0, .int 0, .int 0, .int 0, .int 0, .int 0, .int 0, .int (-1), .int (-1), .int 0, .int 0, .int 0, .int 0, .ref a7, .ref a8, .ref a9, .ref a10, .ref a11, .ref a12, .ref a13, .int 0]))]) (tysc := [(k0, .int)]) [0, 1] [0] rfl (by decide) rfl rfl hK hP hD hE)⟩ rfl rfl hl.1 rfl (lv_room (Nat.le_of_ble_eq_true rfl)) dX12_load_173 ⟨Nat.le_of_ble_eq_true rfl, Nat.le_of_ble_eq_true rfl⟩) (fun r11 u11 H locs hw11 hK hP hD hS => ?_)
      have hK : va_K (dC, dI) vwCl [(k0, .int)] s := hK
      have hP : va_P (dC, dI) vwCl [(a1, .inl (k0, 7202, .inl (fun _ => 0))), (a0, .inr (11, [.ref a1, .int 0, .int 1, .int 0, .ref a2, .int 0, .ref a3, .ref a4, .ref a5, .ref a6, .int 0, .int 0, .int 0, .int 0, .int 0, .int 0, .int 0, .int (-1), .int (-1), .int 0, .int 0, .int 0, .int 0, .ref a7, .ref a8, .ref a9, .ref a10, .ref a11, .ref a12, .ref a13, .int 0]))] H := hP
      have hD : va_D A [(a1, .inl (k0, 7202, .inl (fun _ => 0))), (a0, .inr (11, [.ref a1, .int 0, .int 1, .int 0, .ref a2, .int 0, .ref a3, .ref a4, .ref a5, .ref a6, .int 0, .int 0, .int 0, .int 0, .int 0, .int 0, .int 0, .int (-1), .int (-1), .int 0, .int 0, .int 0, .int 0, .ref a7, .ref a8, .ref a9, .ref a10, .ref a11, .ref a12, .ref a13, .int 0]))] := hD
      subst hw11
      refine W.eq (g2 := F0 m 176 ls [.int 0, .ref a0]) rfl ?_
      refine cl_i (wc := [(a0, .inr (11, [.ref a1, .int 0, .int 1, .int 0, .ref a2, .int 0, .ref a3, .ref a4, .ref a5, .ref a6, .int 0, .int 0, .int 0, .int 0, .int 0, .int 0, .int 0, .int (-1), .int (-1), .int 0, .int 0, .int 0, .int 0, .ref a7, .ref a8, .ref a9, .ref a10, .ref a11, .ref a12, .ref a13, .int 0]))]) (wr := [(a1, .inl (k0, 7202, .inl (fun _ => 0)))]) [1] [0] rfl rfl (by decide) (by decide) hK hP hD hS hA (va_runV (As := [.int 0]) (rest := []) ⟨hx, hb, hml, hown, noTs⟩ (c_X12_gives l dC dI H.size a0 a1 a2 a3 a4 a5 a6 a7 a8 a9 a10 a11 a12 a13) ⟨cbE 1 (wd_1621 hE) (wd_126 hE) (wd_1618 hE) rfl rfl (by decide +kernel) ⟨Nat.le_of_ble_eq_true rfl, Nat.le_of_ble_eq_true rfl⟩, (wd_1620 hE), (wd_80 hE)⟩ ⟨PcE.blind, va_recv hK hP (ci := 11) (q0 := 1) rfl rfl, (pre_E (av := [.ref a0, .int 0]) (wc := [(a0, .inr (11, [.ref a1, .int 0, .int 1, .int 0, .ref a2, .int 0, .ref a3, .ref a4, .ref a5, .ref a6, .int 0, .int 0, .int 0, .int 0, .int 0, .int 0, .int 0, .int (-1), .int (-1), .int 0, .int 0, .int 0, .int 0, .ref a7, .ref a8, .ref a9, .ref a10, .ref a11, .ref a12, .ref a13, .int 0]))]) (tysc := []) [1] [] rfl (by decide) rfl rfl hK hP hD hE)⟩ rfl rfl hl.1 rfl (lv_room (Nat.le_of_ble_eq_true rfl)) dX12_load_176 ⟨Nat.le_of_ble_eq_true rfl, Nat.le_of_ble_eq_true rfl⟩) (fun r12 u12 H locs hw12 hK hP hD hS => ?_)
      have hK : va_K (dC, dI) vwCl [(k0, .int)] s := hK
      have hP : va_P (dC, dI) vwCl [(a1, .inl (k0, 7202, .inl (fun _ => 0))), (a0, .inr (11, [.ref a1, .int 0, .int 1, .int 0, .ref a2, .int 0, .ref a3, .ref a4, .ref a5, .ref a6, .int 0, .int 0, .int 0, .int 0, .int 0, .int 0, .int 0, .int (-1), .int (-1), .int 0, .int 0, .int 0, .int 0, .ref a7, .ref a8, .ref a9, .ref a10, .ref a11, .ref a12, .ref a13, .int 0]))] H := hP
      have hD : va_D A [(a1, .inl (k0, 7202, .inl (fun _ => 0))), (a0, .inr (11, [.ref a1, .int 0, .int 1, .int 0, .ref a2, .int 0, .ref a3, .ref a4, .ref a5, .ref a6, .int 0, .int 0, .int 0, .int 0, .int 0, .int 0, .int 0, .int (-1), .int (-1), .int 0, .int 0, .int 0, .int 0, .ref a7, .ref a8, .ref a9, .ref a10, .ref a11, .ref a12, .ref a13, .int 0]))] := hD
      subst hw12
      refine W.eq (g2 := F0 m 179 ls [.int 0]) rfl ?_
      have hP9 := hP.sub (ws' := []) [] rfl
      have hD9 := hD.sub (ws' := []) [] (by decide) rfl
      have hK9 := hK.sub (tys' := []) [] rfl
      refine W.widen (k := 0) (n := 0) (Nat.le_of_ble_eq_true rfl) (Nat.le_of_ble_eq_true rfl) ?_
      exact W.iret (v := 0) hx hb hr (fun t ht hW => ⟨⟨0, (), rfl, (by decide), by rw [ht]; exact hP9, va_K.moved hW.alike hK9, hD9⟩, hS.F ht⟩) hS.2.2 dX12_load_179
  · refine W.eq (g2 := F0 m 9 ls [.int 0]) rfl ?_
    refine lv_if_ne (tgt := 18) hx hb dX12_load_9 (by decide) (fun c13 => absurd c13 (by decide)) (fun c13 => ?_)
    refine lv_aload_n hx hb dX12_load_12 rfl (lv_at hl 0 rfl) ?_
    refine lv_iconst (v := 1) hx hb dX12_load_13 (by decide) ?_
    refine cl_i (wc := [(a0, .inr (11, [.ref a1, .int 0, .int 0, .int 0, .ref a2, .int 0, .ref a3, .ref a4, .ref a5, .ref a6, .int 0, .int 0, .int 0, .int 0, .int 0, .int 0, .int 0, .int (-1), .int (-1), .int (-1), .int 0, .int 0, .int 0, .ref a7, .ref a8, .ref a9, .ref a10, .ref a11, .ref a12, .ref a13, .int 0]))]) (wr := [(a1, .inl (k0, 7202, .inl (fun _ => 0)))]) [0] [1] rfl rfl (by decide) (by decide) hK hP hD hS hA (va_runV (As := [.int 1]) (rest := []) ⟨hx, hb, hml, hown, noTs⟩ (c_X12_refuse l dC dI H.size a0 a1 a2 a3 a4 a5 a6 a7 a8 a9 a10 a11 a12 a13) ⟨cbE 1 (wd_1498 hE) (wd_126 hE) (wd_1495 hE) rfl rfl (by decide +kernel) ⟨Nat.le_of_ble_eq_true rfl, Nat.le_of_ble_eq_true rfl⟩, (wd_1497 hE), (wd_54 hE)⟩ ⟨PcE.blind, va_recv hK hP (ci := 11) (q0 := 0) rfl rfl, (pre_E (av := [.ref a0, .int 1]) (wc := [(a0, .inr (11, [.ref a1, .int 0, .int 0, .int 0, .ref a2, .int 0, .ref a3, .ref a4, .ref a5, .ref a6, .int 0, .int 0, .int 0, .int 0, .int 0, .int 0, .int 0, .int (-1), .int (-1), .int (-1), .int 0, .int 0, .int 0, .ref a7, .ref a8, .ref a9, .ref a10, .ref a11, .ref a12, .ref a13, .int 0]))]) (tysc := []) [0] [] rfl (by decide) rfl rfl hK hP hD hE)⟩ rfl rfl hl.1 rfl (lv_room (Nat.le_of_ble_eq_true rfl)) dX12_load_14 ⟨Nat.le_of_ble_eq_true rfl, Nat.le_of_ble_eq_true rfl⟩) (fun r14 u14 H locs hw14 hK hP hD hS => ?_)
    have hK : va_K (dC, dI) vwCl [(k0, .int)] s := hK
    have hP : va_P (dC, dI) vwCl [(a1, .inl (k0, 7202, .inl (fun _ => 0))), (a0, .inr (11, [.ref a1, .int 1, .int 0, .int 0, .ref a2, .int 0, .ref a3, .ref a4, .ref a5, .ref a6, .int 0, .int 0, .int 0, .int 0, .int 0, .int 0, .int 0, .int (-1), .int (-1), .int (-1), .int 0, .int 0, .int 0, .ref a7, .ref a8, .ref a9, .ref a10, .ref a11, .ref a12, .ref a13, .int 0]))] H := hP
    have hD : va_D A [(a1, .inl (k0, 7202, .inl (fun _ => 0))), (a0, .inr (11, [.ref a1, .int 1, .int 0, .int 0, .ref a2, .int 0, .ref a3, .ref a4, .ref a5, .ref a6, .int 0, .int 0, .int 0, .int 0, .int 0, .int 0, .int 0, .int (-1), .int (-1), .int (-1), .int 0, .int 0, .int 0, .ref a7, .ref a8, .ref a9, .ref a10, .ref a11, .ref a12, .ref a13, .int 0]))] := hD
    subst hw14
    refine W.eq (g2 := F0 m 17 ls [.int (-1)]) rfl ?_
    have hP9 := hP.sub (ws' := []) [] rfl
    have hD9 := hD.sub (ws' := []) [] (by decide) rfl
    have hK9 := hK.sub (tys' := []) [] rfl
    refine W.widen (k := 0) (n := 0) (Nat.le_of_ble_eq_true rfl) (Nat.le_of_ble_eq_true rfl) ?_
    exact W.iret (v := -1) hx hb hr (fun t ht hW => ⟨⟨-1, (), rfl, (if_neg (by simp only [i_lt, i_le, i_eq, ti_m9, ti_m1, ti_0, ti_1, ti_2, ti_3, ti_4, ti_5, ti_6, ti_7, ti_9, ti_12, ti_20, ti_99, ti_700] at ha1 ⊢; omega)).symm, by rw [ht]; exact hP9, va_K.moved hW.alike hK9, hD9⟩, hS.F ht⟩) hS.2.2 dX12_load_17

set_option maxHeartbeats 4000000 in
set_option maxRecDepth 100000 in
theorem c_X12_fault (l : Launch) (dC : Nat → ClassId) (dI : Nat → Nat → Nat) (sz : Nat)  (a0 a1 a2 a3 a4 a5 a6 a7 a8 a9 a10 a11 a12 a13 : Nat) (v0 : Int32)  : Met l yX12_fault [.code yX12_fault cX12_fault 2 (some .int)] ({ frames := 0, cells := 0, slots := 0, locals := 0 }) (PcE [.ref a0, .int v0] sz dC dI [] [(a0, .inr (11, [.ref a1, .int 0, .int 0, .int 0, .ref a2, .int 0, .ref a3, .ref a4, .ref a5, .ref a6, .int 0, .int 0, .int 0, .int 0, .int 0, .int 0, .int 0, .int (-1), .int (-1), .int (-1), .int 0, .int 0, .int 0, .ref a7, .ref a8, .ref a9, .ref a10, .ref a11, .ref a12, .ref a13, .int 0]))]) (va_Qi (fun (r : Int32) (u : Unit) => r = -1) (Bw dC dI (va_A [(a0, .inr (11, [.ref a1, .int 0, .int 0, .int 0, .ref a2, .int 0, .ref a3, .ref a4, .ref a5, .ref a6, .int 0, .int 0, .int 0, .int 0, .int 0, .int 0, .int 0, .int (-1), .int (-1), .int (-1), .int 0, .int 0, .int 0, .ref a7, .ref a8, .ref a9, .ref a10, .ref a11, .ref a12, .ref a13, .int 0]))] sz) (fun (u : Unit) => []) (fun (u : Unit) => [])) (va_A [(a0, .inr (11, [.ref a1, .int 0, .int 0, .int 0, .ref a2, .int 0, .ref a3, .ref a4, .ref a5, .ref a6, .int 0, .int 0, .int 0, .int 0, .int 0, .int 0, .int 0, .int (-1), .int (-1), .int (-1), .int 0, .int 0, .int 0, .ref a7, .ref a8, .ref a9, .ref a10, .ref a11, .ref a12, .ref a13, .int 0]))] sz)) 0 0 (va_A [(a0, .inr (11, [.ref a1, .int 0, .int 0, .int 0, .ref a2, .int 0, .ref a3, .ref a4, .ref a5, .ref a6, .int 0, .int 0, .int 0, .int 0, .int 0, .int 0, .int 0, .int (-1), .int (-1), .int (-1), .int 0, .int 0, .int 0, .ref a7, .ref a8, .ref a9, .ref a10, .ref a11, .ref a12, .ref a13, .int 0]))] sz) := by
  refine Met.ofW (cc := cX12_fault) (maxL := 2) (ret := (some .int)) (by decide) rfl ?_
  intro p e s m args below meth c s₁ B hml hv
  obtain ⟨rfl, hsz, hP, hK, hD0, hE⟩ := hv
  have hx := B.exec
  have hb := B.bytes
  have hr := B.returns
  have hown : s.vm.findClass RX12 = some m.cls := findClass_of_methodNamed B.named
  have hlocks := B.notSynchronized
  subst hsz
  have hD := hD0.self (sz := s.heap.size)
  generalize hAe : va_A [(a0, .inr (11, [.ref a1, .int 0, .int 0, .int 0, .ref a2, .int 0, .ref a3, .ref a4, .ref a5, .ref a6, .int 0, .int 0, .int 0, .int 0, .int 0, .int 0, .int 0, .int (-1), .int (-1), .int (-1), .int 0, .int 0, .int 0, .ref a7, .ref a8, .ref a9, .ref a10, .ref a11, .ref a12, .ref a13, .int 0]))] s.heap.size = A at hD ⊢
  have hA : ∀ q : Nat, s.heap.size ≤ q → A q := fun q h => by rw [← hAe]; exact Or.inr h
  have hS : va_S A s.heap s.heap [] := va_S.rf
  have hl := lv_entry ([.ref a0, .int v0]) (n := 2) (Nat.le_of_ble_eq_true rfl)
  rw [lg_entry_eq]
  generalize (lg_sl ([.ref a0, .int v0]) ++ List.replicate (2 - (lg_sl ([.ref a0, .int v0])).length) Slot.unset).toArray = ls at hl ⊢
  have hl : lv_has ls 2 [(0, .ref a0), (1, .int v0)] := hl
  refine lv_iload_n hx hb dX12_fault_0 rfl (lv_at hl 1 rfl) ?_
  refine lv_if_ne (tgt := 11) hx hb dX12_fault_1 (by decide) (fun c1 => ?_) (fun c1 => ?_)
  · refine lv_iload_n hx hb dX12_fault_11 rfl (lv_at hl 1 rfl) ?_
    refine lv_iconst (v := 1) hx hb dX12_fault_12 (by decide) ?_
    refine lv_icmp_ne (tgt := 23) hx hb dX12_fault_13 (by decide) (fun c2 => ?_) (fun c2 => ?_)
    · refine lv_iload_n hx hb dX12_fault_23 rfl (lv_at hl 1 rfl) ?_
      refine lv_iconst (v := 2) hx hb dX12_fault_24 (by decide) ?_
      refine lv_icmp_ne (tgt := 35) hx hb dX12_fault_25 (by decide) (fun c3 => ?_) (fun c3 => ?_)
      · refine lv_iconst (v := -1) hx hb dX12_fault_35 (by decide) ?_
        have hP9 := hP.sub (ws' := []) [] rfl
        have hD9 := hD.sub (ws' := []) [] (by decide) rfl
        have hK9 := hK.sub (tys' := []) [] rfl
        refine W.widen (k := 0) (n := 0) (Nat.le_of_ble_eq_true rfl) (Nat.le_of_ble_eq_true rfl) ?_
        exact W.iret (v := -1) hx hb hr (fun t ht hW => ⟨⟨-1, (), rfl, rfl, by rw [ht]; exact hP9, va_K.moved hW.alike hK9, hD9⟩, hS.F ht⟩) hS.2.2 dX12_fault_36
      · obtain rfl : v0 = 2 := by simp only [i_lt, i_le, i_eq, ti_m9, ti_m1, ti_0, ti_1, ti_2, ti_3, ti_4, ti_5, ti_6, ti_7, ti_9, ti_12, ti_20, ti_99, ti_700] at c1 c2 c3 ⊢; omega
        refine lv_aload_n hx hb dX12_fault_28 rfl (lv_at hl 0 rfl) ?_
        refine va_get (D := (dC, dI)) (ci := 11) (v := .int (-1)) (C := RX12) (T := TX12) (N := 31) hx hb (ly_X12 hE) (fun _ h9 => h9) hown hK hP 0 rfl rfl 18 (by decide) (wd_1399 hE) (fun _ h9 => h9) rfl dX12_fault_29 ?_
        refine lv_goto (tgt := 36) hx hb dX12_fault_32 (by decide) ?_
        have hP9 := hP.sub (ws' := []) [] rfl
        have hD9 := hD.sub (ws' := []) [] (by decide) rfl
        have hK9 := hK.sub (tys' := []) [] rfl
        refine W.widen (k := 0) (n := 0) (Nat.le_of_ble_eq_true rfl) (Nat.le_of_ble_eq_true rfl) ?_
        exact W.iret (v := -1) hx hb hr (fun t ht hW => ⟨⟨-1, (), rfl, rfl, by rw [ht]; exact hP9, va_K.moved hW.alike hK9, hD9⟩, hS.F ht⟩) hS.2.2 dX12_fault_36
    · obtain rfl : v0 = 1 := by simp only [i_lt, i_le, i_eq, ti_m9, ti_m1, ti_0, ti_1, ti_2, ti_3, ti_4, ti_5, ti_6, ti_7, ti_9, ti_12, ti_20, ti_99, ti_700] at c1 c2 ⊢; omega
      refine lv_aload_n hx hb dX12_fault_16 rfl (lv_at hl 0 rfl) ?_
      refine va_get (D := (dC, dI)) (ci := 11) (v := .int (-1)) (C := RX12) (T := TX12) (N := 31) hx hb (ly_X12 hE) (fun _ h9 => h9) hown hK hP 0 rfl rfl 17 (by decide) (wd_1398 hE) (fun _ h9 => h9) rfl dX12_fault_17 ?_
      refine lv_goto (tgt := 36) hx hb dX12_fault_20 (by decide) ?_
      have hP9 := hP.sub (ws' := []) [] rfl
      have hD9 := hD.sub (ws' := []) [] (by decide) rfl
      have hK9 := hK.sub (tys' := []) [] rfl
      refine W.widen (k := 0) (n := 0) (Nat.le_of_ble_eq_true rfl) (Nat.le_of_ble_eq_true rfl) ?_
      exact W.iret (v := -1) hx hb hr (fun t ht hW => ⟨⟨-1, (), rfl, rfl, by rw [ht]; exact hP9, va_K.moved hW.alike hK9, hD9⟩, hS.F ht⟩) hS.2.2 dX12_fault_36
  · obtain rfl : v0 = 0 := by simp only [i_lt, i_le, i_eq, ti_m9, ti_m1, ti_0, ti_1, ti_2, ti_3, ti_4, ti_5, ti_6, ti_7, ti_9, ti_12, ti_20, ti_99, ti_700] at c1 ⊢; omega
    refine lv_aload_n hx hb dX12_fault_4 rfl (lv_at hl 0 rfl) ?_
    refine va_get (D := (dC, dI)) (ci := 11) (v := .int (-1)) (C := RX12) (T := TX12) (N := 31) hx hb (ly_X12 hE) (fun _ h9 => h9) hown hK hP 0 rfl rfl 19 (by decide) (wd_1400 hE) (fun _ h9 => h9) rfl dX12_fault_5 ?_
    refine lv_goto (tgt := 36) hx hb dX12_fault_8 (by decide) ?_
    have hP9 := hP.sub (ws' := []) [] rfl
    have hD9 := hD.sub (ws' := []) [] (by decide) rfl
    have hK9 := hK.sub (tys' := []) [] rfl
    refine W.widen (k := 0) (n := 0) (Nat.le_of_ble_eq_true rfl) (Nat.le_of_ble_eq_true rfl) ?_
    exact W.iret (v := -1) hx hb hr (fun t ht hW => ⟨⟨-1, (), rfl, rfl, by rw [ht]; exact hP9, va_K.moved hW.alike hK9, hD9⟩, hS.F ht⟩) hS.2.2 dX12_fault_36

set_option maxHeartbeats 4000000 in
set_option maxRecDepth 100000 in
theorem c_X12_of_2 (l : Launch) (dC : Nat → ClassId) (dI : Nat → Nat → Nat) (sz : Nat)  (a0 a1 a2 a3 a4 a5 a6 a7 a8 a9 a10 a11 a12 a13 : Nat) (k0 : ClassId)  : Met l yX12_of [.code yX12_of cX12_of 2 (some .int)] ({ frames := 0, cells := 0, slots := 0, locals := 0 }) (PcE [.ref a0, .int 0] sz dC dI [(k0, .int)] [(a0, .inr (11, [.ref a1, .int 0, .int 0, .int 0, .ref a2, .int 0, .ref a3, .ref a4, .ref a5, .ref a6, .int 0, .int 0, .int 0, .int 0, .int 0, .int 0, .int 0, .int (-1), .int (-1), .int (-1), .int 0, .int 0, .int 0, .ref a7, .ref a8, .ref a9, .ref a10, .ref a11, .ref a12, .ref a13, .int 0])), (a1, .inl (k0, 7202, .inl (fun _ => 0)))]) (va_Qi (fun (r : Int32) (u : Unit) => r = 0) (Bw dC dI (va_A [(a0, .inr (11, [.ref a1, .int 0, .int 0, .int 0, .ref a2, .int 0, .ref a3, .ref a4, .ref a5, .ref a6, .int 0, .int 0, .int 0, .int 0, .int 0, .int 0, .int 0, .int (-1), .int (-1), .int (-1), .int 0, .int 0, .int 0, .ref a7, .ref a8, .ref a9, .ref a10, .ref a11, .ref a12, .ref a13, .int 0])), (a1, .inl (k0, 7202, .inl (fun _ => 0)))] sz) (fun (u : Unit) => []) (fun (u : Unit) => [(a0, .inr (11, [.ref a1, .int 0, .int 0, .int 0, .ref a2, .int 0, .ref a3, .ref a4, .ref a5, .ref a6, .int 0, .int 0, .int 0, .int 0, .int 0, .int 0, .int 0, .int (-1), .int (-1), .int (-1), .int 0, .int 0, .int 0, .ref a7, .ref a8, .ref a9, .ref a10, .ref a11, .ref a12, .ref a13, .int 0])), (a1, .inl (k0, 7202, .inl (fun _ => 0)))])) (va_A [(a0, .inr (11, [.ref a1, .int 0, .int 0, .int 0, .ref a2, .int 0, .ref a3, .ref a4, .ref a5, .ref a6, .int 0, .int 0, .int 0, .int 0, .int 0, .int 0, .int 0, .int (-1), .int (-1), .int (-1), .int 0, .int 0, .int 0, .ref a7, .ref a8, .ref a9, .ref a10, .ref a11, .ref a12, .ref a13, .int 0])), (a1, .inl (k0, 7202, .inl (fun _ => 0)))] sz)) 0 0 (va_A [(a0, .inr (11, [.ref a1, .int 0, .int 0, .int 0, .ref a2, .int 0, .ref a3, .ref a4, .ref a5, .ref a6, .int 0, .int 0, .int 0, .int 0, .int 0, .int 0, .int 0, .int (-1), .int (-1), .int (-1), .int 0, .int 0, .int 0, .ref a7, .ref a8, .ref a9, .ref a10, .ref a11, .ref a12, .ref a13, .int 0])), (a1, .inl (k0, 7202, .inl (fun _ => 0)))] sz) := by
  refine Met.ofW (cc := cX12_of) (maxL := 2) (ret := (some .int)) (by decide) rfl ?_
  intro p e s m args below meth c s₁ B hml hv
  obtain ⟨rfl, hsz, hP, hK, hD0, hE⟩ := hv
  have hx := B.exec
  have hb := B.bytes
  have hr := B.returns
  have hown : s.vm.findClass RX12 = some m.cls := findClass_of_methodNamed B.named
  have hlocks := B.notSynchronized
  subst hsz
  have hD := hD0.self (sz := s.heap.size)
  generalize hAe : va_A [(a0, .inr (11, [.ref a1, .int 0, .int 0, .int 0, .ref a2, .int 0, .ref a3, .ref a4, .ref a5, .ref a6, .int 0, .int 0, .int 0, .int 0, .int 0, .int 0, .int 0, .int (-1), .int (-1), .int (-1), .int 0, .int 0, .int 0, .ref a7, .ref a8, .ref a9, .ref a10, .ref a11, .ref a12, .ref a13, .int 0])), (a1, .inl (k0, 7202, .inl (fun _ => 0)))] s.heap.size = A at hD ⊢
  have hA : ∀ q : Nat, s.heap.size ≤ q → A q := fun q h => by rw [← hAe]; exact Or.inr h
  have hS : va_S A s.heap s.heap [] := va_S.rf
  have hl := lv_entry ([.ref a0, .int 0]) (n := 2) (Nat.le_of_ble_eq_true rfl)
  rw [lg_entry_eq]
  generalize (lg_sl ([.ref a0, .int 0]) ++ List.replicate (2 - (lg_sl ([.ref a0, .int 0])).length) Slot.unset).toArray = ls at hl ⊢
  have hl : lv_has ls 2 [(0, .ref a0), (1, .int 0)] := hl
  refine lv_aload_n hx hb dX12_of_0 rfl (lv_at hl 0 rfl) ?_
  refine va_get (D := (dC, dI)) (ci := 11) (v := .ref a1) (C := RX12) (T := TX12) (N := 31) hx hb (ly_X12 hE) (fun _ h9 => h9) hown hK hP 0 rfl rfl 0 (by decide) (wd_1381 hE) (fun _ h9 => h9) rfl dX12_of_1 ?_
  refine lv_iload_n hx hb dX12_of_4 rfl (lv_at hl 1 rfl) ?_
  refine va_iald hx hb hK hP 1 0 rfl rfl (by unfold vp_in; decide) dX12_of_5 ?_
  refine W.eq (g2 := F0 m 6 ls [.int 0]) rfl ?_
  have hP9 := hP.sub (ws' := [(a0, .inr (11, [.ref a1, .int 0, .int 0, .int 0, .ref a2, .int 0, .ref a3, .ref a4, .ref a5, .ref a6, .int 0, .int 0, .int 0, .int 0, .int 0, .int 0, .int 0, .int (-1), .int (-1), .int (-1), .int 0, .int 0, .int 0, .ref a7, .ref a8, .ref a9, .ref a10, .ref a11, .ref a12, .ref a13, .int 0])), (a1, .inl (k0, 7202, .inl (fun _ => 0)))]) [0, 1] rfl
  have hD9 := hD.sub (ws' := [(a0, .inr (11, [.ref a1, .int 0, .int 0, .int 0, .ref a2, .int 0, .ref a3, .ref a4, .ref a5, .ref a6, .int 0, .int 0, .int 0, .int 0, .int 0, .int 0, .int 0, .int (-1), .int (-1), .int (-1), .int 0, .int 0, .int 0, .ref a7, .ref a8, .ref a9, .ref a10, .ref a11, .ref a12, .ref a13, .int 0])), (a1, .inl (k0, 7202, .inl (fun _ => 0)))]) [0, 1] (by decide) rfl
  have hK9 := hK.sub (tys' := []) [] rfl
  refine W.widen (k := 0) (n := 0) (Nat.le_of_ble_eq_true rfl) (Nat.le_of_ble_eq_true rfl) ?_
  exact W.iret (v := 0) hx hb hr (fun t ht hW => ⟨⟨0, (), rfl, rfl, by rw [ht]; exact hP9, va_K.moved hW.alike hK9, hD9⟩, hS.F ht⟩) hS.2.2 dX12_of_6

set_option maxHeartbeats 4000000 in
set_option maxRecDepth 100000 in
theorem c_X12_gives_2 (l : Launch) (dC : Nat → ClassId) (dI : Nat → Nat → Nat) (sz : Nat)  (a0 a1 a2 a3 a4 a5 a6 a7 a8 a9 a10 a11 a12 a13 : Nat)  : Met l yX12_gives [.code yX12_gives cX12_gives 2 (some .int)] ({ frames := 0, cells := 0, slots := 0, locals := 0 }) (PcE [.ref a0, .int 0] sz dC dI [] [(a0, .inr (11, [.ref a1, .int 0, .int 0, .int 0, .ref a2, .int 0, .ref a3, .ref a4, .ref a5, .ref a6, .int 0, .int 0, .int 0, .int 0, .int 0, .int 0, .int 0, .int (-1), .int (-1), .int (-1), .int 0, .int 0, .int 0, .ref a7, .ref a8, .ref a9, .ref a10, .ref a11, .ref a12, .ref a13, .int 0]))]) (va_Qi (fun (r : Int32) (u : Unit) => r = 0) (Bw dC dI (va_A [(a0, .inr (11, [.ref a1, .int 0, .int 0, .int 0, .ref a2, .int 0, .ref a3, .ref a4, .ref a5, .ref a6, .int 0, .int 0, .int 0, .int 0, .int 0, .int 0, .int 0, .int (-1), .int (-1), .int (-1), .int 0, .int 0, .int 0, .ref a7, .ref a8, .ref a9, .ref a10, .ref a11, .ref a12, .ref a13, .int 0]))] sz) (fun (u : Unit) => []) (fun (u : Unit) => [(a0, .inr (11, [.ref a1, .int 0, .int 0, .int 0, .ref a2, .int 0, .ref a3, .ref a4, .ref a5, .ref a6, .int 0, .int 0, .int 0, .int 0, .int 0, .int 0, .int 0, .int (-1), .int (-1), .int (-1), .int 0, .int 0, .int 0, .ref a7, .ref a8, .ref a9, .ref a10, .ref a11, .ref a12, .ref a13, .int 0]))])) (va_A [(a0, .inr (11, [.ref a1, .int 0, .int 0, .int 0, .ref a2, .int 0, .ref a3, .ref a4, .ref a5, .ref a6, .int 0, .int 0, .int 0, .int 0, .int 0, .int 0, .int 0, .int (-1), .int (-1), .int (-1), .int 0, .int 0, .int 0, .ref a7, .ref a8, .ref a9, .ref a10, .ref a11, .ref a12, .ref a13, .int 0]))] sz)) 0 0 (va_A [(a0, .inr (11, [.ref a1, .int 0, .int 0, .int 0, .ref a2, .int 0, .ref a3, .ref a4, .ref a5, .ref a6, .int 0, .int 0, .int 0, .int 0, .int 0, .int 0, .int 0, .int (-1), .int (-1), .int (-1), .int 0, .int 0, .int 0, .ref a7, .ref a8, .ref a9, .ref a10, .ref a11, .ref a12, .ref a13, .int 0]))] sz) := by
  refine Met.ofW (cc := cX12_gives) (maxL := 2) (ret := (some .int)) (by decide) rfl ?_
  intro p e s m args below meth c s₁ B hml hv
  obtain ⟨rfl, hsz, hP, hK, hD0, hE⟩ := hv
  have hx := B.exec
  have hb := B.bytes
  have hr := B.returns
  have hown : s.vm.findClass RX12 = some m.cls := findClass_of_methodNamed B.named
  have hlocks := B.notSynchronized
  subst hsz
  have hD := hD0.self (sz := s.heap.size)
  generalize hAe : va_A [(a0, .inr (11, [.ref a1, .int 0, .int 0, .int 0, .ref a2, .int 0, .ref a3, .ref a4, .ref a5, .ref a6, .int 0, .int 0, .int 0, .int 0, .int 0, .int 0, .int 0, .int (-1), .int (-1), .int (-1), .int 0, .int 0, .int 0, .ref a7, .ref a8, .ref a9, .ref a10, .ref a11, .ref a12, .ref a13, .int 0]))] s.heap.size = A at hD ⊢
  have hA : ∀ q : Nat, s.heap.size ≤ q → A q := fun q h => by rw [← hAe]; exact Or.inr h
  have hS : va_S A s.heap s.heap [] := va_S.rf
  have hl := lv_entry ([.ref a0, .int 0]) (n := 2) (Nat.le_of_ble_eq_true rfl)
  rw [lg_entry_eq]
  generalize (lg_sl ([.ref a0, .int 0]) ++ List.replicate (2 - (lg_sl ([.ref a0, .int 0])).length) Slot.unset).toArray = ls at hl ⊢
  have hl : lv_has ls 2 [(0, .ref a0), (1, .int 0)] := hl
  refine lv_aload_n hx hb dX12_gives_0 rfl (lv_at hl 0 rfl) ?_
  refine lv_iconst (v := 0) hx hb dX12_gives_1 (by decide) ?_
  refine va_put (D := (dC, dI)) (ci := 11) (v := .int 0) (ty := .int) (C := RX12) (T := TX12) (N := 31) hx hb (ly_X12 hE) (fun _ h9 => h9) tyX12 tyX12_ok nmX12 hown hK hP hD hS 0 rfl rfl 1 (by decide) (wd_1382 hE) (fun _ h9 => h9) rfl (by decide +kernel) rfl rfl (Nat.le_of_ble_eq_true rfl) dX12_gives_2 (fun H locs hP hD hS => ?_)
  have hP : va_P (dC, dI) vwCl [(a0, .inr (11, [.ref a1, .int 0, .int 0, .int 0, .ref a2, .int 0, .ref a3, .ref a4, .ref a5, .ref a6, .int 0, .int 0, .int 0, .int 0, .int 0, .int 0, .int 0, .int (-1), .int (-1), .int (-1), .int 0, .int 0, .int 0, .ref a7, .ref a8, .ref a9, .ref a10, .ref a11, .ref a12, .ref a13, .int 0]))] H := hP
  have hD : va_D A [(a0, .inr (11, [.ref a1, .int 0, .int 0, .int 0, .ref a2, .int 0, .ref a3, .ref a4, .ref a5, .ref a6, .int 0, .int 0, .int 0, .int 0, .int 0, .int 0, .int 0, .int (-1), .int (-1), .int (-1), .int 0, .int 0, .int 0, .ref a7, .ref a8, .ref a9, .ref a10, .ref a11, .ref a12, .ref a13, .int 0]))] := hD
  refine lv_iload_n hx hb dX12_gives_5 rfl (lv_at hl 1 rfl) ?_
  have hP9 := hP.sub (ws' := [(a0, .inr (11, [.ref a1, .int 0, .int 0, .int 0, .ref a2, .int 0, .ref a3, .ref a4, .ref a5, .ref a6, .int 0, .int 0, .int 0, .int 0, .int 0, .int 0, .int 0, .int (-1), .int (-1), .int (-1), .int 0, .int 0, .int 0, .ref a7, .ref a8, .ref a9, .ref a10, .ref a11, .ref a12, .ref a13, .int 0]))]) [0] rfl
  have hD9 := hD.sub (ws' := [(a0, .inr (11, [.ref a1, .int 0, .int 0, .int 0, .ref a2, .int 0, .ref a3, .ref a4, .ref a5, .ref a6, .int 0, .int 0, .int 0, .int 0, .int 0, .int 0, .int 0, .int (-1), .int (-1), .int (-1), .int 0, .int 0, .int 0, .ref a7, .ref a8, .ref a9, .ref a10, .ref a11, .ref a12, .ref a13, .int 0]))]) [0] (by decide) rfl
  have hK9 := hK.sub (tys' := []) [] rfl
  refine W.widen (k := 0) (n := 0) (Nat.le_of_ble_eq_true rfl) (Nat.le_of_ble_eq_true rfl) ?_
  exact W.iret (v := 0) hx hb hr (fun t ht hW => ⟨⟨0, (), rfl, rfl, by rw [ht]; exact hP9, va_K.moved hW.alike hK9, hD9⟩, hS.F ht⟩) hS.2.2 dX12_gives_6

set_option maxHeartbeats 4000000 in
set_option maxRecDepth 100000 in
theorem c_X12_of_3 (l : Launch) (dC : Nat → ClassId) (dI : Nat → Nat → Nat) (sz : Nat)  (a0 a1 a2 a3 a4 a5 a6 a7 a8 a9 a10 a11 a12 a13 : Nat) (k0 : ClassId)  : Met l yX12_of [.code yX12_of cX12_of 2 (some .int)] ({ frames := 0, cells := 0, slots := 0, locals := 0 }) (PcE [.ref a0, .int 1] sz dC dI [(k0, .int)] [(a0, .inr (11, [.ref a1, .int 0, .int 0, .int 0, .ref a2, .int 0, .ref a3, .ref a4, .ref a5, .ref a6, .int 0, .int 0, .int 0, .int 0, .int 0, .int 0, .int 0, .int (-1), .int (-1), .int (-1), .int 0, .int 0, .int 0, .ref a7, .ref a8, .ref a9, .ref a10, .ref a11, .ref a12, .ref a13, .int 0])), (a1, .inl (k0, 7202, .inl (fun _ => 0)))]) (va_Qi (fun (r : Int32) (u : Unit) => r = 0) (Bw dC dI (va_A [(a0, .inr (11, [.ref a1, .int 0, .int 0, .int 0, .ref a2, .int 0, .ref a3, .ref a4, .ref a5, .ref a6, .int 0, .int 0, .int 0, .int 0, .int 0, .int 0, .int 0, .int (-1), .int (-1), .int (-1), .int 0, .int 0, .int 0, .ref a7, .ref a8, .ref a9, .ref a10, .ref a11, .ref a12, .ref a13, .int 0])), (a1, .inl (k0, 7202, .inl (fun _ => 0)))] sz) (fun (u : Unit) => []) (fun (u : Unit) => [(a0, .inr (11, [.ref a1, .int 0, .int 0, .int 0, .ref a2, .int 0, .ref a3, .ref a4, .ref a5, .ref a6, .int 0, .int 0, .int 0, .int 0, .int 0, .int 0, .int 0, .int (-1), .int (-1), .int (-1), .int 0, .int 0, .int 0, .ref a7, .ref a8, .ref a9, .ref a10, .ref a11, .ref a12, .ref a13, .int 0])), (a1, .inl (k0, 7202, .inl (fun _ => 0)))])) (va_A [(a0, .inr (11, [.ref a1, .int 0, .int 0, .int 0, .ref a2, .int 0, .ref a3, .ref a4, .ref a5, .ref a6, .int 0, .int 0, .int 0, .int 0, .int 0, .int 0, .int 0, .int (-1), .int (-1), .int (-1), .int 0, .int 0, .int 0, .ref a7, .ref a8, .ref a9, .ref a10, .ref a11, .ref a12, .ref a13, .int 0])), (a1, .inl (k0, 7202, .inl (fun _ => 0)))] sz)) 0 0 (va_A [(a0, .inr (11, [.ref a1, .int 0, .int 0, .int 0, .ref a2, .int 0, .ref a3, .ref a4, .ref a5, .ref a6, .int 0, .int 0, .int 0, .int 0, .int 0, .int 0, .int 0, .int (-1), .int (-1), .int (-1), .int 0, .int 0, .int 0, .ref a7, .ref a8, .ref a9, .ref a10, .ref a11, .ref a12, .ref a13, .int 0])), (a1, .inl (k0, 7202, .inl (fun _ => 0)))] sz) := by
  refine Met.ofW (cc := cX12_of) (maxL := 2) (ret := (some .int)) (by decide) rfl ?_
  intro p e s m args below meth c s₁ B hml hv
  obtain ⟨rfl, hsz, hP, hK, hD0, hE⟩ := hv
  have hx := B.exec
  have hb := B.bytes
  have hr := B.returns
  have hown : s.vm.findClass RX12 = some m.cls := findClass_of_methodNamed B.named
  have hlocks := B.notSynchronized
  subst hsz
  have hD := hD0.self (sz := s.heap.size)
  generalize hAe : va_A [(a0, .inr (11, [.ref a1, .int 0, .int 0, .int 0, .ref a2, .int 0, .ref a3, .ref a4, .ref a5, .ref a6, .int 0, .int 0, .int 0, .int 0, .int 0, .int 0, .int 0, .int (-1), .int (-1), .int (-1), .int 0, .int 0, .int 0, .ref a7, .ref a8, .ref a9, .ref a10, .ref a11, .ref a12, .ref a13, .int 0])), (a1, .inl (k0, 7202, .inl (fun _ => 0)))] s.heap.size = A at hD ⊢
  have hA : ∀ q : Nat, s.heap.size ≤ q → A q := fun q h => by rw [← hAe]; exact Or.inr h
  have hS : va_S A s.heap s.heap [] := va_S.rf
  have hl := lv_entry ([.ref a0, .int 1]) (n := 2) (Nat.le_of_ble_eq_true rfl)
  rw [lg_entry_eq]
  generalize (lg_sl ([.ref a0, .int 1]) ++ List.replicate (2 - (lg_sl ([.ref a0, .int 1])).length) Slot.unset).toArray = ls at hl ⊢
  have hl : lv_has ls 2 [(0, .ref a0), (1, .int 1)] := hl
  refine lv_aload_n hx hb dX12_of_0 rfl (lv_at hl 0 rfl) ?_
  refine va_get (D := (dC, dI)) (ci := 11) (v := .ref a1) (C := RX12) (T := TX12) (N := 31) hx hb (ly_X12 hE) (fun _ h9 => h9) hown hK hP 0 rfl rfl 0 (by decide) (wd_1381 hE) (fun _ h9 => h9) rfl dX12_of_1 ?_
  refine lv_iload_n hx hb dX12_of_4 rfl (lv_at hl 1 rfl) ?_
  refine va_iald hx hb hK hP 1 0 rfl rfl (by unfold vp_in; decide) dX12_of_5 ?_
  refine W.eq (g2 := F0 m 6 ls [.int 0]) rfl ?_
  have hP9 := hP.sub (ws' := [(a0, .inr (11, [.ref a1, .int 0, .int 0, .int 0, .ref a2, .int 0, .ref a3, .ref a4, .ref a5, .ref a6, .int 0, .int 0, .int 0, .int 0, .int 0, .int 0, .int 0, .int (-1), .int (-1), .int (-1), .int 0, .int 0, .int 0, .ref a7, .ref a8, .ref a9, .ref a10, .ref a11, .ref a12, .ref a13, .int 0])), (a1, .inl (k0, 7202, .inl (fun _ => 0)))]) [0, 1] rfl
  have hD9 := hD.sub (ws' := [(a0, .inr (11, [.ref a1, .int 0, .int 0, .int 0, .ref a2, .int 0, .ref a3, .ref a4, .ref a5, .ref a6, .int 0, .int 0, .int 0, .int 0, .int 0, .int 0, .int 0, .int (-1), .int (-1), .int (-1), .int 0, .int 0, .int 0, .ref a7, .ref a8, .ref a9, .ref a10, .ref a11, .ref a12, .ref a13, .int 0])), (a1, .inl (k0, 7202, .inl (fun _ => 0)))]) [0, 1] (by decide) rfl
  have hK9 := hK.sub (tys' := []) [] rfl
  refine W.widen (k := 0) (n := 0) (Nat.le_of_ble_eq_true rfl) (Nat.le_of_ble_eq_true rfl) ?_
  exact W.iret (v := 0) hx hb hr (fun t ht hW => ⟨⟨0, (), rfl, rfl, by rw [ht]; exact hP9, va_K.moved hW.alike hK9, hD9⟩, hS.F ht⟩) hS.2.2 dX12_of_6

set_option maxHeartbeats 4000000 in
set_option maxRecDepth 100000 in
theorem c_X12_of_4 (l : Launch) (dC : Nat → ClassId) (dI : Nat → Nat → Nat) (sz : Nat)  (a0 a1 a2 a3 a4 a5 a6 a7 a8 a9 a10 a11 a12 a13 : Nat) (k0 : ClassId)  : Met l yX12_of [.code yX12_of cX12_of 2 (some .int)] ({ frames := 0, cells := 0, slots := 0, locals := 0 }) (PcE [.ref a0, .int 2] sz dC dI [(k0, .int)] [(a0, .inr (11, [.ref a1, .int 0, .int 0, .int 0, .ref a2, .int 0, .ref a3, .ref a4, .ref a5, .ref a6, .int 0, .int 0, .int 0, .int 0, .int 0, .int 0, .int 0, .int (-1), .int (-1), .int (-1), .int 0, .int 0, .int 0, .ref a7, .ref a8, .ref a9, .ref a10, .ref a11, .ref a12, .ref a13, .int 0])), (a1, .inl (k0, 7202, .inl (fun _ => 0)))]) (va_Qi (fun (r : Int32) (u : Unit) => r = 0) (Bw dC dI (va_A [(a0, .inr (11, [.ref a1, .int 0, .int 0, .int 0, .ref a2, .int 0, .ref a3, .ref a4, .ref a5, .ref a6, .int 0, .int 0, .int 0, .int 0, .int 0, .int 0, .int 0, .int (-1), .int (-1), .int (-1), .int 0, .int 0, .int 0, .ref a7, .ref a8, .ref a9, .ref a10, .ref a11, .ref a12, .ref a13, .int 0])), (a1, .inl (k0, 7202, .inl (fun _ => 0)))] sz) (fun (u : Unit) => []) (fun (u : Unit) => [(a0, .inr (11, [.ref a1, .int 0, .int 0, .int 0, .ref a2, .int 0, .ref a3, .ref a4, .ref a5, .ref a6, .int 0, .int 0, .int 0, .int 0, .int 0, .int 0, .int 0, .int (-1), .int (-1), .int (-1), .int 0, .int 0, .int 0, .ref a7, .ref a8, .ref a9, .ref a10, .ref a11, .ref a12, .ref a13, .int 0])), (a1, .inl (k0, 7202, .inl (fun _ => 0)))])) (va_A [(a0, .inr (11, [.ref a1, .int 0, .int 0, .int 0, .ref a2, .int 0, .ref a3, .ref a4, .ref a5, .ref a6, .int 0, .int 0, .int 0, .int 0, .int 0, .int 0, .int 0, .int (-1), .int (-1), .int (-1), .int 0, .int 0, .int 0, .ref a7, .ref a8, .ref a9, .ref a10, .ref a11, .ref a12, .ref a13, .int 0])), (a1, .inl (k0, 7202, .inl (fun _ => 0)))] sz)) 0 0 (va_A [(a0, .inr (11, [.ref a1, .int 0, .int 0, .int 0, .ref a2, .int 0, .ref a3, .ref a4, .ref a5, .ref a6, .int 0, .int 0, .int 0, .int 0, .int 0, .int 0, .int 0, .int (-1), .int (-1), .int (-1), .int 0, .int 0, .int 0, .ref a7, .ref a8, .ref a9, .ref a10, .ref a11, .ref a12, .ref a13, .int 0])), (a1, .inl (k0, 7202, .inl (fun _ => 0)))] sz) := by
  refine Met.ofW (cc := cX12_of) (maxL := 2) (ret := (some .int)) (by decide) rfl ?_
  intro p e s m args below meth c s₁ B hml hv
  obtain ⟨rfl, hsz, hP, hK, hD0, hE⟩ := hv
  have hx := B.exec
  have hb := B.bytes
  have hr := B.returns
  have hown : s.vm.findClass RX12 = some m.cls := findClass_of_methodNamed B.named
  have hlocks := B.notSynchronized
  subst hsz
  have hD := hD0.self (sz := s.heap.size)
  generalize hAe : va_A [(a0, .inr (11, [.ref a1, .int 0, .int 0, .int 0, .ref a2, .int 0, .ref a3, .ref a4, .ref a5, .ref a6, .int 0, .int 0, .int 0, .int 0, .int 0, .int 0, .int 0, .int (-1), .int (-1), .int (-1), .int 0, .int 0, .int 0, .ref a7, .ref a8, .ref a9, .ref a10, .ref a11, .ref a12, .ref a13, .int 0])), (a1, .inl (k0, 7202, .inl (fun _ => 0)))] s.heap.size = A at hD ⊢
  have hA : ∀ q : Nat, s.heap.size ≤ q → A q := fun q h => by rw [← hAe]; exact Or.inr h
  have hS : va_S A s.heap s.heap [] := va_S.rf
  have hl := lv_entry ([.ref a0, .int 2]) (n := 2) (Nat.le_of_ble_eq_true rfl)
  rw [lg_entry_eq]
  generalize (lg_sl ([.ref a0, .int 2]) ++ List.replicate (2 - (lg_sl ([.ref a0, .int 2])).length) Slot.unset).toArray = ls at hl ⊢
  have hl : lv_has ls 2 [(0, .ref a0), (1, .int 2)] := hl
  refine lv_aload_n hx hb dX12_of_0 rfl (lv_at hl 0 rfl) ?_
  refine va_get (D := (dC, dI)) (ci := 11) (v := .ref a1) (C := RX12) (T := TX12) (N := 31) hx hb (ly_X12 hE) (fun _ h9 => h9) hown hK hP 0 rfl rfl 0 (by decide) (wd_1381 hE) (fun _ h9 => h9) rfl dX12_of_1 ?_
  refine lv_iload_n hx hb dX12_of_4 rfl (lv_at hl 1 rfl) ?_
  refine va_iald hx hb hK hP 1 0 rfl rfl (by unfold vp_in; decide) dX12_of_5 ?_
  refine W.eq (g2 := F0 m 6 ls [.int 0]) rfl ?_
  have hP9 := hP.sub (ws' := [(a0, .inr (11, [.ref a1, .int 0, .int 0, .int 0, .ref a2, .int 0, .ref a3, .ref a4, .ref a5, .ref a6, .int 0, .int 0, .int 0, .int 0, .int 0, .int 0, .int 0, .int (-1), .int (-1), .int (-1), .int 0, .int 0, .int 0, .ref a7, .ref a8, .ref a9, .ref a10, .ref a11, .ref a12, .ref a13, .int 0])), (a1, .inl (k0, 7202, .inl (fun _ => 0)))]) [0, 1] rfl
  have hD9 := hD.sub (ws' := [(a0, .inr (11, [.ref a1, .int 0, .int 0, .int 0, .ref a2, .int 0, .ref a3, .ref a4, .ref a5, .ref a6, .int 0, .int 0, .int 0, .int 0, .int 0, .int 0, .int 0, .int (-1), .int (-1), .int (-1), .int 0, .int 0, .int 0, .ref a7, .ref a8, .ref a9, .ref a10, .ref a11, .ref a12, .ref a13, .int 0])), (a1, .inl (k0, 7202, .inl (fun _ => 0)))]) [0, 1] (by decide) rfl
  have hK9 := hK.sub (tys' := []) [] rfl
  refine W.widen (k := 0) (n := 0) (Nat.le_of_ble_eq_true rfl) (Nat.le_of_ble_eq_true rfl) ?_
  exact W.iret (v := 0) hx hb hr (fun t ht hW => ⟨⟨0, (), rfl, rfl, by rw [ht]; exact hP9, va_K.moved hW.alike hK9, hD9⟩, hS.F ht⟩) hS.2.2 dX12_of_6

set_option maxHeartbeats 4000000 in
set_option maxRecDepth 100000 in
theorem c_X12_parts (l : Launch) (dC : Nat → ClassId) (dI : Nat → Nat → Nat) (sz : Nat)  (a0 a1 a2 a3 a4 a5 a6 a7 a8 a9 a10 a11 a12 a13 : Nat) (k0 : ClassId)  : Met l yX12_parts [.code yX12_parts cX12_parts 3 (some .int)] ({ frames := 1, cells := 0, slots := 0, locals := 40 }) (PcE [.ref a0] sz dC dI [(k0, .int)] [(a0, .inr (11, [.ref a1, .int 0, .int 0, .int 0, .ref a2, .int 0, .ref a3, .ref a4, .ref a5, .ref a6, .int 0, .int 0, .int 0, .int 0, .int 0, .int 0, .int 0, .int (-1), .int (-1), .int (-1), .int 0, .int 0, .int 0, .ref a7, .ref a8, .ref a9, .ref a10, .ref a11, .ref a12, .ref a13, .int 0])), (a1, .inl (k0, 7202, .inl (fun _ => 0)))]) (va_Qi (fun (r : Int32) (u : Unit) => r = 0) (Bw dC dI (va_A [(a0, .inr (11, [.ref a1, .int 0, .int 0, .int 0, .ref a2, .int 0, .ref a3, .ref a4, .ref a5, .ref a6, .int 0, .int 0, .int 0, .int 0, .int 0, .int 0, .int 0, .int (-1), .int (-1), .int (-1), .int 0, .int 0, .int 0, .ref a7, .ref a8, .ref a9, .ref a10, .ref a11, .ref a12, .ref a13, .int 0])), (a1, .inl (k0, 7202, .inl (fun _ => 0)))] sz) (fun (u : Unit) => []) (fun (u : Unit) => [(a0, .inr (11, [.ref a1, .int 0, .int 0, .int 0, .ref a2, .int 0, .ref a3, .ref a4, .ref a5, .ref a6, .int 0, .int 0, .int 0, .int 0, .int 0, .int 0, .int 0, .int (-1), .int (-1), .int (-1), .int 0, .int 0, .int 0, .ref a7, .ref a8, .ref a9, .ref a10, .ref a11, .ref a12, .ref a13, .int 0])), (a1, .inl (k0, 7202, .inl (fun _ => 0)))])) (va_A [(a0, .inr (11, [.ref a1, .int 0, .int 0, .int 0, .ref a2, .int 0, .ref a3, .ref a4, .ref a5, .ref a6, .int 0, .int 0, .int 0, .int 0, .int 0, .int 0, .int 0, .int (-1), .int (-1), .int (-1), .int 0, .int 0, .int 0, .ref a7, .ref a8, .ref a9, .ref a10, .ref a11, .ref a12, .ref a13, .int 0])), (a1, .inl (k0, 7202, .inl (fun _ => 0)))] sz)) 0 0 (va_A [(a0, .inr (11, [.ref a1, .int 0, .int 0, .int 0, .ref a2, .int 0, .ref a3, .ref a4, .ref a5, .ref a6, .int 0, .int 0, .int 0, .int 0, .int 0, .int 0, .int 0, .int (-1), .int (-1), .int (-1), .int 0, .int 0, .int 0, .ref a7, .ref a8, .ref a9, .ref a10, .ref a11, .ref a12, .ref a13, .int 0])), (a1, .inl (k0, 7202, .inl (fun _ => 0)))] sz) := by
  refine Met.ofW (cc := cX12_parts) (maxL := 3) (ret := (some .int)) (by decide) rfl ?_
  intro p e s m args below meth c s₁ B hml hv
  obtain ⟨rfl, hsz, hP, hK, hD0, hE⟩ := hv
  have hx := B.exec
  have hb := B.bytes
  have hr := B.returns
  have hown : s.vm.findClass RX12 = some m.cls := findClass_of_methodNamed B.named
  have hlocks := B.notSynchronized
  subst hsz
  have hD := hD0.self (sz := s.heap.size)
  generalize hAe : va_A [(a0, .inr (11, [.ref a1, .int 0, .int 0, .int 0, .ref a2, .int 0, .ref a3, .ref a4, .ref a5, .ref a6, .int 0, .int 0, .int 0, .int 0, .int 0, .int 0, .int 0, .int (-1), .int (-1), .int (-1), .int 0, .int 0, .int 0, .ref a7, .ref a8, .ref a9, .ref a10, .ref a11, .ref a12, .ref a13, .int 0])), (a1, .inl (k0, 7202, .inl (fun _ => 0)))] s.heap.size = A at hD ⊢
  have hA : ∀ q : Nat, s.heap.size ≤ q → A q := fun q h => by rw [← hAe]; exact Or.inr h
  have hS : va_S A s.heap s.heap [] := va_S.rf
  have hl := lv_entry ([.ref a0]) (n := 3) (Nat.le_of_ble_eq_true rfl)
  rw [lg_entry_eq]
  generalize (lg_sl ([.ref a0]) ++ List.replicate (3 - (lg_sl ([.ref a0])).length) Slot.unset).toArray = ls at hl ⊢
  have hl : lv_has ls 3 [(0, .ref a0)] := hl
  refine lv_iconst (v := 0) hx hb dX12_parts_0 (by decide) ?_
  refine lv_istore_n (lv' := [(1, .int 0), (0, .ref a0)]) hx hb dX12_parts_1 rfl hl (by decide) rfl (fun ls hl => ?_)
  refine lv_iconst (v := 0) hx hb dX12_parts_2 (by decide) ?_
  refine lv_istore_n (lv' := [(2, .int 0), (1, .int 0), (0, .ref a0)]) hx hb dX12_parts_3 rfl hl (by decide) rfl (fun ls hl => ?_)
  refine lv_iload_n hx hb dX12_parts_4 rfl (lv_at hl 0 rfl) ?_
  refine lv_aload_n hx hb dX12_parts_5 rfl (lv_at hl 2 rfl) ?_
  refine lv_iconst (v := 0) hx hb dX12_parts_6 (by decide) ?_
  refine cl_i (wc := [(a0, .inr (11, [.ref a1, .int 0, .int 0, .int 0, .ref a2, .int 0, .ref a3, .ref a4, .ref a5, .ref a6, .int 0, .int 0, .int 0, .int 0, .int 0, .int 0, .int 0, .int (-1), .int (-1), .int (-1), .int 0, .int 0, .int 0, .ref a7, .ref a8, .ref a9, .ref a10, .ref a11, .ref a12, .ref a13, .int 0])), (a1, .inl (k0, 7202, .inl (fun _ => 0)))]) (wr := []) [0, 1] [] rfl rfl (by decide) (by decide) hK hP hD hS hA (va_runV (As := [.int 0]) (rest := [.int 0]) ⟨hx, hb, hml, hown, noTs⟩ (c_X12_of_2 l dC dI s.heap.size a0 a1 a2 a3 a4 a5 a6 a7 a8 a9 a10 a11 a12 a13 k0) ⟨cbE 1 (wd_1536 hE) (wd_126 hE) (wd_1533 hE) rfl rfl (by decide +kernel) ⟨Nat.le_of_ble_eq_true rfl, Nat.le_of_ble_eq_true rfl⟩, (wd_1535 hE), (wd_61 hE)⟩ ⟨PcE.blind, va_recv hK hP (ci := 11) (q0 := 0) rfl rfl, (pre_E (av := [.ref a0, .int 0]) (wc := [(a0, .inr (11, [.ref a1, .int 0, .int 0, .int 0, .ref a2, .int 0, .ref a3, .ref a4, .ref a5, .ref a6, .int 0, .int 0, .int 0, .int 0, .int 0, .int 0, .int 0, .int (-1), .int (-1), .int (-1), .int 0, .int 0, .int 0, .ref a7, .ref a8, .ref a9, .ref a10, .ref a11, .ref a12, .ref a13, .int 0])), (a1, .inl (k0, 7202, .inl (fun _ => 0)))]) (tysc := [(k0, .int)]) [0, 1] [0] rfl (by decide) rfl rfl hK hP hD hE)⟩ rfl rfl hl.1 rfl (lv_room (Nat.le_of_ble_eq_true rfl)) dX12_parts_7 ⟨Nat.le_of_ble_eq_true rfl, Nat.le_of_ble_eq_true rfl⟩) (fun r1 u1 H locs hw1 hK hP hD hS => ?_)
  have hK : va_K (dC, dI) vwCl [(k0, .int)] s := hK
  have hP : va_P (dC, dI) vwCl [(a0, .inr (11, [.ref a1, .int 0, .int 0, .int 0, .ref a2, .int 0, .ref a3, .ref a4, .ref a5, .ref a6, .int 0, .int 0, .int 0, .int 0, .int 0, .int 0, .int 0, .int (-1), .int (-1), .int (-1), .int 0, .int 0, .int 0, .ref a7, .ref a8, .ref a9, .ref a10, .ref a11, .ref a12, .ref a13, .int 0])), (a1, .inl (k0, 7202, .inl (fun _ => 0)))] H := hP
  have hD : va_D A [(a0, .inr (11, [.ref a1, .int 0, .int 0, .int 0, .ref a2, .int 0, .ref a3, .ref a4, .ref a5, .ref a6, .int 0, .int 0, .int 0, .int 0, .int 0, .int 0, .int 0, .int (-1), .int (-1), .int (-1), .int 0, .int 0, .int 0, .ref a7, .ref a8, .ref a9, .ref a10, .ref a11, .ref a12, .ref a13, .int 0])), (a1, .inl (k0, 7202, .inl (fun _ => 0)))] := hD
  subst hw1
  refine W.eq (g2 := F0 m 10 ls [.int 0, .int 0]) rfl ?_
  refine lv_icmp_ge (tgt := 41) hx hb dX12_parts_10 (by decide) (fun c2 => ?_) (fun c2 => absurd c2 (by decide))
  refine lv_iload_n hx hb dX12_parts_41 rfl (lv_at hl 1 rfl) ?_
  have hP9 := hP.sub (ws' := [(a0, .inr (11, [.ref a1, .int 0, .int 0, .int 0, .ref a2, .int 0, .ref a3, .ref a4, .ref a5, .ref a6, .int 0, .int 0, .int 0, .int 0, .int 0, .int 0, .int 0, .int (-1), .int (-1), .int (-1), .int 0, .int 0, .int 0, .ref a7, .ref a8, .ref a9, .ref a10, .ref a11, .ref a12, .ref a13, .int 0])), (a1, .inl (k0, 7202, .inl (fun _ => 0)))]) [0, 1] rfl
  have hD9 := hD.sub (ws' := [(a0, .inr (11, [.ref a1, .int 0, .int 0, .int 0, .ref a2, .int 0, .ref a3, .ref a4, .ref a5, .ref a6, .int 0, .int 0, .int 0, .int 0, .int 0, .int 0, .int 0, .int (-1), .int (-1), .int (-1), .int 0, .int 0, .int 0, .ref a7, .ref a8, .ref a9, .ref a10, .ref a11, .ref a12, .ref a13, .int 0])), (a1, .inl (k0, 7202, .inl (fun _ => 0)))]) [0, 1] (by decide) rfl
  have hK9 := hK.sub (tys' := []) [] rfl
  refine W.widen (k := 0) (n := 0) (Nat.le_of_ble_eq_true rfl) (Nat.le_of_ble_eq_true rfl) ?_
  exact W.iret (v := 0) hx hb hr (fun t ht hW => ⟨⟨0, (), rfl, rfl, by rw [ht]; exact hP9, va_K.moved hW.alike hK9, hD9⟩, hS.F ht⟩) hS.2.2 dX12_parts_42

set_option maxHeartbeats 4000000 in
set_option maxRecDepth 100000 in
theorem c_X12_many (l : Launch) (dC : Nat → ClassId) (dI : Nat → Nat → Nat) (sz : Nat)  (a0 a1 a2 a3 a4 a5 a6 a7 a8 a9 a10 a11 a12 a13 : Nat) (k0 : ClassId) (v0 : Int32)  : Met l yX12_many [.code yX12_many cX12_many 2 (some .int)] ({ frames := 2, cells := 0, slots := 0, locals := 80 }) (PcE [.ref a0, .int v0] sz dC dI [(k0, .int)] [(a0, .inr (11, [.ref a1, .int 0, .int 0, .int 0, .ref a2, .int 0, .ref a3, .ref a4, .ref a5, .ref a6, .int 0, .int 0, .int 0, .int 0, .int 0, .int 0, .int 0, .int (-1), .int (-1), .int (-1), .int 0, .int 0, .int 0, .ref a7, .ref a8, .ref a9, .ref a10, .ref a11, .ref a12, .ref a13, .int 0])), (a1, .inl (k0, 7202, .inl (fun _ => 0)))]) (va_Qi (fun (r : Int32) (u : Unit) => r = if 0 ≤ v0 ∧ v0 ≤ 6 then 0 else -1) (Bw dC dI (va_A [(a0, .inr (11, [.ref a1, .int 0, .int 0, .int 0, .ref a2, .int 0, .ref a3, .ref a4, .ref a5, .ref a6, .int 0, .int 0, .int 0, .int 0, .int 0, .int 0, .int 0, .int (-1), .int (-1), .int (-1), .int 0, .int 0, .int 0, .ref a7, .ref a8, .ref a9, .ref a10, .ref a11, .ref a12, .ref a13, .int 0])), (a1, .inl (k0, 7202, .inl (fun _ => 0)))] sz) (fun (u : Unit) => []) (fun (u : Unit) => [])) (va_A [(a0, .inr (11, [.ref a1, .int 0, .int 0, .int 0, .ref a2, .int 0, .ref a3, .ref a4, .ref a5, .ref a6, .int 0, .int 0, .int 0, .int 0, .int 0, .int 0, .int 0, .int (-1), .int (-1), .int (-1), .int 0, .int 0, .int 0, .ref a7, .ref a8, .ref a9, .ref a10, .ref a11, .ref a12, .ref a13, .int 0])), (a1, .inl (k0, 7202, .inl (fun _ => 0)))] sz)) 0 0 (va_A [(a0, .inr (11, [.ref a1, .int 0, .int 0, .int 0, .ref a2, .int 0, .ref a3, .ref a4, .ref a5, .ref a6, .int 0, .int 0, .int 0, .int 0, .int 0, .int 0, .int 0, .int (-1), .int (-1), .int (-1), .int 0, .int 0, .int 0, .ref a7, .ref a8, .ref a9, .ref a10, .ref a11, .ref a12, .ref a13, .int 0])), (a1, .inl (k0, 7202, .inl (fun _ => 0)))] sz) := by
  refine Met.ofW (cc := cX12_many) (maxL := 2) (ret := (some .int)) (by decide) rfl ?_
  intro p e s m args below meth c s₁ B hml hv
  obtain ⟨rfl, hsz, hP, hK, hD0, hE⟩ := hv
  have hx := B.exec
  have hb := B.bytes
  have hr := B.returns
  have hown : s.vm.findClass RX12 = some m.cls := findClass_of_methodNamed B.named
  have hlocks := B.notSynchronized
  subst hsz
  have hD := hD0.self (sz := s.heap.size)
  generalize hAe : va_A [(a0, .inr (11, [.ref a1, .int 0, .int 0, .int 0, .ref a2, .int 0, .ref a3, .ref a4, .ref a5, .ref a6, .int 0, .int 0, .int 0, .int 0, .int 0, .int 0, .int 0, .int (-1), .int (-1), .int (-1), .int 0, .int 0, .int 0, .ref a7, .ref a8, .ref a9, .ref a10, .ref a11, .ref a12, .ref a13, .int 0])), (a1, .inl (k0, 7202, .inl (fun _ => 0)))] s.heap.size = A at hD ⊢
  have hA : ∀ q : Nat, s.heap.size ≤ q → A q := fun q h => by rw [← hAe]; exact Or.inr h
  have hS : va_S A s.heap s.heap [] := va_S.rf
  have hl := lv_entry ([.ref a0, .int v0]) (n := 2) (Nat.le_of_ble_eq_true rfl)
  rw [lg_entry_eq]
  generalize (lg_sl ([.ref a0, .int v0]) ++ List.replicate (2 - (lg_sl ([.ref a0, .int v0])).length) Slot.unset).toArray = ls at hl ⊢
  have hl : lv_has ls 2 [(0, .ref a0), (1, .int v0)] := hl
  refine lv_iload_n hx hb dX12_many_0 rfl (lv_at hl 1 rfl) ?_
  by_cases t1 : v0 = 0
  · subst t1
    refine lv_tableIn (tgt := 44) hx hb dX12_many_1 (by decide) (by decide) rfl (by decide) ?_
    refine lv_aload_n hx hb dX12_many_44 rfl (lv_at hl 0 rfl) ?_
    refine lv_aload_n hx hb dX12_many_45 rfl (lv_at hl 0 rfl) ?_
    refine lv_iconst (v := 0) hx hb dX12_many_46 (by decide) ?_
    refine cl_i (wc := [(a0, .inr (11, [.ref a1, .int 0, .int 0, .int 0, .ref a2, .int 0, .ref a3, .ref a4, .ref a5, .ref a6, .int 0, .int 0, .int 0, .int 0, .int 0, .int 0, .int 0, .int (-1), .int (-1), .int (-1), .int 0, .int 0, .int 0, .ref a7, .ref a8, .ref a9, .ref a10, .ref a11, .ref a12, .ref a13, .int 0])), (a1, .inl (k0, 7202, .inl (fun _ => 0)))]) (wr := []) [0, 1] [] rfl rfl (by decide) (by decide) hK hP hD hS hA (va_runV (As := [.int 0]) (rest := [.ref a0]) ⟨hx, hb, hml, hown, noTs⟩ (c_X12_of_2 l dC dI s.heap.size a0 a1 a2 a3 a4 a5 a6 a7 a8 a9 a10 a11 a12 a13 k0) ⟨cbE 1 (wd_1536 hE) (wd_126 hE) (wd_1533 hE) rfl rfl (by decide +kernel) ⟨Nat.le_of_ble_eq_true rfl, Nat.le_of_ble_eq_true rfl⟩, (wd_1535 hE), (wd_61 hE)⟩ ⟨PcE.blind, va_recv hK hP (ci := 11) (q0 := 0) rfl rfl, (pre_E (av := [.ref a0, .int 0]) (wc := [(a0, .inr (11, [.ref a1, .int 0, .int 0, .int 0, .ref a2, .int 0, .ref a3, .ref a4, .ref a5, .ref a6, .int 0, .int 0, .int 0, .int 0, .int 0, .int 0, .int 0, .int (-1), .int (-1), .int (-1), .int 0, .int 0, .int 0, .ref a7, .ref a8, .ref a9, .ref a10, .ref a11, .ref a12, .ref a13, .int 0])), (a1, .inl (k0, 7202, .inl (fun _ => 0)))]) (tysc := [(k0, .int)]) [0, 1] [0] rfl (by decide) rfl rfl hK hP hD hE)⟩ rfl rfl hl.1 rfl (lv_room (Nat.le_of_ble_eq_true rfl)) dX12_many_47 ⟨Nat.le_of_ble_eq_true rfl, Nat.le_of_ble_eq_true rfl⟩) (fun r2 u2 H locs hw2 hK hP hD hS => ?_)
    have hK : va_K (dC, dI) vwCl [(k0, .int)] s := hK
    have hP : va_P (dC, dI) vwCl [(a0, .inr (11, [.ref a1, .int 0, .int 0, .int 0, .ref a2, .int 0, .ref a3, .ref a4, .ref a5, .ref a6, .int 0, .int 0, .int 0, .int 0, .int 0, .int 0, .int 0, .int (-1), .int (-1), .int (-1), .int 0, .int 0, .int 0, .ref a7, .ref a8, .ref a9, .ref a10, .ref a11, .ref a12, .ref a13, .int 0])), (a1, .inl (k0, 7202, .inl (fun _ => 0)))] H := hP
    have hD : va_D A [(a0, .inr (11, [.ref a1, .int 0, .int 0, .int 0, .ref a2, .int 0, .ref a3, .ref a4, .ref a5, .ref a6, .int 0, .int 0, .int 0, .int 0, .int 0, .int 0, .int 0, .int (-1), .int (-1), .int (-1), .int 0, .int 0, .int 0, .ref a7, .ref a8, .ref a9, .ref a10, .ref a11, .ref a12, .ref a13, .int 0])), (a1, .inl (k0, 7202, .inl (fun _ => 0)))] := hD
    subst hw2
    refine W.eq (g2 := F0 m 50 ls [.int 0, .ref a0]) rfl ?_
    refine cl_i (wc := [(a0, .inr (11, [.ref a1, .int 0, .int 0, .int 0, .ref a2, .int 0, .ref a3, .ref a4, .ref a5, .ref a6, .int 0, .int 0, .int 0, .int 0, .int 0, .int 0, .int 0, .int (-1), .int (-1), .int (-1), .int 0, .int 0, .int 0, .ref a7, .ref a8, .ref a9, .ref a10, .ref a11, .ref a12, .ref a13, .int 0]))]) (wr := [(a1, .inl (k0, 7202, .inl (fun _ => 0)))]) [0] [1] rfl rfl (by decide) (by decide) hK hP hD hS hA (va_runV (As := [.int 0]) (rest := []) ⟨hx, hb, hml, hown, noTs⟩ (c_X12_gives_2 l dC dI H.size a0 a1 a2 a3 a4 a5 a6 a7 a8 a9 a10 a11 a12 a13) ⟨cbE 1 (wd_1621 hE) (wd_126 hE) (wd_1618 hE) rfl rfl (by decide +kernel) ⟨Nat.le_of_ble_eq_true rfl, Nat.le_of_ble_eq_true rfl⟩, (wd_1620 hE), (wd_80 hE)⟩ ⟨PcE.blind, va_recv hK hP (ci := 11) (q0 := 0) rfl rfl, (pre_E (av := [.ref a0, .int 0]) (wc := [(a0, .inr (11, [.ref a1, .int 0, .int 0, .int 0, .ref a2, .int 0, .ref a3, .ref a4, .ref a5, .ref a6, .int 0, .int 0, .int 0, .int 0, .int 0, .int 0, .int 0, .int (-1), .int (-1), .int (-1), .int 0, .int 0, .int 0, .ref a7, .ref a8, .ref a9, .ref a10, .ref a11, .ref a12, .ref a13, .int 0]))]) (tysc := []) [0] [] rfl (by decide) rfl rfl hK hP hD hE)⟩ rfl rfl hl.1 rfl (lv_room (Nat.le_of_ble_eq_true rfl)) dX12_many_50 ⟨Nat.le_of_ble_eq_true rfl, Nat.le_of_ble_eq_true rfl⟩) (fun r3 u3 H locs hw3 hK hP hD hS => ?_)
    have hK : va_K (dC, dI) vwCl [(k0, .int)] s := hK
    have hP : va_P (dC, dI) vwCl [(a1, .inl (k0, 7202, .inl (fun _ => 0))), (a0, .inr (11, [.ref a1, .int 0, .int 0, .int 0, .ref a2, .int 0, .ref a3, .ref a4, .ref a5, .ref a6, .int 0, .int 0, .int 0, .int 0, .int 0, .int 0, .int 0, .int (-1), .int (-1), .int (-1), .int 0, .int 0, .int 0, .ref a7, .ref a8, .ref a9, .ref a10, .ref a11, .ref a12, .ref a13, .int 0]))] H := hP
    have hD : va_D A [(a1, .inl (k0, 7202, .inl (fun _ => 0))), (a0, .inr (11, [.ref a1, .int 0, .int 0, .int 0, .ref a2, .int 0, .ref a3, .ref a4, .ref a5, .ref a6, .int 0, .int 0, .int 0, .int 0, .int 0, .int 0, .int 0, .int (-1), .int (-1), .int (-1), .int 0, .int 0, .int 0, .ref a7, .ref a8, .ref a9, .ref a10, .ref a11, .ref a12, .ref a13, .int 0]))] := hD
    subst hw3
    refine W.eq (g2 := F0 m 53 ls [.int 0]) rfl ?_
    have hP9 := hP.sub (ws' := []) [] rfl
    have hD9 := hD.sub (ws' := []) [] (by decide) rfl
    have hK9 := hK.sub (tys' := []) [] rfl
    refine W.widen (k := 0) (n := 0) (Nat.le_of_ble_eq_true rfl) (Nat.le_of_ble_eq_true rfl) ?_
    exact W.iret (v := 0) hx hb hr (fun t ht hW => ⟨⟨0, (), rfl, (by decide), by rw [ht]; exact hP9, va_K.moved hW.alike hK9, hD9⟩, hS.F ht⟩) hS.2.2 dX12_many_53
  by_cases t4 : v0 = 1
  · subst t4
    refine lv_tableIn (tgt := 54) hx hb dX12_many_1 (by decide) (by decide) rfl (by decide) ?_
    refine lv_aload_n hx hb dX12_many_54 rfl (lv_at hl 0 rfl) ?_
    refine lv_aload_n hx hb dX12_many_55 rfl (lv_at hl 0 rfl) ?_
    refine lv_iconst (v := 1) hx hb dX12_many_56 (by decide) ?_
    refine cl_i (wc := [(a0, .inr (11, [.ref a1, .int 0, .int 0, .int 0, .ref a2, .int 0, .ref a3, .ref a4, .ref a5, .ref a6, .int 0, .int 0, .int 0, .int 0, .int 0, .int 0, .int 0, .int (-1), .int (-1), .int (-1), .int 0, .int 0, .int 0, .ref a7, .ref a8, .ref a9, .ref a10, .ref a11, .ref a12, .ref a13, .int 0])), (a1, .inl (k0, 7202, .inl (fun _ => 0)))]) (wr := []) [0, 1] [] rfl rfl (by decide) (by decide) hK hP hD hS hA (va_runV (As := [.int 1]) (rest := [.ref a0]) ⟨hx, hb, hml, hown, noTs⟩ (c_X12_of_3 l dC dI s.heap.size a0 a1 a2 a3 a4 a5 a6 a7 a8 a9 a10 a11 a12 a13 k0) ⟨cbE 1 (wd_1536 hE) (wd_126 hE) (wd_1533 hE) rfl rfl (by decide +kernel) ⟨Nat.le_of_ble_eq_true rfl, Nat.le_of_ble_eq_true rfl⟩, (wd_1535 hE), (wd_61 hE)⟩ ⟨PcE.blind, va_recv hK hP (ci := 11) (q0 := 0) rfl rfl, (pre_E (av := [.ref a0, .int 1]) (wc := [(a0, .inr (11, [.ref a1, .int 0, .int 0, .int 0, .ref a2, .int 0, .ref a3, .ref a4, .ref a5, .ref a6, .int 0, .int 0, .int 0, .int 0, .int 0, .int 0, .int 0, .int (-1), .int (-1), .int (-1), .int 0, .int 0, .int 0, .ref a7, .ref a8, .ref a9, .ref a10, .ref a11, .ref a12, .ref a13, .int 0])), (a1, .inl (k0, 7202, .inl (fun _ => 0)))]) (tysc := [(k0, .int)]) [0, 1] [0] rfl (by decide) rfl rfl hK hP hD hE)⟩ rfl rfl hl.1 rfl (lv_room (Nat.le_of_ble_eq_true rfl)) dX12_many_57 ⟨Nat.le_of_ble_eq_true rfl, Nat.le_of_ble_eq_true rfl⟩) (fun r5 u5 H locs hw5 hK hP hD hS => ?_)
    have hK : va_K (dC, dI) vwCl [(k0, .int)] s := hK
    have hP : va_P (dC, dI) vwCl [(a0, .inr (11, [.ref a1, .int 0, .int 0, .int 0, .ref a2, .int 0, .ref a3, .ref a4, .ref a5, .ref a6, .int 0, .int 0, .int 0, .int 0, .int 0, .int 0, .int 0, .int (-1), .int (-1), .int (-1), .int 0, .int 0, .int 0, .ref a7, .ref a8, .ref a9, .ref a10, .ref a11, .ref a12, .ref a13, .int 0])), (a1, .inl (k0, 7202, .inl (fun _ => 0)))] H := hP
    have hD : va_D A [(a0, .inr (11, [.ref a1, .int 0, .int 0, .int 0, .ref a2, .int 0, .ref a3, .ref a4, .ref a5, .ref a6, .int 0, .int 0, .int 0, .int 0, .int 0, .int 0, .int 0, .int (-1), .int (-1), .int (-1), .int 0, .int 0, .int 0, .ref a7, .ref a8, .ref a9, .ref a10, .ref a11, .ref a12, .ref a13, .int 0])), (a1, .inl (k0, 7202, .inl (fun _ => 0)))] := hD
    subst hw5
    refine W.eq (g2 := F0 m 60 ls [.int 0, .ref a0]) rfl ?_
    refine cl_i (wc := [(a0, .inr (11, [.ref a1, .int 0, .int 0, .int 0, .ref a2, .int 0, .ref a3, .ref a4, .ref a5, .ref a6, .int 0, .int 0, .int 0, .int 0, .int 0, .int 0, .int 0, .int (-1), .int (-1), .int (-1), .int 0, .int 0, .int 0, .ref a7, .ref a8, .ref a9, .ref a10, .ref a11, .ref a12, .ref a13, .int 0]))]) (wr := [(a1, .inl (k0, 7202, .inl (fun _ => 0)))]) [0] [1] rfl rfl (by decide) (by decide) hK hP hD hS hA (va_runV (As := [.int 0]) (rest := []) ⟨hx, hb, hml, hown, noTs⟩ (c_X12_gives_2 l dC dI H.size a0 a1 a2 a3 a4 a5 a6 a7 a8 a9 a10 a11 a12 a13) ⟨cbE 1 (wd_1621 hE) (wd_126 hE) (wd_1618 hE) rfl rfl (by decide +kernel) ⟨Nat.le_of_ble_eq_true rfl, Nat.le_of_ble_eq_true rfl⟩, (wd_1620 hE), (wd_80 hE)⟩ ⟨PcE.blind, va_recv hK hP (ci := 11) (q0 := 0) rfl rfl, (pre_E (av := [.ref a0, .int 0]) (wc := [(a0, .inr (11, [.ref a1, .int 0, .int 0, .int 0, .ref a2, .int 0, .ref a3, .ref a4, .ref a5, .ref a6, .int 0, .int 0, .int 0, .int 0, .int 0, .int 0, .int 0, .int (-1), .int (-1), .int (-1), .int 0, .int 0, .int 0, .ref a7, .ref a8, .ref a9, .ref a10, .ref a11, .ref a12, .ref a13, .int 0]))]) (tysc := []) [0] [] rfl (by decide) rfl rfl hK hP hD hE)⟩ rfl rfl hl.1 rfl (lv_room (Nat.le_of_ble_eq_true rfl)) dX12_many_60 ⟨Nat.le_of_ble_eq_true rfl, Nat.le_of_ble_eq_true rfl⟩) (fun r6 u6 H locs hw6 hK hP hD hS => ?_)
    have hK : va_K (dC, dI) vwCl [(k0, .int)] s := hK
    have hP : va_P (dC, dI) vwCl [(a1, .inl (k0, 7202, .inl (fun _ => 0))), (a0, .inr (11, [.ref a1, .int 0, .int 0, .int 0, .ref a2, .int 0, .ref a3, .ref a4, .ref a5, .ref a6, .int 0, .int 0, .int 0, .int 0, .int 0, .int 0, .int 0, .int (-1), .int (-1), .int (-1), .int 0, .int 0, .int 0, .ref a7, .ref a8, .ref a9, .ref a10, .ref a11, .ref a12, .ref a13, .int 0]))] H := hP
    have hD : va_D A [(a1, .inl (k0, 7202, .inl (fun _ => 0))), (a0, .inr (11, [.ref a1, .int 0, .int 0, .int 0, .ref a2, .int 0, .ref a3, .ref a4, .ref a5, .ref a6, .int 0, .int 0, .int 0, .int 0, .int 0, .int 0, .int 0, .int (-1), .int (-1), .int (-1), .int 0, .int 0, .int 0, .ref a7, .ref a8, .ref a9, .ref a10, .ref a11, .ref a12, .ref a13, .int 0]))] := hD
    subst hw6
    refine W.eq (g2 := F0 m 63 ls [.int 0]) rfl ?_
    have hP9 := hP.sub (ws' := []) [] rfl
    have hD9 := hD.sub (ws' := []) [] (by decide) rfl
    have hK9 := hK.sub (tys' := []) [] rfl
    refine W.widen (k := 0) (n := 0) (Nat.le_of_ble_eq_true rfl) (Nat.le_of_ble_eq_true rfl) ?_
    exact W.iret (v := 0) hx hb hr (fun t ht hW => ⟨⟨0, (), rfl, (by decide), by rw [ht]; exact hP9, va_K.moved hW.alike hK9, hD9⟩, hS.F ht⟩) hS.2.2 dX12_many_63
  by_cases t7 : v0 = 2
  · subst t7
    refine lv_tableIn (tgt := 64) hx hb dX12_many_1 (by decide) (by decide) rfl (by decide) ?_
    refine lv_aload_n hx hb dX12_many_64 rfl (lv_at hl 0 rfl) ?_
    refine lv_aload_n hx hb dX12_many_65 rfl (lv_at hl 0 rfl) ?_
    refine lv_iconst (v := 2) hx hb dX12_many_66 (by decide) ?_
    refine cl_i (wc := [(a0, .inr (11, [.ref a1, .int 0, .int 0, .int 0, .ref a2, .int 0, .ref a3, .ref a4, .ref a5, .ref a6, .int 0, .int 0, .int 0, .int 0, .int 0, .int 0, .int 0, .int (-1), .int (-1), .int (-1), .int 0, .int 0, .int 0, .ref a7, .ref a8, .ref a9, .ref a10, .ref a11, .ref a12, .ref a13, .int 0])), (a1, .inl (k0, 7202, .inl (fun _ => 0)))]) (wr := []) [0, 1] [] rfl rfl (by decide) (by decide) hK hP hD hS hA (va_runV (As := [.int 2]) (rest := [.ref a0]) ⟨hx, hb, hml, hown, noTs⟩ (c_X12_of_4 l dC dI s.heap.size a0 a1 a2 a3 a4 a5 a6 a7 a8 a9 a10 a11 a12 a13 k0) ⟨cbE 1 (wd_1536 hE) (wd_126 hE) (wd_1533 hE) rfl rfl (by decide +kernel) ⟨Nat.le_of_ble_eq_true rfl, Nat.le_of_ble_eq_true rfl⟩, (wd_1535 hE), (wd_61 hE)⟩ ⟨PcE.blind, va_recv hK hP (ci := 11) (q0 := 0) rfl rfl, (pre_E (av := [.ref a0, .int 2]) (wc := [(a0, .inr (11, [.ref a1, .int 0, .int 0, .int 0, .ref a2, .int 0, .ref a3, .ref a4, .ref a5, .ref a6, .int 0, .int 0, .int 0, .int 0, .int 0, .int 0, .int 0, .int (-1), .int (-1), .int (-1), .int 0, .int 0, .int 0, .ref a7, .ref a8, .ref a9, .ref a10, .ref a11, .ref a12, .ref a13, .int 0])), (a1, .inl (k0, 7202, .inl (fun _ => 0)))]) (tysc := [(k0, .int)]) [0, 1] [0] rfl (by decide) rfl rfl hK hP hD hE)⟩ rfl rfl hl.1 rfl (lv_room (Nat.le_of_ble_eq_true rfl)) dX12_many_67 ⟨Nat.le_of_ble_eq_true rfl, Nat.le_of_ble_eq_true rfl⟩) (fun r8 u8 H locs hw8 hK hP hD hS => ?_)
    have hK : va_K (dC, dI) vwCl [(k0, .int)] s := hK
    have hP : va_P (dC, dI) vwCl [(a0, .inr (11, [.ref a1, .int 0, .int 0, .int 0, .ref a2, .int 0, .ref a3, .ref a4, .ref a5, .ref a6, .int 0, .int 0, .int 0, .int 0, .int 0, .int 0, .int 0, .int (-1), .int (-1), .int (-1), .int 0, .int 0, .int 0, .ref a7, .ref a8, .ref a9, .ref a10, .ref a11, .ref a12, .ref a13, .int 0])), (a1, .inl (k0, 7202, .inl (fun _ => 0)))] H := hP
    have hD : va_D A [(a0, .inr (11, [.ref a1, .int 0, .int 0, .int 0, .ref a2, .int 0, .ref a3, .ref a4, .ref a5, .ref a6, .int 0, .int 0, .int 0, .int 0, .int 0, .int 0, .int 0, .int (-1), .int (-1), .int (-1), .int 0, .int 0, .int 0, .ref a7, .ref a8, .ref a9, .ref a10, .ref a11, .ref a12, .ref a13, .int 0])), (a1, .inl (k0, 7202, .inl (fun _ => 0)))] := hD
    subst hw8
    refine W.eq (g2 := F0 m 70 ls [.int 0, .ref a0]) rfl ?_
    refine cl_i (wc := [(a0, .inr (11, [.ref a1, .int 0, .int 0, .int 0, .ref a2, .int 0, .ref a3, .ref a4, .ref a5, .ref a6, .int 0, .int 0, .int 0, .int 0, .int 0, .int 0, .int 0, .int (-1), .int (-1), .int (-1), .int 0, .int 0, .int 0, .ref a7, .ref a8, .ref a9, .ref a10, .ref a11, .ref a12, .ref a13, .int 0]))]) (wr := [(a1, .inl (k0, 7202, .inl (fun _ => 0)))]) [0] [1] rfl rfl (by decide) (by decide) hK hP hD hS hA (va_runV (As := [.int 0]) (rest := []) ⟨hx, hb, hml, hown, noTs⟩ (c_X12_gives_2 l dC dI H.size a0 a1 a2 a3 a4 a5 a6 a7 a8 a9 a10 a11 a12 a13) ⟨cbE 1 (wd_1621 hE) (wd_126 hE) (wd_1618 hE) rfl rfl (by decide +kernel) ⟨Nat.le_of_ble_eq_true rfl, Nat.le_of_ble_eq_true rfl⟩, (wd_1620 hE), (wd_80 hE)⟩ ⟨PcE.blind, va_recv hK hP (ci := 11) (q0 := 0) rfl rfl, (pre_E (av := [.ref a0, .int 0]) (wc := [(a0, .inr (11, [.ref a1, .int 0, .int 0, .int 0, .ref a2, .int 0, .ref a3, .ref a4, .ref a5, .ref a6, .int 0, .int 0, .int 0, .int 0, .int 0, .int 0, .int 0, .int (-1), .int (-1), .int (-1), .int 0, .int 0, .int 0, .ref a7, .ref a8, .ref a9, .ref a10, .ref a11, .ref a12, .ref a13, .int 0]))]) (tysc := []) [0] [] rfl (by decide) rfl rfl hK hP hD hE)⟩ rfl rfl hl.1 rfl (lv_room (Nat.le_of_ble_eq_true rfl)) dX12_many_70 ⟨Nat.le_of_ble_eq_true rfl, Nat.le_of_ble_eq_true rfl⟩) (fun r9 u9 H locs hw9 hK hP hD hS => ?_)
    have hK : va_K (dC, dI) vwCl [(k0, .int)] s := hK
    have hP : va_P (dC, dI) vwCl [(a1, .inl (k0, 7202, .inl (fun _ => 0))), (a0, .inr (11, [.ref a1, .int 0, .int 0, .int 0, .ref a2, .int 0, .ref a3, .ref a4, .ref a5, .ref a6, .int 0, .int 0, .int 0, .int 0, .int 0, .int 0, .int 0, .int (-1), .int (-1), .int (-1), .int 0, .int 0, .int 0, .ref a7, .ref a8, .ref a9, .ref a10, .ref a11, .ref a12, .ref a13, .int 0]))] H := hP
    have hD : va_D A [(a1, .inl (k0, 7202, .inl (fun _ => 0))), (a0, .inr (11, [.ref a1, .int 0, .int 0, .int 0, .ref a2, .int 0, .ref a3, .ref a4, .ref a5, .ref a6, .int 0, .int 0, .int 0, .int 0, .int 0, .int 0, .int 0, .int (-1), .int (-1), .int (-1), .int 0, .int 0, .int 0, .ref a7, .ref a8, .ref a9, .ref a10, .ref a11, .ref a12, .ref a13, .int 0]))] := hD
    subst hw9
    refine W.eq (g2 := F0 m 73 ls [.int 0]) rfl ?_
    have hP9 := hP.sub (ws' := []) [] rfl
    have hD9 := hD.sub (ws' := []) [] (by decide) rfl
    have hK9 := hK.sub (tys' := []) [] rfl
    refine W.widen (k := 0) (n := 0) (Nat.le_of_ble_eq_true rfl) (Nat.le_of_ble_eq_true rfl) ?_
    exact W.iret (v := 0) hx hb hr (fun t ht hW => ⟨⟨0, (), rfl, (by decide), by rw [ht]; exact hP9, va_K.moved hW.alike hK9, hD9⟩, hS.F ht⟩) hS.2.2 dX12_many_73
  by_cases t10 : v0 = 3
  · subst t10
    refine lv_tableIn (tgt := 74) hx hb dX12_many_1 (by decide) (by decide) rfl (by decide) ?_
    refine lv_aload_n hx hb dX12_many_74 rfl (lv_at hl 0 rfl) ?_
    refine lv_aload_n hx hb dX12_many_75 rfl (lv_at hl 0 rfl) ?_
    refine va_get (D := (dC, dI)) (ci := 11) (v := .int 0) (C := RX12) (T := TX12) (N := 31) hx hb (ly_X12 hE) (fun _ h9 => h9) hown hK hP 0 rfl rfl 2 (by decide) (wd_1383 hE) (fun _ h9 => h9) rfl dX12_many_76 ?_
    refine cl_i (wc := [(a0, .inr (11, [.ref a1, .int 0, .int 0, .int 0, .ref a2, .int 0, .ref a3, .ref a4, .ref a5, .ref a6, .int 0, .int 0, .int 0, .int 0, .int 0, .int 0, .int 0, .int (-1), .int (-1), .int (-1), .int 0, .int 0, .int 0, .ref a7, .ref a8, .ref a9, .ref a10, .ref a11, .ref a12, .ref a13, .int 0]))]) (wr := [(a1, .inl (k0, 7202, .inl (fun _ => 0)))]) [0] [1] rfl rfl (by decide) (by decide) hK hP hD hS hA (va_runV (As := [.int 0]) (rest := []) ⟨hx, hb, hml, hown, noTs⟩ (c_X12_gives_2 l dC dI s.heap.size a0 a1 a2 a3 a4 a5 a6 a7 a8 a9 a10 a11 a12 a13) ⟨cbE 1 (wd_1621 hE) (wd_126 hE) (wd_1618 hE) rfl rfl (by decide +kernel) ⟨Nat.le_of_ble_eq_true rfl, Nat.le_of_ble_eq_true rfl⟩, (wd_1620 hE), (wd_80 hE)⟩ ⟨PcE.blind, va_recv hK hP (ci := 11) (q0 := 0) rfl rfl, (pre_E (av := [.ref a0, .int 0]) (wc := [(a0, .inr (11, [.ref a1, .int 0, .int 0, .int 0, .ref a2, .int 0, .ref a3, .ref a4, .ref a5, .ref a6, .int 0, .int 0, .int 0, .int 0, .int 0, .int 0, .int 0, .int (-1), .int (-1), .int (-1), .int 0, .int 0, .int 0, .ref a7, .ref a8, .ref a9, .ref a10, .ref a11, .ref a12, .ref a13, .int 0]))]) (tysc := []) [0] [] rfl (by decide) rfl rfl hK hP hD hE)⟩ rfl rfl hl.1 rfl (lv_room (Nat.le_of_ble_eq_true rfl)) dX12_many_79 ⟨Nat.le_of_ble_eq_true rfl, Nat.le_of_ble_eq_true rfl⟩) (fun r11 u11 H locs hw11 hK hP hD hS => ?_)
    have hK : va_K (dC, dI) vwCl [(k0, .int)] s := hK
    have hP : va_P (dC, dI) vwCl [(a1, .inl (k0, 7202, .inl (fun _ => 0))), (a0, .inr (11, [.ref a1, .int 0, .int 0, .int 0, .ref a2, .int 0, .ref a3, .ref a4, .ref a5, .ref a6, .int 0, .int 0, .int 0, .int 0, .int 0, .int 0, .int 0, .int (-1), .int (-1), .int (-1), .int 0, .int 0, .int 0, .ref a7, .ref a8, .ref a9, .ref a10, .ref a11, .ref a12, .ref a13, .int 0]))] H := hP
    have hD : va_D A [(a1, .inl (k0, 7202, .inl (fun _ => 0))), (a0, .inr (11, [.ref a1, .int 0, .int 0, .int 0, .ref a2, .int 0, .ref a3, .ref a4, .ref a5, .ref a6, .int 0, .int 0, .int 0, .int 0, .int 0, .int 0, .int 0, .int (-1), .int (-1), .int (-1), .int 0, .int 0, .int 0, .ref a7, .ref a8, .ref a9, .ref a10, .ref a11, .ref a12, .ref a13, .int 0]))] := hD
    subst hw11
    refine W.eq (g2 := F0 m 82 ls [.int 0]) rfl ?_
    have hP9 := hP.sub (ws' := []) [] rfl
    have hD9 := hD.sub (ws' := []) [] (by decide) rfl
    have hK9 := hK.sub (tys' := []) [] rfl
    refine W.widen (k := 0) (n := 0) (Nat.le_of_ble_eq_true rfl) (Nat.le_of_ble_eq_true rfl) ?_
    exact W.iret (v := 0) hx hb hr (fun t ht hW => ⟨⟨0, (), rfl, (by decide), by rw [ht]; exact hP9, va_K.moved hW.alike hK9, hD9⟩, hS.F ht⟩) hS.2.2 dX12_many_82
  by_cases t12 : v0 = 4
  · subst t12
    refine lv_tableIn (tgt := 83) hx hb dX12_many_1 (by decide) (by decide) rfl (by decide) ?_
    refine lv_aload_n hx hb dX12_many_83 rfl (lv_at hl 0 rfl) ?_
    refine lv_aload_n hx hb dX12_many_84 rfl (lv_at hl 0 rfl) ?_
    refine va_get (D := (dC, dI)) (ci := 11) (v := .int 0) (C := RX12) (T := TX12) (N := 31) hx hb (ly_X12 hE) (fun _ h9 => h9) hown hK hP 0 rfl rfl 3 (by decide) (wd_1384 hE) (fun _ h9 => h9) rfl dX12_many_85 ?_
    refine cl_i (wc := [(a0, .inr (11, [.ref a1, .int 0, .int 0, .int 0, .ref a2, .int 0, .ref a3, .ref a4, .ref a5, .ref a6, .int 0, .int 0, .int 0, .int 0, .int 0, .int 0, .int 0, .int (-1), .int (-1), .int (-1), .int 0, .int 0, .int 0, .ref a7, .ref a8, .ref a9, .ref a10, .ref a11, .ref a12, .ref a13, .int 0]))]) (wr := [(a1, .inl (k0, 7202, .inl (fun _ => 0)))]) [0] [1] rfl rfl (by decide) (by decide) hK hP hD hS hA (va_runV (As := [.int 0]) (rest := []) ⟨hx, hb, hml, hown, noTs⟩ (c_X12_gives_2 l dC dI s.heap.size a0 a1 a2 a3 a4 a5 a6 a7 a8 a9 a10 a11 a12 a13) ⟨cbE 1 (wd_1621 hE) (wd_126 hE) (wd_1618 hE) rfl rfl (by decide +kernel) ⟨Nat.le_of_ble_eq_true rfl, Nat.le_of_ble_eq_true rfl⟩, (wd_1620 hE), (wd_80 hE)⟩ ⟨PcE.blind, va_recv hK hP (ci := 11) (q0 := 0) rfl rfl, (pre_E (av := [.ref a0, .int 0]) (wc := [(a0, .inr (11, [.ref a1, .int 0, .int 0, .int 0, .ref a2, .int 0, .ref a3, .ref a4, .ref a5, .ref a6, .int 0, .int 0, .int 0, .int 0, .int 0, .int 0, .int 0, .int (-1), .int (-1), .int (-1), .int 0, .int 0, .int 0, .ref a7, .ref a8, .ref a9, .ref a10, .ref a11, .ref a12, .ref a13, .int 0]))]) (tysc := []) [0] [] rfl (by decide) rfl rfl hK hP hD hE)⟩ rfl rfl hl.1 rfl (lv_room (Nat.le_of_ble_eq_true rfl)) dX12_many_88 ⟨Nat.le_of_ble_eq_true rfl, Nat.le_of_ble_eq_true rfl⟩) (fun r13 u13 H locs hw13 hK hP hD hS => ?_)
    have hK : va_K (dC, dI) vwCl [(k0, .int)] s := hK
    have hP : va_P (dC, dI) vwCl [(a1, .inl (k0, 7202, .inl (fun _ => 0))), (a0, .inr (11, [.ref a1, .int 0, .int 0, .int 0, .ref a2, .int 0, .ref a3, .ref a4, .ref a5, .ref a6, .int 0, .int 0, .int 0, .int 0, .int 0, .int 0, .int 0, .int (-1), .int (-1), .int (-1), .int 0, .int 0, .int 0, .ref a7, .ref a8, .ref a9, .ref a10, .ref a11, .ref a12, .ref a13, .int 0]))] H := hP
    have hD : va_D A [(a1, .inl (k0, 7202, .inl (fun _ => 0))), (a0, .inr (11, [.ref a1, .int 0, .int 0, .int 0, .ref a2, .int 0, .ref a3, .ref a4, .ref a5, .ref a6, .int 0, .int 0, .int 0, .int 0, .int 0, .int 0, .int 0, .int (-1), .int (-1), .int (-1), .int 0, .int 0, .int 0, .ref a7, .ref a8, .ref a9, .ref a10, .ref a11, .ref a12, .ref a13, .int 0]))] := hD
    subst hw13
    refine W.eq (g2 := F0 m 91 ls [.int 0]) rfl ?_
    have hP9 := hP.sub (ws' := []) [] rfl
    have hD9 := hD.sub (ws' := []) [] (by decide) rfl
    have hK9 := hK.sub (tys' := []) [] rfl
    refine W.widen (k := 0) (n := 0) (Nat.le_of_ble_eq_true rfl) (Nat.le_of_ble_eq_true rfl) ?_
    exact W.iret (v := 0) hx hb hr (fun t ht hW => ⟨⟨0, (), rfl, (by decide), by rw [ht]; exact hP9, va_K.moved hW.alike hK9, hD9⟩, hS.F ht⟩) hS.2.2 dX12_many_91
  by_cases t14 : v0 = 5
  · subst t14
    refine lv_tableIn (tgt := 92) hx hb dX12_many_1 (by decide) (by decide) rfl (by decide) ?_
    refine lv_aload_n hx hb dX12_many_92 rfl (lv_at hl 0 rfl) ?_
    refine lv_aload_n hx hb dX12_many_93 rfl (lv_at hl 0 rfl) ?_
    refine lv_iconst (v := 1) hx hb dX12_many_94 (by decide) ?_
    refine cl_i (wc := [(a0, .inr (11, [.ref a1, .int 0, .int 0, .int 0, .ref a2, .int 0, .ref a3, .ref a4, .ref a5, .ref a6, .int 0, .int 0, .int 0, .int 0, .int 0, .int 0, .int 0, .int (-1), .int (-1), .int (-1), .int 0, .int 0, .int 0, .ref a7, .ref a8, .ref a9, .ref a10, .ref a11, .ref a12, .ref a13, .int 0])), (a1, .inl (k0, 7202, .inl (fun _ => 0)))]) (wr := []) [0, 1] [] rfl rfl (by decide) (by decide) hK hP hD hS hA (va_runV (As := [.int 1]) (rest := [.ref a0]) ⟨hx, hb, hml, hown, noTs⟩ (c_X12_of_3 l dC dI s.heap.size a0 a1 a2 a3 a4 a5 a6 a7 a8 a9 a10 a11 a12 a13 k0) ⟨cbE 1 (wd_1536 hE) (wd_126 hE) (wd_1533 hE) rfl rfl (by decide +kernel) ⟨Nat.le_of_ble_eq_true rfl, Nat.le_of_ble_eq_true rfl⟩, (wd_1535 hE), (wd_61 hE)⟩ ⟨PcE.blind, va_recv hK hP (ci := 11) (q0 := 0) rfl rfl, (pre_E (av := [.ref a0, .int 1]) (wc := [(a0, .inr (11, [.ref a1, .int 0, .int 0, .int 0, .ref a2, .int 0, .ref a3, .ref a4, .ref a5, .ref a6, .int 0, .int 0, .int 0, .int 0, .int 0, .int 0, .int 0, .int (-1), .int (-1), .int (-1), .int 0, .int 0, .int 0, .ref a7, .ref a8, .ref a9, .ref a10, .ref a11, .ref a12, .ref a13, .int 0])), (a1, .inl (k0, 7202, .inl (fun _ => 0)))]) (tysc := [(k0, .int)]) [0, 1] [0] rfl (by decide) rfl rfl hK hP hD hE)⟩ rfl rfl hl.1 rfl (lv_room (Nat.le_of_ble_eq_true rfl)) dX12_many_95 ⟨Nat.le_of_ble_eq_true rfl, Nat.le_of_ble_eq_true rfl⟩) (fun r15 u15 H locs hw15 hK hP hD hS => ?_)
    have hK : va_K (dC, dI) vwCl [(k0, .int)] s := hK
    have hP : va_P (dC, dI) vwCl [(a0, .inr (11, [.ref a1, .int 0, .int 0, .int 0, .ref a2, .int 0, .ref a3, .ref a4, .ref a5, .ref a6, .int 0, .int 0, .int 0, .int 0, .int 0, .int 0, .int 0, .int (-1), .int (-1), .int (-1), .int 0, .int 0, .int 0, .ref a7, .ref a8, .ref a9, .ref a10, .ref a11, .ref a12, .ref a13, .int 0])), (a1, .inl (k0, 7202, .inl (fun _ => 0)))] H := hP
    have hD : va_D A [(a0, .inr (11, [.ref a1, .int 0, .int 0, .int 0, .ref a2, .int 0, .ref a3, .ref a4, .ref a5, .ref a6, .int 0, .int 0, .int 0, .int 0, .int 0, .int 0, .int 0, .int (-1), .int (-1), .int (-1), .int 0, .int 0, .int 0, .ref a7, .ref a8, .ref a9, .ref a10, .ref a11, .ref a12, .ref a13, .int 0])), (a1, .inl (k0, 7202, .inl (fun _ => 0)))] := hD
    subst hw15
    refine W.eq (g2 := F0 m 98 ls [.int 0, .ref a0]) rfl ?_
    refine lv_aload_n hx hb dX12_many_98 rfl (lv_at hl 0 rfl) ?_
    refine lv_iconst (v := 0) hx hb dX12_many_99 (by decide) ?_
    refine cl_i (wc := [(a0, .inr (11, [.ref a1, .int 0, .int 0, .int 0, .ref a2, .int 0, .ref a3, .ref a4, .ref a5, .ref a6, .int 0, .int 0, .int 0, .int 0, .int 0, .int 0, .int 0, .int (-1), .int (-1), .int (-1), .int 0, .int 0, .int 0, .ref a7, .ref a8, .ref a9, .ref a10, .ref a11, .ref a12, .ref a13, .int 0])), (a1, .inl (k0, 7202, .inl (fun _ => 0)))]) (wr := []) [0, 1] [] rfl rfl (by decide) (by decide) hK hP hD hS hA (va_runV (As := [.int 0]) (rest := [.int 0, .ref a0]) ⟨hx, hb, hml, hown, noTs⟩ (c_X12_of_2 l dC dI H.size a0 a1 a2 a3 a4 a5 a6 a7 a8 a9 a10 a11 a12 a13 k0) ⟨cbE 1 (wd_1536 hE) (wd_126 hE) (wd_1533 hE) rfl rfl (by decide +kernel) ⟨Nat.le_of_ble_eq_true rfl, Nat.le_of_ble_eq_true rfl⟩, (wd_1535 hE), (wd_61 hE)⟩ ⟨PcE.blind, va_recv hK hP (ci := 11) (q0 := 0) rfl rfl, (pre_E (av := [.ref a0, .int 0]) (wc := [(a0, .inr (11, [.ref a1, .int 0, .int 0, .int 0, .ref a2, .int 0, .ref a3, .ref a4, .ref a5, .ref a6, .int 0, .int 0, .int 0, .int 0, .int 0, .int 0, .int 0, .int (-1), .int (-1), .int (-1), .int 0, .int 0, .int 0, .ref a7, .ref a8, .ref a9, .ref a10, .ref a11, .ref a12, .ref a13, .int 0])), (a1, .inl (k0, 7202, .inl (fun _ => 0)))]) (tysc := [(k0, .int)]) [0, 1] [0] rfl (by decide) rfl rfl hK hP hD hE)⟩ rfl rfl hl.1 rfl (lv_room (Nat.le_of_ble_eq_true rfl)) dX12_many_100 ⟨Nat.le_of_ble_eq_true rfl, Nat.le_of_ble_eq_true rfl⟩) (fun r16 u16 H locs hw16 hK hP hD hS => ?_)
    have hK : va_K (dC, dI) vwCl [(k0, .int)] s := hK
    have hP : va_P (dC, dI) vwCl [(a0, .inr (11, [.ref a1, .int 0, .int 0, .int 0, .ref a2, .int 0, .ref a3, .ref a4, .ref a5, .ref a6, .int 0, .int 0, .int 0, .int 0, .int 0, .int 0, .int 0, .int (-1), .int (-1), .int (-1), .int 0, .int 0, .int 0, .ref a7, .ref a8, .ref a9, .ref a10, .ref a11, .ref a12, .ref a13, .int 0])), (a1, .inl (k0, 7202, .inl (fun _ => 0)))] H := hP
    have hD : va_D A [(a0, .inr (11, [.ref a1, .int 0, .int 0, .int 0, .ref a2, .int 0, .ref a3, .ref a4, .ref a5, .ref a6, .int 0, .int 0, .int 0, .int 0, .int 0, .int 0, .int 0, .int (-1), .int (-1), .int (-1), .int 0, .int 0, .int 0, .ref a7, .ref a8, .ref a9, .ref a10, .ref a11, .ref a12, .ref a13, .int 0])), (a1, .inl (k0, 7202, .inl (fun _ => 0)))] := hD
    subst hw16
    refine W.eq (g2 := F0 m 103 ls [.int 0, .int 0, .ref a0]) rfl ?_
    refine lv_isub hx hb dX12_many_103 ?_
    refine W.eq (g2 := F0 m 104 ls [.int 0, .ref a0]) rfl ?_
    refine lv_aload_n hx hb dX12_many_104 rfl (lv_at hl 0 rfl) ?_
    refine cl_i (wc := [(a0, .inr (11, [.ref a1, .int 0, .int 0, .int 0, .ref a2, .int 0, .ref a3, .ref a4, .ref a5, .ref a6, .int 0, .int 0, .int 0, .int 0, .int 0, .int 0, .int 0, .int (-1), .int (-1), .int (-1), .int 0, .int 0, .int 0, .ref a7, .ref a8, .ref a9, .ref a10, .ref a11, .ref a12, .ref a13, .int 0])), (a1, .inl (k0, 7202, .inl (fun _ => 0)))]) (wr := []) [0, 1] [] rfl rfl (by decide) (by decide) hK hP hD hS hA (va_runV (As := []) (rest := [.int 0, .ref a0]) ⟨hx, hb, hml, hown, noTs⟩ (c_X12_parts l dC dI H.size a0 a1 a2 a3 a4 a5 a6 a7 a8 a9 a10 a11 a12 a13 k0) ⟨cbE 0 (wd_1633 hE) (wd_126 hE) (wd_1630 hE) rfl rfl (by decide +kernel) ⟨Nat.le_of_ble_eq_true rfl, Nat.le_of_ble_eq_true rfl⟩, (wd_1632 hE), (wd_81 hE)⟩ ⟨PcE.blind, va_recv hK hP (ci := 11) (q0 := 0) rfl rfl, (pre_E (av := [.ref a0]) (wc := [(a0, .inr (11, [.ref a1, .int 0, .int 0, .int 0, .ref a2, .int 0, .ref a3, .ref a4, .ref a5, .ref a6, .int 0, .int 0, .int 0, .int 0, .int 0, .int 0, .int 0, .int (-1), .int (-1), .int (-1), .int 0, .int 0, .int 0, .ref a7, .ref a8, .ref a9, .ref a10, .ref a11, .ref a12, .ref a13, .int 0])), (a1, .inl (k0, 7202, .inl (fun _ => 0)))]) (tysc := [(k0, .int)]) [0, 1] [0] rfl (by decide) rfl rfl hK hP hD hE)⟩ rfl rfl hl.1 rfl (lv_room (Nat.le_of_ble_eq_true rfl)) dX12_many_105 ⟨Nat.le_of_ble_eq_true rfl, Nat.le_of_ble_eq_true rfl⟩) (fun r17 u17 H locs hw17 hK hP hD hS => ?_)
    have hK : va_K (dC, dI) vwCl [(k0, .int)] s := hK
    have hP : va_P (dC, dI) vwCl [(a0, .inr (11, [.ref a1, .int 0, .int 0, .int 0, .ref a2, .int 0, .ref a3, .ref a4, .ref a5, .ref a6, .int 0, .int 0, .int 0, .int 0, .int 0, .int 0, .int 0, .int (-1), .int (-1), .int (-1), .int 0, .int 0, .int 0, .ref a7, .ref a8, .ref a9, .ref a10, .ref a11, .ref a12, .ref a13, .int 0])), (a1, .inl (k0, 7202, .inl (fun _ => 0)))] H := hP
    have hD : va_D A [(a0, .inr (11, [.ref a1, .int 0, .int 0, .int 0, .ref a2, .int 0, .ref a3, .ref a4, .ref a5, .ref a6, .int 0, .int 0, .int 0, .int 0, .int 0, .int 0, .int 0, .int (-1), .int (-1), .int (-1), .int 0, .int 0, .int 0, .ref a7, .ref a8, .ref a9, .ref a10, .ref a11, .ref a12, .ref a13, .int 0])), (a1, .inl (k0, 7202, .inl (fun _ => 0)))] := hD
    subst hw17
    refine W.eq (g2 := F0 m 108 ls [.int 0, .int 0, .ref a0]) rfl ?_
    refine lv_iadd hx hb dX12_many_108 ?_
    refine W.eq (g2 := F0 m 109 ls [.int 0, .ref a0]) rfl ?_
    refine cl_i (wc := [(a0, .inr (11, [.ref a1, .int 0, .int 0, .int 0, .ref a2, .int 0, .ref a3, .ref a4, .ref a5, .ref a6, .int 0, .int 0, .int 0, .int 0, .int 0, .int 0, .int 0, .int (-1), .int (-1), .int (-1), .int 0, .int 0, .int 0, .ref a7, .ref a8, .ref a9, .ref a10, .ref a11, .ref a12, .ref a13, .int 0]))]) (wr := [(a1, .inl (k0, 7202, .inl (fun _ => 0)))]) [0] [1] rfl rfl (by decide) (by decide) hK hP hD hS hA (va_runV (As := [.int 0]) (rest := []) ⟨hx, hb, hml, hown, noTs⟩ (c_X12_gives_2 l dC dI H.size a0 a1 a2 a3 a4 a5 a6 a7 a8 a9 a10 a11 a12 a13) ⟨cbE 1 (wd_1621 hE) (wd_126 hE) (wd_1618 hE) rfl rfl (by decide +kernel) ⟨Nat.le_of_ble_eq_true rfl, Nat.le_of_ble_eq_true rfl⟩, (wd_1620 hE), (wd_80 hE)⟩ ⟨PcE.blind, va_recv hK hP (ci := 11) (q0 := 0) rfl rfl, (pre_E (av := [.ref a0, .int 0]) (wc := [(a0, .inr (11, [.ref a1, .int 0, .int 0, .int 0, .ref a2, .int 0, .ref a3, .ref a4, .ref a5, .ref a6, .int 0, .int 0, .int 0, .int 0, .int 0, .int 0, .int 0, .int (-1), .int (-1), .int (-1), .int 0, .int 0, .int 0, .ref a7, .ref a8, .ref a9, .ref a10, .ref a11, .ref a12, .ref a13, .int 0]))]) (tysc := []) [0] [] rfl (by decide) rfl rfl hK hP hD hE)⟩ rfl rfl hl.1 rfl (lv_room (Nat.le_of_ble_eq_true rfl)) dX12_many_109 ⟨Nat.le_of_ble_eq_true rfl, Nat.le_of_ble_eq_true rfl⟩) (fun r18 u18 H locs hw18 hK hP hD hS => ?_)
    have hK : va_K (dC, dI) vwCl [(k0, .int)] s := hK
    have hP : va_P (dC, dI) vwCl [(a1, .inl (k0, 7202, .inl (fun _ => 0))), (a0, .inr (11, [.ref a1, .int 0, .int 0, .int 0, .ref a2, .int 0, .ref a3, .ref a4, .ref a5, .ref a6, .int 0, .int 0, .int 0, .int 0, .int 0, .int 0, .int 0, .int (-1), .int (-1), .int (-1), .int 0, .int 0, .int 0, .ref a7, .ref a8, .ref a9, .ref a10, .ref a11, .ref a12, .ref a13, .int 0]))] H := hP
    have hD : va_D A [(a1, .inl (k0, 7202, .inl (fun _ => 0))), (a0, .inr (11, [.ref a1, .int 0, .int 0, .int 0, .ref a2, .int 0, .ref a3, .ref a4, .ref a5, .ref a6, .int 0, .int 0, .int 0, .int 0, .int 0, .int 0, .int 0, .int (-1), .int (-1), .int (-1), .int 0, .int 0, .int 0, .ref a7, .ref a8, .ref a9, .ref a10, .ref a11, .ref a12, .ref a13, .int 0]))] := hD
    subst hw18
    refine W.eq (g2 := F0 m 112 ls [.int 0]) rfl ?_
    have hP9 := hP.sub (ws' := []) [] rfl
    have hD9 := hD.sub (ws' := []) [] (by decide) rfl
    have hK9 := hK.sub (tys' := []) [] rfl
    refine W.widen (k := 0) (n := 0) (Nat.le_of_ble_eq_true rfl) (Nat.le_of_ble_eq_true rfl) ?_
    exact W.iret (v := 0) hx hb hr (fun t ht hW => ⟨⟨0, (), rfl, (by decide), by rw [ht]; exact hP9, va_K.moved hW.alike hK9, hD9⟩, hS.F ht⟩) hS.2.2 dX12_many_112
  by_cases t19 : v0 = 6
  · subst t19
    refine lv_tableIn (tgt := 113) hx hb dX12_many_1 (by decide) (by decide) rfl (by decide) ?_
    refine lv_aload_n hx hb dX12_many_113 rfl (lv_at hl 0 rfl) ?_
    refine lv_aload_n hx hb dX12_many_114 rfl (lv_at hl 0 rfl) ?_
    refine cl_i (wc := [(a0, .inr (11, [.ref a1, .int 0, .int 0, .int 0, .ref a2, .int 0, .ref a3, .ref a4, .ref a5, .ref a6, .int 0, .int 0, .int 0, .int 0, .int 0, .int 0, .int 0, .int (-1), .int (-1), .int (-1), .int 0, .int 0, .int 0, .ref a7, .ref a8, .ref a9, .ref a10, .ref a11, .ref a12, .ref a13, .int 0])), (a1, .inl (k0, 7202, .inl (fun _ => 0)))]) (wr := []) [0, 1] [] rfl rfl (by decide) (by decide) hK hP hD hS hA (va_runV (As := []) (rest := [.ref a0]) ⟨hx, hb, hml, hown, noTs⟩ (c_X12_parts l dC dI s.heap.size a0 a1 a2 a3 a4 a5 a6 a7 a8 a9 a10 a11 a12 a13 k0) ⟨cbE 0 (wd_1633 hE) (wd_126 hE) (wd_1630 hE) rfl rfl (by decide +kernel) ⟨Nat.le_of_ble_eq_true rfl, Nat.le_of_ble_eq_true rfl⟩, (wd_1632 hE), (wd_81 hE)⟩ ⟨PcE.blind, va_recv hK hP (ci := 11) (q0 := 0) rfl rfl, (pre_E (av := [.ref a0]) (wc := [(a0, .inr (11, [.ref a1, .int 0, .int 0, .int 0, .ref a2, .int 0, .ref a3, .ref a4, .ref a5, .ref a6, .int 0, .int 0, .int 0, .int 0, .int 0, .int 0, .int 0, .int (-1), .int (-1), .int (-1), .int 0, .int 0, .int 0, .ref a7, .ref a8, .ref a9, .ref a10, .ref a11, .ref a12, .ref a13, .int 0])), (a1, .inl (k0, 7202, .inl (fun _ => 0)))]) (tysc := [(k0, .int)]) [0, 1] [0] rfl (by decide) rfl rfl hK hP hD hE)⟩ rfl rfl hl.1 rfl (lv_room (Nat.le_of_ble_eq_true rfl)) dX12_many_115 ⟨Nat.le_of_ble_eq_true rfl, Nat.le_of_ble_eq_true rfl⟩) (fun r20 u20 H locs hw20 hK hP hD hS => ?_)
    have hK : va_K (dC, dI) vwCl [(k0, .int)] s := hK
    have hP : va_P (dC, dI) vwCl [(a0, .inr (11, [.ref a1, .int 0, .int 0, .int 0, .ref a2, .int 0, .ref a3, .ref a4, .ref a5, .ref a6, .int 0, .int 0, .int 0, .int 0, .int 0, .int 0, .int 0, .int (-1), .int (-1), .int (-1), .int 0, .int 0, .int 0, .ref a7, .ref a8, .ref a9, .ref a10, .ref a11, .ref a12, .ref a13, .int 0])), (a1, .inl (k0, 7202, .inl (fun _ => 0)))] H := hP
    have hD : va_D A [(a0, .inr (11, [.ref a1, .int 0, .int 0, .int 0, .ref a2, .int 0, .ref a3, .ref a4, .ref a5, .ref a6, .int 0, .int 0, .int 0, .int 0, .int 0, .int 0, .int 0, .int (-1), .int (-1), .int (-1), .int 0, .int 0, .int 0, .ref a7, .ref a8, .ref a9, .ref a10, .ref a11, .ref a12, .ref a13, .int 0])), (a1, .inl (k0, 7202, .inl (fun _ => 0)))] := hD
    subst hw20
    refine W.eq (g2 := F0 m 118 ls [.int 0, .ref a0]) rfl ?_
    refine cl_i (wc := [(a0, .inr (11, [.ref a1, .int 0, .int 0, .int 0, .ref a2, .int 0, .ref a3, .ref a4, .ref a5, .ref a6, .int 0, .int 0, .int 0, .int 0, .int 0, .int 0, .int 0, .int (-1), .int (-1), .int (-1), .int 0, .int 0, .int 0, .ref a7, .ref a8, .ref a9, .ref a10, .ref a11, .ref a12, .ref a13, .int 0]))]) (wr := [(a1, .inl (k0, 7202, .inl (fun _ => 0)))]) [0] [1] rfl rfl (by decide) (by decide) hK hP hD hS hA (va_runV (As := [.int 0]) (rest := []) ⟨hx, hb, hml, hown, noTs⟩ (c_X12_gives_2 l dC dI H.size a0 a1 a2 a3 a4 a5 a6 a7 a8 a9 a10 a11 a12 a13) ⟨cbE 1 (wd_1621 hE) (wd_126 hE) (wd_1618 hE) rfl rfl (by decide +kernel) ⟨Nat.le_of_ble_eq_true rfl, Nat.le_of_ble_eq_true rfl⟩, (wd_1620 hE), (wd_80 hE)⟩ ⟨PcE.blind, va_recv hK hP (ci := 11) (q0 := 0) rfl rfl, (pre_E (av := [.ref a0, .int 0]) (wc := [(a0, .inr (11, [.ref a1, .int 0, .int 0, .int 0, .ref a2, .int 0, .ref a3, .ref a4, .ref a5, .ref a6, .int 0, .int 0, .int 0, .int 0, .int 0, .int 0, .int 0, .int (-1), .int (-1), .int (-1), .int 0, .int 0, .int 0, .ref a7, .ref a8, .ref a9, .ref a10, .ref a11, .ref a12, .ref a13, .int 0]))]) (tysc := []) [0] [] rfl (by decide) rfl rfl hK hP hD hE)⟩ rfl rfl hl.1 rfl (lv_room (Nat.le_of_ble_eq_true rfl)) dX12_many_118 ⟨Nat.le_of_ble_eq_true rfl, Nat.le_of_ble_eq_true rfl⟩) (fun r21 u21 H locs hw21 hK hP hD hS => ?_)
    have hK : va_K (dC, dI) vwCl [(k0, .int)] s := hK
    have hP : va_P (dC, dI) vwCl [(a1, .inl (k0, 7202, .inl (fun _ => 0))), (a0, .inr (11, [.ref a1, .int 0, .int 0, .int 0, .ref a2, .int 0, .ref a3, .ref a4, .ref a5, .ref a6, .int 0, .int 0, .int 0, .int 0, .int 0, .int 0, .int 0, .int (-1), .int (-1), .int (-1), .int 0, .int 0, .int 0, .ref a7, .ref a8, .ref a9, .ref a10, .ref a11, .ref a12, .ref a13, .int 0]))] H := hP
    have hD : va_D A [(a1, .inl (k0, 7202, .inl (fun _ => 0))), (a0, .inr (11, [.ref a1, .int 0, .int 0, .int 0, .ref a2, .int 0, .ref a3, .ref a4, .ref a5, .ref a6, .int 0, .int 0, .int 0, .int 0, .int 0, .int 0, .int 0, .int (-1), .int (-1), .int (-1), .int 0, .int 0, .int 0, .ref a7, .ref a8, .ref a9, .ref a10, .ref a11, .ref a12, .ref a13, .int 0]))] := hD
    subst hw21
    refine W.eq (g2 := F0 m 121 ls [.int 0]) rfl ?_
    have hP9 := hP.sub (ws' := []) [] rfl
    have hD9 := hD.sub (ws' := []) [] (by decide) rfl
    have hK9 := hK.sub (tys' := []) [] rfl
    refine W.widen (k := 0) (n := 0) (Nat.le_of_ble_eq_true rfl) (Nat.le_of_ble_eq_true rfl) ?_
    exact W.iret (v := 0) hx hb hr (fun t ht hW => ⟨⟨0, (), rfl, (by decide), by rw [ht]; exact hP9, va_K.moved hW.alike hK9, hD9⟩, hS.F ht⟩) hS.2.2 dX12_many_121
  have hT : v0.toInt < 0 ∨ 6 < v0.toInt := by simp only [i_eq, ti_m9, ti_m1, ti_0, ti_1, ti_2, ti_3, ti_4, ti_5, ti_6, ti_7, ti_9, ti_12, ti_20, ti_99, ti_700] at t1 t4 t7 t10 t12 t14 t19; omega
  refine lv_tableOut (tgt := 122) hx hb dX12_many_1 hT (by decide) ?_
  refine lv_aload_n hx hb dX12_many_122 rfl (lv_at hl 0 rfl) ?_
  refine lv_iconst (v := 1) hx hb dX12_many_123 (by decide) ?_
  refine cl_i (wc := [(a0, .inr (11, [.ref a1, .int 0, .int 0, .int 0, .ref a2, .int 0, .ref a3, .ref a4, .ref a5, .ref a6, .int 0, .int 0, .int 0, .int 0, .int 0, .int 0, .int 0, .int (-1), .int (-1), .int (-1), .int 0, .int 0, .int 0, .ref a7, .ref a8, .ref a9, .ref a10, .ref a11, .ref a12, .ref a13, .int 0]))]) (wr := [(a1, .inl (k0, 7202, .inl (fun _ => 0)))]) [0] [1] rfl rfl (by decide) (by decide) hK hP hD hS hA (va_runV (As := [.int 1]) (rest := []) ⟨hx, hb, hml, hown, noTs⟩ (c_X12_refuse l dC dI s.heap.size a0 a1 a2 a3 a4 a5 a6 a7 a8 a9 a10 a11 a12 a13) ⟨cbE 1 (wd_1498 hE) (wd_126 hE) (wd_1495 hE) rfl rfl (by decide +kernel) ⟨Nat.le_of_ble_eq_true rfl, Nat.le_of_ble_eq_true rfl⟩, (wd_1497 hE), (wd_54 hE)⟩ ⟨PcE.blind, va_recv hK hP (ci := 11) (q0 := 0) rfl rfl, (pre_E (av := [.ref a0, .int 1]) (wc := [(a0, .inr (11, [.ref a1, .int 0, .int 0, .int 0, .ref a2, .int 0, .ref a3, .ref a4, .ref a5, .ref a6, .int 0, .int 0, .int 0, .int 0, .int 0, .int 0, .int 0, .int (-1), .int (-1), .int (-1), .int 0, .int 0, .int 0, .ref a7, .ref a8, .ref a9, .ref a10, .ref a11, .ref a12, .ref a13, .int 0]))]) (tysc := []) [0] [] rfl (by decide) rfl rfl hK hP hD hE)⟩ rfl rfl hl.1 rfl (lv_room (Nat.le_of_ble_eq_true rfl)) dX12_many_124 ⟨Nat.le_of_ble_eq_true rfl, Nat.le_of_ble_eq_true rfl⟩) (fun r22 u22 H locs hw22 hK hP hD hS => ?_)
  have hK : va_K (dC, dI) vwCl [(k0, .int)] s := hK
  have hP : va_P (dC, dI) vwCl [(a1, .inl (k0, 7202, .inl (fun _ => 0))), (a0, .inr (11, [.ref a1, .int 1, .int 0, .int 0, .ref a2, .int 0, .ref a3, .ref a4, .ref a5, .ref a6, .int 0, .int 0, .int 0, .int 0, .int 0, .int 0, .int 0, .int (-1), .int (-1), .int (-1), .int 0, .int 0, .int 0, .ref a7, .ref a8, .ref a9, .ref a10, .ref a11, .ref a12, .ref a13, .int 0]))] H := hP
  have hD : va_D A [(a1, .inl (k0, 7202, .inl (fun _ => 0))), (a0, .inr (11, [.ref a1, .int 1, .int 0, .int 0, .ref a2, .int 0, .ref a3, .ref a4, .ref a5, .ref a6, .int 0, .int 0, .int 0, .int 0, .int 0, .int 0, .int 0, .int (-1), .int (-1), .int (-1), .int 0, .int 0, .int 0, .ref a7, .ref a8, .ref a9, .ref a10, .ref a11, .ref a12, .ref a13, .int 0]))] := hD
  subst hw22
  refine W.eq (g2 := F0 m 127 ls [.int (-1)]) rfl ?_
  have hP9 := hP.sub (ws' := []) [] rfl
  have hD9 := hD.sub (ws' := []) [] (by decide) rfl
  have hK9 := hK.sub (tys' := []) [] rfl
  refine W.widen (k := 0) (n := 0) (Nat.le_of_ble_eq_true rfl) (Nat.le_of_ble_eq_true rfl) ?_
  exact W.iret (v := -1) hx hb hr (fun t ht hW => ⟨⟨-1, (), rfl, (if_neg (by simp only [i_le, ti_m9, ti_m1, ti_0, ti_1, ti_2, ti_3, ti_4, ti_5, ti_6, ti_7, ti_9, ti_12, ti_20, ti_99, ti_700]; omega)).symm, by rw [ht]; exact hP9, va_K.moved hW.alike hK9, hD9⟩, hS.F ht⟩) hS.2.2 dX12_many_127

set_option maxHeartbeats 4000000 in
set_option maxRecDepth 100000 in
theorem c_X12_isVertex (l : Launch) (dC : Nat → ClassId) (dI : Nat → Nat → Nat) (sz : Nat)  (a0 a1 a2 a3 a4 a5 a6 a7 a8 a9 a10 a11 a12 a13 : Nat) (k0 : ClassId) (v0 : Int32)  : Met l yX12_isVertex [.code yX12_isVertex cX12_isVertex 2 (some .boolean)] ({ frames := 1, cells := 0, slots := 0, locals := 40 }) (PcE [.ref a0, .int v0] sz dC dI [(k0, .int)] [(a0, .inr (11, [.ref a1, .int 0, .int 0, .int 0, .ref a2, .int 0, .ref a3, .ref a4, .ref a5, .ref a6, .int 0, .int 0, .int 0, .int 0, .int 0, .int 0, .int 0, .int (-1), .int (-1), .int (-1), .int 0, .int 0, .int 0, .ref a7, .ref a8, .ref a9, .ref a10, .ref a11, .ref a12, .ref a13, .int 0])), (a1, .inl (k0, 7202, .inl (fun _ => 0)))]) (va_Qi (fun (r : Int32) (u : Unit) => r = 0) (Bw dC dI (va_A [(a0, .inr (11, [.ref a1, .int 0, .int 0, .int 0, .ref a2, .int 0, .ref a3, .ref a4, .ref a5, .ref a6, .int 0, .int 0, .int 0, .int 0, .int 0, .int 0, .int 0, .int (-1), .int (-1), .int (-1), .int 0, .int 0, .int 0, .ref a7, .ref a8, .ref a9, .ref a10, .ref a11, .ref a12, .ref a13, .int 0])), (a1, .inl (k0, 7202, .inl (fun _ => 0)))] sz) (fun (u : Unit) => []) (fun (u : Unit) => [(a0, .inr (11, [.ref a1, .int 0, .int 0, .int 0, .ref a2, .int 0, .ref a3, .ref a4, .ref a5, .ref a6, .int 0, .int 0, .int 0, .int 0, .int 0, .int 0, .int 0, .int (-1), .int (-1), .int (-1), .int 0, .int 0, .int 0, .ref a7, .ref a8, .ref a9, .ref a10, .ref a11, .ref a12, .ref a13, .int 0])), (a1, .inl (k0, 7202, .inl (fun _ => 0)))])) (va_A [(a0, .inr (11, [.ref a1, .int 0, .int 0, .int 0, .ref a2, .int 0, .ref a3, .ref a4, .ref a5, .ref a6, .int 0, .int 0, .int 0, .int 0, .int 0, .int 0, .int 0, .int (-1), .int (-1), .int (-1), .int 0, .int 0, .int 0, .ref a7, .ref a8, .ref a9, .ref a10, .ref a11, .ref a12, .ref a13, .int 0])), (a1, .inl (k0, 7202, .inl (fun _ => 0)))] sz)) 0 0 (va_A [(a0, .inr (11, [.ref a1, .int 0, .int 0, .int 0, .ref a2, .int 0, .ref a3, .ref a4, .ref a5, .ref a6, .int 0, .int 0, .int 0, .int 0, .int 0, .int 0, .int 0, .int (-1), .int (-1), .int (-1), .int 0, .int 0, .int 0, .ref a7, .ref a8, .ref a9, .ref a10, .ref a11, .ref a12, .ref a13, .int 0])), (a1, .inl (k0, 7202, .inl (fun _ => 0)))] sz) := by
  refine Met.ofW (cc := cX12_isVertex) (maxL := 2) (ret := (some .boolean)) (by decide) rfl ?_
  intro p e s m args below meth c s₁ B hml hv
  obtain ⟨rfl, hsz, hP, hK, hD0, hE⟩ := hv
  have hx := B.exec
  have hb := B.bytes
  have hr := B.returns
  have hown : s.vm.findClass RX12 = some m.cls := findClass_of_methodNamed B.named
  have hlocks := B.notSynchronized
  subst hsz
  have hD := hD0.self (sz := s.heap.size)
  generalize hAe : va_A [(a0, .inr (11, [.ref a1, .int 0, .int 0, .int 0, .ref a2, .int 0, .ref a3, .ref a4, .ref a5, .ref a6, .int 0, .int 0, .int 0, .int 0, .int 0, .int 0, .int 0, .int (-1), .int (-1), .int (-1), .int 0, .int 0, .int 0, .ref a7, .ref a8, .ref a9, .ref a10, .ref a11, .ref a12, .ref a13, .int 0])), (a1, .inl (k0, 7202, .inl (fun _ => 0)))] s.heap.size = A at hD ⊢
  have hA : ∀ q : Nat, s.heap.size ≤ q → A q := fun q h => by rw [← hAe]; exact Or.inr h
  have hS : va_S A s.heap s.heap [] := va_S.rf
  have hl := lv_entry ([.ref a0, .int v0]) (n := 2) (Nat.le_of_ble_eq_true rfl)
  rw [lg_entry_eq]
  generalize (lg_sl ([.ref a0, .int v0]) ++ List.replicate (2 - (lg_sl ([.ref a0, .int v0])).length) Slot.unset).toArray = ls at hl ⊢
  have hl : lv_has ls 2 [(0, .ref a0), (1, .int v0)] := hl
  refine lv_iload_n hx hb dX12_isVertex_0 rfl (lv_at hl 1 rfl) ?_
  refine lv_if_lt (tgt := 17) hx hb dX12_isVertex_1 (by decide) (fun c1 => ?_) (fun c1 => ?_)
  · refine lv_iconst (v := 0) hx hb dX12_isVertex_17 (by decide) ?_
    have hP9 := hP.sub (ws' := [(a0, .inr (11, [.ref a1, .int 0, .int 0, .int 0, .ref a2, .int 0, .ref a3, .ref a4, .ref a5, .ref a6, .int 0, .int 0, .int 0, .int 0, .int 0, .int 0, .int 0, .int (-1), .int (-1), .int (-1), .int 0, .int 0, .int 0, .ref a7, .ref a8, .ref a9, .ref a10, .ref a11, .ref a12, .ref a13, .int 0])), (a1, .inl (k0, 7202, .inl (fun _ => 0)))]) [0, 1] rfl
    have hD9 := hD.sub (ws' := [(a0, .inr (11, [.ref a1, .int 0, .int 0, .int 0, .ref a2, .int 0, .ref a3, .ref a4, .ref a5, .ref a6, .int 0, .int 0, .int 0, .int 0, .int 0, .int 0, .int 0, .int (-1), .int (-1), .int (-1), .int 0, .int 0, .int 0, .ref a7, .ref a8, .ref a9, .ref a10, .ref a11, .ref a12, .ref a13, .int 0])), (a1, .inl (k0, 7202, .inl (fun _ => 0)))]) [0, 1] (by decide) rfl
    have hK9 := hK.sub (tys' := []) [] rfl
    refine W.widen (k := 0) (n := 0) (Nat.le_of_ble_eq_true rfl) (Nat.le_of_ble_eq_true rfl) ?_
    exact W.zret (v := 0) hx hb hr rfl (fun t ht hW => ⟨⟨0, (), rfl, rfl, by rw [ht]; exact hP9, va_K.moved hW.alike hK9, hD9⟩, hS.F ht⟩) hS.2.2 dX12_isVertex_18
  · refine lv_iload_n hx hb dX12_isVertex_4 rfl (lv_at hl 1 rfl) ?_
    refine lv_aload_n hx hb dX12_isVertex_5 rfl (lv_at hl 0 rfl) ?_
    refine lv_iconst (v := 0) hx hb dX12_isVertex_6 (by decide) ?_
    refine cl_i (wc := [(a0, .inr (11, [.ref a1, .int 0, .int 0, .int 0, .ref a2, .int 0, .ref a3, .ref a4, .ref a5, .ref a6, .int 0, .int 0, .int 0, .int 0, .int 0, .int 0, .int 0, .int (-1), .int (-1), .int (-1), .int 0, .int 0, .int 0, .ref a7, .ref a8, .ref a9, .ref a10, .ref a11, .ref a12, .ref a13, .int 0])), (a1, .inl (k0, 7202, .inl (fun _ => 0)))]) (wr := []) [0, 1] [] rfl rfl (by decide) (by decide) hK hP hD hS hA (va_runV (As := [.int 0]) (rest := [.int v0]) ⟨hx, hb, hml, hown, noTs⟩ (c_X12_of_2 l dC dI s.heap.size a0 a1 a2 a3 a4 a5 a6 a7 a8 a9 a10 a11 a12 a13 k0) ⟨cbE 1 (wd_1536 hE) (wd_126 hE) (wd_1533 hE) rfl rfl (by decide +kernel) ⟨Nat.le_of_ble_eq_true rfl, Nat.le_of_ble_eq_true rfl⟩, (wd_1535 hE), (wd_61 hE)⟩ ⟨PcE.blind, va_recv hK hP (ci := 11) (q0 := 0) rfl rfl, (pre_E (av := [.ref a0, .int 0]) (wc := [(a0, .inr (11, [.ref a1, .int 0, .int 0, .int 0, .ref a2, .int 0, .ref a3, .ref a4, .ref a5, .ref a6, .int 0, .int 0, .int 0, .int 0, .int 0, .int 0, .int 0, .int (-1), .int (-1), .int (-1), .int 0, .int 0, .int 0, .ref a7, .ref a8, .ref a9, .ref a10, .ref a11, .ref a12, .ref a13, .int 0])), (a1, .inl (k0, 7202, .inl (fun _ => 0)))]) (tysc := [(k0, .int)]) [0, 1] [0] rfl (by decide) rfl rfl hK hP hD hE)⟩ rfl rfl hl.1 rfl (lv_room (Nat.le_of_ble_eq_true rfl)) dX12_isVertex_7 ⟨Nat.le_of_ble_eq_true rfl, Nat.le_of_ble_eq_true rfl⟩) (fun r2 u2 H locs hw2 hK hP hD hS => ?_)
    have hK : va_K (dC, dI) vwCl [(k0, .int)] s := hK
    have hP : va_P (dC, dI) vwCl [(a0, .inr (11, [.ref a1, .int 0, .int 0, .int 0, .ref a2, .int 0, .ref a3, .ref a4, .ref a5, .ref a6, .int 0, .int 0, .int 0, .int 0, .int 0, .int 0, .int 0, .int (-1), .int (-1), .int (-1), .int 0, .int 0, .int 0, .ref a7, .ref a8, .ref a9, .ref a10, .ref a11, .ref a12, .ref a13, .int 0])), (a1, .inl (k0, 7202, .inl (fun _ => 0)))] H := hP
    have hD : va_D A [(a0, .inr (11, [.ref a1, .int 0, .int 0, .int 0, .ref a2, .int 0, .ref a3, .ref a4, .ref a5, .ref a6, .int 0, .int 0, .int 0, .int 0, .int 0, .int 0, .int 0, .int (-1), .int (-1), .int (-1), .int 0, .int 0, .int 0, .ref a7, .ref a8, .ref a9, .ref a10, .ref a11, .ref a12, .ref a13, .int 0])), (a1, .inl (k0, 7202, .inl (fun _ => 0)))] := hD
    subst hw2
    refine W.eq (g2 := F0 m 10 ls [.int 0, .int v0]) rfl ?_
    refine lv_icmp_ge (tgt := 17) hx hb dX12_isVertex_10 (by decide) (fun c3 => ?_) (fun c3 => False.elim (by simp only [i_lt, i_le, i_eq, ti_m9, ti_m1, ti_0, ti_1, ti_2, ti_3, ti_4, ti_5, ti_6, ti_7, ti_9, ti_12, ti_20, ti_99, ti_700] at c1 c3; omega))
    refine lv_iconst (v := 0) hx hb dX12_isVertex_17 (by decide) ?_
    have hP9 := hP.sub (ws' := [(a0, .inr (11, [.ref a1, .int 0, .int 0, .int 0, .ref a2, .int 0, .ref a3, .ref a4, .ref a5, .ref a6, .int 0, .int 0, .int 0, .int 0, .int 0, .int 0, .int 0, .int (-1), .int (-1), .int (-1), .int 0, .int 0, .int 0, .ref a7, .ref a8, .ref a9, .ref a10, .ref a11, .ref a12, .ref a13, .int 0])), (a1, .inl (k0, 7202, .inl (fun _ => 0)))]) [0, 1] rfl
    have hD9 := hD.sub (ws' := [(a0, .inr (11, [.ref a1, .int 0, .int 0, .int 0, .ref a2, .int 0, .ref a3, .ref a4, .ref a5, .ref a6, .int 0, .int 0, .int 0, .int 0, .int 0, .int 0, .int 0, .int (-1), .int (-1), .int (-1), .int 0, .int 0, .int 0, .ref a7, .ref a8, .ref a9, .ref a10, .ref a11, .ref a12, .ref a13, .int 0])), (a1, .inl (k0, 7202, .inl (fun _ => 0)))]) [0, 1] (by decide) rfl
    have hK9 := hK.sub (tys' := []) [] rfl
    refine W.widen (k := 0) (n := 0) (Nat.le_of_ble_eq_true rfl) (Nat.le_of_ble_eq_true rfl) ?_
    exact W.zret (v := 0) hx hb hr rfl (fun t ht hW => ⟨⟨0, (), rfl, rfl, by rw [ht]; exact hP9, va_K.moved hW.alike hK9, hD9⟩, hS.F ht⟩) hS.2.2 dX12_isVertex_18

set_option maxHeartbeats 4000000 in
set_option maxRecDepth 100000 in
theorem c_X12_refuse_2 (l : Launch) (dC : Nat → ClassId) (dI : Nat → Nat → Nat) (sz : Nat)  (a0 a1 a2 a3 a4 a5 a6 a7 a8 a9 a10 a11 a12 a13 : Nat)  : Met l yX12_refuse [.code yX12_refuse cX12_refuse 2 (some .int)] ({ frames := 0, cells := 0, slots := 0, locals := 0 }) (PcE [.ref a0, .int 2] sz dC dI [] [(a0, .inr (11, [.ref a1, .int 0, .int 0, .int 0, .ref a2, .int 0, .ref a3, .ref a4, .ref a5, .ref a6, .int 0, .int 0, .int 0, .int 0, .int 0, .int 0, .int 0, .int (-1), .int (-1), .int (-1), .int 0, .int 0, .int 0, .ref a7, .ref a8, .ref a9, .ref a10, .ref a11, .ref a12, .ref a13, .int 0]))]) (va_Qi (fun (r : Int32) (u : Unit) => r = -1) (Bw dC dI (va_A [(a0, .inr (11, [.ref a1, .int 0, .int 0, .int 0, .ref a2, .int 0, .ref a3, .ref a4, .ref a5, .ref a6, .int 0, .int 0, .int 0, .int 0, .int 0, .int 0, .int 0, .int (-1), .int (-1), .int (-1), .int 0, .int 0, .int 0, .ref a7, .ref a8, .ref a9, .ref a10, .ref a11, .ref a12, .ref a13, .int 0]))] sz) (fun (u : Unit) => []) (fun (u : Unit) => [(a0, .inr (11, [.ref a1, .int 2, .int 0, .int 0, .ref a2, .int 0, .ref a3, .ref a4, .ref a5, .ref a6, .int 0, .int 0, .int 0, .int 0, .int 0, .int 0, .int 0, .int (-1), .int (-1), .int (-1), .int 0, .int 0, .int 0, .ref a7, .ref a8, .ref a9, .ref a10, .ref a11, .ref a12, .ref a13, .int 0]))])) (va_A [(a0, .inr (11, [.ref a1, .int 0, .int 0, .int 0, .ref a2, .int 0, .ref a3, .ref a4, .ref a5, .ref a6, .int 0, .int 0, .int 0, .int 0, .int 0, .int 0, .int 0, .int (-1), .int (-1), .int (-1), .int 0, .int 0, .int 0, .ref a7, .ref a8, .ref a9, .ref a10, .ref a11, .ref a12, .ref a13, .int 0]))] sz)) 0 0 (va_A [(a0, .inr (11, [.ref a1, .int 0, .int 0, .int 0, .ref a2, .int 0, .ref a3, .ref a4, .ref a5, .ref a6, .int 0, .int 0, .int 0, .int 0, .int 0, .int 0, .int 0, .int (-1), .int (-1), .int (-1), .int 0, .int 0, .int 0, .ref a7, .ref a8, .ref a9, .ref a10, .ref a11, .ref a12, .ref a13, .int 0]))] sz) := by
  refine Met.ofW (cc := cX12_refuse) (maxL := 2) (ret := (some .int)) (by decide) rfl ?_
  intro p e s m args below meth c s₁ B hml hv
  obtain ⟨rfl, hsz, hP, hK, hD0, hE⟩ := hv
  have hx := B.exec
  have hb := B.bytes
  have hr := B.returns
  have hown : s.vm.findClass RX12 = some m.cls := findClass_of_methodNamed B.named
  have hlocks := B.notSynchronized
  subst hsz
  have hD := hD0.self (sz := s.heap.size)
  generalize hAe : va_A [(a0, .inr (11, [.ref a1, .int 0, .int 0, .int 0, .ref a2, .int 0, .ref a3, .ref a4, .ref a5, .ref a6, .int 0, .int 0, .int 0, .int 0, .int 0, .int 0, .int 0, .int (-1), .int (-1), .int (-1), .int 0, .int 0, .int 0, .ref a7, .ref a8, .ref a9, .ref a10, .ref a11, .ref a12, .ref a13, .int 0]))] s.heap.size = A at hD ⊢
  have hA : ∀ q : Nat, s.heap.size ≤ q → A q := fun q h => by rw [← hAe]; exact Or.inr h
  have hS : va_S A s.heap s.heap [] := va_S.rf
  have hl := lv_entry ([.ref a0, .int 2]) (n := 2) (Nat.le_of_ble_eq_true rfl)
  rw [lg_entry_eq]
  generalize (lg_sl ([.ref a0, .int 2]) ++ List.replicate (2 - (lg_sl ([.ref a0, .int 2])).length) Slot.unset).toArray = ls at hl ⊢
  have hl : lv_has ls 2 [(0, .ref a0), (1, .int 2)] := hl
  refine lv_aload_n hx hb dX12_refuse_0 rfl (lv_at hl 0 rfl) ?_
  refine lv_iload_n hx hb dX12_refuse_1 rfl (lv_at hl 1 rfl) ?_
  refine va_put (D := (dC, dI)) (ci := 11) (v := .int 2) (ty := .int) (C := RX12) (T := TX12) (N := 31) hx hb (ly_X12 hE) (fun _ h9 => h9) tyX12 tyX12_ok nmX12 hown hK hP hD hS 0 rfl rfl 1 (by decide) (wd_1382 hE) (fun _ h9 => h9) rfl (by decide +kernel) rfl rfl (Nat.le_of_ble_eq_true rfl) dX12_refuse_2 (fun H locs hP hD hS => ?_)
  have hP : va_P (dC, dI) vwCl [(a0, .inr (11, [.ref a1, .int 2, .int 0, .int 0, .ref a2, .int 0, .ref a3, .ref a4, .ref a5, .ref a6, .int 0, .int 0, .int 0, .int 0, .int 0, .int 0, .int 0, .int (-1), .int (-1), .int (-1), .int 0, .int 0, .int 0, .ref a7, .ref a8, .ref a9, .ref a10, .ref a11, .ref a12, .ref a13, .int 0]))] H := hP
  have hD : va_D A [(a0, .inr (11, [.ref a1, .int 2, .int 0, .int 0, .ref a2, .int 0, .ref a3, .ref a4, .ref a5, .ref a6, .int 0, .int 0, .int 0, .int 0, .int 0, .int 0, .int 0, .int (-1), .int (-1), .int (-1), .int 0, .int 0, .int 0, .ref a7, .ref a8, .ref a9, .ref a10, .ref a11, .ref a12, .ref a13, .int 0]))] := hD
  refine lv_iconst (v := -1) hx hb dX12_refuse_5 (by decide) ?_
  have hP9 := hP.sub (ws' := [(a0, .inr (11, [.ref a1, .int 2, .int 0, .int 0, .ref a2, .int 0, .ref a3, .ref a4, .ref a5, .ref a6, .int 0, .int 0, .int 0, .int 0, .int 0, .int 0, .int 0, .int (-1), .int (-1), .int (-1), .int 0, .int 0, .int 0, .ref a7, .ref a8, .ref a9, .ref a10, .ref a11, .ref a12, .ref a13, .int 0]))]) [0] rfl
  have hD9 := hD.sub (ws' := [(a0, .inr (11, [.ref a1, .int 2, .int 0, .int 0, .ref a2, .int 0, .ref a3, .ref a4, .ref a5, .ref a6, .int 0, .int 0, .int 0, .int 0, .int 0, .int 0, .int 0, .int (-1), .int (-1), .int (-1), .int 0, .int 0, .int 0, .ref a7, .ref a8, .ref a9, .ref a10, .ref a11, .ref a12, .ref a13, .int 0]))]) [0] (by decide) rfl
  have hK9 := hK.sub (tys' := []) [] rfl
  refine W.widen (k := 0) (n := 0) (Nat.le_of_ble_eq_true rfl) (Nat.le_of_ble_eq_true rfl) ?_
  exact W.iret (v := -1) hx hb hr (fun t ht hW => ⟨⟨-1, (), rfl, rfl, by rw [ht]; exact hP9, va_K.moved hW.alike hK9, hD9⟩, hS.F ht⟩) hS.2.2 dX12_refuse_6

set_option maxHeartbeats 4000000 in
set_option maxRecDepth 100000 in
theorem c_X12_order (l : Launch) (dC : Nat → ClassId) (dI : Nat → Nat → Nat) (sz : Nat)  (a0 a1 a2 a3 a4 a5 a6 a7 a8 a9 a10 a11 a12 a13 : Nat) (k0 : ClassId) (v0 : Int32)  : Met l yX12_order [.code yX12_order cX12_order 2 (some .int)] ({ frames := 2, cells := 0, slots := 0, locals := 80 }) (PcE [.ref a0, .int v0] sz dC dI [(k0, .int)] [(a0, .inr (11, [.ref a1, .int 0, .int 0, .int 0, .ref a2, .int 0, .ref a3, .ref a4, .ref a5, .ref a6, .int 0, .int 0, .int 0, .int 0, .int 0, .int 0, .int 0, .int (-1), .int (-1), .int (-1), .int 0, .int 0, .int 0, .ref a7, .ref a8, .ref a9, .ref a10, .ref a11, .ref a12, .ref a13, .int 0])), (a1, .inl (k0, 7202, .inl (fun _ => 0)))]) (va_Qi (fun (r : Int32) (u : Unit) => r = -1) (Bw dC dI (va_A [(a0, .inr (11, [.ref a1, .int 0, .int 0, .int 0, .ref a2, .int 0, .ref a3, .ref a4, .ref a5, .ref a6, .int 0, .int 0, .int 0, .int 0, .int 0, .int 0, .int 0, .int (-1), .int (-1), .int (-1), .int 0, .int 0, .int 0, .ref a7, .ref a8, .ref a9, .ref a10, .ref a11, .ref a12, .ref a13, .int 0])), (a1, .inl (k0, 7202, .inl (fun _ => 0)))] sz) (fun (u : Unit) => []) (fun (u : Unit) => [])) (va_A [(a0, .inr (11, [.ref a1, .int 0, .int 0, .int 0, .ref a2, .int 0, .ref a3, .ref a4, .ref a5, .ref a6, .int 0, .int 0, .int 0, .int 0, .int 0, .int 0, .int 0, .int (-1), .int (-1), .int (-1), .int 0, .int 0, .int 0, .ref a7, .ref a8, .ref a9, .ref a10, .ref a11, .ref a12, .ref a13, .int 0])), (a1, .inl (k0, 7202, .inl (fun _ => 0)))] sz)) 0 0 (va_A [(a0, .inr (11, [.ref a1, .int 0, .int 0, .int 0, .ref a2, .int 0, .ref a3, .ref a4, .ref a5, .ref a6, .int 0, .int 0, .int 0, .int 0, .int 0, .int 0, .int 0, .int (-1), .int (-1), .int (-1), .int 0, .int 0, .int 0, .ref a7, .ref a8, .ref a9, .ref a10, .ref a11, .ref a12, .ref a13, .int 0])), (a1, .inl (k0, 7202, .inl (fun _ => 0)))] sz) := by
  refine Met.ofW (cc := cX12_order) (maxL := 2) (ret := (some .int)) (by decide) rfl ?_
  intro p e s m args below meth c s₁ B hml hv
  obtain ⟨rfl, hsz, hP, hK, hD0, hE⟩ := hv
  have hx := B.exec
  have hb := B.bytes
  have hr := B.returns
  have hown : s.vm.findClass RX12 = some m.cls := findClass_of_methodNamed B.named
  have hlocks := B.notSynchronized
  subst hsz
  have hD := hD0.self (sz := s.heap.size)
  generalize hAe : va_A [(a0, .inr (11, [.ref a1, .int 0, .int 0, .int 0, .ref a2, .int 0, .ref a3, .ref a4, .ref a5, .ref a6, .int 0, .int 0, .int 0, .int 0, .int 0, .int 0, .int 0, .int (-1), .int (-1), .int (-1), .int 0, .int 0, .int 0, .ref a7, .ref a8, .ref a9, .ref a10, .ref a11, .ref a12, .ref a13, .int 0])), (a1, .inl (k0, 7202, .inl (fun _ => 0)))] s.heap.size = A at hD ⊢
  have hA : ∀ q : Nat, s.heap.size ≤ q → A q := fun q h => by rw [← hAe]; exact Or.inr h
  have hS : va_S A s.heap s.heap [] := va_S.rf
  have hl := lv_entry ([.ref a0, .int v0]) (n := 2) (Nat.le_of_ble_eq_true rfl)
  rw [lg_entry_eq]
  generalize (lg_sl ([.ref a0, .int v0]) ++ List.replicate (2 - (lg_sl ([.ref a0, .int v0])).length) Slot.unset).toArray = ls at hl ⊢
  have hl : lv_has ls 2 [(0, .ref a0), (1, .int v0)] := hl
  refine lv_aload_n hx hb dX12_order_0 rfl (lv_at hl 0 rfl) ?_
  refine lv_iload_n hx hb dX12_order_1 rfl (lv_at hl 1 rfl) ?_
  refine cl_i (wc := [(a0, .inr (11, [.ref a1, .int 0, .int 0, .int 0, .ref a2, .int 0, .ref a3, .ref a4, .ref a5, .ref a6, .int 0, .int 0, .int 0, .int 0, .int 0, .int 0, .int 0, .int (-1), .int (-1), .int (-1), .int 0, .int 0, .int 0, .ref a7, .ref a8, .ref a9, .ref a10, .ref a11, .ref a12, .ref a13, .int 0])), (a1, .inl (k0, 7202, .inl (fun _ => 0)))]) (wr := []) [0, 1] [] rfl rfl (by decide) (by decide) hK hP hD hS hA (va_runV (As := [.int v0]) (rest := []) ⟨hx, hb, hml, hown, noTs⟩ (c_X12_isVertex l dC dI s.heap.size a0 a1 a2 a3 a4 a5 a6 a7 a8 a9 a10 a11 a12 a13 k0 v0) ⟨cbE 1 (wd_1560 hE) (wd_126 hE) (wd_1557 hE) rfl rfl (by decide +kernel) ⟨Nat.le_of_ble_eq_true rfl, Nat.le_of_ble_eq_true rfl⟩, (wd_1559 hE), (wd_67 hE)⟩ ⟨PcE.blind, va_recv hK hP (ci := 11) (q0 := 0) rfl rfl, (pre_E (av := [.ref a0, .int v0]) (wc := [(a0, .inr (11, [.ref a1, .int 0, .int 0, .int 0, .ref a2, .int 0, .ref a3, .ref a4, .ref a5, .ref a6, .int 0, .int 0, .int 0, .int 0, .int 0, .int 0, .int 0, .int (-1), .int (-1), .int (-1), .int 0, .int 0, .int 0, .ref a7, .ref a8, .ref a9, .ref a10, .ref a11, .ref a12, .ref a13, .int 0])), (a1, .inl (k0, 7202, .inl (fun _ => 0)))]) (tysc := [(k0, .int)]) [0, 1] [0] rfl (by decide) rfl rfl hK hP hD hE)⟩ rfl rfl hl.1 rfl (lv_room (Nat.le_of_ble_eq_true rfl)) dX12_order_2 ⟨Nat.le_of_ble_eq_true rfl, Nat.le_of_ble_eq_true rfl⟩) (fun r1 u1 H locs hw1 hK hP hD hS => ?_)
  have hK : va_K (dC, dI) vwCl [(k0, .int)] s := hK
  have hP : va_P (dC, dI) vwCl [(a0, .inr (11, [.ref a1, .int 0, .int 0, .int 0, .ref a2, .int 0, .ref a3, .ref a4, .ref a5, .ref a6, .int 0, .int 0, .int 0, .int 0, .int 0, .int 0, .int 0, .int (-1), .int (-1), .int (-1), .int 0, .int 0, .int 0, .ref a7, .ref a8, .ref a9, .ref a10, .ref a11, .ref a12, .ref a13, .int 0])), (a1, .inl (k0, 7202, .inl (fun _ => 0)))] H := hP
  have hD : va_D A [(a0, .inr (11, [.ref a1, .int 0, .int 0, .int 0, .ref a2, .int 0, .ref a3, .ref a4, .ref a5, .ref a6, .int 0, .int 0, .int 0, .int 0, .int 0, .int 0, .int 0, .int (-1), .int (-1), .int (-1), .int 0, .int 0, .int 0, .ref a7, .ref a8, .ref a9, .ref a10, .ref a11, .ref a12, .ref a13, .int 0])), (a1, .inl (k0, 7202, .inl (fun _ => 0)))] := hD
  subst hw1
  refine W.eq (g2 := F0 m 5 ls [.int 0]) rfl ?_
  refine lv_if_eq (tgt := 20) hx hb dX12_order_5 (by decide) (fun c2 => ?_) (fun c2 => absurd c2 (by decide))
  refine lv_aload_n hx hb dX12_order_20 rfl (lv_at hl 0 rfl) ?_
  refine lv_iconst (v := 2) hx hb dX12_order_21 (by decide) ?_
  refine cl_i (wc := [(a0, .inr (11, [.ref a1, .int 0, .int 0, .int 0, .ref a2, .int 0, .ref a3, .ref a4, .ref a5, .ref a6, .int 0, .int 0, .int 0, .int 0, .int 0, .int 0, .int 0, .int (-1), .int (-1), .int (-1), .int 0, .int 0, .int 0, .ref a7, .ref a8, .ref a9, .ref a10, .ref a11, .ref a12, .ref a13, .int 0]))]) (wr := [(a1, .inl (k0, 7202, .inl (fun _ => 0)))]) [0] [1] rfl rfl (by decide) (by decide) hK hP hD hS hA (va_runV (As := [.int 2]) (rest := []) ⟨hx, hb, hml, hown, noTs⟩ (c_X12_refuse_2 l dC dI H.size a0 a1 a2 a3 a4 a5 a6 a7 a8 a9 a10 a11 a12 a13) ⟨cbE 1 (wd_1498 hE) (wd_126 hE) (wd_1495 hE) rfl rfl (by decide +kernel) ⟨Nat.le_of_ble_eq_true rfl, Nat.le_of_ble_eq_true rfl⟩, (wd_1497 hE), (wd_54 hE)⟩ ⟨PcE.blind, va_recv hK hP (ci := 11) (q0 := 0) rfl rfl, (pre_E (av := [.ref a0, .int 2]) (wc := [(a0, .inr (11, [.ref a1, .int 0, .int 0, .int 0, .ref a2, .int 0, .ref a3, .ref a4, .ref a5, .ref a6, .int 0, .int 0, .int 0, .int 0, .int 0, .int 0, .int 0, .int (-1), .int (-1), .int (-1), .int 0, .int 0, .int 0, .ref a7, .ref a8, .ref a9, .ref a10, .ref a11, .ref a12, .ref a13, .int 0]))]) (tysc := []) [0] [] rfl (by decide) rfl rfl hK hP hD hE)⟩ rfl rfl hl.1 rfl (lv_room (Nat.le_of_ble_eq_true rfl)) dX12_order_22 ⟨Nat.le_of_ble_eq_true rfl, Nat.le_of_ble_eq_true rfl⟩) (fun r3 u3 H locs hw3 hK hP hD hS => ?_)
  have hK : va_K (dC, dI) vwCl [(k0, .int)] s := hK
  have hP : va_P (dC, dI) vwCl [(a1, .inl (k0, 7202, .inl (fun _ => 0))), (a0, .inr (11, [.ref a1, .int 2, .int 0, .int 0, .ref a2, .int 0, .ref a3, .ref a4, .ref a5, .ref a6, .int 0, .int 0, .int 0, .int 0, .int 0, .int 0, .int 0, .int (-1), .int (-1), .int (-1), .int 0, .int 0, .int 0, .ref a7, .ref a8, .ref a9, .ref a10, .ref a11, .ref a12, .ref a13, .int 0]))] H := hP
  have hD : va_D A [(a1, .inl (k0, 7202, .inl (fun _ => 0))), (a0, .inr (11, [.ref a1, .int 2, .int 0, .int 0, .ref a2, .int 0, .ref a3, .ref a4, .ref a5, .ref a6, .int 0, .int 0, .int 0, .int 0, .int 0, .int 0, .int 0, .int (-1), .int (-1), .int (-1), .int 0, .int 0, .int 0, .ref a7, .ref a8, .ref a9, .ref a10, .ref a11, .ref a12, .ref a13, .int 0]))] := hD
  subst hw3
  refine W.eq (g2 := F0 m 25 ls [.int (-1)]) rfl ?_
  have hP9 := hP.sub (ws' := []) [] rfl
  have hD9 := hD.sub (ws' := []) [] (by decide) rfl
  have hK9 := hK.sub (tys' := []) [] rfl
  refine W.widen (k := 0) (n := 0) (Nat.le_of_ble_eq_true rfl) (Nat.le_of_ble_eq_true rfl) ?_
  exact W.iret (v := -1) hx hb hr (fun t ht hW => ⟨⟨-1, (), rfl, rfl, by rw [ht]; exact hP9, va_K.moved hW.alike hK9, hD9⟩, hS.F ht⟩) hS.2.2 dX12_order_25

set_option maxHeartbeats 4000000 in
set_option maxRecDepth 100000 in
theorem c_isFrom_0_4 (l : Launch) (dC : Nat → ClassId) (dI : Nat → Nat → Nat) (sz : Nat)  (v0 : Int32)  : Met l yX12_isFrom [.code yX12_isFrom cX12_isFrom 3 (some .boolean)] ({ frames := 0, cells := 0, slots := 0, locals := 0 }) (PcE [.int v0, .int 0, .int 4] sz dC dI [] []) (va_Qi (fun (r : Int32) (u : Unit) => (r = 1 ∧ 0 ≤ v0 ∧ v0 ≤ 4) ∨ (r = 0 ∧ ¬ (0 ≤ v0 ∧ v0 ≤ 4))) (Bw dC dI (va_A [] sz) (fun (u : Unit) => []) (fun (u : Unit) => [])) (va_A [] sz)) 0 0 (va_A [] sz) := by
  refine Met.ofW (cc := cX12_isFrom) (maxL := 3) (ret := (some .boolean)) (by decide) rfl ?_
  intro p e s m args below meth c s₁ B hml hv
  obtain ⟨rfl, hsz, hP, hK, hD0, hE⟩ := hv
  have hx := B.exec
  have hb := B.bytes
  have hr := B.returns
  have hown : s.vm.findClass RX12 = some m.cls := findClass_of_methodNamed B.named
  have hlocks := B.notSynchronized
  subst hsz
  have hD := hD0.self (sz := s.heap.size)
  generalize hAe : va_A [] s.heap.size = A at hD ⊢
  have hA : ∀ q : Nat, s.heap.size ≤ q → A q := fun q h => by rw [← hAe]; exact Or.inr h
  have hS : va_S A s.heap s.heap [] := va_S.rf
  have hl := lv_entry ([.int v0, .int 0, .int 4]) (n := 3) (Nat.le_of_ble_eq_true rfl)
  rw [lg_entry_eq]
  generalize (lg_sl ([.int v0, .int 0, .int 4]) ++ List.replicate (3 - (lg_sl ([.int v0, .int 0, .int 4])).length) Slot.unset).toArray = ls at hl ⊢
  have hl : lv_has ls 3 [(0, .int v0), (1, .int 0), (2, .int 4)] := hl
  refine lv_iload_n hx hb dX12_isFrom_0 rfl (lv_at hl 0 rfl) ?_
  refine lv_iload_n hx hb dX12_isFrom_1 rfl (lv_at hl 1 rfl) ?_
  refine lv_icmp_lt (tgt := 14) hx hb dX12_isFrom_2 (by decide) (fun c1 => ?_) (fun c1 => ?_)
  · refine lv_iconst (v := 0) hx hb dX12_isFrom_14 (by decide) ?_
    have hP9 := hP.sub (ws' := []) [] rfl
    have hD9 := hD.sub (ws' := []) [] (by decide) rfl
    have hK9 := hK.sub (tys' := []) [] rfl
    refine W.widen (k := 0) (n := 0) (Nat.le_of_ble_eq_true rfl) (Nat.le_of_ble_eq_true rfl) ?_
    exact W.zret (v := 0) hx hb hr rfl (fun t ht hW => ⟨⟨0, (), rfl, Or.inr ⟨rfl, (by simp only [i_lt, i_le, i_eq, ti_m9, ti_m1, ti_0, ti_1, ti_2, ti_3, ti_4, ti_5, ti_6, ti_7, ti_9, ti_12, ti_20, ti_99, ti_700] at c1 ⊢; omega)⟩, by rw [ht]; exact hP9, va_K.moved hW.alike hK9, hD9⟩, hS.F ht⟩) hS.2.2 dX12_isFrom_15
  · refine lv_iload_n hx hb dX12_isFrom_5 rfl (lv_at hl 0 rfl) ?_
    refine lv_iload_n hx hb dX12_isFrom_6 rfl (lv_at hl 2 rfl) ?_
    refine lv_icmp_gt (tgt := 14) hx hb dX12_isFrom_7 (by decide) (fun c2 => ?_) (fun c2 => ?_)
    · refine lv_iconst (v := 0) hx hb dX12_isFrom_14 (by decide) ?_
      have hP9 := hP.sub (ws' := []) [] rfl
      have hD9 := hD.sub (ws' := []) [] (by decide) rfl
      have hK9 := hK.sub (tys' := []) [] rfl
      refine W.widen (k := 0) (n := 0) (Nat.le_of_ble_eq_true rfl) (Nat.le_of_ble_eq_true rfl) ?_
      exact W.zret (v := 0) hx hb hr rfl (fun t ht hW => ⟨⟨0, (), rfl, Or.inr ⟨rfl, (by simp only [i_lt, i_le, i_eq, ti_m9, ti_m1, ti_0, ti_1, ti_2, ti_3, ti_4, ti_5, ti_6, ti_7, ti_9, ti_12, ti_20, ti_99, ti_700] at c1 c2 ⊢; omega)⟩, by rw [ht]; exact hP9, va_K.moved hW.alike hK9, hD9⟩, hS.F ht⟩) hS.2.2 dX12_isFrom_15
    · refine lv_iconst (v := 1) hx hb dX12_isFrom_10 (by decide) ?_
      refine lv_goto (tgt := 15) hx hb dX12_isFrom_11 (by decide) ?_
      have hP9 := hP.sub (ws' := []) [] rfl
      have hD9 := hD.sub (ws' := []) [] (by decide) rfl
      have hK9 := hK.sub (tys' := []) [] rfl
      refine W.widen (k := 0) (n := 0) (Nat.le_of_ble_eq_true rfl) (Nat.le_of_ble_eq_true rfl) ?_
      exact W.zret (v := 1) hx hb hr rfl (fun t ht hW => ⟨⟨1, (), rfl, Or.inl ⟨rfl, (by simp only [i_lt, i_le, i_eq, ti_m9, ti_m1, ti_0, ti_1, ti_2, ti_3, ti_4, ti_5, ti_6, ti_7, ti_9, ti_12, ti_20, ti_99, ti_700] at c1 c2 ⊢; omega), (by simp only [i_lt, i_le, i_eq, ti_m9, ti_m1, ti_0, ti_1, ti_2, ti_3, ti_4, ti_5, ti_6, ti_7, ti_9, ti_12, ti_20, ti_99, ti_700] at c1 c2 ⊢; omega)⟩, by rw [ht]; exact hP9, va_K.moved hW.alike hK9, hD9⟩, hS.F ht⟩) hS.2.2 dX12_isFrom_15

set_option maxHeartbeats 4000000 in
set_option maxRecDepth 100000 in
theorem c_X12_isEdge (l : Launch) (dC : Nat → ClassId) (dI : Nat → Nat → Nat) (sz : Nat)  (a0 a1 a2 a3 a4 a5 a6 a7 a8 a9 a10 a11 a12 a13 : Nat) (k0 : ClassId) (v0 : Int32)  : Met l yX12_isEdge [.code yX12_isEdge cX12_isEdge 2 (some .boolean)] ({ frames := 1, cells := 0, slots := 0, locals := 40 }) (PcE [.ref a0, .int v0] sz dC dI [(k0, .int)] [(a0, .inr (11, [.ref a1, .int 0, .int 0, .int 0, .ref a2, .int 0, .ref a3, .ref a4, .ref a5, .ref a6, .int 0, .int 0, .int 0, .int 0, .int 0, .int 0, .int 0, .int (-1), .int (-1), .int (-1), .int 0, .int 0, .int 0, .ref a7, .ref a8, .ref a9, .ref a10, .ref a11, .ref a12, .ref a13, .int 0])), (a1, .inl (k0, 7202, .inl (fun _ => 0)))]) (va_Qi (fun (r : Int32) (u : Unit) => r = 0) (Bw dC dI (va_A [(a0, .inr (11, [.ref a1, .int 0, .int 0, .int 0, .ref a2, .int 0, .ref a3, .ref a4, .ref a5, .ref a6, .int 0, .int 0, .int 0, .int 0, .int 0, .int 0, .int 0, .int (-1), .int (-1), .int (-1), .int 0, .int 0, .int 0, .ref a7, .ref a8, .ref a9, .ref a10, .ref a11, .ref a12, .ref a13, .int 0])), (a1, .inl (k0, 7202, .inl (fun _ => 0)))] sz) (fun (u : Unit) => []) (fun (u : Unit) => [(a0, .inr (11, [.ref a1, .int 0, .int 0, .int 0, .ref a2, .int 0, .ref a3, .ref a4, .ref a5, .ref a6, .int 0, .int 0, .int 0, .int 0, .int 0, .int 0, .int 0, .int (-1), .int (-1), .int (-1), .int 0, .int 0, .int 0, .ref a7, .ref a8, .ref a9, .ref a10, .ref a11, .ref a12, .ref a13, .int 0])), (a1, .inl (k0, 7202, .inl (fun _ => 0)))])) (va_A [(a0, .inr (11, [.ref a1, .int 0, .int 0, .int 0, .ref a2, .int 0, .ref a3, .ref a4, .ref a5, .ref a6, .int 0, .int 0, .int 0, .int 0, .int 0, .int 0, .int 0, .int (-1), .int (-1), .int (-1), .int 0, .int 0, .int 0, .ref a7, .ref a8, .ref a9, .ref a10, .ref a11, .ref a12, .ref a13, .int 0])), (a1, .inl (k0, 7202, .inl (fun _ => 0)))] sz)) 0 0 (va_A [(a0, .inr (11, [.ref a1, .int 0, .int 0, .int 0, .ref a2, .int 0, .ref a3, .ref a4, .ref a5, .ref a6, .int 0, .int 0, .int 0, .int 0, .int 0, .int 0, .int 0, .int (-1), .int (-1), .int (-1), .int 0, .int 0, .int 0, .ref a7, .ref a8, .ref a9, .ref a10, .ref a11, .ref a12, .ref a13, .int 0])), (a1, .inl (k0, 7202, .inl (fun _ => 0)))] sz) := by
  refine Met.ofW (cc := cX12_isEdge) (maxL := 2) (ret := (some .boolean)) (by decide) rfl ?_
  intro p e s m args below meth c s₁ B hml hv
  obtain ⟨rfl, hsz, hP, hK, hD0, hE⟩ := hv
  have hx := B.exec
  have hb := B.bytes
  have hr := B.returns
  have hown : s.vm.findClass RX12 = some m.cls := findClass_of_methodNamed B.named
  have hlocks := B.notSynchronized
  subst hsz
  have hD := hD0.self (sz := s.heap.size)
  generalize hAe : va_A [(a0, .inr (11, [.ref a1, .int 0, .int 0, .int 0, .ref a2, .int 0, .ref a3, .ref a4, .ref a5, .ref a6, .int 0, .int 0, .int 0, .int 0, .int 0, .int 0, .int 0, .int (-1), .int (-1), .int (-1), .int 0, .int 0, .int 0, .ref a7, .ref a8, .ref a9, .ref a10, .ref a11, .ref a12, .ref a13, .int 0])), (a1, .inl (k0, 7202, .inl (fun _ => 0)))] s.heap.size = A at hD ⊢
  have hA : ∀ q : Nat, s.heap.size ≤ q → A q := fun q h => by rw [← hAe]; exact Or.inr h
  have hS : va_S A s.heap s.heap [] := va_S.rf
  have hl := lv_entry ([.ref a0, .int v0]) (n := 2) (Nat.le_of_ble_eq_true rfl)
  rw [lg_entry_eq]
  generalize (lg_sl ([.ref a0, .int v0]) ++ List.replicate (2 - (lg_sl ([.ref a0, .int v0])).length) Slot.unset).toArray = ls at hl ⊢
  have hl : lv_has ls 2 [(0, .ref a0), (1, .int v0)] := hl
  refine lv_iload_n hx hb dX12_isEdge_0 rfl (lv_at hl 1 rfl) ?_
  refine lv_if_lt (tgt := 17) hx hb dX12_isEdge_1 (by decide) (fun c1 => ?_) (fun c1 => ?_)
  · refine lv_iconst (v := 0) hx hb dX12_isEdge_17 (by decide) ?_
    have hP9 := hP.sub (ws' := [(a0, .inr (11, [.ref a1, .int 0, .int 0, .int 0, .ref a2, .int 0, .ref a3, .ref a4, .ref a5, .ref a6, .int 0, .int 0, .int 0, .int 0, .int 0, .int 0, .int 0, .int (-1), .int (-1), .int (-1), .int 0, .int 0, .int 0, .ref a7, .ref a8, .ref a9, .ref a10, .ref a11, .ref a12, .ref a13, .int 0])), (a1, .inl (k0, 7202, .inl (fun _ => 0)))]) [0, 1] rfl
    have hD9 := hD.sub (ws' := [(a0, .inr (11, [.ref a1, .int 0, .int 0, .int 0, .ref a2, .int 0, .ref a3, .ref a4, .ref a5, .ref a6, .int 0, .int 0, .int 0, .int 0, .int 0, .int 0, .int 0, .int (-1), .int (-1), .int (-1), .int 0, .int 0, .int 0, .ref a7, .ref a8, .ref a9, .ref a10, .ref a11, .ref a12, .ref a13, .int 0])), (a1, .inl (k0, 7202, .inl (fun _ => 0)))]) [0, 1] (by decide) rfl
    have hK9 := hK.sub (tys' := []) [] rfl
    refine W.widen (k := 0) (n := 0) (Nat.le_of_ble_eq_true rfl) (Nat.le_of_ble_eq_true rfl) ?_
    exact W.zret (v := 0) hx hb hr rfl (fun t ht hW => ⟨⟨0, (), rfl, rfl, by rw [ht]; exact hP9, va_K.moved hW.alike hK9, hD9⟩, hS.F ht⟩) hS.2.2 dX12_isEdge_18
  · refine lv_iload_n hx hb dX12_isEdge_4 rfl (lv_at hl 1 rfl) ?_
    refine lv_aload_n hx hb dX12_isEdge_5 rfl (lv_at hl 0 rfl) ?_
    refine lv_iconst (v := 1) hx hb dX12_isEdge_6 (by decide) ?_
    refine cl_i (wc := [(a0, .inr (11, [.ref a1, .int 0, .int 0, .int 0, .ref a2, .int 0, .ref a3, .ref a4, .ref a5, .ref a6, .int 0, .int 0, .int 0, .int 0, .int 0, .int 0, .int 0, .int (-1), .int (-1), .int (-1), .int 0, .int 0, .int 0, .ref a7, .ref a8, .ref a9, .ref a10, .ref a11, .ref a12, .ref a13, .int 0])), (a1, .inl (k0, 7202, .inl (fun _ => 0)))]) (wr := []) [0, 1] [] rfl rfl (by decide) (by decide) hK hP hD hS hA (va_runV (As := [.int 1]) (rest := [.int v0]) ⟨hx, hb, hml, hown, noTs⟩ (c_X12_of_3 l dC dI s.heap.size a0 a1 a2 a3 a4 a5 a6 a7 a8 a9 a10 a11 a12 a13 k0) ⟨cbE 1 (wd_1536 hE) (wd_126 hE) (wd_1533 hE) rfl rfl (by decide +kernel) ⟨Nat.le_of_ble_eq_true rfl, Nat.le_of_ble_eq_true rfl⟩, (wd_1535 hE), (wd_61 hE)⟩ ⟨PcE.blind, va_recv hK hP (ci := 11) (q0 := 0) rfl rfl, (pre_E (av := [.ref a0, .int 1]) (wc := [(a0, .inr (11, [.ref a1, .int 0, .int 0, .int 0, .ref a2, .int 0, .ref a3, .ref a4, .ref a5, .ref a6, .int 0, .int 0, .int 0, .int 0, .int 0, .int 0, .int 0, .int (-1), .int (-1), .int (-1), .int 0, .int 0, .int 0, .ref a7, .ref a8, .ref a9, .ref a10, .ref a11, .ref a12, .ref a13, .int 0])), (a1, .inl (k0, 7202, .inl (fun _ => 0)))]) (tysc := [(k0, .int)]) [0, 1] [0] rfl (by decide) rfl rfl hK hP hD hE)⟩ rfl rfl hl.1 rfl (lv_room (Nat.le_of_ble_eq_true rfl)) dX12_isEdge_7 ⟨Nat.le_of_ble_eq_true rfl, Nat.le_of_ble_eq_true rfl⟩) (fun r2 u2 H locs hw2 hK hP hD hS => ?_)
    have hK : va_K (dC, dI) vwCl [(k0, .int)] s := hK
    have hP : va_P (dC, dI) vwCl [(a0, .inr (11, [.ref a1, .int 0, .int 0, .int 0, .ref a2, .int 0, .ref a3, .ref a4, .ref a5, .ref a6, .int 0, .int 0, .int 0, .int 0, .int 0, .int 0, .int 0, .int (-1), .int (-1), .int (-1), .int 0, .int 0, .int 0, .ref a7, .ref a8, .ref a9, .ref a10, .ref a11, .ref a12, .ref a13, .int 0])), (a1, .inl (k0, 7202, .inl (fun _ => 0)))] H := hP
    have hD : va_D A [(a0, .inr (11, [.ref a1, .int 0, .int 0, .int 0, .ref a2, .int 0, .ref a3, .ref a4, .ref a5, .ref a6, .int 0, .int 0, .int 0, .int 0, .int 0, .int 0, .int 0, .int (-1), .int (-1), .int (-1), .int 0, .int 0, .int 0, .ref a7, .ref a8, .ref a9, .ref a10, .ref a11, .ref a12, .ref a13, .int 0])), (a1, .inl (k0, 7202, .inl (fun _ => 0)))] := hD
    subst hw2
    refine W.eq (g2 := F0 m 10 ls [.int 0, .int v0]) rfl ?_
    refine lv_icmp_ge (tgt := 17) hx hb dX12_isEdge_10 (by decide) (fun c3 => ?_) (fun c3 => False.elim (by simp only [i_lt, i_le, i_eq, ti_m9, ti_m1, ti_0, ti_1, ti_2, ti_3, ti_4, ti_5, ti_6, ti_7, ti_9, ti_12, ti_20, ti_99, ti_700] at c1 c3; omega))
    refine lv_iconst (v := 0) hx hb dX12_isEdge_17 (by decide) ?_
    have hP9 := hP.sub (ws' := [(a0, .inr (11, [.ref a1, .int 0, .int 0, .int 0, .ref a2, .int 0, .ref a3, .ref a4, .ref a5, .ref a6, .int 0, .int 0, .int 0, .int 0, .int 0, .int 0, .int 0, .int (-1), .int (-1), .int (-1), .int 0, .int 0, .int 0, .ref a7, .ref a8, .ref a9, .ref a10, .ref a11, .ref a12, .ref a13, .int 0])), (a1, .inl (k0, 7202, .inl (fun _ => 0)))]) [0, 1] rfl
    have hD9 := hD.sub (ws' := [(a0, .inr (11, [.ref a1, .int 0, .int 0, .int 0, .ref a2, .int 0, .ref a3, .ref a4, .ref a5, .ref a6, .int 0, .int 0, .int 0, .int 0, .int 0, .int 0, .int 0, .int (-1), .int (-1), .int (-1), .int 0, .int 0, .int 0, .ref a7, .ref a8, .ref a9, .ref a10, .ref a11, .ref a12, .ref a13, .int 0])), (a1, .inl (k0, 7202, .inl (fun _ => 0)))]) [0, 1] (by decide) rfl
    have hK9 := hK.sub (tys' := []) [] rfl
    refine W.widen (k := 0) (n := 0) (Nat.le_of_ble_eq_true rfl) (Nat.le_of_ble_eq_true rfl) ?_
    exact W.zret (v := 0) hx hb hr rfl (fun t ht hW => ⟨⟨0, (), rfl, rfl, by rw [ht]; exact hP9, va_K.moved hW.alike hK9, hD9⟩, hS.F ht⟩) hS.2.2 dX12_isEdge_18

set_option maxHeartbeats 4000000 in
set_option maxRecDepth 100000 in
theorem c_X12_edge (l : Launch) (dC : Nat → ClassId) (dI : Nat → Nat → Nat) (sz : Nat)  (a0 a1 a2 a3 a4 a5 a6 a7 a8 a9 a10 a11 a12 a13 : Nat) (k0 : ClassId) (v0 : Int32) (v1 : Int32)  : Met l yX12_edge [.code yX12_edge cX12_edge 3 (some .int)] ({ frames := 2, cells := 0, slots := 0, locals := 80 }) (PcE [.ref a0, .int v0, .int v1] sz dC dI [(k0, .int)] [(a0, .inr (11, [.ref a1, .int 0, .int 0, .int 0, .ref a2, .int 0, .ref a3, .ref a4, .ref a5, .ref a6, .int 0, .int 0, .int 0, .int 0, .int 0, .int 0, .int 0, .int (-1), .int (-1), .int (-1), .int 0, .int 0, .int 0, .ref a7, .ref a8, .ref a9, .ref a10, .ref a11, .ref a12, .ref a13, .int 0])), (a1, .inl (k0, 7202, .inl (fun _ => 0)))]) (va_Qi (fun (r : Int32) (u : Unit) => r = -1) (Bw dC dI (va_A [(a0, .inr (11, [.ref a1, .int 0, .int 0, .int 0, .ref a2, .int 0, .ref a3, .ref a4, .ref a5, .ref a6, .int 0, .int 0, .int 0, .int 0, .int 0, .int 0, .int 0, .int (-1), .int (-1), .int (-1), .int 0, .int 0, .int 0, .ref a7, .ref a8, .ref a9, .ref a10, .ref a11, .ref a12, .ref a13, .int 0])), (a1, .inl (k0, 7202, .inl (fun _ => 0)))] sz) (fun (u : Unit) => []) (fun (u : Unit) => [])) (va_A [(a0, .inr (11, [.ref a1, .int 0, .int 0, .int 0, .ref a2, .int 0, .ref a3, .ref a4, .ref a5, .ref a6, .int 0, .int 0, .int 0, .int 0, .int 0, .int 0, .int 0, .int (-1), .int (-1), .int (-1), .int 0, .int 0, .int 0, .ref a7, .ref a8, .ref a9, .ref a10, .ref a11, .ref a12, .ref a13, .int 0])), (a1, .inl (k0, 7202, .inl (fun _ => 0)))] sz)) 0 0 (va_A [(a0, .inr (11, [.ref a1, .int 0, .int 0, .int 0, .ref a2, .int 0, .ref a3, .ref a4, .ref a5, .ref a6, .int 0, .int 0, .int 0, .int 0, .int 0, .int 0, .int 0, .int (-1), .int (-1), .int (-1), .int 0, .int 0, .int 0, .ref a7, .ref a8, .ref a9, .ref a10, .ref a11, .ref a12, .ref a13, .int 0])), (a1, .inl (k0, 7202, .inl (fun _ => 0)))] sz) := by
  refine Met.ofW (cc := cX12_edge) (maxL := 3) (ret := (some .int)) (by decide) rfl ?_
  intro p e s m args below meth c s₁ B hml hv
  obtain ⟨rfl, hsz, hP, hK, hD0, hE⟩ := hv
  have hx := B.exec
  have hb := B.bytes
  have hr := B.returns
  have hown : s.vm.findClass RX12 = some m.cls := findClass_of_methodNamed B.named
  have hlocks := B.notSynchronized
  subst hsz
  have hD := hD0.self (sz := s.heap.size)
  generalize hAe : va_A [(a0, .inr (11, [.ref a1, .int 0, .int 0, .int 0, .ref a2, .int 0, .ref a3, .ref a4, .ref a5, .ref a6, .int 0, .int 0, .int 0, .int 0, .int 0, .int 0, .int 0, .int (-1), .int (-1), .int (-1), .int 0, .int 0, .int 0, .ref a7, .ref a8, .ref a9, .ref a10, .ref a11, .ref a12, .ref a13, .int 0])), (a1, .inl (k0, 7202, .inl (fun _ => 0)))] s.heap.size = A at hD ⊢
  have hA : ∀ q : Nat, s.heap.size ≤ q → A q := fun q h => by rw [← hAe]; exact Or.inr h
  have hS : va_S A s.heap s.heap [] := va_S.rf
  have hl := lv_entry ([.ref a0, .int v0, .int v1]) (n := 3) (Nat.le_of_ble_eq_true rfl)
  rw [lg_entry_eq]
  generalize (lg_sl ([.ref a0, .int v0, .int v1]) ++ List.replicate (3 - (lg_sl ([.ref a0, .int v0, .int v1])).length) Slot.unset).toArray = ls at hl ⊢
  have hl : lv_has ls 3 [(0, .ref a0), (1, .int v0), (2, .int v1)] := hl
  refine lv_iload_n hx hb dX12_edge_0 rfl (lv_at hl 2 rfl) ?_
  refine lv_iconst (v := 0) hx hb dX12_edge_1 (by decide) ?_
  refine lv_iconst (v := 4) hx hb dX12_edge_2 (by decide) ?_
  refine cl_i (wc := []) (wr := [(a0, .inr (11, [.ref a1, .int 0, .int 0, .int 0, .ref a2, .int 0, .ref a3, .ref a4, .ref a5, .ref a6, .int 0, .int 0, .int 0, .int 0, .int 0, .int 0, .int 0, .int (-1), .int (-1), .int (-1), .int 0, .int 0, .int 0, .ref a7, .ref a8, .ref a9, .ref a10, .ref a11, .ref a12, .ref a13, .int 0])), (a1, .inl (k0, 7202, .inl (fun _ => 0)))]) [] [0, 1] rfl rfl (by decide) (by decide) hK hP hD hS hA (va_runS (As := [.int v1, .int 0, .int 4]) (rest := []) ⟨hx, hb, hml, hown, noTs⟩ (c_isFrom_0_4 l dC dI s.heap.size v1) ⟨cbE 3 (wd_1494 hE) (wd_126 hE) (wd_1492 hE) rfl rfl (by decide +kernel) ⟨Nat.le_of_ble_eq_true rfl, Nat.le_of_ble_eq_true rfl⟩, (wd_1493 hE)⟩ ⟨PcE.blind, (pre_E (av := [.int v1, .int 0, .int 4]) (wc := []) (tysc := []) [] [] rfl (by decide) rfl rfl hK hP hD hE)⟩ rfl rfl hl.1 rfl (lv_room (Nat.le_of_ble_eq_true rfl)) dX12_edge_3 ⟨Nat.le_of_ble_eq_true rfl, Nat.le_of_ble_eq_true rfl⟩) (fun r1 u1 H locs hw1 hK hP hD hS => ?_)
  have hK : va_K (dC, dI) vwCl [(k0, .int)] s := hK
  have hP : va_P (dC, dI) vwCl [(a0, .inr (11, [.ref a1, .int 0, .int 0, .int 0, .ref a2, .int 0, .ref a3, .ref a4, .ref a5, .ref a6, .int 0, .int 0, .int 0, .int 0, .int 0, .int 0, .int 0, .int (-1), .int (-1), .int (-1), .int 0, .int 0, .int 0, .ref a7, .ref a8, .ref a9, .ref a10, .ref a11, .ref a12, .ref a13, .int 0])), (a1, .inl (k0, 7202, .inl (fun _ => 0)))] H := hP
  have hD : va_D A [(a0, .inr (11, [.ref a1, .int 0, .int 0, .int 0, .ref a2, .int 0, .ref a3, .ref a4, .ref a5, .ref a6, .int 0, .int 0, .int 0, .int 0, .int 0, .int 0, .int 0, .int (-1), .int (-1), .int (-1), .int 0, .int 0, .int 0, .ref a7, .ref a8, .ref a9, .ref a10, .ref a11, .ref a12, .ref a13, .int 0])), (a1, .inl (k0, 7202, .inl (fun _ => 0)))] := hD
  rcases hw1 with ⟨rfl, ha1, hb1⟩ | ⟨rfl, ha1⟩
  · refine W.eq (g2 := F0 m 6 ls [.int 1]) rfl ?_
    refine lv_if_ne (tgt := 15) hx hb dX12_edge_6 (by decide) (fun c2 => ?_) (fun c2 => absurd c2 (by decide))
    refine lv_aload_n hx hb dX12_edge_15 rfl (lv_at hl 0 rfl) ?_
    refine lv_iload_n hx hb dX12_edge_16 rfl (lv_at hl 1 rfl) ?_
    refine cl_i (wc := [(a0, .inr (11, [.ref a1, .int 0, .int 0, .int 0, .ref a2, .int 0, .ref a3, .ref a4, .ref a5, .ref a6, .int 0, .int 0, .int 0, .int 0, .int 0, .int 0, .int 0, .int (-1), .int (-1), .int (-1), .int 0, .int 0, .int 0, .ref a7, .ref a8, .ref a9, .ref a10, .ref a11, .ref a12, .ref a13, .int 0])), (a1, .inl (k0, 7202, .inl (fun _ => 0)))]) (wr := []) [0, 1] [] rfl rfl (by decide) (by decide) hK hP hD hS hA (va_runV (As := [.int v0]) (rest := []) ⟨hx, hb, hml, hown, noTs⟩ (c_X12_isEdge l dC dI H.size a0 a1 a2 a3 a4 a5 a6 a7 a8 a9 a10 a11 a12 a13 k0 v0) ⟨cbE 1 (wd_1587 hE) (wd_126 hE) (wd_1584 hE) rfl rfl (by decide +kernel) ⟨Nat.le_of_ble_eq_true rfl, Nat.le_of_ble_eq_true rfl⟩, (wd_1586 hE), (wd_73 hE)⟩ ⟨PcE.blind, va_recv hK hP (ci := 11) (q0 := 0) rfl rfl, (pre_E (av := [.ref a0, .int v0]) (wc := [(a0, .inr (11, [.ref a1, .int 0, .int 0, .int 0, .ref a2, .int 0, .ref a3, .ref a4, .ref a5, .ref a6, .int 0, .int 0, .int 0, .int 0, .int 0, .int 0, .int 0, .int (-1), .int (-1), .int (-1), .int 0, .int 0, .int 0, .ref a7, .ref a8, .ref a9, .ref a10, .ref a11, .ref a12, .ref a13, .int 0])), (a1, .inl (k0, 7202, .inl (fun _ => 0)))]) (tysc := [(k0, .int)]) [0, 1] [0] rfl (by decide) rfl rfl hK hP hD hE)⟩ rfl rfl hl.1 rfl (lv_room (Nat.le_of_ble_eq_true rfl)) dX12_edge_17 ⟨Nat.le_of_ble_eq_true rfl, Nat.le_of_ble_eq_true rfl⟩) (fun r3 u3 H locs hw3 hK hP hD hS => ?_)
    have hK : va_K (dC, dI) vwCl [(k0, .int)] s := hK
    have hP : va_P (dC, dI) vwCl [(a0, .inr (11, [.ref a1, .int 0, .int 0, .int 0, .ref a2, .int 0, .ref a3, .ref a4, .ref a5, .ref a6, .int 0, .int 0, .int 0, .int 0, .int 0, .int 0, .int 0, .int (-1), .int (-1), .int (-1), .int 0, .int 0, .int 0, .ref a7, .ref a8, .ref a9, .ref a10, .ref a11, .ref a12, .ref a13, .int 0])), (a1, .inl (k0, 7202, .inl (fun _ => 0)))] H := hP
    have hD : va_D A [(a0, .inr (11, [.ref a1, .int 0, .int 0, .int 0, .ref a2, .int 0, .ref a3, .ref a4, .ref a5, .ref a6, .int 0, .int 0, .int 0, .int 0, .int 0, .int 0, .int 0, .int (-1), .int (-1), .int (-1), .int 0, .int 0, .int 0, .ref a7, .ref a8, .ref a9, .ref a10, .ref a11, .ref a12, .ref a13, .int 0])), (a1, .inl (k0, 7202, .inl (fun _ => 0)))] := hD
    subst hw3
    refine W.eq (g2 := F0 m 20 ls [.int 0]) rfl ?_
    refine lv_if_ne (tgt := 29) hx hb dX12_edge_20 (by decide) (fun c4 => absurd c4 (by decide)) (fun c4 => ?_)
    refine lv_aload_n hx hb dX12_edge_23 rfl (lv_at hl 0 rfl) ?_
    refine lv_iconst (v := 2) hx hb dX12_edge_24 (by decide) ?_
    refine cl_i (wc := [(a0, .inr (11, [.ref a1, .int 0, .int 0, .int 0, .ref a2, .int 0, .ref a3, .ref a4, .ref a5, .ref a6, .int 0, .int 0, .int 0, .int 0, .int 0, .int 0, .int 0, .int (-1), .int (-1), .int (-1), .int 0, .int 0, .int 0, .ref a7, .ref a8, .ref a9, .ref a10, .ref a11, .ref a12, .ref a13, .int 0]))]) (wr := [(a1, .inl (k0, 7202, .inl (fun _ => 0)))]) [0] [1] rfl rfl (by decide) (by decide) hK hP hD hS hA (va_runV (As := [.int 2]) (rest := []) ⟨hx, hb, hml, hown, noTs⟩ (c_X12_refuse_2 l dC dI H.size a0 a1 a2 a3 a4 a5 a6 a7 a8 a9 a10 a11 a12 a13) ⟨cbE 1 (wd_1498 hE) (wd_126 hE) (wd_1495 hE) rfl rfl (by decide +kernel) ⟨Nat.le_of_ble_eq_true rfl, Nat.le_of_ble_eq_true rfl⟩, (wd_1497 hE), (wd_54 hE)⟩ ⟨PcE.blind, va_recv hK hP (ci := 11) (q0 := 0) rfl rfl, (pre_E (av := [.ref a0, .int 2]) (wc := [(a0, .inr (11, [.ref a1, .int 0, .int 0, .int 0, .ref a2, .int 0, .ref a3, .ref a4, .ref a5, .ref a6, .int 0, .int 0, .int 0, .int 0, .int 0, .int 0, .int 0, .int (-1), .int (-1), .int (-1), .int 0, .int 0, .int 0, .ref a7, .ref a8, .ref a9, .ref a10, .ref a11, .ref a12, .ref a13, .int 0]))]) (tysc := []) [0] [] rfl (by decide) rfl rfl hK hP hD hE)⟩ rfl rfl hl.1 rfl (lv_room (Nat.le_of_ble_eq_true rfl)) dX12_edge_25 ⟨Nat.le_of_ble_eq_true rfl, Nat.le_of_ble_eq_true rfl⟩) (fun r5 u5 H locs hw5 hK hP hD hS => ?_)
    have hK : va_K (dC, dI) vwCl [(k0, .int)] s := hK
    have hP : va_P (dC, dI) vwCl [(a1, .inl (k0, 7202, .inl (fun _ => 0))), (a0, .inr (11, [.ref a1, .int 2, .int 0, .int 0, .ref a2, .int 0, .ref a3, .ref a4, .ref a5, .ref a6, .int 0, .int 0, .int 0, .int 0, .int 0, .int 0, .int 0, .int (-1), .int (-1), .int (-1), .int 0, .int 0, .int 0, .ref a7, .ref a8, .ref a9, .ref a10, .ref a11, .ref a12, .ref a13, .int 0]))] H := hP
    have hD : va_D A [(a1, .inl (k0, 7202, .inl (fun _ => 0))), (a0, .inr (11, [.ref a1, .int 2, .int 0, .int 0, .ref a2, .int 0, .ref a3, .ref a4, .ref a5, .ref a6, .int 0, .int 0, .int 0, .int 0, .int 0, .int 0, .int 0, .int (-1), .int (-1), .int (-1), .int 0, .int 0, .int 0, .ref a7, .ref a8, .ref a9, .ref a10, .ref a11, .ref a12, .ref a13, .int 0]))] := hD
    subst hw5
    refine W.eq (g2 := F0 m 28 ls [.int (-1)]) rfl ?_
    have hP9 := hP.sub (ws' := []) [] rfl
    have hD9 := hD.sub (ws' := []) [] (by decide) rfl
    have hK9 := hK.sub (tys' := []) [] rfl
    refine W.widen (k := 0) (n := 0) (Nat.le_of_ble_eq_true rfl) (Nat.le_of_ble_eq_true rfl) ?_
    exact W.iret (v := -1) hx hb hr (fun t ht hW => ⟨⟨-1, (), rfl, rfl, by rw [ht]; exact hP9, va_K.moved hW.alike hK9, hD9⟩, hS.F ht⟩) hS.2.2 dX12_edge_28
  · refine W.eq (g2 := F0 m 6 ls [.int 0]) rfl ?_
    refine lv_if_ne (tgt := 15) hx hb dX12_edge_6 (by decide) (fun c6 => absurd c6 (by decide)) (fun c6 => ?_)
    refine lv_aload_n hx hb dX12_edge_9 rfl (lv_at hl 0 rfl) ?_
    refine lv_iconst (v := 1) hx hb dX12_edge_10 (by decide) ?_
    refine cl_i (wc := [(a0, .inr (11, [.ref a1, .int 0, .int 0, .int 0, .ref a2, .int 0, .ref a3, .ref a4, .ref a5, .ref a6, .int 0, .int 0, .int 0, .int 0, .int 0, .int 0, .int 0, .int (-1), .int (-1), .int (-1), .int 0, .int 0, .int 0, .ref a7, .ref a8, .ref a9, .ref a10, .ref a11, .ref a12, .ref a13, .int 0]))]) (wr := [(a1, .inl (k0, 7202, .inl (fun _ => 0)))]) [0] [1] rfl rfl (by decide) (by decide) hK hP hD hS hA (va_runV (As := [.int 1]) (rest := []) ⟨hx, hb, hml, hown, noTs⟩ (c_X12_refuse l dC dI H.size a0 a1 a2 a3 a4 a5 a6 a7 a8 a9 a10 a11 a12 a13) ⟨cbE 1 (wd_1498 hE) (wd_126 hE) (wd_1495 hE) rfl rfl (by decide +kernel) ⟨Nat.le_of_ble_eq_true rfl, Nat.le_of_ble_eq_true rfl⟩, (wd_1497 hE), (wd_54 hE)⟩ ⟨PcE.blind, va_recv hK hP (ci := 11) (q0 := 0) rfl rfl, (pre_E (av := [.ref a0, .int 1]) (wc := [(a0, .inr (11, [.ref a1, .int 0, .int 0, .int 0, .ref a2, .int 0, .ref a3, .ref a4, .ref a5, .ref a6, .int 0, .int 0, .int 0, .int 0, .int 0, .int 0, .int 0, .int (-1), .int (-1), .int (-1), .int 0, .int 0, .int 0, .ref a7, .ref a8, .ref a9, .ref a10, .ref a11, .ref a12, .ref a13, .int 0]))]) (tysc := []) [0] [] rfl (by decide) rfl rfl hK hP hD hE)⟩ rfl rfl hl.1 rfl (lv_room (Nat.le_of_ble_eq_true rfl)) dX12_edge_11 ⟨Nat.le_of_ble_eq_true rfl, Nat.le_of_ble_eq_true rfl⟩) (fun r7 u7 H locs hw7 hK hP hD hS => ?_)
    have hK : va_K (dC, dI) vwCl [(k0, .int)] s := hK
    have hP : va_P (dC, dI) vwCl [(a1, .inl (k0, 7202, .inl (fun _ => 0))), (a0, .inr (11, [.ref a1, .int 1, .int 0, .int 0, .ref a2, .int 0, .ref a3, .ref a4, .ref a5, .ref a6, .int 0, .int 0, .int 0, .int 0, .int 0, .int 0, .int 0, .int (-1), .int (-1), .int (-1), .int 0, .int 0, .int 0, .ref a7, .ref a8, .ref a9, .ref a10, .ref a11, .ref a12, .ref a13, .int 0]))] H := hP
    have hD : va_D A [(a1, .inl (k0, 7202, .inl (fun _ => 0))), (a0, .inr (11, [.ref a1, .int 1, .int 0, .int 0, .ref a2, .int 0, .ref a3, .ref a4, .ref a5, .ref a6, .int 0, .int 0, .int 0, .int 0, .int 0, .int 0, .int 0, .int (-1), .int (-1), .int (-1), .int 0, .int 0, .int 0, .ref a7, .ref a8, .ref a9, .ref a10, .ref a11, .ref a12, .ref a13, .int 0]))] := hD
    subst hw7
    refine W.eq (g2 := F0 m 14 ls [.int (-1)]) rfl ?_
    have hP9 := hP.sub (ws' := []) [] rfl
    have hD9 := hD.sub (ws' := []) [] (by decide) rfl
    have hK9 := hK.sub (tys' := []) [] rfl
    refine W.widen (k := 0) (n := 0) (Nat.le_of_ble_eq_true rfl) (Nat.le_of_ble_eq_true rfl) ?_
    exact W.iret (v := -1) hx hb hr (fun t ht hW => ⟨⟨-1, (), rfl, rfl, by rw [ht]; exact hP9, va_K.moved hW.alike hK9, hD9⟩, hS.F ht⟩) hS.2.2 dX12_edge_14

set_option maxHeartbeats 4000000 in
set_option maxRecDepth 100000 in
theorem c_X12_isWord (l : Launch) (dC : Nat → ClassId) (dI : Nat → Nat → Nat) (sz : Nat)  (a0 a1 a2 a3 a4 a5 a6 a7 a8 a9 a10 a11 a12 a13 : Nat) (k0 : ClassId) (v0 : Int32)  : Met l yX12_isWord [.code yX12_isWord cX12_isWord 2 (some .boolean)] ({ frames := 1, cells := 0, slots := 0, locals := 40 }) (PcE [.ref a0, .int v0] sz dC dI [(k0, .int)] [(a0, .inr (11, [.ref a1, .int 0, .int 0, .int 0, .ref a2, .int 0, .ref a3, .ref a4, .ref a5, .ref a6, .int 0, .int 0, .int 0, .int 0, .int 0, .int 0, .int 0, .int (-1), .int (-1), .int (-1), .int 0, .int 0, .int 0, .ref a7, .ref a8, .ref a9, .ref a10, .ref a11, .ref a12, .ref a13, .int 0])), (a1, .inl (k0, 7202, .inl (fun _ => 0)))]) (va_Qi (fun (r : Int32) (u : Unit) => r = 0) (Bw dC dI (va_A [(a0, .inr (11, [.ref a1, .int 0, .int 0, .int 0, .ref a2, .int 0, .ref a3, .ref a4, .ref a5, .ref a6, .int 0, .int 0, .int 0, .int 0, .int 0, .int 0, .int 0, .int (-1), .int (-1), .int (-1), .int 0, .int 0, .int 0, .ref a7, .ref a8, .ref a9, .ref a10, .ref a11, .ref a12, .ref a13, .int 0])), (a1, .inl (k0, 7202, .inl (fun _ => 0)))] sz) (fun (u : Unit) => []) (fun (u : Unit) => [(a0, .inr (11, [.ref a1, .int 0, .int 0, .int 0, .ref a2, .int 0, .ref a3, .ref a4, .ref a5, .ref a6, .int 0, .int 0, .int 0, .int 0, .int 0, .int 0, .int 0, .int (-1), .int (-1), .int (-1), .int 0, .int 0, .int 0, .ref a7, .ref a8, .ref a9, .ref a10, .ref a11, .ref a12, .ref a13, .int 0])), (a1, .inl (k0, 7202, .inl (fun _ => 0)))])) (va_A [(a0, .inr (11, [.ref a1, .int 0, .int 0, .int 0, .ref a2, .int 0, .ref a3, .ref a4, .ref a5, .ref a6, .int 0, .int 0, .int 0, .int 0, .int 0, .int 0, .int 0, .int (-1), .int (-1), .int (-1), .int 0, .int 0, .int 0, .ref a7, .ref a8, .ref a9, .ref a10, .ref a11, .ref a12, .ref a13, .int 0])), (a1, .inl (k0, 7202, .inl (fun _ => 0)))] sz)) 0 0 (va_A [(a0, .inr (11, [.ref a1, .int 0, .int 0, .int 0, .ref a2, .int 0, .ref a3, .ref a4, .ref a5, .ref a6, .int 0, .int 0, .int 0, .int 0, .int 0, .int 0, .int 0, .int (-1), .int (-1), .int (-1), .int 0, .int 0, .int 0, .ref a7, .ref a8, .ref a9, .ref a10, .ref a11, .ref a12, .ref a13, .int 0])), (a1, .inl (k0, 7202, .inl (fun _ => 0)))] sz) := by
  refine Met.ofW (cc := cX12_isWord) (maxL := 2) (ret := (some .boolean)) (by decide) rfl ?_
  intro p e s m args below meth c s₁ B hml hv
  obtain ⟨rfl, hsz, hP, hK, hD0, hE⟩ := hv
  have hx := B.exec
  have hb := B.bytes
  have hr := B.returns
  have hown : s.vm.findClass RX12 = some m.cls := findClass_of_methodNamed B.named
  have hlocks := B.notSynchronized
  subst hsz
  have hD := hD0.self (sz := s.heap.size)
  generalize hAe : va_A [(a0, .inr (11, [.ref a1, .int 0, .int 0, .int 0, .ref a2, .int 0, .ref a3, .ref a4, .ref a5, .ref a6, .int 0, .int 0, .int 0, .int 0, .int 0, .int 0, .int 0, .int (-1), .int (-1), .int (-1), .int 0, .int 0, .int 0, .ref a7, .ref a8, .ref a9, .ref a10, .ref a11, .ref a12, .ref a13, .int 0])), (a1, .inl (k0, 7202, .inl (fun _ => 0)))] s.heap.size = A at hD ⊢
  have hA : ∀ q : Nat, s.heap.size ≤ q → A q := fun q h => by rw [← hAe]; exact Or.inr h
  have hS : va_S A s.heap s.heap [] := va_S.rf
  have hl := lv_entry ([.ref a0, .int v0]) (n := 2) (Nat.le_of_ble_eq_true rfl)
  rw [lg_entry_eq]
  generalize (lg_sl ([.ref a0, .int v0]) ++ List.replicate (2 - (lg_sl ([.ref a0, .int v0])).length) Slot.unset).toArray = ls at hl ⊢
  have hl : lv_has ls 2 [(0, .ref a0), (1, .int v0)] := hl
  refine lv_iload_n hx hb dX12_isWord_0 rfl (lv_at hl 1 rfl) ?_
  refine lv_if_lt (tgt := 17) hx hb dX12_isWord_1 (by decide) (fun c1 => ?_) (fun c1 => ?_)
  · refine lv_iconst (v := 0) hx hb dX12_isWord_17 (by decide) ?_
    have hP9 := hP.sub (ws' := [(a0, .inr (11, [.ref a1, .int 0, .int 0, .int 0, .ref a2, .int 0, .ref a3, .ref a4, .ref a5, .ref a6, .int 0, .int 0, .int 0, .int 0, .int 0, .int 0, .int 0, .int (-1), .int (-1), .int (-1), .int 0, .int 0, .int 0, .ref a7, .ref a8, .ref a9, .ref a10, .ref a11, .ref a12, .ref a13, .int 0])), (a1, .inl (k0, 7202, .inl (fun _ => 0)))]) [0, 1] rfl
    have hD9 := hD.sub (ws' := [(a0, .inr (11, [.ref a1, .int 0, .int 0, .int 0, .ref a2, .int 0, .ref a3, .ref a4, .ref a5, .ref a6, .int 0, .int 0, .int 0, .int 0, .int 0, .int 0, .int 0, .int (-1), .int (-1), .int (-1), .int 0, .int 0, .int 0, .ref a7, .ref a8, .ref a9, .ref a10, .ref a11, .ref a12, .ref a13, .int 0])), (a1, .inl (k0, 7202, .inl (fun _ => 0)))]) [0, 1] (by decide) rfl
    have hK9 := hK.sub (tys' := []) [] rfl
    refine W.widen (k := 0) (n := 0) (Nat.le_of_ble_eq_true rfl) (Nat.le_of_ble_eq_true rfl) ?_
    exact W.zret (v := 0) hx hb hr rfl (fun t ht hW => ⟨⟨0, (), rfl, rfl, by rw [ht]; exact hP9, va_K.moved hW.alike hK9, hD9⟩, hS.F ht⟩) hS.2.2 dX12_isWord_18
  · refine lv_iload_n hx hb dX12_isWord_4 rfl (lv_at hl 1 rfl) ?_
    refine lv_aload_n hx hb dX12_isWord_5 rfl (lv_at hl 0 rfl) ?_
    refine lv_iconst (v := 2) hx hb dX12_isWord_6 (by decide) ?_
    refine cl_i (wc := [(a0, .inr (11, [.ref a1, .int 0, .int 0, .int 0, .ref a2, .int 0, .ref a3, .ref a4, .ref a5, .ref a6, .int 0, .int 0, .int 0, .int 0, .int 0, .int 0, .int 0, .int (-1), .int (-1), .int (-1), .int 0, .int 0, .int 0, .ref a7, .ref a8, .ref a9, .ref a10, .ref a11, .ref a12, .ref a13, .int 0])), (a1, .inl (k0, 7202, .inl (fun _ => 0)))]) (wr := []) [0, 1] [] rfl rfl (by decide) (by decide) hK hP hD hS hA (va_runV (As := [.int 2]) (rest := [.int v0]) ⟨hx, hb, hml, hown, noTs⟩ (c_X12_of_4 l dC dI s.heap.size a0 a1 a2 a3 a4 a5 a6 a7 a8 a9 a10 a11 a12 a13 k0) ⟨cbE 1 (wd_1536 hE) (wd_126 hE) (wd_1533 hE) rfl rfl (by decide +kernel) ⟨Nat.le_of_ble_eq_true rfl, Nat.le_of_ble_eq_true rfl⟩, (wd_1535 hE), (wd_61 hE)⟩ ⟨PcE.blind, va_recv hK hP (ci := 11) (q0 := 0) rfl rfl, (pre_E (av := [.ref a0, .int 2]) (wc := [(a0, .inr (11, [.ref a1, .int 0, .int 0, .int 0, .ref a2, .int 0, .ref a3, .ref a4, .ref a5, .ref a6, .int 0, .int 0, .int 0, .int 0, .int 0, .int 0, .int 0, .int (-1), .int (-1), .int (-1), .int 0, .int 0, .int 0, .ref a7, .ref a8, .ref a9, .ref a10, .ref a11, .ref a12, .ref a13, .int 0])), (a1, .inl (k0, 7202, .inl (fun _ => 0)))]) (tysc := [(k0, .int)]) [0, 1] [0] rfl (by decide) rfl rfl hK hP hD hE)⟩ rfl rfl hl.1 rfl (lv_room (Nat.le_of_ble_eq_true rfl)) dX12_isWord_7 ⟨Nat.le_of_ble_eq_true rfl, Nat.le_of_ble_eq_true rfl⟩) (fun r2 u2 H locs hw2 hK hP hD hS => ?_)
    have hK : va_K (dC, dI) vwCl [(k0, .int)] s := hK
    have hP : va_P (dC, dI) vwCl [(a0, .inr (11, [.ref a1, .int 0, .int 0, .int 0, .ref a2, .int 0, .ref a3, .ref a4, .ref a5, .ref a6, .int 0, .int 0, .int 0, .int 0, .int 0, .int 0, .int 0, .int (-1), .int (-1), .int (-1), .int 0, .int 0, .int 0, .ref a7, .ref a8, .ref a9, .ref a10, .ref a11, .ref a12, .ref a13, .int 0])), (a1, .inl (k0, 7202, .inl (fun _ => 0)))] H := hP
    have hD : va_D A [(a0, .inr (11, [.ref a1, .int 0, .int 0, .int 0, .ref a2, .int 0, .ref a3, .ref a4, .ref a5, .ref a6, .int 0, .int 0, .int 0, .int 0, .int 0, .int 0, .int 0, .int (-1), .int (-1), .int (-1), .int 0, .int 0, .int 0, .ref a7, .ref a8, .ref a9, .ref a10, .ref a11, .ref a12, .ref a13, .int 0])), (a1, .inl (k0, 7202, .inl (fun _ => 0)))] := hD
    subst hw2
    refine W.eq (g2 := F0 m 10 ls [.int 0, .int v0]) rfl ?_
    refine lv_icmp_ge (tgt := 17) hx hb dX12_isWord_10 (by decide) (fun c3 => ?_) (fun c3 => False.elim (by simp only [i_lt, i_le, i_eq, ti_m9, ti_m1, ti_0, ti_1, ti_2, ti_3, ti_4, ti_5, ti_6, ti_7, ti_9, ti_12, ti_20, ti_99, ti_700] at c1 c3; omega))
    refine lv_iconst (v := 0) hx hb dX12_isWord_17 (by decide) ?_
    have hP9 := hP.sub (ws' := [(a0, .inr (11, [.ref a1, .int 0, .int 0, .int 0, .ref a2, .int 0, .ref a3, .ref a4, .ref a5, .ref a6, .int 0, .int 0, .int 0, .int 0, .int 0, .int 0, .int 0, .int (-1), .int (-1), .int (-1), .int 0, .int 0, .int 0, .ref a7, .ref a8, .ref a9, .ref a10, .ref a11, .ref a12, .ref a13, .int 0])), (a1, .inl (k0, 7202, .inl (fun _ => 0)))]) [0, 1] rfl
    have hD9 := hD.sub (ws' := [(a0, .inr (11, [.ref a1, .int 0, .int 0, .int 0, .ref a2, .int 0, .ref a3, .ref a4, .ref a5, .ref a6, .int 0, .int 0, .int 0, .int 0, .int 0, .int 0, .int 0, .int (-1), .int (-1), .int (-1), .int 0, .int 0, .int 0, .ref a7, .ref a8, .ref a9, .ref a10, .ref a11, .ref a12, .ref a13, .int 0])), (a1, .inl (k0, 7202, .inl (fun _ => 0)))]) [0, 1] (by decide) rfl
    have hK9 := hK.sub (tys' := []) [] rfl
    refine W.widen (k := 0) (n := 0) (Nat.le_of_ble_eq_true rfl) (Nat.le_of_ble_eq_true rfl) ?_
    exact W.zret (v := 0) hx hb hr rfl (fun t ht hW => ⟨⟨0, (), rfl, rfl, by rw [ht]; exact hP9, va_K.moved hW.alike hK9, hD9⟩, hS.F ht⟩) hS.2.2 dX12_isWord_18

set_option maxHeartbeats 4000000 in
set_option maxRecDepth 100000 in
theorem c_X12_word (l : Launch) (dC : Nat → ClassId) (dI : Nat → Nat → Nat) (sz : Nat)  (a0 a1 a2 a3 a4 a5 a6 a7 a8 a9 a10 a11 a12 a13 : Nat) (k0 : ClassId) (v0 : Int32) (v1 : Int32)  : Met l yX12_word [.code yX12_word cX12_word 3 (some .int)] ({ frames := 2, cells := 0, slots := 0, locals := 80 }) (PcE [.ref a0, .int v0, .int v1] sz dC dI [(k0, .int)] [(a0, .inr (11, [.ref a1, .int 0, .int 0, .int 0, .ref a2, .int 0, .ref a3, .ref a4, .ref a5, .ref a6, .int 0, .int 0, .int 0, .int 0, .int 0, .int 0, .int 0, .int (-1), .int (-1), .int (-1), .int 0, .int 0, .int 0, .ref a7, .ref a8, .ref a9, .ref a10, .ref a11, .ref a12, .ref a13, .int 0])), (a1, .inl (k0, 7202, .inl (fun _ => 0)))]) (va_Qi (fun (r : Int32) (u : Unit) => r = -1) (Bw dC dI (va_A [(a0, .inr (11, [.ref a1, .int 0, .int 0, .int 0, .ref a2, .int 0, .ref a3, .ref a4, .ref a5, .ref a6, .int 0, .int 0, .int 0, .int 0, .int 0, .int 0, .int 0, .int (-1), .int (-1), .int (-1), .int 0, .int 0, .int 0, .ref a7, .ref a8, .ref a9, .ref a10, .ref a11, .ref a12, .ref a13, .int 0])), (a1, .inl (k0, 7202, .inl (fun _ => 0)))] sz) (fun (u : Unit) => []) (fun (u : Unit) => [])) (va_A [(a0, .inr (11, [.ref a1, .int 0, .int 0, .int 0, .ref a2, .int 0, .ref a3, .ref a4, .ref a5, .ref a6, .int 0, .int 0, .int 0, .int 0, .int 0, .int 0, .int 0, .int (-1), .int (-1), .int (-1), .int 0, .int 0, .int 0, .ref a7, .ref a8, .ref a9, .ref a10, .ref a11, .ref a12, .ref a13, .int 0])), (a1, .inl (k0, 7202, .inl (fun _ => 0)))] sz)) 0 0 (va_A [(a0, .inr (11, [.ref a1, .int 0, .int 0, .int 0, .ref a2, .int 0, .ref a3, .ref a4, .ref a5, .ref a6, .int 0, .int 0, .int 0, .int 0, .int 0, .int 0, .int 0, .int (-1), .int (-1), .int (-1), .int 0, .int 0, .int 0, .ref a7, .ref a8, .ref a9, .ref a10, .ref a11, .ref a12, .ref a13, .int 0])), (a1, .inl (k0, 7202, .inl (fun _ => 0)))] sz) := by
  refine Met.ofW (cc := cX12_word) (maxL := 3) (ret := (some .int)) (by decide) rfl ?_
  intro p e s m args below meth c s₁ B hml hv
  obtain ⟨rfl, hsz, hP, hK, hD0, hE⟩ := hv
  have hx := B.exec
  have hb := B.bytes
  have hr := B.returns
  have hown : s.vm.findClass RX12 = some m.cls := findClass_of_methodNamed B.named
  have hlocks := B.notSynchronized
  subst hsz
  have hD := hD0.self (sz := s.heap.size)
  generalize hAe : va_A [(a0, .inr (11, [.ref a1, .int 0, .int 0, .int 0, .ref a2, .int 0, .ref a3, .ref a4, .ref a5, .ref a6, .int 0, .int 0, .int 0, .int 0, .int 0, .int 0, .int 0, .int (-1), .int (-1), .int (-1), .int 0, .int 0, .int 0, .ref a7, .ref a8, .ref a9, .ref a10, .ref a11, .ref a12, .ref a13, .int 0])), (a1, .inl (k0, 7202, .inl (fun _ => 0)))] s.heap.size = A at hD ⊢
  have hA : ∀ q : Nat, s.heap.size ≤ q → A q := fun q h => by rw [← hAe]; exact Or.inr h
  have hS : va_S A s.heap s.heap [] := va_S.rf
  have hl := lv_entry ([.ref a0, .int v0, .int v1]) (n := 3) (Nat.le_of_ble_eq_true rfl)
  rw [lg_entry_eq]
  generalize (lg_sl ([.ref a0, .int v0, .int v1]) ++ List.replicate (3 - (lg_sl ([.ref a0, .int v0, .int v1])).length) Slot.unset).toArray = ls at hl ⊢
  have hl : lv_has ls 3 [(0, .ref a0), (1, .int v0), (2, .int v1)] := hl
  refine lv_iload_n hx hb dX12_word_0 rfl (lv_at hl 2 rfl) ?_
  refine lv_iconst (v := 0) hx hb dX12_word_1 (by decide) ?_
  refine lv_iconst (v := 4) hx hb dX12_word_2 (by decide) ?_
  refine cl_i (wc := []) (wr := [(a0, .inr (11, [.ref a1, .int 0, .int 0, .int 0, .ref a2, .int 0, .ref a3, .ref a4, .ref a5, .ref a6, .int 0, .int 0, .int 0, .int 0, .int 0, .int 0, .int 0, .int (-1), .int (-1), .int (-1), .int 0, .int 0, .int 0, .ref a7, .ref a8, .ref a9, .ref a10, .ref a11, .ref a12, .ref a13, .int 0])), (a1, .inl (k0, 7202, .inl (fun _ => 0)))]) [] [0, 1] rfl rfl (by decide) (by decide) hK hP hD hS hA (va_runS (As := [.int v1, .int 0, .int 4]) (rest := []) ⟨hx, hb, hml, hown, noTs⟩ (c_isFrom_0_4 l dC dI s.heap.size v1) ⟨cbE 3 (wd_1494 hE) (wd_126 hE) (wd_1492 hE) rfl rfl (by decide +kernel) ⟨Nat.le_of_ble_eq_true rfl, Nat.le_of_ble_eq_true rfl⟩, (wd_1493 hE)⟩ ⟨PcE.blind, (pre_E (av := [.int v1, .int 0, .int 4]) (wc := []) (tysc := []) [] [] rfl (by decide) rfl rfl hK hP hD hE)⟩ rfl rfl hl.1 rfl (lv_room (Nat.le_of_ble_eq_true rfl)) dX12_word_3 ⟨Nat.le_of_ble_eq_true rfl, Nat.le_of_ble_eq_true rfl⟩) (fun r1 u1 H locs hw1 hK hP hD hS => ?_)
  have hK : va_K (dC, dI) vwCl [(k0, .int)] s := hK
  have hP : va_P (dC, dI) vwCl [(a0, .inr (11, [.ref a1, .int 0, .int 0, .int 0, .ref a2, .int 0, .ref a3, .ref a4, .ref a5, .ref a6, .int 0, .int 0, .int 0, .int 0, .int 0, .int 0, .int 0, .int (-1), .int (-1), .int (-1), .int 0, .int 0, .int 0, .ref a7, .ref a8, .ref a9, .ref a10, .ref a11, .ref a12, .ref a13, .int 0])), (a1, .inl (k0, 7202, .inl (fun _ => 0)))] H := hP
  have hD : va_D A [(a0, .inr (11, [.ref a1, .int 0, .int 0, .int 0, .ref a2, .int 0, .ref a3, .ref a4, .ref a5, .ref a6, .int 0, .int 0, .int 0, .int 0, .int 0, .int 0, .int 0, .int (-1), .int (-1), .int (-1), .int 0, .int 0, .int 0, .ref a7, .ref a8, .ref a9, .ref a10, .ref a11, .ref a12, .ref a13, .int 0])), (a1, .inl (k0, 7202, .inl (fun _ => 0)))] := hD
  rcases hw1 with ⟨rfl, ha1, hb1⟩ | ⟨rfl, ha1⟩
  · refine W.eq (g2 := F0 m 6 ls [.int 1]) rfl ?_
    refine lv_if_ne (tgt := 15) hx hb dX12_word_6 (by decide) (fun c2 => ?_) (fun c2 => absurd c2 (by decide))
    refine lv_aload_n hx hb dX12_word_15 rfl (lv_at hl 0 rfl) ?_
    refine lv_iload_n hx hb dX12_word_16 rfl (lv_at hl 1 rfl) ?_
    refine cl_i (wc := [(a0, .inr (11, [.ref a1, .int 0, .int 0, .int 0, .ref a2, .int 0, .ref a3, .ref a4, .ref a5, .ref a6, .int 0, .int 0, .int 0, .int 0, .int 0, .int 0, .int 0, .int (-1), .int (-1), .int (-1), .int 0, .int 0, .int 0, .ref a7, .ref a8, .ref a9, .ref a10, .ref a11, .ref a12, .ref a13, .int 0])), (a1, .inl (k0, 7202, .inl (fun _ => 0)))]) (wr := []) [0, 1] [] rfl rfl (by decide) (by decide) hK hP hD hS hA (va_runV (As := [.int v0]) (rest := []) ⟨hx, hb, hml, hown, noTs⟩ (c_X12_isWord l dC dI H.size a0 a1 a2 a3 a4 a5 a6 a7 a8 a9 a10 a11 a12 a13 k0 v0) ⟨cbE 1 (wd_1653 hE) (wd_126 hE) (wd_1650 hE) rfl rfl (by decide +kernel) ⟨Nat.le_of_ble_eq_true rfl, Nat.le_of_ble_eq_true rfl⟩, (wd_1652 hE), (wd_83 hE)⟩ ⟨PcE.blind, va_recv hK hP (ci := 11) (q0 := 0) rfl rfl, (pre_E (av := [.ref a0, .int v0]) (wc := [(a0, .inr (11, [.ref a1, .int 0, .int 0, .int 0, .ref a2, .int 0, .ref a3, .ref a4, .ref a5, .ref a6, .int 0, .int 0, .int 0, .int 0, .int 0, .int 0, .int 0, .int (-1), .int (-1), .int (-1), .int 0, .int 0, .int 0, .ref a7, .ref a8, .ref a9, .ref a10, .ref a11, .ref a12, .ref a13, .int 0])), (a1, .inl (k0, 7202, .inl (fun _ => 0)))]) (tysc := [(k0, .int)]) [0, 1] [0] rfl (by decide) rfl rfl hK hP hD hE)⟩ rfl rfl hl.1 rfl (lv_room (Nat.le_of_ble_eq_true rfl)) dX12_word_17 ⟨Nat.le_of_ble_eq_true rfl, Nat.le_of_ble_eq_true rfl⟩) (fun r3 u3 H locs hw3 hK hP hD hS => ?_)
    have hK : va_K (dC, dI) vwCl [(k0, .int)] s := hK
    have hP : va_P (dC, dI) vwCl [(a0, .inr (11, [.ref a1, .int 0, .int 0, .int 0, .ref a2, .int 0, .ref a3, .ref a4, .ref a5, .ref a6, .int 0, .int 0, .int 0, .int 0, .int 0, .int 0, .int 0, .int (-1), .int (-1), .int (-1), .int 0, .int 0, .int 0, .ref a7, .ref a8, .ref a9, .ref a10, .ref a11, .ref a12, .ref a13, .int 0])), (a1, .inl (k0, 7202, .inl (fun _ => 0)))] H := hP
    have hD : va_D A [(a0, .inr (11, [.ref a1, .int 0, .int 0, .int 0, .ref a2, .int 0, .ref a3, .ref a4, .ref a5, .ref a6, .int 0, .int 0, .int 0, .int 0, .int 0, .int 0, .int 0, .int (-1), .int (-1), .int (-1), .int 0, .int 0, .int 0, .ref a7, .ref a8, .ref a9, .ref a10, .ref a11, .ref a12, .ref a13, .int 0])), (a1, .inl (k0, 7202, .inl (fun _ => 0)))] := hD
    subst hw3
    refine W.eq (g2 := F0 m 20 ls [.int 0]) rfl ?_
    refine lv_if_ne (tgt := 29) hx hb dX12_word_20 (by decide) (fun c4 => absurd c4 (by decide)) (fun c4 => ?_)
    refine lv_aload_n hx hb dX12_word_23 rfl (lv_at hl 0 rfl) ?_
    refine lv_iconst (v := 2) hx hb dX12_word_24 (by decide) ?_
    refine cl_i (wc := [(a0, .inr (11, [.ref a1, .int 0, .int 0, .int 0, .ref a2, .int 0, .ref a3, .ref a4, .ref a5, .ref a6, .int 0, .int 0, .int 0, .int 0, .int 0, .int 0, .int 0, .int (-1), .int (-1), .int (-1), .int 0, .int 0, .int 0, .ref a7, .ref a8, .ref a9, .ref a10, .ref a11, .ref a12, .ref a13, .int 0]))]) (wr := [(a1, .inl (k0, 7202, .inl (fun _ => 0)))]) [0] [1] rfl rfl (by decide) (by decide) hK hP hD hS hA (va_runV (As := [.int 2]) (rest := []) ⟨hx, hb, hml, hown, noTs⟩ (c_X12_refuse_2 l dC dI H.size a0 a1 a2 a3 a4 a5 a6 a7 a8 a9 a10 a11 a12 a13) ⟨cbE 1 (wd_1498 hE) (wd_126 hE) (wd_1495 hE) rfl rfl (by decide +kernel) ⟨Nat.le_of_ble_eq_true rfl, Nat.le_of_ble_eq_true rfl⟩, (wd_1497 hE), (wd_54 hE)⟩ ⟨PcE.blind, va_recv hK hP (ci := 11) (q0 := 0) rfl rfl, (pre_E (av := [.ref a0, .int 2]) (wc := [(a0, .inr (11, [.ref a1, .int 0, .int 0, .int 0, .ref a2, .int 0, .ref a3, .ref a4, .ref a5, .ref a6, .int 0, .int 0, .int 0, .int 0, .int 0, .int 0, .int 0, .int (-1), .int (-1), .int (-1), .int 0, .int 0, .int 0, .ref a7, .ref a8, .ref a9, .ref a10, .ref a11, .ref a12, .ref a13, .int 0]))]) (tysc := []) [0] [] rfl (by decide) rfl rfl hK hP hD hE)⟩ rfl rfl hl.1 rfl (lv_room (Nat.le_of_ble_eq_true rfl)) dX12_word_25 ⟨Nat.le_of_ble_eq_true rfl, Nat.le_of_ble_eq_true rfl⟩) (fun r5 u5 H locs hw5 hK hP hD hS => ?_)
    have hK : va_K (dC, dI) vwCl [(k0, .int)] s := hK
    have hP : va_P (dC, dI) vwCl [(a1, .inl (k0, 7202, .inl (fun _ => 0))), (a0, .inr (11, [.ref a1, .int 2, .int 0, .int 0, .ref a2, .int 0, .ref a3, .ref a4, .ref a5, .ref a6, .int 0, .int 0, .int 0, .int 0, .int 0, .int 0, .int 0, .int (-1), .int (-1), .int (-1), .int 0, .int 0, .int 0, .ref a7, .ref a8, .ref a9, .ref a10, .ref a11, .ref a12, .ref a13, .int 0]))] H := hP
    have hD : va_D A [(a1, .inl (k0, 7202, .inl (fun _ => 0))), (a0, .inr (11, [.ref a1, .int 2, .int 0, .int 0, .ref a2, .int 0, .ref a3, .ref a4, .ref a5, .ref a6, .int 0, .int 0, .int 0, .int 0, .int 0, .int 0, .int 0, .int (-1), .int (-1), .int (-1), .int 0, .int 0, .int 0, .ref a7, .ref a8, .ref a9, .ref a10, .ref a11, .ref a12, .ref a13, .int 0]))] := hD
    subst hw5
    refine W.eq (g2 := F0 m 28 ls [.int (-1)]) rfl ?_
    have hP9 := hP.sub (ws' := []) [] rfl
    have hD9 := hD.sub (ws' := []) [] (by decide) rfl
    have hK9 := hK.sub (tys' := []) [] rfl
    refine W.widen (k := 0) (n := 0) (Nat.le_of_ble_eq_true rfl) (Nat.le_of_ble_eq_true rfl) ?_
    exact W.iret (v := -1) hx hb hr (fun t ht hW => ⟨⟨-1, (), rfl, rfl, by rw [ht]; exact hP9, va_K.moved hW.alike hK9, hD9⟩, hS.F ht⟩) hS.2.2 dX12_word_28
  · refine W.eq (g2 := F0 m 6 ls [.int 0]) rfl ?_
    refine lv_if_ne (tgt := 15) hx hb dX12_word_6 (by decide) (fun c6 => absurd c6 (by decide)) (fun c6 => ?_)
    refine lv_aload_n hx hb dX12_word_9 rfl (lv_at hl 0 rfl) ?_
    refine lv_iconst (v := 1) hx hb dX12_word_10 (by decide) ?_
    refine cl_i (wc := [(a0, .inr (11, [.ref a1, .int 0, .int 0, .int 0, .ref a2, .int 0, .ref a3, .ref a4, .ref a5, .ref a6, .int 0, .int 0, .int 0, .int 0, .int 0, .int 0, .int 0, .int (-1), .int (-1), .int (-1), .int 0, .int 0, .int 0, .ref a7, .ref a8, .ref a9, .ref a10, .ref a11, .ref a12, .ref a13, .int 0]))]) (wr := [(a1, .inl (k0, 7202, .inl (fun _ => 0)))]) [0] [1] rfl rfl (by decide) (by decide) hK hP hD hS hA (va_runV (As := [.int 1]) (rest := []) ⟨hx, hb, hml, hown, noTs⟩ (c_X12_refuse l dC dI H.size a0 a1 a2 a3 a4 a5 a6 a7 a8 a9 a10 a11 a12 a13) ⟨cbE 1 (wd_1498 hE) (wd_126 hE) (wd_1495 hE) rfl rfl (by decide +kernel) ⟨Nat.le_of_ble_eq_true rfl, Nat.le_of_ble_eq_true rfl⟩, (wd_1497 hE), (wd_54 hE)⟩ ⟨PcE.blind, va_recv hK hP (ci := 11) (q0 := 0) rfl rfl, (pre_E (av := [.ref a0, .int 1]) (wc := [(a0, .inr (11, [.ref a1, .int 0, .int 0, .int 0, .ref a2, .int 0, .ref a3, .ref a4, .ref a5, .ref a6, .int 0, .int 0, .int 0, .int 0, .int 0, .int 0, .int 0, .int (-1), .int (-1), .int (-1), .int 0, .int 0, .int 0, .ref a7, .ref a8, .ref a9, .ref a10, .ref a11, .ref a12, .ref a13, .int 0]))]) (tysc := []) [0] [] rfl (by decide) rfl rfl hK hP hD hE)⟩ rfl rfl hl.1 rfl (lv_room (Nat.le_of_ble_eq_true rfl)) dX12_word_11 ⟨Nat.le_of_ble_eq_true rfl, Nat.le_of_ble_eq_true rfl⟩) (fun r7 u7 H locs hw7 hK hP hD hS => ?_)
    have hK : va_K (dC, dI) vwCl [(k0, .int)] s := hK
    have hP : va_P (dC, dI) vwCl [(a1, .inl (k0, 7202, .inl (fun _ => 0))), (a0, .inr (11, [.ref a1, .int 1, .int 0, .int 0, .ref a2, .int 0, .ref a3, .ref a4, .ref a5, .ref a6, .int 0, .int 0, .int 0, .int 0, .int 0, .int 0, .int 0, .int (-1), .int (-1), .int (-1), .int 0, .int 0, .int 0, .ref a7, .ref a8, .ref a9, .ref a10, .ref a11, .ref a12, .ref a13, .int 0]))] H := hP
    have hD : va_D A [(a1, .inl (k0, 7202, .inl (fun _ => 0))), (a0, .inr (11, [.ref a1, .int 1, .int 0, .int 0, .ref a2, .int 0, .ref a3, .ref a4, .ref a5, .ref a6, .int 0, .int 0, .int 0, .int 0, .int 0, .int 0, .int 0, .int (-1), .int (-1), .int (-1), .int 0, .int 0, .int 0, .ref a7, .ref a8, .ref a9, .ref a10, .ref a11, .ref a12, .ref a13, .int 0]))] := hD
    subst hw7
    refine W.eq (g2 := F0 m 14 ls [.int (-1)]) rfl ?_
    have hP9 := hP.sub (ws' := []) [] rfl
    have hD9 := hD.sub (ws' := []) [] (by decide) rfl
    have hK9 := hK.sub (tys' := []) [] rfl
    refine W.widen (k := 0) (n := 0) (Nat.le_of_ble_eq_true rfl) (Nat.le_of_ble_eq_true rfl) ?_
    exact W.iret (v := -1) hx hb hr (fun t ht hW => ⟨⟨-1, (), rfl, rfl, by rw [ht]; exact hP9, va_K.moved hW.alike hK9, hD9⟩, hS.F ht⟩) hS.2.2 dX12_word_14

set_option maxHeartbeats 4000000 in
set_option maxRecDepth 100000 in
theorem c_X12_number_ (l : Launch) (dC : Nat → ClassId) (dI : Nat → Nat → Nat) (sz : Nat)  (a0 a1 a2 a3 a4 a5 a6 a7 a8 a9 a10 a11 a12 a13 : Nat) (k0 : ClassId) (v0 : Int32) (v1 : Int32)  : Met l yX12_number_ [.code yX12_number_ cX12_number_ 3 (some .int)] ({ frames := 2, cells := 0, slots := 0, locals := 80 }) (PcE [.ref a0, .int v0, .int v1] sz dC dI [(k0, .int)] [(a0, .inr (11, [.ref a1, .int 0, .int 0, .int 0, .ref a2, .int 0, .ref a3, .ref a4, .ref a5, .ref a6, .int 0, .int 0, .int 0, .int 0, .int 0, .int 0, .int 0, .int (-1), .int (-1), .int (-1), .int 0, .int 0, .int 0, .ref a7, .ref a8, .ref a9, .ref a10, .ref a11, .ref a12, .ref a13, .int 0])), (a1, .inl (k0, 7202, .inl (fun _ => 0)))]) (va_Qi (fun (r : Int32) (u : Unit) => r = -1) (Bw dC dI (va_A [(a0, .inr (11, [.ref a1, .int 0, .int 0, .int 0, .ref a2, .int 0, .ref a3, .ref a4, .ref a5, .ref a6, .int 0, .int 0, .int 0, .int 0, .int 0, .int 0, .int 0, .int (-1), .int (-1), .int (-1), .int 0, .int 0, .int 0, .ref a7, .ref a8, .ref a9, .ref a10, .ref a11, .ref a12, .ref a13, .int 0])), (a1, .inl (k0, 7202, .inl (fun _ => 0)))] sz) (fun (u : Unit) => []) (fun (u : Unit) => [])) (va_A [(a0, .inr (11, [.ref a1, .int 0, .int 0, .int 0, .ref a2, .int 0, .ref a3, .ref a4, .ref a5, .ref a6, .int 0, .int 0, .int 0, .int 0, .int 0, .int 0, .int 0, .int (-1), .int (-1), .int (-1), .int 0, .int 0, .int 0, .ref a7, .ref a8, .ref a9, .ref a10, .ref a11, .ref a12, .ref a13, .int 0])), (a1, .inl (k0, 7202, .inl (fun _ => 0)))] sz)) 0 0 (va_A [(a0, .inr (11, [.ref a1, .int 0, .int 0, .int 0, .ref a2, .int 0, .ref a3, .ref a4, .ref a5, .ref a6, .int 0, .int 0, .int 0, .int 0, .int 0, .int 0, .int 0, .int (-1), .int (-1), .int (-1), .int 0, .int 0, .int 0, .ref a7, .ref a8, .ref a9, .ref a10, .ref a11, .ref a12, .ref a13, .int 0])), (a1, .inl (k0, 7202, .inl (fun _ => 0)))] sz) := by
  refine Met.ofW (cc := cX12_number_) (maxL := 3) (ret := (some .int)) (by decide) rfl ?_
  intro p e s m args below meth c s₁ B hml hv
  obtain ⟨rfl, hsz, hP, hK, hD0, hE⟩ := hv
  have hx := B.exec
  have hb := B.bytes
  have hr := B.returns
  have hown : s.vm.findClass RX12 = some m.cls := findClass_of_methodNamed B.named
  have hlocks := B.notSynchronized
  subst hsz
  have hD := hD0.self (sz := s.heap.size)
  generalize hAe : va_A [(a0, .inr (11, [.ref a1, .int 0, .int 0, .int 0, .ref a2, .int 0, .ref a3, .ref a4, .ref a5, .ref a6, .int 0, .int 0, .int 0, .int 0, .int 0, .int 0, .int 0, .int (-1), .int (-1), .int (-1), .int 0, .int 0, .int 0, .ref a7, .ref a8, .ref a9, .ref a10, .ref a11, .ref a12, .ref a13, .int 0])), (a1, .inl (k0, 7202, .inl (fun _ => 0)))] s.heap.size = A at hD ⊢
  have hA : ∀ q : Nat, s.heap.size ≤ q → A q := fun q h => by rw [← hAe]; exact Or.inr h
  have hS : va_S A s.heap s.heap [] := va_S.rf
  have hl := lv_entry ([.ref a0, .int v0, .int v1]) (n := 3) (Nat.le_of_ble_eq_true rfl)
  rw [lg_entry_eq]
  generalize (lg_sl ([.ref a0, .int v0, .int v1]) ++ List.replicate (3 - (lg_sl ([.ref a0, .int v0, .int v1])).length) Slot.unset).toArray = ls at hl ⊢
  have hl : lv_has ls 3 [(0, .ref a0), (1, .int v0), (2, .int v1)] := hl
  refine lv_iload_n hx hb dX12_number__0 rfl (lv_at hl 2 rfl) ?_
  refine lv_if_ge (tgt := 10) hx hb dX12_number__1 (by decide) (fun c1 => ?_) (fun c1 => ?_)
  · refine lv_aload_n hx hb dX12_number__10 rfl (lv_at hl 0 rfl) ?_
    refine lv_iload_n hx hb dX12_number__11 rfl (lv_at hl 1 rfl) ?_
    refine cl_i (wc := [(a0, .inr (11, [.ref a1, .int 0, .int 0, .int 0, .ref a2, .int 0, .ref a3, .ref a4, .ref a5, .ref a6, .int 0, .int 0, .int 0, .int 0, .int 0, .int 0, .int 0, .int (-1), .int (-1), .int (-1), .int 0, .int 0, .int 0, .ref a7, .ref a8, .ref a9, .ref a10, .ref a11, .ref a12, .ref a13, .int 0])), (a1, .inl (k0, 7202, .inl (fun _ => 0)))]) (wr := []) [0, 1] [] rfl rfl (by decide) (by decide) hK hP hD hS hA (va_runV (As := [.int v0]) (rest := []) ⟨hx, hb, hml, hown, noTs⟩ (c_X12_isWord l dC dI s.heap.size a0 a1 a2 a3 a4 a5 a6 a7 a8 a9 a10 a11 a12 a13 k0 v0) ⟨cbE 1 (wd_1653 hE) (wd_126 hE) (wd_1650 hE) rfl rfl (by decide +kernel) ⟨Nat.le_of_ble_eq_true rfl, Nat.le_of_ble_eq_true rfl⟩, (wd_1652 hE), (wd_83 hE)⟩ ⟨PcE.blind, va_recv hK hP (ci := 11) (q0 := 0) rfl rfl, (pre_E (av := [.ref a0, .int v0]) (wc := [(a0, .inr (11, [.ref a1, .int 0, .int 0, .int 0, .ref a2, .int 0, .ref a3, .ref a4, .ref a5, .ref a6, .int 0, .int 0, .int 0, .int 0, .int 0, .int 0, .int 0, .int (-1), .int (-1), .int (-1), .int 0, .int 0, .int 0, .ref a7, .ref a8, .ref a9, .ref a10, .ref a11, .ref a12, .ref a13, .int 0])), (a1, .inl (k0, 7202, .inl (fun _ => 0)))]) (tysc := [(k0, .int)]) [0, 1] [0] rfl (by decide) rfl rfl hK hP hD hE)⟩ rfl rfl hl.1 rfl (lv_room (Nat.le_of_ble_eq_true rfl)) dX12_number__12 ⟨Nat.le_of_ble_eq_true rfl, Nat.le_of_ble_eq_true rfl⟩) (fun r2 u2 H locs hw2 hK hP hD hS => ?_)
    have hK : va_K (dC, dI) vwCl [(k0, .int)] s := hK
    have hP : va_P (dC, dI) vwCl [(a0, .inr (11, [.ref a1, .int 0, .int 0, .int 0, .ref a2, .int 0, .ref a3, .ref a4, .ref a5, .ref a6, .int 0, .int 0, .int 0, .int 0, .int 0, .int 0, .int 0, .int (-1), .int (-1), .int (-1), .int 0, .int 0, .int 0, .ref a7, .ref a8, .ref a9, .ref a10, .ref a11, .ref a12, .ref a13, .int 0])), (a1, .inl (k0, 7202, .inl (fun _ => 0)))] H := hP
    have hD : va_D A [(a0, .inr (11, [.ref a1, .int 0, .int 0, .int 0, .ref a2, .int 0, .ref a3, .ref a4, .ref a5, .ref a6, .int 0, .int 0, .int 0, .int 0, .int 0, .int 0, .int 0, .int (-1), .int (-1), .int (-1), .int 0, .int 0, .int 0, .ref a7, .ref a8, .ref a9, .ref a10, .ref a11, .ref a12, .ref a13, .int 0])), (a1, .inl (k0, 7202, .inl (fun _ => 0)))] := hD
    subst hw2
    refine W.eq (g2 := F0 m 15 ls [.int 0]) rfl ?_
    refine lv_if_ne (tgt := 24) hx hb dX12_number__15 (by decide) (fun c3 => absurd c3 (by decide)) (fun c3 => ?_)
    refine lv_aload_n hx hb dX12_number__18 rfl (lv_at hl 0 rfl) ?_
    refine lv_iconst (v := 2) hx hb dX12_number__19 (by decide) ?_
    refine cl_i (wc := [(a0, .inr (11, [.ref a1, .int 0, .int 0, .int 0, .ref a2, .int 0, .ref a3, .ref a4, .ref a5, .ref a6, .int 0, .int 0, .int 0, .int 0, .int 0, .int 0, .int 0, .int (-1), .int (-1), .int (-1), .int 0, .int 0, .int 0, .ref a7, .ref a8, .ref a9, .ref a10, .ref a11, .ref a12, .ref a13, .int 0]))]) (wr := [(a1, .inl (k0, 7202, .inl (fun _ => 0)))]) [0] [1] rfl rfl (by decide) (by decide) hK hP hD hS hA (va_runV (As := [.int 2]) (rest := []) ⟨hx, hb, hml, hown, noTs⟩ (c_X12_refuse_2 l dC dI H.size a0 a1 a2 a3 a4 a5 a6 a7 a8 a9 a10 a11 a12 a13) ⟨cbE 1 (wd_1498 hE) (wd_126 hE) (wd_1495 hE) rfl rfl (by decide +kernel) ⟨Nat.le_of_ble_eq_true rfl, Nat.le_of_ble_eq_true rfl⟩, (wd_1497 hE), (wd_54 hE)⟩ ⟨PcE.blind, va_recv hK hP (ci := 11) (q0 := 0) rfl rfl, (pre_E (av := [.ref a0, .int 2]) (wc := [(a0, .inr (11, [.ref a1, .int 0, .int 0, .int 0, .ref a2, .int 0, .ref a3, .ref a4, .ref a5, .ref a6, .int 0, .int 0, .int 0, .int 0, .int 0, .int 0, .int 0, .int (-1), .int (-1), .int (-1), .int 0, .int 0, .int 0, .ref a7, .ref a8, .ref a9, .ref a10, .ref a11, .ref a12, .ref a13, .int 0]))]) (tysc := []) [0] [] rfl (by decide) rfl rfl hK hP hD hE)⟩ rfl rfl hl.1 rfl (lv_room (Nat.le_of_ble_eq_true rfl)) dX12_number__20 ⟨Nat.le_of_ble_eq_true rfl, Nat.le_of_ble_eq_true rfl⟩) (fun r4 u4 H locs hw4 hK hP hD hS => ?_)
    have hK : va_K (dC, dI) vwCl [(k0, .int)] s := hK
    have hP : va_P (dC, dI) vwCl [(a1, .inl (k0, 7202, .inl (fun _ => 0))), (a0, .inr (11, [.ref a1, .int 2, .int 0, .int 0, .ref a2, .int 0, .ref a3, .ref a4, .ref a5, .ref a6, .int 0, .int 0, .int 0, .int 0, .int 0, .int 0, .int 0, .int (-1), .int (-1), .int (-1), .int 0, .int 0, .int 0, .ref a7, .ref a8, .ref a9, .ref a10, .ref a11, .ref a12, .ref a13, .int 0]))] H := hP
    have hD : va_D A [(a1, .inl (k0, 7202, .inl (fun _ => 0))), (a0, .inr (11, [.ref a1, .int 2, .int 0, .int 0, .ref a2, .int 0, .ref a3, .ref a4, .ref a5, .ref a6, .int 0, .int 0, .int 0, .int 0, .int 0, .int 0, .int 0, .int (-1), .int (-1), .int (-1), .int 0, .int 0, .int 0, .ref a7, .ref a8, .ref a9, .ref a10, .ref a11, .ref a12, .ref a13, .int 0]))] := hD
    subst hw4
    refine W.eq (g2 := F0 m 23 ls [.int (-1)]) rfl ?_
    have hP9 := hP.sub (ws' := []) [] rfl
    have hD9 := hD.sub (ws' := []) [] (by decide) rfl
    have hK9 := hK.sub (tys' := []) [] rfl
    refine W.widen (k := 0) (n := 0) (Nat.le_of_ble_eq_true rfl) (Nat.le_of_ble_eq_true rfl) ?_
    exact W.iret (v := -1) hx hb hr (fun t ht hW => ⟨⟨-1, (), rfl, rfl, by rw [ht]; exact hP9, va_K.moved hW.alike hK9, hD9⟩, hS.F ht⟩) hS.2.2 dX12_number__23
  · refine lv_aload_n hx hb dX12_number__4 rfl (lv_at hl 0 rfl) ?_
    refine lv_iconst (v := 1) hx hb dX12_number__5 (by decide) ?_
    refine cl_i (wc := [(a0, .inr (11, [.ref a1, .int 0, .int 0, .int 0, .ref a2, .int 0, .ref a3, .ref a4, .ref a5, .ref a6, .int 0, .int 0, .int 0, .int 0, .int 0, .int 0, .int 0, .int (-1), .int (-1), .int (-1), .int 0, .int 0, .int 0, .ref a7, .ref a8, .ref a9, .ref a10, .ref a11, .ref a12, .ref a13, .int 0]))]) (wr := [(a1, .inl (k0, 7202, .inl (fun _ => 0)))]) [0] [1] rfl rfl (by decide) (by decide) hK hP hD hS hA (va_runV (As := [.int 1]) (rest := []) ⟨hx, hb, hml, hown, noTs⟩ (c_X12_refuse l dC dI s.heap.size a0 a1 a2 a3 a4 a5 a6 a7 a8 a9 a10 a11 a12 a13) ⟨cbE 1 (wd_1498 hE) (wd_126 hE) (wd_1495 hE) rfl rfl (by decide +kernel) ⟨Nat.le_of_ble_eq_true rfl, Nat.le_of_ble_eq_true rfl⟩, (wd_1497 hE), (wd_54 hE)⟩ ⟨PcE.blind, va_recv hK hP (ci := 11) (q0 := 0) rfl rfl, (pre_E (av := [.ref a0, .int 1]) (wc := [(a0, .inr (11, [.ref a1, .int 0, .int 0, .int 0, .ref a2, .int 0, .ref a3, .ref a4, .ref a5, .ref a6, .int 0, .int 0, .int 0, .int 0, .int 0, .int 0, .int 0, .int (-1), .int (-1), .int (-1), .int 0, .int 0, .int 0, .ref a7, .ref a8, .ref a9, .ref a10, .ref a11, .ref a12, .ref a13, .int 0]))]) (tysc := []) [0] [] rfl (by decide) rfl rfl hK hP hD hE)⟩ rfl rfl hl.1 rfl (lv_room (Nat.le_of_ble_eq_true rfl)) dX12_number__6 ⟨Nat.le_of_ble_eq_true rfl, Nat.le_of_ble_eq_true rfl⟩) (fun r5 u5 H locs hw5 hK hP hD hS => ?_)
    have hK : va_K (dC, dI) vwCl [(k0, .int)] s := hK
    have hP : va_P (dC, dI) vwCl [(a1, .inl (k0, 7202, .inl (fun _ => 0))), (a0, .inr (11, [.ref a1, .int 1, .int 0, .int 0, .ref a2, .int 0, .ref a3, .ref a4, .ref a5, .ref a6, .int 0, .int 0, .int 0, .int 0, .int 0, .int 0, .int 0, .int (-1), .int (-1), .int (-1), .int 0, .int 0, .int 0, .ref a7, .ref a8, .ref a9, .ref a10, .ref a11, .ref a12, .ref a13, .int 0]))] H := hP
    have hD : va_D A [(a1, .inl (k0, 7202, .inl (fun _ => 0))), (a0, .inr (11, [.ref a1, .int 1, .int 0, .int 0, .ref a2, .int 0, .ref a3, .ref a4, .ref a5, .ref a6, .int 0, .int 0, .int 0, .int 0, .int 0, .int 0, .int 0, .int (-1), .int (-1), .int (-1), .int 0, .int 0, .int 0, .ref a7, .ref a8, .ref a9, .ref a10, .ref a11, .ref a12, .ref a13, .int 0]))] := hD
    subst hw5
    refine W.eq (g2 := F0 m 9 ls [.int (-1)]) rfl ?_
    have hP9 := hP.sub (ws' := []) [] rfl
    have hD9 := hD.sub (ws' := []) [] (by decide) rfl
    have hK9 := hK.sub (tys' := []) [] rfl
    refine W.widen (k := 0) (n := 0) (Nat.le_of_ble_eq_true rfl) (Nat.le_of_ble_eq_true rfl) ?_
    exact W.iret (v := -1) hx hb hr (fun t ht hW => ⟨⟨-1, (), rfl, rfl, by rw [ht]; exact hP9, va_K.moved hW.alike hK9, hD9⟩, hS.F ht⟩) hS.2.2 dX12_number__9

set_option maxHeartbeats 4000000 in
set_option maxRecDepth 100000 in
theorem c_X12_step_ (l : Launch) (dC : Nat → ClassId) (dI : Nat → Nat → Nat) (sz : Nat)  (a0 a1 a2 a3 a4 a5 a6 a7 a8 a9 a10 a11 a12 a13 : Nat) (k0 : ClassId) (v0 : Int32) (v1 : Int32)  : Met l yX12_step_ [.code yX12_step_ cX12_step_ 3 (some .int)] ({ frames := 2, cells := 0, slots := 0, locals := 80 }) (PcE [.ref a0, .int v0, .int v1] sz dC dI [(k0, .int)] [(a0, .inr (11, [.ref a1, .int 0, .int 0, .int 0, .ref a2, .int 0, .ref a3, .ref a4, .ref a5, .ref a6, .int 0, .int 0, .int 0, .int 0, .int 0, .int 0, .int 0, .int (-1), .int (-1), .int (-1), .int 0, .int 0, .int 0, .ref a7, .ref a8, .ref a9, .ref a10, .ref a11, .ref a12, .ref a13, .int 0])), (a1, .inl (k0, 7202, .inl (fun _ => 0)))]) (va_Qi (fun (r : Int32) (u : Unit) => r = -1) (Bw dC dI (va_A [(a0, .inr (11, [.ref a1, .int 0, .int 0, .int 0, .ref a2, .int 0, .ref a3, .ref a4, .ref a5, .ref a6, .int 0, .int 0, .int 0, .int 0, .int 0, .int 0, .int 0, .int (-1), .int (-1), .int (-1), .int 0, .int 0, .int 0, .ref a7, .ref a8, .ref a9, .ref a10, .ref a11, .ref a12, .ref a13, .int 0])), (a1, .inl (k0, 7202, .inl (fun _ => 0)))] sz) (fun (u : Unit) => []) (fun (u : Unit) => [])) (va_A [(a0, .inr (11, [.ref a1, .int 0, .int 0, .int 0, .ref a2, .int 0, .ref a3, .ref a4, .ref a5, .ref a6, .int 0, .int 0, .int 0, .int 0, .int 0, .int 0, .int 0, .int (-1), .int (-1), .int (-1), .int 0, .int 0, .int 0, .ref a7, .ref a8, .ref a9, .ref a10, .ref a11, .ref a12, .ref a13, .int 0])), (a1, .inl (k0, 7202, .inl (fun _ => 0)))] sz)) 0 0 (va_A [(a0, .inr (11, [.ref a1, .int 0, .int 0, .int 0, .ref a2, .int 0, .ref a3, .ref a4, .ref a5, .ref a6, .int 0, .int 0, .int 0, .int 0, .int 0, .int 0, .int 0, .int (-1), .int (-1), .int (-1), .int 0, .int 0, .int 0, .ref a7, .ref a8, .ref a9, .ref a10, .ref a11, .ref a12, .ref a13, .int 0])), (a1, .inl (k0, 7202, .inl (fun _ => 0)))] sz) := by
  refine Met.ofW (cc := cX12_step_) (maxL := 3) (ret := (some .int)) (by decide) rfl ?_
  intro p e s m args below meth c s₁ B hml hv
  obtain ⟨rfl, hsz, hP, hK, hD0, hE⟩ := hv
  have hx := B.exec
  have hb := B.bytes
  have hr := B.returns
  have hown : s.vm.findClass RX12 = some m.cls := findClass_of_methodNamed B.named
  have hlocks := B.notSynchronized
  subst hsz
  have hD := hD0.self (sz := s.heap.size)
  generalize hAe : va_A [(a0, .inr (11, [.ref a1, .int 0, .int 0, .int 0, .ref a2, .int 0, .ref a3, .ref a4, .ref a5, .ref a6, .int 0, .int 0, .int 0, .int 0, .int 0, .int 0, .int 0, .int (-1), .int (-1), .int (-1), .int 0, .int 0, .int 0, .ref a7, .ref a8, .ref a9, .ref a10, .ref a11, .ref a12, .ref a13, .int 0])), (a1, .inl (k0, 7202, .inl (fun _ => 0)))] s.heap.size = A at hD ⊢
  have hA : ∀ q : Nat, s.heap.size ≤ q → A q := fun q h => by rw [← hAe]; exact Or.inr h
  have hS : va_S A s.heap s.heap [] := va_S.rf
  have hl := lv_entry ([.ref a0, .int v0, .int v1]) (n := 3) (Nat.le_of_ble_eq_true rfl)
  rw [lg_entry_eq]
  generalize (lg_sl ([.ref a0, .int v0, .int v1]) ++ List.replicate (3 - (lg_sl ([.ref a0, .int v0, .int v1])).length) Slot.unset).toArray = ls at hl ⊢
  have hl : lv_has ls 3 [(0, .ref a0), (1, .int v0), (2, .int v1)] := hl
  refine lv_iload_n hx hb dX12_step__0 rfl (lv_at hl 2 rfl) ?_
  refine lv_if_ge (tgt := 10) hx hb dX12_step__1 (by decide) (fun c1 => ?_) (fun c1 => ?_)
  · refine lv_aload_n hx hb dX12_step__10 rfl (lv_at hl 0 rfl) ?_
    refine lv_iload_n hx hb dX12_step__11 rfl (lv_at hl 1 rfl) ?_
    refine cl_i (wc := [(a0, .inr (11, [.ref a1, .int 0, .int 0, .int 0, .ref a2, .int 0, .ref a3, .ref a4, .ref a5, .ref a6, .int 0, .int 0, .int 0, .int 0, .int 0, .int 0, .int 0, .int (-1), .int (-1), .int (-1), .int 0, .int 0, .int 0, .ref a7, .ref a8, .ref a9, .ref a10, .ref a11, .ref a12, .ref a13, .int 0])), (a1, .inl (k0, 7202, .inl (fun _ => 0)))]) (wr := []) [0, 1] [] rfl rfl (by decide) (by decide) hK hP hD hS hA (va_runV (As := [.int v0]) (rest := []) ⟨hx, hb, hml, hown, noTs⟩ (c_X12_isWord l dC dI s.heap.size a0 a1 a2 a3 a4 a5 a6 a7 a8 a9 a10 a11 a12 a13 k0 v0) ⟨cbE 1 (wd_1653 hE) (wd_126 hE) (wd_1650 hE) rfl rfl (by decide +kernel) ⟨Nat.le_of_ble_eq_true rfl, Nat.le_of_ble_eq_true rfl⟩, (wd_1652 hE), (wd_83 hE)⟩ ⟨PcE.blind, va_recv hK hP (ci := 11) (q0 := 0) rfl rfl, (pre_E (av := [.ref a0, .int v0]) (wc := [(a0, .inr (11, [.ref a1, .int 0, .int 0, .int 0, .ref a2, .int 0, .ref a3, .ref a4, .ref a5, .ref a6, .int 0, .int 0, .int 0, .int 0, .int 0, .int 0, .int 0, .int (-1), .int (-1), .int (-1), .int 0, .int 0, .int 0, .ref a7, .ref a8, .ref a9, .ref a10, .ref a11, .ref a12, .ref a13, .int 0])), (a1, .inl (k0, 7202, .inl (fun _ => 0)))]) (tysc := [(k0, .int)]) [0, 1] [0] rfl (by decide) rfl rfl hK hP hD hE)⟩ rfl rfl hl.1 rfl (lv_room (Nat.le_of_ble_eq_true rfl)) dX12_step__12 ⟨Nat.le_of_ble_eq_true rfl, Nat.le_of_ble_eq_true rfl⟩) (fun r2 u2 H locs hw2 hK hP hD hS => ?_)
    have hK : va_K (dC, dI) vwCl [(k0, .int)] s := hK
    have hP : va_P (dC, dI) vwCl [(a0, .inr (11, [.ref a1, .int 0, .int 0, .int 0, .ref a2, .int 0, .ref a3, .ref a4, .ref a5, .ref a6, .int 0, .int 0, .int 0, .int 0, .int 0, .int 0, .int 0, .int (-1), .int (-1), .int (-1), .int 0, .int 0, .int 0, .ref a7, .ref a8, .ref a9, .ref a10, .ref a11, .ref a12, .ref a13, .int 0])), (a1, .inl (k0, 7202, .inl (fun _ => 0)))] H := hP
    have hD : va_D A [(a0, .inr (11, [.ref a1, .int 0, .int 0, .int 0, .ref a2, .int 0, .ref a3, .ref a4, .ref a5, .ref a6, .int 0, .int 0, .int 0, .int 0, .int 0, .int 0, .int 0, .int (-1), .int (-1), .int (-1), .int 0, .int 0, .int 0, .ref a7, .ref a8, .ref a9, .ref a10, .ref a11, .ref a12, .ref a13, .int 0])), (a1, .inl (k0, 7202, .inl (fun _ => 0)))] := hD
    subst hw2
    refine W.eq (g2 := F0 m 15 ls [.int 0]) rfl ?_
    refine lv_if_ne (tgt := 24) hx hb dX12_step__15 (by decide) (fun c3 => absurd c3 (by decide)) (fun c3 => ?_)
    refine lv_aload_n hx hb dX12_step__18 rfl (lv_at hl 0 rfl) ?_
    refine lv_iconst (v := 2) hx hb dX12_step__19 (by decide) ?_
    refine cl_i (wc := [(a0, .inr (11, [.ref a1, .int 0, .int 0, .int 0, .ref a2, .int 0, .ref a3, .ref a4, .ref a5, .ref a6, .int 0, .int 0, .int 0, .int 0, .int 0, .int 0, .int 0, .int (-1), .int (-1), .int (-1), .int 0, .int 0, .int 0, .ref a7, .ref a8, .ref a9, .ref a10, .ref a11, .ref a12, .ref a13, .int 0]))]) (wr := [(a1, .inl (k0, 7202, .inl (fun _ => 0)))]) [0] [1] rfl rfl (by decide) (by decide) hK hP hD hS hA (va_runV (As := [.int 2]) (rest := []) ⟨hx, hb, hml, hown, noTs⟩ (c_X12_refuse_2 l dC dI H.size a0 a1 a2 a3 a4 a5 a6 a7 a8 a9 a10 a11 a12 a13) ⟨cbE 1 (wd_1498 hE) (wd_126 hE) (wd_1495 hE) rfl rfl (by decide +kernel) ⟨Nat.le_of_ble_eq_true rfl, Nat.le_of_ble_eq_true rfl⟩, (wd_1497 hE), (wd_54 hE)⟩ ⟨PcE.blind, va_recv hK hP (ci := 11) (q0 := 0) rfl rfl, (pre_E (av := [.ref a0, .int 2]) (wc := [(a0, .inr (11, [.ref a1, .int 0, .int 0, .int 0, .ref a2, .int 0, .ref a3, .ref a4, .ref a5, .ref a6, .int 0, .int 0, .int 0, .int 0, .int 0, .int 0, .int 0, .int (-1), .int (-1), .int (-1), .int 0, .int 0, .int 0, .ref a7, .ref a8, .ref a9, .ref a10, .ref a11, .ref a12, .ref a13, .int 0]))]) (tysc := []) [0] [] rfl (by decide) rfl rfl hK hP hD hE)⟩ rfl rfl hl.1 rfl (lv_room (Nat.le_of_ble_eq_true rfl)) dX12_step__20 ⟨Nat.le_of_ble_eq_true rfl, Nat.le_of_ble_eq_true rfl⟩) (fun r4 u4 H locs hw4 hK hP hD hS => ?_)
    have hK : va_K (dC, dI) vwCl [(k0, .int)] s := hK
    have hP : va_P (dC, dI) vwCl [(a1, .inl (k0, 7202, .inl (fun _ => 0))), (a0, .inr (11, [.ref a1, .int 2, .int 0, .int 0, .ref a2, .int 0, .ref a3, .ref a4, .ref a5, .ref a6, .int 0, .int 0, .int 0, .int 0, .int 0, .int 0, .int 0, .int (-1), .int (-1), .int (-1), .int 0, .int 0, .int 0, .ref a7, .ref a8, .ref a9, .ref a10, .ref a11, .ref a12, .ref a13, .int 0]))] H := hP
    have hD : va_D A [(a1, .inl (k0, 7202, .inl (fun _ => 0))), (a0, .inr (11, [.ref a1, .int 2, .int 0, .int 0, .ref a2, .int 0, .ref a3, .ref a4, .ref a5, .ref a6, .int 0, .int 0, .int 0, .int 0, .int 0, .int 0, .int 0, .int (-1), .int (-1), .int (-1), .int 0, .int 0, .int 0, .ref a7, .ref a8, .ref a9, .ref a10, .ref a11, .ref a12, .ref a13, .int 0]))] := hD
    subst hw4
    refine W.eq (g2 := F0 m 23 ls [.int (-1)]) rfl ?_
    have hP9 := hP.sub (ws' := []) [] rfl
    have hD9 := hD.sub (ws' := []) [] (by decide) rfl
    have hK9 := hK.sub (tys' := []) [] rfl
    refine W.widen (k := 0) (n := 0) (Nat.le_of_ble_eq_true rfl) (Nat.le_of_ble_eq_true rfl) ?_
    exact W.iret (v := -1) hx hb hr (fun t ht hW => ⟨⟨-1, (), rfl, rfl, by rw [ht]; exact hP9, va_K.moved hW.alike hK9, hD9⟩, hS.F ht⟩) hS.2.2 dX12_step__23
  · refine lv_aload_n hx hb dX12_step__4 rfl (lv_at hl 0 rfl) ?_
    refine lv_iconst (v := 1) hx hb dX12_step__5 (by decide) ?_
    refine cl_i (wc := [(a0, .inr (11, [.ref a1, .int 0, .int 0, .int 0, .ref a2, .int 0, .ref a3, .ref a4, .ref a5, .ref a6, .int 0, .int 0, .int 0, .int 0, .int 0, .int 0, .int 0, .int (-1), .int (-1), .int (-1), .int 0, .int 0, .int 0, .ref a7, .ref a8, .ref a9, .ref a10, .ref a11, .ref a12, .ref a13, .int 0]))]) (wr := [(a1, .inl (k0, 7202, .inl (fun _ => 0)))]) [0] [1] rfl rfl (by decide) (by decide) hK hP hD hS hA (va_runV (As := [.int 1]) (rest := []) ⟨hx, hb, hml, hown, noTs⟩ (c_X12_refuse l dC dI s.heap.size a0 a1 a2 a3 a4 a5 a6 a7 a8 a9 a10 a11 a12 a13) ⟨cbE 1 (wd_1498 hE) (wd_126 hE) (wd_1495 hE) rfl rfl (by decide +kernel) ⟨Nat.le_of_ble_eq_true rfl, Nat.le_of_ble_eq_true rfl⟩, (wd_1497 hE), (wd_54 hE)⟩ ⟨PcE.blind, va_recv hK hP (ci := 11) (q0 := 0) rfl rfl, (pre_E (av := [.ref a0, .int 1]) (wc := [(a0, .inr (11, [.ref a1, .int 0, .int 0, .int 0, .ref a2, .int 0, .ref a3, .ref a4, .ref a5, .ref a6, .int 0, .int 0, .int 0, .int 0, .int 0, .int 0, .int 0, .int (-1), .int (-1), .int (-1), .int 0, .int 0, .int 0, .ref a7, .ref a8, .ref a9, .ref a10, .ref a11, .ref a12, .ref a13, .int 0]))]) (tysc := []) [0] [] rfl (by decide) rfl rfl hK hP hD hE)⟩ rfl rfl hl.1 rfl (lv_room (Nat.le_of_ble_eq_true rfl)) dX12_step__6 ⟨Nat.le_of_ble_eq_true rfl, Nat.le_of_ble_eq_true rfl⟩) (fun r5 u5 H locs hw5 hK hP hD hS => ?_)
    have hK : va_K (dC, dI) vwCl [(k0, .int)] s := hK
    have hP : va_P (dC, dI) vwCl [(a1, .inl (k0, 7202, .inl (fun _ => 0))), (a0, .inr (11, [.ref a1, .int 1, .int 0, .int 0, .ref a2, .int 0, .ref a3, .ref a4, .ref a5, .ref a6, .int 0, .int 0, .int 0, .int 0, .int 0, .int 0, .int 0, .int (-1), .int (-1), .int (-1), .int 0, .int 0, .int 0, .ref a7, .ref a8, .ref a9, .ref a10, .ref a11, .ref a12, .ref a13, .int 0]))] H := hP
    have hD : va_D A [(a1, .inl (k0, 7202, .inl (fun _ => 0))), (a0, .inr (11, [.ref a1, .int 1, .int 0, .int 0, .ref a2, .int 0, .ref a3, .ref a4, .ref a5, .ref a6, .int 0, .int 0, .int 0, .int 0, .int 0, .int 0, .int 0, .int (-1), .int (-1), .int (-1), .int 0, .int 0, .int 0, .ref a7, .ref a8, .ref a9, .ref a10, .ref a11, .ref a12, .ref a13, .int 0]))] := hD
    subst hw5
    refine W.eq (g2 := F0 m 9 ls [.int (-1)]) rfl ?_
    have hP9 := hP.sub (ws' := []) [] rfl
    have hD9 := hD.sub (ws' := []) [] (by decide) rfl
    have hK9 := hK.sub (tys' := []) [] rfl
    refine W.widen (k := 0) (n := 0) (Nat.le_of_ble_eq_true rfl) (Nat.le_of_ble_eq_true rfl) ?_
    exact W.iret (v := -1) hx hb hr (fun t ht hW => ⟨⟨-1, (), rfl, rfl, by rw [ht]; exact hP9, va_K.moved hW.alike hK9, hD9⟩, hS.F ht⟩) hS.2.2 dX12_step__9

set_option maxHeartbeats 4000000 in
set_option maxRecDepth 100000 in
theorem c_X12_take (l : Launch) (dC : Nat → ClassId) (dI : Nat → Nat → Nat) (sz : Nat)  (a0 a1 a2 a3 a4 a5 a6 a7 a8 a9 a10 a11 a12 a13 : Nat) (k0 : ClassId) (v0 : Int32) (v1 : Int32)  : Met l yX12_take [.code yX12_take cX12_take 3 (some .int)] ({ frames := 2, cells := 0, slots := 0, locals := 80 }) (PcE [.ref a0, .int v0, .int v1] sz dC dI [(k0, .int)] [(a0, .inr (11, [.ref a1, .int 0, .int 0, .int 0, .ref a2, .int 0, .ref a3, .ref a4, .ref a5, .ref a6, .int 0, .int 0, .int 0, .int 0, .int 0, .int 0, .int 0, .int (-1), .int (-1), .int (-1), .int 0, .int 0, .int 0, .ref a7, .ref a8, .ref a9, .ref a10, .ref a11, .ref a12, .ref a13, .int 0])), (a1, .inl (k0, 7202, .inl (fun _ => 0)))]) (va_Qi (fun (r : Int32) (u : Unit) => r = -1) (Bw dC dI (va_A [(a0, .inr (11, [.ref a1, .int 0, .int 0, .int 0, .ref a2, .int 0, .ref a3, .ref a4, .ref a5, .ref a6, .int 0, .int 0, .int 0, .int 0, .int 0, .int 0, .int 0, .int (-1), .int (-1), .int (-1), .int 0, .int 0, .int 0, .ref a7, .ref a8, .ref a9, .ref a10, .ref a11, .ref a12, .ref a13, .int 0])), (a1, .inl (k0, 7202, .inl (fun _ => 0)))] sz) (fun (u : Unit) => []) (fun (u : Unit) => [])) (va_A [(a0, .inr (11, [.ref a1, .int 0, .int 0, .int 0, .ref a2, .int 0, .ref a3, .ref a4, .ref a5, .ref a6, .int 0, .int 0, .int 0, .int 0, .int 0, .int 0, .int 0, .int (-1), .int (-1), .int (-1), .int 0, .int 0, .int 0, .ref a7, .ref a8, .ref a9, .ref a10, .ref a11, .ref a12, .ref a13, .int 0])), (a1, .inl (k0, 7202, .inl (fun _ => 0)))] sz)) 0 0 (va_A [(a0, .inr (11, [.ref a1, .int 0, .int 0, .int 0, .ref a2, .int 0, .ref a3, .ref a4, .ref a5, .ref a6, .int 0, .int 0, .int 0, .int 0, .int 0, .int 0, .int 0, .int (-1), .int (-1), .int (-1), .int 0, .int 0, .int 0, .ref a7, .ref a8, .ref a9, .ref a10, .ref a11, .ref a12, .ref a13, .int 0])), (a1, .inl (k0, 7202, .inl (fun _ => 0)))] sz) := by
  refine Met.ofW (cc := cX12_take) (maxL := 3) (ret := (some .int)) (by decide) rfl ?_
  intro p e s m args below meth c s₁ B hml hv
  obtain ⟨rfl, hsz, hP, hK, hD0, hE⟩ := hv
  have hx := B.exec
  have hb := B.bytes
  have hr := B.returns
  have hown : s.vm.findClass RX12 = some m.cls := findClass_of_methodNamed B.named
  have hlocks := B.notSynchronized
  subst hsz
  have hD := hD0.self (sz := s.heap.size)
  generalize hAe : va_A [(a0, .inr (11, [.ref a1, .int 0, .int 0, .int 0, .ref a2, .int 0, .ref a3, .ref a4, .ref a5, .ref a6, .int 0, .int 0, .int 0, .int 0, .int 0, .int 0, .int 0, .int (-1), .int (-1), .int (-1), .int 0, .int 0, .int 0, .ref a7, .ref a8, .ref a9, .ref a10, .ref a11, .ref a12, .ref a13, .int 0])), (a1, .inl (k0, 7202, .inl (fun _ => 0)))] s.heap.size = A at hD ⊢
  have hA : ∀ q : Nat, s.heap.size ≤ q → A q := fun q h => by rw [← hAe]; exact Or.inr h
  have hS : va_S A s.heap s.heap [] := va_S.rf
  have hl := lv_entry ([.ref a0, .int v0, .int v1]) (n := 3) (Nat.le_of_ble_eq_true rfl)
  rw [lg_entry_eq]
  generalize (lg_sl ([.ref a0, .int v0, .int v1]) ++ List.replicate (3 - (lg_sl ([.ref a0, .int v0, .int v1])).length) Slot.unset).toArray = ls at hl ⊢
  have hl : lv_has ls 3 [(0, .ref a0), (1, .int v0), (2, .int v1)] := hl
  refine lv_iload_n hx hb dX12_take_0 rfl (lv_at hl 2 rfl) ?_
  refine lv_if_ge (tgt := 10) hx hb dX12_take_1 (by decide) (fun c1 => ?_) (fun c1 => ?_)
  · refine lv_aload_n hx hb dX12_take_10 rfl (lv_at hl 0 rfl) ?_
    refine lv_iload_n hx hb dX12_take_11 rfl (lv_at hl 1 rfl) ?_
    refine cl_i (wc := [(a0, .inr (11, [.ref a1, .int 0, .int 0, .int 0, .ref a2, .int 0, .ref a3, .ref a4, .ref a5, .ref a6, .int 0, .int 0, .int 0, .int 0, .int 0, .int 0, .int 0, .int (-1), .int (-1), .int (-1), .int 0, .int 0, .int 0, .ref a7, .ref a8, .ref a9, .ref a10, .ref a11, .ref a12, .ref a13, .int 0])), (a1, .inl (k0, 7202, .inl (fun _ => 0)))]) (wr := []) [0, 1] [] rfl rfl (by decide) (by decide) hK hP hD hS hA (va_runV (As := [.int v0]) (rest := []) ⟨hx, hb, hml, hown, noTs⟩ (c_X12_isVertex l dC dI s.heap.size a0 a1 a2 a3 a4 a5 a6 a7 a8 a9 a10 a11 a12 a13 k0 v0) ⟨cbE 1 (wd_1560 hE) (wd_126 hE) (wd_1557 hE) rfl rfl (by decide +kernel) ⟨Nat.le_of_ble_eq_true rfl, Nat.le_of_ble_eq_true rfl⟩, (wd_1559 hE), (wd_67 hE)⟩ ⟨PcE.blind, va_recv hK hP (ci := 11) (q0 := 0) rfl rfl, (pre_E (av := [.ref a0, .int v0]) (wc := [(a0, .inr (11, [.ref a1, .int 0, .int 0, .int 0, .ref a2, .int 0, .ref a3, .ref a4, .ref a5, .ref a6, .int 0, .int 0, .int 0, .int 0, .int 0, .int 0, .int 0, .int (-1), .int (-1), .int (-1), .int 0, .int 0, .int 0, .ref a7, .ref a8, .ref a9, .ref a10, .ref a11, .ref a12, .ref a13, .int 0])), (a1, .inl (k0, 7202, .inl (fun _ => 0)))]) (tysc := [(k0, .int)]) [0, 1] [0] rfl (by decide) rfl rfl hK hP hD hE)⟩ rfl rfl hl.1 rfl (lv_room (Nat.le_of_ble_eq_true rfl)) dX12_take_12 ⟨Nat.le_of_ble_eq_true rfl, Nat.le_of_ble_eq_true rfl⟩) (fun r2 u2 H locs hw2 hK hP hD hS => ?_)
    have hK : va_K (dC, dI) vwCl [(k0, .int)] s := hK
    have hP : va_P (dC, dI) vwCl [(a0, .inr (11, [.ref a1, .int 0, .int 0, .int 0, .ref a2, .int 0, .ref a3, .ref a4, .ref a5, .ref a6, .int 0, .int 0, .int 0, .int 0, .int 0, .int 0, .int 0, .int (-1), .int (-1), .int (-1), .int 0, .int 0, .int 0, .ref a7, .ref a8, .ref a9, .ref a10, .ref a11, .ref a12, .ref a13, .int 0])), (a1, .inl (k0, 7202, .inl (fun _ => 0)))] H := hP
    have hD : va_D A [(a0, .inr (11, [.ref a1, .int 0, .int 0, .int 0, .ref a2, .int 0, .ref a3, .ref a4, .ref a5, .ref a6, .int 0, .int 0, .int 0, .int 0, .int 0, .int 0, .int 0, .int (-1), .int (-1), .int (-1), .int 0, .int 0, .int 0, .ref a7, .ref a8, .ref a9, .ref a10, .ref a11, .ref a12, .ref a13, .int 0])), (a1, .inl (k0, 7202, .inl (fun _ => 0)))] := hD
    subst hw2
    refine W.eq (g2 := F0 m 15 ls [.int 0]) rfl ?_
    refine lv_if_ne (tgt := 24) hx hb dX12_take_15 (by decide) (fun c3 => absurd c3 (by decide)) (fun c3 => ?_)
    refine lv_aload_n hx hb dX12_take_18 rfl (lv_at hl 0 rfl) ?_
    refine lv_iconst (v := 2) hx hb dX12_take_19 (by decide) ?_
    refine cl_i (wc := [(a0, .inr (11, [.ref a1, .int 0, .int 0, .int 0, .ref a2, .int 0, .ref a3, .ref a4, .ref a5, .ref a6, .int 0, .int 0, .int 0, .int 0, .int 0, .int 0, .int 0, .int (-1), .int (-1), .int (-1), .int 0, .int 0, .int 0, .ref a7, .ref a8, .ref a9, .ref a10, .ref a11, .ref a12, .ref a13, .int 0]))]) (wr := [(a1, .inl (k0, 7202, .inl (fun _ => 0)))]) [0] [1] rfl rfl (by decide) (by decide) hK hP hD hS hA (va_runV (As := [.int 2]) (rest := []) ⟨hx, hb, hml, hown, noTs⟩ (c_X12_refuse_2 l dC dI H.size a0 a1 a2 a3 a4 a5 a6 a7 a8 a9 a10 a11 a12 a13) ⟨cbE 1 (wd_1498 hE) (wd_126 hE) (wd_1495 hE) rfl rfl (by decide +kernel) ⟨Nat.le_of_ble_eq_true rfl, Nat.le_of_ble_eq_true rfl⟩, (wd_1497 hE), (wd_54 hE)⟩ ⟨PcE.blind, va_recv hK hP (ci := 11) (q0 := 0) rfl rfl, (pre_E (av := [.ref a0, .int 2]) (wc := [(a0, .inr (11, [.ref a1, .int 0, .int 0, .int 0, .ref a2, .int 0, .ref a3, .ref a4, .ref a5, .ref a6, .int 0, .int 0, .int 0, .int 0, .int 0, .int 0, .int 0, .int (-1), .int (-1), .int (-1), .int 0, .int 0, .int 0, .ref a7, .ref a8, .ref a9, .ref a10, .ref a11, .ref a12, .ref a13, .int 0]))]) (tysc := []) [0] [] rfl (by decide) rfl rfl hK hP hD hE)⟩ rfl rfl hl.1 rfl (lv_room (Nat.le_of_ble_eq_true rfl)) dX12_take_20 ⟨Nat.le_of_ble_eq_true rfl, Nat.le_of_ble_eq_true rfl⟩) (fun r4 u4 H locs hw4 hK hP hD hS => ?_)
    have hK : va_K (dC, dI) vwCl [(k0, .int)] s := hK
    have hP : va_P (dC, dI) vwCl [(a1, .inl (k0, 7202, .inl (fun _ => 0))), (a0, .inr (11, [.ref a1, .int 2, .int 0, .int 0, .ref a2, .int 0, .ref a3, .ref a4, .ref a5, .ref a6, .int 0, .int 0, .int 0, .int 0, .int 0, .int 0, .int 0, .int (-1), .int (-1), .int (-1), .int 0, .int 0, .int 0, .ref a7, .ref a8, .ref a9, .ref a10, .ref a11, .ref a12, .ref a13, .int 0]))] H := hP
    have hD : va_D A [(a1, .inl (k0, 7202, .inl (fun _ => 0))), (a0, .inr (11, [.ref a1, .int 2, .int 0, .int 0, .ref a2, .int 0, .ref a3, .ref a4, .ref a5, .ref a6, .int 0, .int 0, .int 0, .int 0, .int 0, .int 0, .int 0, .int (-1), .int (-1), .int (-1), .int 0, .int 0, .int 0, .ref a7, .ref a8, .ref a9, .ref a10, .ref a11, .ref a12, .ref a13, .int 0]))] := hD
    subst hw4
    refine W.eq (g2 := F0 m 23 ls [.int (-1)]) rfl ?_
    have hP9 := hP.sub (ws' := []) [] rfl
    have hD9 := hD.sub (ws' := []) [] (by decide) rfl
    have hK9 := hK.sub (tys' := []) [] rfl
    refine W.widen (k := 0) (n := 0) (Nat.le_of_ble_eq_true rfl) (Nat.le_of_ble_eq_true rfl) ?_
    exact W.iret (v := -1) hx hb hr (fun t ht hW => ⟨⟨-1, (), rfl, rfl, by rw [ht]; exact hP9, va_K.moved hW.alike hK9, hD9⟩, hS.F ht⟩) hS.2.2 dX12_take_23
  · refine lv_aload_n hx hb dX12_take_4 rfl (lv_at hl 0 rfl) ?_
    refine lv_iconst (v := 1) hx hb dX12_take_5 (by decide) ?_
    refine cl_i (wc := [(a0, .inr (11, [.ref a1, .int 0, .int 0, .int 0, .ref a2, .int 0, .ref a3, .ref a4, .ref a5, .ref a6, .int 0, .int 0, .int 0, .int 0, .int 0, .int 0, .int 0, .int (-1), .int (-1), .int (-1), .int 0, .int 0, .int 0, .ref a7, .ref a8, .ref a9, .ref a10, .ref a11, .ref a12, .ref a13, .int 0]))]) (wr := [(a1, .inl (k0, 7202, .inl (fun _ => 0)))]) [0] [1] rfl rfl (by decide) (by decide) hK hP hD hS hA (va_runV (As := [.int 1]) (rest := []) ⟨hx, hb, hml, hown, noTs⟩ (c_X12_refuse l dC dI s.heap.size a0 a1 a2 a3 a4 a5 a6 a7 a8 a9 a10 a11 a12 a13) ⟨cbE 1 (wd_1498 hE) (wd_126 hE) (wd_1495 hE) rfl rfl (by decide +kernel) ⟨Nat.le_of_ble_eq_true rfl, Nat.le_of_ble_eq_true rfl⟩, (wd_1497 hE), (wd_54 hE)⟩ ⟨PcE.blind, va_recv hK hP (ci := 11) (q0 := 0) rfl rfl, (pre_E (av := [.ref a0, .int 1]) (wc := [(a0, .inr (11, [.ref a1, .int 0, .int 0, .int 0, .ref a2, .int 0, .ref a3, .ref a4, .ref a5, .ref a6, .int 0, .int 0, .int 0, .int 0, .int 0, .int 0, .int 0, .int (-1), .int (-1), .int (-1), .int 0, .int 0, .int 0, .ref a7, .ref a8, .ref a9, .ref a10, .ref a11, .ref a12, .ref a13, .int 0]))]) (tysc := []) [0] [] rfl (by decide) rfl rfl hK hP hD hE)⟩ rfl rfl hl.1 rfl (lv_room (Nat.le_of_ble_eq_true rfl)) dX12_take_6 ⟨Nat.le_of_ble_eq_true rfl, Nat.le_of_ble_eq_true rfl⟩) (fun r5 u5 H locs hw5 hK hP hD hS => ?_)
    have hK : va_K (dC, dI) vwCl [(k0, .int)] s := hK
    have hP : va_P (dC, dI) vwCl [(a1, .inl (k0, 7202, .inl (fun _ => 0))), (a0, .inr (11, [.ref a1, .int 1, .int 0, .int 0, .ref a2, .int 0, .ref a3, .ref a4, .ref a5, .ref a6, .int 0, .int 0, .int 0, .int 0, .int 0, .int 0, .int 0, .int (-1), .int (-1), .int (-1), .int 0, .int 0, .int 0, .ref a7, .ref a8, .ref a9, .ref a10, .ref a11, .ref a12, .ref a13, .int 0]))] H := hP
    have hD : va_D A [(a1, .inl (k0, 7202, .inl (fun _ => 0))), (a0, .inr (11, [.ref a1, .int 1, .int 0, .int 0, .ref a2, .int 0, .ref a3, .ref a4, .ref a5, .ref a6, .int 0, .int 0, .int 0, .int 0, .int 0, .int 0, .int 0, .int (-1), .int (-1), .int (-1), .int 0, .int 0, .int 0, .ref a7, .ref a8, .ref a9, .ref a10, .ref a11, .ref a12, .ref a13, .int 0]))] := hD
    subst hw5
    refine W.eq (g2 := F0 m 9 ls [.int (-1)]) rfl ?_
    have hP9 := hP.sub (ws' := []) [] rfl
    have hD9 := hD.sub (ws' := []) [] (by decide) rfl
    have hK9 := hK.sub (tys' := []) [] rfl
    refine W.widen (k := 0) (n := 0) (Nat.le_of_ble_eq_true rfl) (Nat.le_of_ble_eq_true rfl) ?_
    exact W.iret (v := -1) hx hb hr (fun t ht hW => ⟨⟨-1, (), rfl, rfl, by rw [ht]; exact hP9, va_K.moved hW.alike hK9, hD9⟩, hS.F ht⟩) hS.2.2 dX12_take_9

set_option maxHeartbeats 4000000 in
set_option maxRecDepth 100000 in
theorem c_X12_form (l : Launch) (dC : Nat → ClassId) (dI : Nat → Nat → Nat) (sz : Nat)  (a0 a1 a2 a3 a4 a5 a6 a7 a8 a9 a10 a11 a12 a13 : Nat) (k0 : ClassId) (v0 : Int32)  : Met l yX12_form [.code yX12_form cX12_form 3 (some .int)] ({ frames := 2, cells := 0, slots := 0, locals := 80 }) (PcE [.ref a0, .int v0] sz dC dI [(k0, .int)] [(a0, .inr (11, [.ref a1, .int 0, .int 0, .int 0, .ref a2, .int 0, .ref a3, .ref a4, .ref a5, .ref a6, .int 0, .int 0, .int 0, .int 0, .int 0, .int 0, .int 0, .int (-1), .int (-1), .int (-1), .int 0, .int 0, .int 0, .ref a7, .ref a8, .ref a9, .ref a10, .ref a11, .ref a12, .ref a13, .int 0])), (a1, .inl (k0, 7202, .inl (fun _ => 0)))]) (va_Qi (fun (r : Int32) (u : Unit) => r = -1) (Bw dC dI (va_A [(a0, .inr (11, [.ref a1, .int 0, .int 0, .int 0, .ref a2, .int 0, .ref a3, .ref a4, .ref a5, .ref a6, .int 0, .int 0, .int 0, .int 0, .int 0, .int 0, .int 0, .int (-1), .int (-1), .int (-1), .int 0, .int 0, .int 0, .ref a7, .ref a8, .ref a9, .ref a10, .ref a11, .ref a12, .ref a13, .int 0])), (a1, .inl (k0, 7202, .inl (fun _ => 0)))] sz) (fun (u : Unit) => []) (fun (u : Unit) => [])) (va_A [(a0, .inr (11, [.ref a1, .int 0, .int 0, .int 0, .ref a2, .int 0, .ref a3, .ref a4, .ref a5, .ref a6, .int 0, .int 0, .int 0, .int 0, .int 0, .int 0, .int 0, .int (-1), .int (-1), .int (-1), .int 0, .int 0, .int 0, .ref a7, .ref a8, .ref a9, .ref a10, .ref a11, .ref a12, .ref a13, .int 0])), (a1, .inl (k0, 7202, .inl (fun _ => 0)))] sz)) 0 0 (va_A [(a0, .inr (11, [.ref a1, .int 0, .int 0, .int 0, .ref a2, .int 0, .ref a3, .ref a4, .ref a5, .ref a6, .int 0, .int 0, .int 0, .int 0, .int 0, .int 0, .int 0, .int (-1), .int (-1), .int (-1), .int 0, .int 0, .int 0, .ref a7, .ref a8, .ref a9, .ref a10, .ref a11, .ref a12, .ref a13, .int 0])), (a1, .inl (k0, 7202, .inl (fun _ => 0)))] sz) := by
  refine Met.ofW (cc := cX12_form) (maxL := 3) (ret := (some .int)) (by decide) rfl ?_
  intro p e s m args below meth c s₁ B hml hv
  obtain ⟨rfl, hsz, hP, hK, hD0, hE⟩ := hv
  have hx := B.exec
  have hb := B.bytes
  have hr := B.returns
  have hown : s.vm.findClass RX12 = some m.cls := findClass_of_methodNamed B.named
  have hlocks := B.notSynchronized
  subst hsz
  have hD := hD0.self (sz := s.heap.size)
  generalize hAe : va_A [(a0, .inr (11, [.ref a1, .int 0, .int 0, .int 0, .ref a2, .int 0, .ref a3, .ref a4, .ref a5, .ref a6, .int 0, .int 0, .int 0, .int 0, .int 0, .int 0, .int 0, .int (-1), .int (-1), .int (-1), .int 0, .int 0, .int 0, .ref a7, .ref a8, .ref a9, .ref a10, .ref a11, .ref a12, .ref a13, .int 0])), (a1, .inl (k0, 7202, .inl (fun _ => 0)))] s.heap.size = A at hD ⊢
  have hA : ∀ q : Nat, s.heap.size ≤ q → A q := fun q h => by rw [← hAe]; exact Or.inr h
  have hS : va_S A s.heap s.heap [] := va_S.rf
  have hl := lv_entry ([.ref a0, .int v0]) (n := 3) (Nat.le_of_ble_eq_true rfl)
  rw [lg_entry_eq]
  generalize (lg_sl ([.ref a0, .int v0]) ++ List.replicate (3 - (lg_sl ([.ref a0, .int v0])).length) Slot.unset).toArray = ls at hl ⊢
  have hl : lv_has ls 3 [(0, .ref a0), (1, .int v0)] := hl
  refine lv_aload_n hx hb dX12_form_0 rfl (lv_at hl 0 rfl) ?_
  refine lv_iload_n hx hb dX12_form_1 rfl (lv_at hl 1 rfl) ?_
  refine cl_i (wc := [(a0, .inr (11, [.ref a1, .int 0, .int 0, .int 0, .ref a2, .int 0, .ref a3, .ref a4, .ref a5, .ref a6, .int 0, .int 0, .int 0, .int 0, .int 0, .int 0, .int 0, .int (-1), .int (-1), .int (-1), .int 0, .int 0, .int 0, .ref a7, .ref a8, .ref a9, .ref a10, .ref a11, .ref a12, .ref a13, .int 0])), (a1, .inl (k0, 7202, .inl (fun _ => 0)))]) (wr := []) [0, 1] [] rfl rfl (by decide) (by decide) hK hP hD hS hA (va_runV (As := [.int v0]) (rest := []) ⟨hx, hb, hml, hown, noTs⟩ (c_X12_isWord l dC dI s.heap.size a0 a1 a2 a3 a4 a5 a6 a7 a8 a9 a10 a11 a12 a13 k0 v0) ⟨cbE 1 (wd_1653 hE) (wd_126 hE) (wd_1650 hE) rfl rfl (by decide +kernel) ⟨Nat.le_of_ble_eq_true rfl, Nat.le_of_ble_eq_true rfl⟩, (wd_1652 hE), (wd_83 hE)⟩ ⟨PcE.blind, va_recv hK hP (ci := 11) (q0 := 0) rfl rfl, (pre_E (av := [.ref a0, .int v0]) (wc := [(a0, .inr (11, [.ref a1, .int 0, .int 0, .int 0, .ref a2, .int 0, .ref a3, .ref a4, .ref a5, .ref a6, .int 0, .int 0, .int 0, .int 0, .int 0, .int 0, .int 0, .int (-1), .int (-1), .int (-1), .int 0, .int 0, .int 0, .ref a7, .ref a8, .ref a9, .ref a10, .ref a11, .ref a12, .ref a13, .int 0])), (a1, .inl (k0, 7202, .inl (fun _ => 0)))]) (tysc := [(k0, .int)]) [0, 1] [0] rfl (by decide) rfl rfl hK hP hD hE)⟩ rfl rfl hl.1 rfl (lv_room (Nat.le_of_ble_eq_true rfl)) dX12_form_2 ⟨Nat.le_of_ble_eq_true rfl, Nat.le_of_ble_eq_true rfl⟩) (fun r1 u1 H locs hw1 hK hP hD hS => ?_)
  have hK : va_K (dC, dI) vwCl [(k0, .int)] s := hK
  have hP : va_P (dC, dI) vwCl [(a0, .inr (11, [.ref a1, .int 0, .int 0, .int 0, .ref a2, .int 0, .ref a3, .ref a4, .ref a5, .ref a6, .int 0, .int 0, .int 0, .int 0, .int 0, .int 0, .int 0, .int (-1), .int (-1), .int (-1), .int 0, .int 0, .int 0, .ref a7, .ref a8, .ref a9, .ref a10, .ref a11, .ref a12, .ref a13, .int 0])), (a1, .inl (k0, 7202, .inl (fun _ => 0)))] H := hP
  have hD : va_D A [(a0, .inr (11, [.ref a1, .int 0, .int 0, .int 0, .ref a2, .int 0, .ref a3, .ref a4, .ref a5, .ref a6, .int 0, .int 0, .int 0, .int 0, .int 0, .int 0, .int 0, .int (-1), .int (-1), .int (-1), .int 0, .int 0, .int 0, .ref a7, .ref a8, .ref a9, .ref a10, .ref a11, .ref a12, .ref a13, .int 0])), (a1, .inl (k0, 7202, .inl (fun _ => 0)))] := hD
  subst hw1
  refine W.eq (g2 := F0 m 5 ls [.int 0]) rfl ?_
  refine lv_if_ne (tgt := 14) hx hb dX12_form_5 (by decide) (fun c2 => absurd c2 (by decide)) (fun c2 => ?_)
  refine lv_aload_n hx hb dX12_form_8 rfl (lv_at hl 0 rfl) ?_
  refine lv_iconst (v := 2) hx hb dX12_form_9 (by decide) ?_
  refine cl_i (wc := [(a0, .inr (11, [.ref a1, .int 0, .int 0, .int 0, .ref a2, .int 0, .ref a3, .ref a4, .ref a5, .ref a6, .int 0, .int 0, .int 0, .int 0, .int 0, .int 0, .int 0, .int (-1), .int (-1), .int (-1), .int 0, .int 0, .int 0, .ref a7, .ref a8, .ref a9, .ref a10, .ref a11, .ref a12, .ref a13, .int 0]))]) (wr := [(a1, .inl (k0, 7202, .inl (fun _ => 0)))]) [0] [1] rfl rfl (by decide) (by decide) hK hP hD hS hA (va_runV (As := [.int 2]) (rest := []) ⟨hx, hb, hml, hown, noTs⟩ (c_X12_refuse_2 l dC dI H.size a0 a1 a2 a3 a4 a5 a6 a7 a8 a9 a10 a11 a12 a13) ⟨cbE 1 (wd_1498 hE) (wd_126 hE) (wd_1495 hE) rfl rfl (by decide +kernel) ⟨Nat.le_of_ble_eq_true rfl, Nat.le_of_ble_eq_true rfl⟩, (wd_1497 hE), (wd_54 hE)⟩ ⟨PcE.blind, va_recv hK hP (ci := 11) (q0 := 0) rfl rfl, (pre_E (av := [.ref a0, .int 2]) (wc := [(a0, .inr (11, [.ref a1, .int 0, .int 0, .int 0, .ref a2, .int 0, .ref a3, .ref a4, .ref a5, .ref a6, .int 0, .int 0, .int 0, .int 0, .int 0, .int 0, .int 0, .int (-1), .int (-1), .int (-1), .int 0, .int 0, .int 0, .ref a7, .ref a8, .ref a9, .ref a10, .ref a11, .ref a12, .ref a13, .int 0]))]) (tysc := []) [0] [] rfl (by decide) rfl rfl hK hP hD hE)⟩ rfl rfl hl.1 rfl (lv_room (Nat.le_of_ble_eq_true rfl)) dX12_form_10 ⟨Nat.le_of_ble_eq_true rfl, Nat.le_of_ble_eq_true rfl⟩) (fun r3 u3 H locs hw3 hK hP hD hS => ?_)
  have hK : va_K (dC, dI) vwCl [(k0, .int)] s := hK
  have hP : va_P (dC, dI) vwCl [(a1, .inl (k0, 7202, .inl (fun _ => 0))), (a0, .inr (11, [.ref a1, .int 2, .int 0, .int 0, .ref a2, .int 0, .ref a3, .ref a4, .ref a5, .ref a6, .int 0, .int 0, .int 0, .int 0, .int 0, .int 0, .int 0, .int (-1), .int (-1), .int (-1), .int 0, .int 0, .int 0, .ref a7, .ref a8, .ref a9, .ref a10, .ref a11, .ref a12, .ref a13, .int 0]))] H := hP
  have hD : va_D A [(a1, .inl (k0, 7202, .inl (fun _ => 0))), (a0, .inr (11, [.ref a1, .int 2, .int 0, .int 0, .ref a2, .int 0, .ref a3, .ref a4, .ref a5, .ref a6, .int 0, .int 0, .int 0, .int 0, .int 0, .int 0, .int 0, .int (-1), .int (-1), .int (-1), .int 0, .int 0, .int 0, .ref a7, .ref a8, .ref a9, .ref a10, .ref a11, .ref a12, .ref a13, .int 0]))] := hD
  subst hw3
  refine W.eq (g2 := F0 m 13 ls [.int (-1)]) rfl ?_
  have hP9 := hP.sub (ws' := []) [] rfl
  have hD9 := hD.sub (ws' := []) [] (by decide) rfl
  have hK9 := hK.sub (tys' := []) [] rfl
  refine W.widen (k := 0) (n := 0) (Nat.le_of_ble_eq_true rfl) (Nat.le_of_ble_eq_true rfl) ?_
  exact W.iret (v := -1) hx hb hr (fun t ht hW => ⟨⟨-1, (), rfl, rfl, by rw [ht]; exact hP9, va_K.moved hW.alike hK9, hD9⟩, hS.F ht⟩) hS.2.2 dX12_form_13

set_option maxHeartbeats 4000000 in
set_option maxRecDepth 100000 in
theorem c_X12_times (l : Launch) (dC : Nat → ClassId) (dI : Nat → Nat → Nat) (sz : Nat)  (a0 a1 a2 a3 a4 a5 a6 a7 a8 a9 a10 a11 a12 a13 : Nat) (k0 : ClassId) (v0 : Int32) (v1 : Int32)  : Met l yX12_times [.code yX12_times cX12_times 3 (some .int)] ({ frames := 2, cells := 0, slots := 0, locals := 80 }) (PcE [.ref a0, .int v0, .int v1] sz dC dI [(k0, .int)] [(a0, .inr (11, [.ref a1, .int 0, .int 0, .int 0, .ref a2, .int 0, .ref a3, .ref a4, .ref a5, .ref a6, .int 0, .int 0, .int 0, .int 0, .int 0, .int 0, .int 0, .int (-1), .int (-1), .int (-1), .int 0, .int 0, .int 0, .ref a7, .ref a8, .ref a9, .ref a10, .ref a11, .ref a12, .ref a13, .int 0])), (a1, .inl (k0, 7202, .inl (fun _ => 0)))]) (va_Qi (fun (r : Int32) (u : Unit) => r = -1) (Bw dC dI (va_A [(a0, .inr (11, [.ref a1, .int 0, .int 0, .int 0, .ref a2, .int 0, .ref a3, .ref a4, .ref a5, .ref a6, .int 0, .int 0, .int 0, .int 0, .int 0, .int 0, .int 0, .int (-1), .int (-1), .int (-1), .int 0, .int 0, .int 0, .ref a7, .ref a8, .ref a9, .ref a10, .ref a11, .ref a12, .ref a13, .int 0])), (a1, .inl (k0, 7202, .inl (fun _ => 0)))] sz) (fun (u : Unit) => []) (fun (u : Unit) => [])) (va_A [(a0, .inr (11, [.ref a1, .int 0, .int 0, .int 0, .ref a2, .int 0, .ref a3, .ref a4, .ref a5, .ref a6, .int 0, .int 0, .int 0, .int 0, .int 0, .int 0, .int 0, .int (-1), .int (-1), .int (-1), .int 0, .int 0, .int 0, .ref a7, .ref a8, .ref a9, .ref a10, .ref a11, .ref a12, .ref a13, .int 0])), (a1, .inl (k0, 7202, .inl (fun _ => 0)))] sz)) 0 0 (va_A [(a0, .inr (11, [.ref a1, .int 0, .int 0, .int 0, .ref a2, .int 0, .ref a3, .ref a4, .ref a5, .ref a6, .int 0, .int 0, .int 0, .int 0, .int 0, .int 0, .int 0, .int (-1), .int (-1), .int (-1), .int 0, .int 0, .int 0, .ref a7, .ref a8, .ref a9, .ref a10, .ref a11, .ref a12, .ref a13, .int 0])), (a1, .inl (k0, 7202, .inl (fun _ => 0)))] sz) := by
  refine Met.ofW (cc := cX12_times) (maxL := 3) (ret := (some .int)) (by decide) rfl ?_
  intro p e s m args below meth c s₁ B hml hv
  obtain ⟨rfl, hsz, hP, hK, hD0, hE⟩ := hv
  have hx := B.exec
  have hb := B.bytes
  have hr := B.returns
  have hown : s.vm.findClass RX12 = some m.cls := findClass_of_methodNamed B.named
  have hlocks := B.notSynchronized
  subst hsz
  have hD := hD0.self (sz := s.heap.size)
  generalize hAe : va_A [(a0, .inr (11, [.ref a1, .int 0, .int 0, .int 0, .ref a2, .int 0, .ref a3, .ref a4, .ref a5, .ref a6, .int 0, .int 0, .int 0, .int 0, .int 0, .int 0, .int 0, .int (-1), .int (-1), .int (-1), .int 0, .int 0, .int 0, .ref a7, .ref a8, .ref a9, .ref a10, .ref a11, .ref a12, .ref a13, .int 0])), (a1, .inl (k0, 7202, .inl (fun _ => 0)))] s.heap.size = A at hD ⊢
  have hA : ∀ q : Nat, s.heap.size ≤ q → A q := fun q h => by rw [← hAe]; exact Or.inr h
  have hS : va_S A s.heap s.heap [] := va_S.rf
  have hl := lv_entry ([.ref a0, .int v0, .int v1]) (n := 3) (Nat.le_of_ble_eq_true rfl)
  rw [lg_entry_eq]
  generalize (lg_sl ([.ref a0, .int v0, .int v1]) ++ List.replicate (3 - (lg_sl ([.ref a0, .int v0, .int v1])).length) Slot.unset).toArray = ls at hl ⊢
  have hl : lv_has ls 3 [(0, .ref a0), (1, .int v0), (2, .int v1)] := hl
  refine lv_aload_n hx hb dX12_times_0 rfl (lv_at hl 0 rfl) ?_
  refine lv_iload_n hx hb dX12_times_1 rfl (lv_at hl 1 rfl) ?_
  refine cl_i (wc := [(a0, .inr (11, [.ref a1, .int 0, .int 0, .int 0, .ref a2, .int 0, .ref a3, .ref a4, .ref a5, .ref a6, .int 0, .int 0, .int 0, .int 0, .int 0, .int 0, .int 0, .int (-1), .int (-1), .int (-1), .int 0, .int 0, .int 0, .ref a7, .ref a8, .ref a9, .ref a10, .ref a11, .ref a12, .ref a13, .int 0])), (a1, .inl (k0, 7202, .inl (fun _ => 0)))]) (wr := []) [0, 1] [] rfl rfl (by decide) (by decide) hK hP hD hS hA (va_runV (As := [.int v0]) (rest := []) ⟨hx, hb, hml, hown, noTs⟩ (c_X12_isWord l dC dI s.heap.size a0 a1 a2 a3 a4 a5 a6 a7 a8 a9 a10 a11 a12 a13 k0 v0) ⟨cbE 1 (wd_1653 hE) (wd_126 hE) (wd_1650 hE) rfl rfl (by decide +kernel) ⟨Nat.le_of_ble_eq_true rfl, Nat.le_of_ble_eq_true rfl⟩, (wd_1652 hE), (wd_83 hE)⟩ ⟨PcE.blind, va_recv hK hP (ci := 11) (q0 := 0) rfl rfl, (pre_E (av := [.ref a0, .int v0]) (wc := [(a0, .inr (11, [.ref a1, .int 0, .int 0, .int 0, .ref a2, .int 0, .ref a3, .ref a4, .ref a5, .ref a6, .int 0, .int 0, .int 0, .int 0, .int 0, .int 0, .int 0, .int (-1), .int (-1), .int (-1), .int 0, .int 0, .int 0, .ref a7, .ref a8, .ref a9, .ref a10, .ref a11, .ref a12, .ref a13, .int 0])), (a1, .inl (k0, 7202, .inl (fun _ => 0)))]) (tysc := [(k0, .int)]) [0, 1] [0] rfl (by decide) rfl rfl hK hP hD hE)⟩ rfl rfl hl.1 rfl (lv_room (Nat.le_of_ble_eq_true rfl)) dX12_times_2 ⟨Nat.le_of_ble_eq_true rfl, Nat.le_of_ble_eq_true rfl⟩) (fun r1 u1 H locs hw1 hK hP hD hS => ?_)
  have hK : va_K (dC, dI) vwCl [(k0, .int)] s := hK
  have hP : va_P (dC, dI) vwCl [(a0, .inr (11, [.ref a1, .int 0, .int 0, .int 0, .ref a2, .int 0, .ref a3, .ref a4, .ref a5, .ref a6, .int 0, .int 0, .int 0, .int 0, .int 0, .int 0, .int 0, .int (-1), .int (-1), .int (-1), .int 0, .int 0, .int 0, .ref a7, .ref a8, .ref a9, .ref a10, .ref a11, .ref a12, .ref a13, .int 0])), (a1, .inl (k0, 7202, .inl (fun _ => 0)))] H := hP
  have hD : va_D A [(a0, .inr (11, [.ref a1, .int 0, .int 0, .int 0, .ref a2, .int 0, .ref a3, .ref a4, .ref a5, .ref a6, .int 0, .int 0, .int 0, .int 0, .int 0, .int 0, .int 0, .int (-1), .int (-1), .int (-1), .int 0, .int 0, .int 0, .ref a7, .ref a8, .ref a9, .ref a10, .ref a11, .ref a12, .ref a13, .int 0])), (a1, .inl (k0, 7202, .inl (fun _ => 0)))] := hD
  subst hw1
  refine W.eq (g2 := F0 m 5 ls [.int 0]) rfl ?_
  refine lv_if_eq (tgt := 16) hx hb dX12_times_5 (by decide) (fun c2 => ?_) (fun c2 => absurd c2 (by decide))
  refine lv_aload_n hx hb dX12_times_16 rfl (lv_at hl 0 rfl) ?_
  refine lv_iconst (v := 2) hx hb dX12_times_17 (by decide) ?_
  refine cl_i (wc := [(a0, .inr (11, [.ref a1, .int 0, .int 0, .int 0, .ref a2, .int 0, .ref a3, .ref a4, .ref a5, .ref a6, .int 0, .int 0, .int 0, .int 0, .int 0, .int 0, .int 0, .int (-1), .int (-1), .int (-1), .int 0, .int 0, .int 0, .ref a7, .ref a8, .ref a9, .ref a10, .ref a11, .ref a12, .ref a13, .int 0]))]) (wr := [(a1, .inl (k0, 7202, .inl (fun _ => 0)))]) [0] [1] rfl rfl (by decide) (by decide) hK hP hD hS hA (va_runV (As := [.int 2]) (rest := []) ⟨hx, hb, hml, hown, noTs⟩ (c_X12_refuse_2 l dC dI H.size a0 a1 a2 a3 a4 a5 a6 a7 a8 a9 a10 a11 a12 a13) ⟨cbE 1 (wd_1498 hE) (wd_126 hE) (wd_1495 hE) rfl rfl (by decide +kernel) ⟨Nat.le_of_ble_eq_true rfl, Nat.le_of_ble_eq_true rfl⟩, (wd_1497 hE), (wd_54 hE)⟩ ⟨PcE.blind, va_recv hK hP (ci := 11) (q0 := 0) rfl rfl, (pre_E (av := [.ref a0, .int 2]) (wc := [(a0, .inr (11, [.ref a1, .int 0, .int 0, .int 0, .ref a2, .int 0, .ref a3, .ref a4, .ref a5, .ref a6, .int 0, .int 0, .int 0, .int 0, .int 0, .int 0, .int 0, .int (-1), .int (-1), .int (-1), .int 0, .int 0, .int 0, .ref a7, .ref a8, .ref a9, .ref a10, .ref a11, .ref a12, .ref a13, .int 0]))]) (tysc := []) [0] [] rfl (by decide) rfl rfl hK hP hD hE)⟩ rfl rfl hl.1 rfl (lv_room (Nat.le_of_ble_eq_true rfl)) dX12_times_18 ⟨Nat.le_of_ble_eq_true rfl, Nat.le_of_ble_eq_true rfl⟩) (fun r3 u3 H locs hw3 hK hP hD hS => ?_)
  have hK : va_K (dC, dI) vwCl [(k0, .int)] s := hK
  have hP : va_P (dC, dI) vwCl [(a1, .inl (k0, 7202, .inl (fun _ => 0))), (a0, .inr (11, [.ref a1, .int 2, .int 0, .int 0, .ref a2, .int 0, .ref a3, .ref a4, .ref a5, .ref a6, .int 0, .int 0, .int 0, .int 0, .int 0, .int 0, .int 0, .int (-1), .int (-1), .int (-1), .int 0, .int 0, .int 0, .ref a7, .ref a8, .ref a9, .ref a10, .ref a11, .ref a12, .ref a13, .int 0]))] H := hP
  have hD : va_D A [(a1, .inl (k0, 7202, .inl (fun _ => 0))), (a0, .inr (11, [.ref a1, .int 2, .int 0, .int 0, .ref a2, .int 0, .ref a3, .ref a4, .ref a5, .ref a6, .int 0, .int 0, .int 0, .int 0, .int 0, .int 0, .int 0, .int (-1), .int (-1), .int (-1), .int 0, .int 0, .int 0, .ref a7, .ref a8, .ref a9, .ref a10, .ref a11, .ref a12, .ref a13, .int 0]))] := hD
  subst hw3
  refine W.eq (g2 := F0 m 21 ls [.int (-1)]) rfl ?_
  have hP9 := hP.sub (ws' := []) [] rfl
  have hD9 := hD.sub (ws' := []) [] (by decide) rfl
  have hK9 := hK.sub (tys' := []) [] rfl
  refine W.widen (k := 0) (n := 0) (Nat.le_of_ble_eq_true rfl) (Nat.le_of_ble_eq_true rfl) ?_
  exact W.iret (v := -1) hx hb hr (fun t ht hW => ⟨⟨-1, (), rfl, rfl, by rw [ht]; exact hP9, va_K.moved hW.alike hK9, hD9⟩, hS.F ht⟩) hS.2.2 dX12_times_21

set_option maxHeartbeats 4000000 in
set_option maxRecDepth 100000 in
theorem c_X12_turned (l : Launch) (dC : Nat → ClassId) (dI : Nat → Nat → Nat) (sz : Nat)  (a0 a1 a2 a3 a4 a5 a6 a7 a8 a9 a10 a11 a12 a13 : Nat) (k0 : ClassId) (v0 : Int32)  : Met l yX12_turned [.code yX12_turned cX12_turned 2 (some .int)] ({ frames := 2, cells := 0, slots := 0, locals := 80 }) (PcE [.ref a0, .int v0] sz dC dI [(k0, .int)] [(a0, .inr (11, [.ref a1, .int 0, .int 0, .int 0, .ref a2, .int 0, .ref a3, .ref a4, .ref a5, .ref a6, .int 0, .int 0, .int 0, .int 0, .int 0, .int 0, .int 0, .int (-1), .int (-1), .int (-1), .int 0, .int 0, .int 0, .ref a7, .ref a8, .ref a9, .ref a10, .ref a11, .ref a12, .ref a13, .int 0])), (a1, .inl (k0, 7202, .inl (fun _ => 0)))]) (va_Qi (fun (r : Int32) (u : Unit) => r = -1) (Bw dC dI (va_A [(a0, .inr (11, [.ref a1, .int 0, .int 0, .int 0, .ref a2, .int 0, .ref a3, .ref a4, .ref a5, .ref a6, .int 0, .int 0, .int 0, .int 0, .int 0, .int 0, .int 0, .int (-1), .int (-1), .int (-1), .int 0, .int 0, .int 0, .ref a7, .ref a8, .ref a9, .ref a10, .ref a11, .ref a12, .ref a13, .int 0])), (a1, .inl (k0, 7202, .inl (fun _ => 0)))] sz) (fun (u : Unit) => []) (fun (u : Unit) => [])) (va_A [(a0, .inr (11, [.ref a1, .int 0, .int 0, .int 0, .ref a2, .int 0, .ref a3, .ref a4, .ref a5, .ref a6, .int 0, .int 0, .int 0, .int 0, .int 0, .int 0, .int 0, .int (-1), .int (-1), .int (-1), .int 0, .int 0, .int 0, .ref a7, .ref a8, .ref a9, .ref a10, .ref a11, .ref a12, .ref a13, .int 0])), (a1, .inl (k0, 7202, .inl (fun _ => 0)))] sz)) 0 0 (va_A [(a0, .inr (11, [.ref a1, .int 0, .int 0, .int 0, .ref a2, .int 0, .ref a3, .ref a4, .ref a5, .ref a6, .int 0, .int 0, .int 0, .int 0, .int 0, .int 0, .int 0, .int (-1), .int (-1), .int (-1), .int 0, .int 0, .int 0, .ref a7, .ref a8, .ref a9, .ref a10, .ref a11, .ref a12, .ref a13, .int 0])), (a1, .inl (k0, 7202, .inl (fun _ => 0)))] sz) := by
  refine Met.ofW (cc := cX12_turned) (maxL := 2) (ret := (some .int)) (by decide) rfl ?_
  intro p e s m args below meth c s₁ B hml hv
  obtain ⟨rfl, hsz, hP, hK, hD0, hE⟩ := hv
  have hx := B.exec
  have hb := B.bytes
  have hr := B.returns
  have hown : s.vm.findClass RX12 = some m.cls := findClass_of_methodNamed B.named
  have hlocks := B.notSynchronized
  subst hsz
  have hD := hD0.self (sz := s.heap.size)
  generalize hAe : va_A [(a0, .inr (11, [.ref a1, .int 0, .int 0, .int 0, .ref a2, .int 0, .ref a3, .ref a4, .ref a5, .ref a6, .int 0, .int 0, .int 0, .int 0, .int 0, .int 0, .int 0, .int (-1), .int (-1), .int (-1), .int 0, .int 0, .int 0, .ref a7, .ref a8, .ref a9, .ref a10, .ref a11, .ref a12, .ref a13, .int 0])), (a1, .inl (k0, 7202, .inl (fun _ => 0)))] s.heap.size = A at hD ⊢
  have hA : ∀ q : Nat, s.heap.size ≤ q → A q := fun q h => by rw [← hAe]; exact Or.inr h
  have hS : va_S A s.heap s.heap [] := va_S.rf
  have hl := lv_entry ([.ref a0, .int v0]) (n := 2) (Nat.le_of_ble_eq_true rfl)
  rw [lg_entry_eq]
  generalize (lg_sl ([.ref a0, .int v0]) ++ List.replicate (2 - (lg_sl ([.ref a0, .int v0])).length) Slot.unset).toArray = ls at hl ⊢
  have hl : lv_has ls 2 [(0, .ref a0), (1, .int v0)] := hl
  refine lv_aload_n hx hb dX12_turned_0 rfl (lv_at hl 0 rfl) ?_
  refine lv_iload_n hx hb dX12_turned_1 rfl (lv_at hl 1 rfl) ?_
  refine cl_i (wc := [(a0, .inr (11, [.ref a1, .int 0, .int 0, .int 0, .ref a2, .int 0, .ref a3, .ref a4, .ref a5, .ref a6, .int 0, .int 0, .int 0, .int 0, .int 0, .int 0, .int 0, .int (-1), .int (-1), .int (-1), .int 0, .int 0, .int 0, .ref a7, .ref a8, .ref a9, .ref a10, .ref a11, .ref a12, .ref a13, .int 0])), (a1, .inl (k0, 7202, .inl (fun _ => 0)))]) (wr := []) [0, 1] [] rfl rfl (by decide) (by decide) hK hP hD hS hA (va_runV (As := [.int v0]) (rest := []) ⟨hx, hb, hml, hown, noTs⟩ (c_X12_isWord l dC dI s.heap.size a0 a1 a2 a3 a4 a5 a6 a7 a8 a9 a10 a11 a12 a13 k0 v0) ⟨cbE 1 (wd_1653 hE) (wd_126 hE) (wd_1650 hE) rfl rfl (by decide +kernel) ⟨Nat.le_of_ble_eq_true rfl, Nat.le_of_ble_eq_true rfl⟩, (wd_1652 hE), (wd_83 hE)⟩ ⟨PcE.blind, va_recv hK hP (ci := 11) (q0 := 0) rfl rfl, (pre_E (av := [.ref a0, .int v0]) (wc := [(a0, .inr (11, [.ref a1, .int 0, .int 0, .int 0, .ref a2, .int 0, .ref a3, .ref a4, .ref a5, .ref a6, .int 0, .int 0, .int 0, .int 0, .int 0, .int 0, .int 0, .int (-1), .int (-1), .int (-1), .int 0, .int 0, .int 0, .ref a7, .ref a8, .ref a9, .ref a10, .ref a11, .ref a12, .ref a13, .int 0])), (a1, .inl (k0, 7202, .inl (fun _ => 0)))]) (tysc := [(k0, .int)]) [0, 1] [0] rfl (by decide) rfl rfl hK hP hD hE)⟩ rfl rfl hl.1 rfl (lv_room (Nat.le_of_ble_eq_true rfl)) dX12_turned_2 ⟨Nat.le_of_ble_eq_true rfl, Nat.le_of_ble_eq_true rfl⟩) (fun r1 u1 H locs hw1 hK hP hD hS => ?_)
  have hK : va_K (dC, dI) vwCl [(k0, .int)] s := hK
  have hP : va_P (dC, dI) vwCl [(a0, .inr (11, [.ref a1, .int 0, .int 0, .int 0, .ref a2, .int 0, .ref a3, .ref a4, .ref a5, .ref a6, .int 0, .int 0, .int 0, .int 0, .int 0, .int 0, .int 0, .int (-1), .int (-1), .int (-1), .int 0, .int 0, .int 0, .ref a7, .ref a8, .ref a9, .ref a10, .ref a11, .ref a12, .ref a13, .int 0])), (a1, .inl (k0, 7202, .inl (fun _ => 0)))] H := hP
  have hD : va_D A [(a0, .inr (11, [.ref a1, .int 0, .int 0, .int 0, .ref a2, .int 0, .ref a3, .ref a4, .ref a5, .ref a6, .int 0, .int 0, .int 0, .int 0, .int 0, .int 0, .int 0, .int (-1), .int (-1), .int (-1), .int 0, .int 0, .int 0, .ref a7, .ref a8, .ref a9, .ref a10, .ref a11, .ref a12, .ref a13, .int 0])), (a1, .inl (k0, 7202, .inl (fun _ => 0)))] := hD
  subst hw1
  refine W.eq (g2 := F0 m 5 ls [.int 0]) rfl ?_
  refine lv_if_ne (tgt := 14) hx hb dX12_turned_5 (by decide) (fun c2 => absurd c2 (by decide)) (fun c2 => ?_)
  refine lv_aload_n hx hb dX12_turned_8 rfl (lv_at hl 0 rfl) ?_
  refine lv_iconst (v := 2) hx hb dX12_turned_9 (by decide) ?_
  refine cl_i (wc := [(a0, .inr (11, [.ref a1, .int 0, .int 0, .int 0, .ref a2, .int 0, .ref a3, .ref a4, .ref a5, .ref a6, .int 0, .int 0, .int 0, .int 0, .int 0, .int 0, .int 0, .int (-1), .int (-1), .int (-1), .int 0, .int 0, .int 0, .ref a7, .ref a8, .ref a9, .ref a10, .ref a11, .ref a12, .ref a13, .int 0]))]) (wr := [(a1, .inl (k0, 7202, .inl (fun _ => 0)))]) [0] [1] rfl rfl (by decide) (by decide) hK hP hD hS hA (va_runV (As := [.int 2]) (rest := []) ⟨hx, hb, hml, hown, noTs⟩ (c_X12_refuse_2 l dC dI H.size a0 a1 a2 a3 a4 a5 a6 a7 a8 a9 a10 a11 a12 a13) ⟨cbE 1 (wd_1498 hE) (wd_126 hE) (wd_1495 hE) rfl rfl (by decide +kernel) ⟨Nat.le_of_ble_eq_true rfl, Nat.le_of_ble_eq_true rfl⟩, (wd_1497 hE), (wd_54 hE)⟩ ⟨PcE.blind, va_recv hK hP (ci := 11) (q0 := 0) rfl rfl, (pre_E (av := [.ref a0, .int 2]) (wc := [(a0, .inr (11, [.ref a1, .int 0, .int 0, .int 0, .ref a2, .int 0, .ref a3, .ref a4, .ref a5, .ref a6, .int 0, .int 0, .int 0, .int 0, .int 0, .int 0, .int 0, .int (-1), .int (-1), .int (-1), .int 0, .int 0, .int 0, .ref a7, .ref a8, .ref a9, .ref a10, .ref a11, .ref a12, .ref a13, .int 0]))]) (tysc := []) [0] [] rfl (by decide) rfl rfl hK hP hD hE)⟩ rfl rfl hl.1 rfl (lv_room (Nat.le_of_ble_eq_true rfl)) dX12_turned_10 ⟨Nat.le_of_ble_eq_true rfl, Nat.le_of_ble_eq_true rfl⟩) (fun r3 u3 H locs hw3 hK hP hD hS => ?_)
  have hK : va_K (dC, dI) vwCl [(k0, .int)] s := hK
  have hP : va_P (dC, dI) vwCl [(a1, .inl (k0, 7202, .inl (fun _ => 0))), (a0, .inr (11, [.ref a1, .int 2, .int 0, .int 0, .ref a2, .int 0, .ref a3, .ref a4, .ref a5, .ref a6, .int 0, .int 0, .int 0, .int 0, .int 0, .int 0, .int 0, .int (-1), .int (-1), .int (-1), .int 0, .int 0, .int 0, .ref a7, .ref a8, .ref a9, .ref a10, .ref a11, .ref a12, .ref a13, .int 0]))] H := hP
  have hD : va_D A [(a1, .inl (k0, 7202, .inl (fun _ => 0))), (a0, .inr (11, [.ref a1, .int 2, .int 0, .int 0, .ref a2, .int 0, .ref a3, .ref a4, .ref a5, .ref a6, .int 0, .int 0, .int 0, .int 0, .int 0, .int 0, .int 0, .int (-1), .int (-1), .int (-1), .int 0, .int 0, .int 0, .ref a7, .ref a8, .ref a9, .ref a10, .ref a11, .ref a12, .ref a13, .int 0]))] := hD
  subst hw3
  refine W.eq (g2 := F0 m 13 ls [.int (-1)]) rfl ?_
  have hP9 := hP.sub (ws' := []) [] rfl
  have hD9 := hD.sub (ws' := []) [] (by decide) rfl
  have hK9 := hK.sub (tys' := []) [] rfl
  refine W.widen (k := 0) (n := 0) (Nat.le_of_ble_eq_true rfl) (Nat.le_of_ble_eq_true rfl) ?_
  exact W.iret (v := -1) hx hb hr (fun t ht hW => ⟨⟨-1, (), rfl, rfl, by rw [ht]; exact hP9, va_K.moved hW.alike hK9, hD9⟩, hS.F ht⟩) hS.2.2 dX12_turned_13

set_option maxHeartbeats 4000000 in
set_option maxRecDepth 100000 in
theorem c_isFrom_m9_9 (l : Launch) (dC : Nat → ClassId) (dI : Nat → Nat → Nat) (sz : Nat)  (v0 : Int32)  : Met l yX12_isFrom [.code yX12_isFrom cX12_isFrom 3 (some .boolean)] ({ frames := 0, cells := 0, slots := 0, locals := 0 }) (PcE [.int v0, .int (-9), .int 9] sz dC dI [] []) (va_Qi (fun (r : Int32) (u : Unit) => (r = 1 ∧ -9 ≤ v0 ∧ v0 ≤ 9) ∨ (r = 0 ∧ ¬ (-9 ≤ v0 ∧ v0 ≤ 9))) (Bw dC dI (va_A [] sz) (fun (u : Unit) => []) (fun (u : Unit) => [])) (va_A [] sz)) 0 0 (va_A [] sz) := by
  refine Met.ofW (cc := cX12_isFrom) (maxL := 3) (ret := (some .boolean)) (by decide) rfl ?_
  intro p e s m args below meth c s₁ B hml hv
  obtain ⟨rfl, hsz, hP, hK, hD0, hE⟩ := hv
  have hx := B.exec
  have hb := B.bytes
  have hr := B.returns
  have hown : s.vm.findClass RX12 = some m.cls := findClass_of_methodNamed B.named
  have hlocks := B.notSynchronized
  subst hsz
  have hD := hD0.self (sz := s.heap.size)
  generalize hAe : va_A [] s.heap.size = A at hD ⊢
  have hA : ∀ q : Nat, s.heap.size ≤ q → A q := fun q h => by rw [← hAe]; exact Or.inr h
  have hS : va_S A s.heap s.heap [] := va_S.rf
  have hl := lv_entry ([.int v0, .int (-9), .int 9]) (n := 3) (Nat.le_of_ble_eq_true rfl)
  rw [lg_entry_eq]
  generalize (lg_sl ([.int v0, .int (-9), .int 9]) ++ List.replicate (3 - (lg_sl ([.int v0, .int (-9), .int 9])).length) Slot.unset).toArray = ls at hl ⊢
  have hl : lv_has ls 3 [(0, .int v0), (1, .int (-9)), (2, .int 9)] := hl
  refine lv_iload_n hx hb dX12_isFrom_0 rfl (lv_at hl 0 rfl) ?_
  refine lv_iload_n hx hb dX12_isFrom_1 rfl (lv_at hl 1 rfl) ?_
  refine lv_icmp_lt (tgt := 14) hx hb dX12_isFrom_2 (by decide) (fun c1 => ?_) (fun c1 => ?_)
  · refine lv_iconst (v := 0) hx hb dX12_isFrom_14 (by decide) ?_
    have hP9 := hP.sub (ws' := []) [] rfl
    have hD9 := hD.sub (ws' := []) [] (by decide) rfl
    have hK9 := hK.sub (tys' := []) [] rfl
    refine W.widen (k := 0) (n := 0) (Nat.le_of_ble_eq_true rfl) (Nat.le_of_ble_eq_true rfl) ?_
    exact W.zret (v := 0) hx hb hr rfl (fun t ht hW => ⟨⟨0, (), rfl, Or.inr ⟨rfl, (by simp only [i_lt, i_le, i_eq, ti_m9, ti_m1, ti_0, ti_1, ti_2, ti_3, ti_4, ti_5, ti_6, ti_7, ti_9, ti_12, ti_20, ti_99, ti_700] at c1 ⊢; omega)⟩, by rw [ht]; exact hP9, va_K.moved hW.alike hK9, hD9⟩, hS.F ht⟩) hS.2.2 dX12_isFrom_15
  · refine lv_iload_n hx hb dX12_isFrom_5 rfl (lv_at hl 0 rfl) ?_
    refine lv_iload_n hx hb dX12_isFrom_6 rfl (lv_at hl 2 rfl) ?_
    refine lv_icmp_gt (tgt := 14) hx hb dX12_isFrom_7 (by decide) (fun c2 => ?_) (fun c2 => ?_)
    · refine lv_iconst (v := 0) hx hb dX12_isFrom_14 (by decide) ?_
      have hP9 := hP.sub (ws' := []) [] rfl
      have hD9 := hD.sub (ws' := []) [] (by decide) rfl
      have hK9 := hK.sub (tys' := []) [] rfl
      refine W.widen (k := 0) (n := 0) (Nat.le_of_ble_eq_true rfl) (Nat.le_of_ble_eq_true rfl) ?_
      exact W.zret (v := 0) hx hb hr rfl (fun t ht hW => ⟨⟨0, (), rfl, Or.inr ⟨rfl, (by simp only [i_lt, i_le, i_eq, ti_m9, ti_m1, ti_0, ti_1, ti_2, ti_3, ti_4, ti_5, ti_6, ti_7, ti_9, ti_12, ti_20, ti_99, ti_700] at c1 c2 ⊢; omega)⟩, by rw [ht]; exact hP9, va_K.moved hW.alike hK9, hD9⟩, hS.F ht⟩) hS.2.2 dX12_isFrom_15
    · refine lv_iconst (v := 1) hx hb dX12_isFrom_10 (by decide) ?_
      refine lv_goto (tgt := 15) hx hb dX12_isFrom_11 (by decide) ?_
      have hP9 := hP.sub (ws' := []) [] rfl
      have hD9 := hD.sub (ws' := []) [] (by decide) rfl
      have hK9 := hK.sub (tys' := []) [] rfl
      refine W.widen (k := 0) (n := 0) (Nat.le_of_ble_eq_true rfl) (Nat.le_of_ble_eq_true rfl) ?_
      exact W.zret (v := 1) hx hb hr rfl (fun t ht hW => ⟨⟨1, (), rfl, Or.inl ⟨rfl, (by simp only [i_lt, i_le, i_eq, ti_m9, ti_m1, ti_0, ti_1, ti_2, ti_3, ti_4, ti_5, ti_6, ti_7, ti_9, ti_12, ti_20, ti_99, ti_700] at c1 c2 ⊢; omega), (by simp only [i_lt, i_le, i_eq, ti_m9, ti_m1, ti_0, ti_1, ti_2, ti_3, ti_4, ti_5, ti_6, ti_7, ti_9, ti_12, ti_20, ti_99, ti_700] at c1 c2 ⊢; omega)⟩, by rw [ht]; exact hP9, va_K.moved hW.alike hK9, hD9⟩, hS.F ht⟩) hS.2.2 dX12_isFrom_15

set_option maxHeartbeats 4000000 in
set_option maxRecDepth 100000 in
theorem c_X12_power (l : Launch) (dC : Nat → ClassId) (dI : Nat → Nat → Nat) (sz : Nat)  (a0 a1 a2 a3 a4 a5 a6 a7 a8 a9 a10 a11 a12 a13 : Nat) (k0 : ClassId) (v0 : Int32) (v1 : Int32)  : Met l yX12_power [.code yX12_power cX12_power 4 (some .int)] ({ frames := 2, cells := 0, slots := 0, locals := 80 }) (PcE [.ref a0, .int v0, .int v1] sz dC dI [(k0, .int)] [(a0, .inr (11, [.ref a1, .int 0, .int 0, .int 0, .ref a2, .int 0, .ref a3, .ref a4, .ref a5, .ref a6, .int 0, .int 0, .int 0, .int 0, .int 0, .int 0, .int 0, .int (-1), .int (-1), .int (-1), .int 0, .int 0, .int 0, .ref a7, .ref a8, .ref a9, .ref a10, .ref a11, .ref a12, .ref a13, .int 0])), (a1, .inl (k0, 7202, .inl (fun _ => 0)))]) (va_Qi (fun (r : Int32) (u : Unit) => r = -1) (Bw dC dI (va_A [(a0, .inr (11, [.ref a1, .int 0, .int 0, .int 0, .ref a2, .int 0, .ref a3, .ref a4, .ref a5, .ref a6, .int 0, .int 0, .int 0, .int 0, .int 0, .int 0, .int 0, .int (-1), .int (-1), .int (-1), .int 0, .int 0, .int 0, .ref a7, .ref a8, .ref a9, .ref a10, .ref a11, .ref a12, .ref a13, .int 0])), (a1, .inl (k0, 7202, .inl (fun _ => 0)))] sz) (fun (u : Unit) => []) (fun (u : Unit) => [])) (va_A [(a0, .inr (11, [.ref a1, .int 0, .int 0, .int 0, .ref a2, .int 0, .ref a3, .ref a4, .ref a5, .ref a6, .int 0, .int 0, .int 0, .int 0, .int 0, .int 0, .int 0, .int (-1), .int (-1), .int (-1), .int 0, .int 0, .int 0, .ref a7, .ref a8, .ref a9, .ref a10, .ref a11, .ref a12, .ref a13, .int 0])), (a1, .inl (k0, 7202, .inl (fun _ => 0)))] sz)) 0 0 (va_A [(a0, .inr (11, [.ref a1, .int 0, .int 0, .int 0, .ref a2, .int 0, .ref a3, .ref a4, .ref a5, .ref a6, .int 0, .int 0, .int 0, .int 0, .int 0, .int 0, .int 0, .int (-1), .int (-1), .int (-1), .int 0, .int 0, .int 0, .ref a7, .ref a8, .ref a9, .ref a10, .ref a11, .ref a12, .ref a13, .int 0])), (a1, .inl (k0, 7202, .inl (fun _ => 0)))] sz) := by
  refine Met.ofW (cc := cX12_power) (maxL := 4) (ret := (some .int)) (by decide) rfl ?_
  intro p e s m args below meth c s₁ B hml hv
  obtain ⟨rfl, hsz, hP, hK, hD0, hE⟩ := hv
  have hx := B.exec
  have hb := B.bytes
  have hr := B.returns
  have hown : s.vm.findClass RX12 = some m.cls := findClass_of_methodNamed B.named
  have hlocks := B.notSynchronized
  subst hsz
  have hD := hD0.self (sz := s.heap.size)
  generalize hAe : va_A [(a0, .inr (11, [.ref a1, .int 0, .int 0, .int 0, .ref a2, .int 0, .ref a3, .ref a4, .ref a5, .ref a6, .int 0, .int 0, .int 0, .int 0, .int 0, .int 0, .int 0, .int (-1), .int (-1), .int (-1), .int 0, .int 0, .int 0, .ref a7, .ref a8, .ref a9, .ref a10, .ref a11, .ref a12, .ref a13, .int 0])), (a1, .inl (k0, 7202, .inl (fun _ => 0)))] s.heap.size = A at hD ⊢
  have hA : ∀ q : Nat, s.heap.size ≤ q → A q := fun q h => by rw [← hAe]; exact Or.inr h
  have hS : va_S A s.heap s.heap [] := va_S.rf
  have hl := lv_entry ([.ref a0, .int v0, .int v1]) (n := 4) (Nat.le_of_ble_eq_true rfl)
  rw [lg_entry_eq]
  generalize (lg_sl ([.ref a0, .int v0, .int v1]) ++ List.replicate (4 - (lg_sl ([.ref a0, .int v0, .int v1])).length) Slot.unset).toArray = ls at hl ⊢
  have hl : lv_has ls 4 [(0, .ref a0), (1, .int v0), (2, .int v1)] := hl
  refine lv_iload_n hx hb dX12_power_0 rfl (lv_at hl 2 rfl) ?_
  refine lv_bipush (v := -9) hx hb dX12_power_1 (by decide) ?_
  refine lv_bipush (v := 9) hx hb dX12_power_3 (by decide) ?_
  refine cl_i (wc := []) (wr := [(a0, .inr (11, [.ref a1, .int 0, .int 0, .int 0, .ref a2, .int 0, .ref a3, .ref a4, .ref a5, .ref a6, .int 0, .int 0, .int 0, .int 0, .int 0, .int 0, .int 0, .int (-1), .int (-1), .int (-1), .int 0, .int 0, .int 0, .ref a7, .ref a8, .ref a9, .ref a10, .ref a11, .ref a12, .ref a13, .int 0])), (a1, .inl (k0, 7202, .inl (fun _ => 0)))]) [] [0, 1] rfl rfl (by decide) (by decide) hK hP hD hS hA (va_runS (As := [.int v1, .int (-9), .int 9]) (rest := []) ⟨hx, hb, hml, hown, noTs⟩ (c_isFrom_m9_9 l dC dI s.heap.size v1) ⟨cbE 3 (wd_1494 hE) (wd_126 hE) (wd_1492 hE) rfl rfl (by decide +kernel) ⟨Nat.le_of_ble_eq_true rfl, Nat.le_of_ble_eq_true rfl⟩, (wd_1493 hE)⟩ ⟨PcE.blind, (pre_E (av := [.int v1, .int (-9), .int 9]) (wc := []) (tysc := []) [] [] rfl (by decide) rfl rfl hK hP hD hE)⟩ rfl rfl hl.1 rfl (lv_room (Nat.le_of_ble_eq_true rfl)) dX12_power_5 ⟨Nat.le_of_ble_eq_true rfl, Nat.le_of_ble_eq_true rfl⟩) (fun r1 u1 H locs hw1 hK hP hD hS => ?_)
  have hK : va_K (dC, dI) vwCl [(k0, .int)] s := hK
  have hP : va_P (dC, dI) vwCl [(a0, .inr (11, [.ref a1, .int 0, .int 0, .int 0, .ref a2, .int 0, .ref a3, .ref a4, .ref a5, .ref a6, .int 0, .int 0, .int 0, .int 0, .int 0, .int 0, .int 0, .int (-1), .int (-1), .int (-1), .int 0, .int 0, .int 0, .ref a7, .ref a8, .ref a9, .ref a10, .ref a11, .ref a12, .ref a13, .int 0])), (a1, .inl (k0, 7202, .inl (fun _ => 0)))] H := hP
  have hD : va_D A [(a0, .inr (11, [.ref a1, .int 0, .int 0, .int 0, .ref a2, .int 0, .ref a3, .ref a4, .ref a5, .ref a6, .int 0, .int 0, .int 0, .int 0, .int 0, .int 0, .int 0, .int (-1), .int (-1), .int (-1), .int 0, .int 0, .int 0, .ref a7, .ref a8, .ref a9, .ref a10, .ref a11, .ref a12, .ref a13, .int 0])), (a1, .inl (k0, 7202, .inl (fun _ => 0)))] := hD
  rcases hw1 with ⟨rfl, ha1, hb1⟩ | ⟨rfl, ha1⟩
  · refine W.eq (g2 := F0 m 8 ls [.int 1]) rfl ?_
    refine lv_if_ne (tgt := 17) hx hb dX12_power_8 (by decide) (fun c2 => ?_) (fun c2 => absurd c2 (by decide))
    refine lv_aload_n hx hb dX12_power_17 rfl (lv_at hl 0 rfl) ?_
    refine lv_iload_n hx hb dX12_power_18 rfl (lv_at hl 1 rfl) ?_
    refine cl_i (wc := [(a0, .inr (11, [.ref a1, .int 0, .int 0, .int 0, .ref a2, .int 0, .ref a3, .ref a4, .ref a5, .ref a6, .int 0, .int 0, .int 0, .int 0, .int 0, .int 0, .int 0, .int (-1), .int (-1), .int (-1), .int 0, .int 0, .int 0, .ref a7, .ref a8, .ref a9, .ref a10, .ref a11, .ref a12, .ref a13, .int 0])), (a1, .inl (k0, 7202, .inl (fun _ => 0)))]) (wr := []) [0, 1] [] rfl rfl (by decide) (by decide) hK hP hD hS hA (va_runV (As := [.int v0]) (rest := []) ⟨hx, hb, hml, hown, noTs⟩ (c_X12_isWord l dC dI H.size a0 a1 a2 a3 a4 a5 a6 a7 a8 a9 a10 a11 a12 a13 k0 v0) ⟨cbE 1 (wd_1653 hE) (wd_126 hE) (wd_1650 hE) rfl rfl (by decide +kernel) ⟨Nat.le_of_ble_eq_true rfl, Nat.le_of_ble_eq_true rfl⟩, (wd_1652 hE), (wd_83 hE)⟩ ⟨PcE.blind, va_recv hK hP (ci := 11) (q0 := 0) rfl rfl, (pre_E (av := [.ref a0, .int v0]) (wc := [(a0, .inr (11, [.ref a1, .int 0, .int 0, .int 0, .ref a2, .int 0, .ref a3, .ref a4, .ref a5, .ref a6, .int 0, .int 0, .int 0, .int 0, .int 0, .int 0, .int 0, .int (-1), .int (-1), .int (-1), .int 0, .int 0, .int 0, .ref a7, .ref a8, .ref a9, .ref a10, .ref a11, .ref a12, .ref a13, .int 0])), (a1, .inl (k0, 7202, .inl (fun _ => 0)))]) (tysc := [(k0, .int)]) [0, 1] [0] rfl (by decide) rfl rfl hK hP hD hE)⟩ rfl rfl hl.1 rfl (lv_room (Nat.le_of_ble_eq_true rfl)) dX12_power_19 ⟨Nat.le_of_ble_eq_true rfl, Nat.le_of_ble_eq_true rfl⟩) (fun r3 u3 H locs hw3 hK hP hD hS => ?_)
    have hK : va_K (dC, dI) vwCl [(k0, .int)] s := hK
    have hP : va_P (dC, dI) vwCl [(a0, .inr (11, [.ref a1, .int 0, .int 0, .int 0, .ref a2, .int 0, .ref a3, .ref a4, .ref a5, .ref a6, .int 0, .int 0, .int 0, .int 0, .int 0, .int 0, .int 0, .int (-1), .int (-1), .int (-1), .int 0, .int 0, .int 0, .ref a7, .ref a8, .ref a9, .ref a10, .ref a11, .ref a12, .ref a13, .int 0])), (a1, .inl (k0, 7202, .inl (fun _ => 0)))] H := hP
    have hD : va_D A [(a0, .inr (11, [.ref a1, .int 0, .int 0, .int 0, .ref a2, .int 0, .ref a3, .ref a4, .ref a5, .ref a6, .int 0, .int 0, .int 0, .int 0, .int 0, .int 0, .int 0, .int (-1), .int (-1), .int (-1), .int 0, .int 0, .int 0, .ref a7, .ref a8, .ref a9, .ref a10, .ref a11, .ref a12, .ref a13, .int 0])), (a1, .inl (k0, 7202, .inl (fun _ => 0)))] := hD
    subst hw3
    refine W.eq (g2 := F0 m 22 ls [.int 0]) rfl ?_
    refine lv_if_ne (tgt := 31) hx hb dX12_power_22 (by decide) (fun c4 => absurd c4 (by decide)) (fun c4 => ?_)
    refine lv_aload_n hx hb dX12_power_25 rfl (lv_at hl 0 rfl) ?_
    refine lv_iconst (v := 2) hx hb dX12_power_26 (by decide) ?_
    refine cl_i (wc := [(a0, .inr (11, [.ref a1, .int 0, .int 0, .int 0, .ref a2, .int 0, .ref a3, .ref a4, .ref a5, .ref a6, .int 0, .int 0, .int 0, .int 0, .int 0, .int 0, .int 0, .int (-1), .int (-1), .int (-1), .int 0, .int 0, .int 0, .ref a7, .ref a8, .ref a9, .ref a10, .ref a11, .ref a12, .ref a13, .int 0]))]) (wr := [(a1, .inl (k0, 7202, .inl (fun _ => 0)))]) [0] [1] rfl rfl (by decide) (by decide) hK hP hD hS hA (va_runV (As := [.int 2]) (rest := []) ⟨hx, hb, hml, hown, noTs⟩ (c_X12_refuse_2 l dC dI H.size a0 a1 a2 a3 a4 a5 a6 a7 a8 a9 a10 a11 a12 a13) ⟨cbE 1 (wd_1498 hE) (wd_126 hE) (wd_1495 hE) rfl rfl (by decide +kernel) ⟨Nat.le_of_ble_eq_true rfl, Nat.le_of_ble_eq_true rfl⟩, (wd_1497 hE), (wd_54 hE)⟩ ⟨PcE.blind, va_recv hK hP (ci := 11) (q0 := 0) rfl rfl, (pre_E (av := [.ref a0, .int 2]) (wc := [(a0, .inr (11, [.ref a1, .int 0, .int 0, .int 0, .ref a2, .int 0, .ref a3, .ref a4, .ref a5, .ref a6, .int 0, .int 0, .int 0, .int 0, .int 0, .int 0, .int 0, .int (-1), .int (-1), .int (-1), .int 0, .int 0, .int 0, .ref a7, .ref a8, .ref a9, .ref a10, .ref a11, .ref a12, .ref a13, .int 0]))]) (tysc := []) [0] [] rfl (by decide) rfl rfl hK hP hD hE)⟩ rfl rfl hl.1 rfl (lv_room (Nat.le_of_ble_eq_true rfl)) dX12_power_27 ⟨Nat.le_of_ble_eq_true rfl, Nat.le_of_ble_eq_true rfl⟩) (fun r5 u5 H locs hw5 hK hP hD hS => ?_)
    have hK : va_K (dC, dI) vwCl [(k0, .int)] s := hK
    have hP : va_P (dC, dI) vwCl [(a1, .inl (k0, 7202, .inl (fun _ => 0))), (a0, .inr (11, [.ref a1, .int 2, .int 0, .int 0, .ref a2, .int 0, .ref a3, .ref a4, .ref a5, .ref a6, .int 0, .int 0, .int 0, .int 0, .int 0, .int 0, .int 0, .int (-1), .int (-1), .int (-1), .int 0, .int 0, .int 0, .ref a7, .ref a8, .ref a9, .ref a10, .ref a11, .ref a12, .ref a13, .int 0]))] H := hP
    have hD : va_D A [(a1, .inl (k0, 7202, .inl (fun _ => 0))), (a0, .inr (11, [.ref a1, .int 2, .int 0, .int 0, .ref a2, .int 0, .ref a3, .ref a4, .ref a5, .ref a6, .int 0, .int 0, .int 0, .int 0, .int 0, .int 0, .int 0, .int (-1), .int (-1), .int (-1), .int 0, .int 0, .int 0, .ref a7, .ref a8, .ref a9, .ref a10, .ref a11, .ref a12, .ref a13, .int 0]))] := hD
    subst hw5
    refine W.eq (g2 := F0 m 30 ls [.int (-1)]) rfl ?_
    have hP9 := hP.sub (ws' := []) [] rfl
    have hD9 := hD.sub (ws' := []) [] (by decide) rfl
    have hK9 := hK.sub (tys' := []) [] rfl
    refine W.widen (k := 0) (n := 0) (Nat.le_of_ble_eq_true rfl) (Nat.le_of_ble_eq_true rfl) ?_
    exact W.iret (v := -1) hx hb hr (fun t ht hW => ⟨⟨-1, (), rfl, rfl, by rw [ht]; exact hP9, va_K.moved hW.alike hK9, hD9⟩, hS.F ht⟩) hS.2.2 dX12_power_30
  · refine W.eq (g2 := F0 m 8 ls [.int 0]) rfl ?_
    refine lv_if_ne (tgt := 17) hx hb dX12_power_8 (by decide) (fun c6 => absurd c6 (by decide)) (fun c6 => ?_)
    refine lv_aload_n hx hb dX12_power_11 rfl (lv_at hl 0 rfl) ?_
    refine lv_iconst (v := 1) hx hb dX12_power_12 (by decide) ?_
    refine cl_i (wc := [(a0, .inr (11, [.ref a1, .int 0, .int 0, .int 0, .ref a2, .int 0, .ref a3, .ref a4, .ref a5, .ref a6, .int 0, .int 0, .int 0, .int 0, .int 0, .int 0, .int 0, .int (-1), .int (-1), .int (-1), .int 0, .int 0, .int 0, .ref a7, .ref a8, .ref a9, .ref a10, .ref a11, .ref a12, .ref a13, .int 0]))]) (wr := [(a1, .inl (k0, 7202, .inl (fun _ => 0)))]) [0] [1] rfl rfl (by decide) (by decide) hK hP hD hS hA (va_runV (As := [.int 1]) (rest := []) ⟨hx, hb, hml, hown, noTs⟩ (c_X12_refuse l dC dI H.size a0 a1 a2 a3 a4 a5 a6 a7 a8 a9 a10 a11 a12 a13) ⟨cbE 1 (wd_1498 hE) (wd_126 hE) (wd_1495 hE) rfl rfl (by decide +kernel) ⟨Nat.le_of_ble_eq_true rfl, Nat.le_of_ble_eq_true rfl⟩, (wd_1497 hE), (wd_54 hE)⟩ ⟨PcE.blind, va_recv hK hP (ci := 11) (q0 := 0) rfl rfl, (pre_E (av := [.ref a0, .int 1]) (wc := [(a0, .inr (11, [.ref a1, .int 0, .int 0, .int 0, .ref a2, .int 0, .ref a3, .ref a4, .ref a5, .ref a6, .int 0, .int 0, .int 0, .int 0, .int 0, .int 0, .int 0, .int (-1), .int (-1), .int (-1), .int 0, .int 0, .int 0, .ref a7, .ref a8, .ref a9, .ref a10, .ref a11, .ref a12, .ref a13, .int 0]))]) (tysc := []) [0] [] rfl (by decide) rfl rfl hK hP hD hE)⟩ rfl rfl hl.1 rfl (lv_room (Nat.le_of_ble_eq_true rfl)) dX12_power_13 ⟨Nat.le_of_ble_eq_true rfl, Nat.le_of_ble_eq_true rfl⟩) (fun r7 u7 H locs hw7 hK hP hD hS => ?_)
    have hK : va_K (dC, dI) vwCl [(k0, .int)] s := hK
    have hP : va_P (dC, dI) vwCl [(a1, .inl (k0, 7202, .inl (fun _ => 0))), (a0, .inr (11, [.ref a1, .int 1, .int 0, .int 0, .ref a2, .int 0, .ref a3, .ref a4, .ref a5, .ref a6, .int 0, .int 0, .int 0, .int 0, .int 0, .int 0, .int 0, .int (-1), .int (-1), .int (-1), .int 0, .int 0, .int 0, .ref a7, .ref a8, .ref a9, .ref a10, .ref a11, .ref a12, .ref a13, .int 0]))] H := hP
    have hD : va_D A [(a1, .inl (k0, 7202, .inl (fun _ => 0))), (a0, .inr (11, [.ref a1, .int 1, .int 0, .int 0, .ref a2, .int 0, .ref a3, .ref a4, .ref a5, .ref a6, .int 0, .int 0, .int 0, .int 0, .int 0, .int 0, .int 0, .int (-1), .int (-1), .int (-1), .int 0, .int 0, .int 0, .ref a7, .ref a8, .ref a9, .ref a10, .ref a11, .ref a12, .ref a13, .int 0]))] := hD
    subst hw7
    refine W.eq (g2 := F0 m 16 ls [.int (-1)]) rfl ?_
    have hP9 := hP.sub (ws' := []) [] rfl
    have hD9 := hD.sub (ws' := []) [] (by decide) rfl
    have hK9 := hK.sub (tys' := []) [] rfl
    refine W.widen (k := 0) (n := 0) (Nat.le_of_ble_eq_true rfl) (Nat.le_of_ble_eq_true rfl) ?_
    exact W.iret (v := -1) hx hb hr (fun t ht hW => ⟨⟨-1, (), rfl, rfl, by rw [ht]; exact hP9, va_K.moved hW.alike hK9, hD9⟩, hS.F ht⟩) hS.2.2 dX12_power_16

set_option maxHeartbeats 4000000 in
set_option maxRecDepth 100000 in
theorem c_X12_core (l : Launch) (dC : Nat → ClassId) (dI : Nat → Nat → Nat) (sz : Nat)  (a0 a1 a2 a3 a4 a5 a6 a7 a8 a9 a10 a11 a12 a13 : Nat) (k0 : ClassId) (v0 : Int32)  : Met l yX12_core [.code yX12_core cX12_core 2 (some .int)] ({ frames := 2, cells := 0, slots := 0, locals := 80 }) (PcE [.ref a0, .int v0] sz dC dI [(k0, .int)] [(a0, .inr (11, [.ref a1, .int 0, .int 0, .int 0, .ref a2, .int 0, .ref a3, .ref a4, .ref a5, .ref a6, .int 0, .int 0, .int 0, .int 0, .int 0, .int 0, .int 0, .int (-1), .int (-1), .int (-1), .int 0, .int 0, .int 0, .ref a7, .ref a8, .ref a9, .ref a10, .ref a11, .ref a12, .ref a13, .int 0])), (a1, .inl (k0, 7202, .inl (fun _ => 0)))]) (va_Qi (fun (r : Int32) (u : Unit) => r = -1) (Bw dC dI (va_A [(a0, .inr (11, [.ref a1, .int 0, .int 0, .int 0, .ref a2, .int 0, .ref a3, .ref a4, .ref a5, .ref a6, .int 0, .int 0, .int 0, .int 0, .int 0, .int 0, .int 0, .int (-1), .int (-1), .int (-1), .int 0, .int 0, .int 0, .ref a7, .ref a8, .ref a9, .ref a10, .ref a11, .ref a12, .ref a13, .int 0])), (a1, .inl (k0, 7202, .inl (fun _ => 0)))] sz) (fun (u : Unit) => []) (fun (u : Unit) => [])) (va_A [(a0, .inr (11, [.ref a1, .int 0, .int 0, .int 0, .ref a2, .int 0, .ref a3, .ref a4, .ref a5, .ref a6, .int 0, .int 0, .int 0, .int 0, .int 0, .int 0, .int 0, .int (-1), .int (-1), .int (-1), .int 0, .int 0, .int 0, .ref a7, .ref a8, .ref a9, .ref a10, .ref a11, .ref a12, .ref a13, .int 0])), (a1, .inl (k0, 7202, .inl (fun _ => 0)))] sz)) 0 0 (va_A [(a0, .inr (11, [.ref a1, .int 0, .int 0, .int 0, .ref a2, .int 0, .ref a3, .ref a4, .ref a5, .ref a6, .int 0, .int 0, .int 0, .int 0, .int 0, .int 0, .int 0, .int (-1), .int (-1), .int (-1), .int 0, .int 0, .int 0, .ref a7, .ref a8, .ref a9, .ref a10, .ref a11, .ref a12, .ref a13, .int 0])), (a1, .inl (k0, 7202, .inl (fun _ => 0)))] sz) := by
  refine Met.ofW (cc := cX12_core) (maxL := 2) (ret := (some .int)) (by decide) rfl ?_
  intro p e s m args below meth c s₁ B hml hv
  obtain ⟨rfl, hsz, hP, hK, hD0, hE⟩ := hv
  have hx := B.exec
  have hb := B.bytes
  have hr := B.returns
  have hown : s.vm.findClass RX12 = some m.cls := findClass_of_methodNamed B.named
  have hlocks := B.notSynchronized
  subst hsz
  have hD := hD0.self (sz := s.heap.size)
  generalize hAe : va_A [(a0, .inr (11, [.ref a1, .int 0, .int 0, .int 0, .ref a2, .int 0, .ref a3, .ref a4, .ref a5, .ref a6, .int 0, .int 0, .int 0, .int 0, .int 0, .int 0, .int 0, .int (-1), .int (-1), .int (-1), .int 0, .int 0, .int 0, .ref a7, .ref a8, .ref a9, .ref a10, .ref a11, .ref a12, .ref a13, .int 0])), (a1, .inl (k0, 7202, .inl (fun _ => 0)))] s.heap.size = A at hD ⊢
  have hA : ∀ q : Nat, s.heap.size ≤ q → A q := fun q h => by rw [← hAe]; exact Or.inr h
  have hS : va_S A s.heap s.heap [] := va_S.rf
  have hl := lv_entry ([.ref a0, .int v0]) (n := 2) (Nat.le_of_ble_eq_true rfl)
  rw [lg_entry_eq]
  generalize (lg_sl ([.ref a0, .int v0]) ++ List.replicate (2 - (lg_sl ([.ref a0, .int v0])).length) Slot.unset).toArray = ls at hl ⊢
  have hl : lv_has ls 2 [(0, .ref a0), (1, .int v0)] := hl
  refine lv_aload_n hx hb dX12_core_0 rfl (lv_at hl 0 rfl) ?_
  refine lv_iload_n hx hb dX12_core_1 rfl (lv_at hl 1 rfl) ?_
  refine cl_i (wc := [(a0, .inr (11, [.ref a1, .int 0, .int 0, .int 0, .ref a2, .int 0, .ref a3, .ref a4, .ref a5, .ref a6, .int 0, .int 0, .int 0, .int 0, .int 0, .int 0, .int 0, .int (-1), .int (-1), .int (-1), .int 0, .int 0, .int 0, .ref a7, .ref a8, .ref a9, .ref a10, .ref a11, .ref a12, .ref a13, .int 0])), (a1, .inl (k0, 7202, .inl (fun _ => 0)))]) (wr := []) [0, 1] [] rfl rfl (by decide) (by decide) hK hP hD hS hA (va_runV (As := [.int v0]) (rest := []) ⟨hx, hb, hml, hown, noTs⟩ (c_X12_isWord l dC dI s.heap.size a0 a1 a2 a3 a4 a5 a6 a7 a8 a9 a10 a11 a12 a13 k0 v0) ⟨cbE 1 (wd_1653 hE) (wd_126 hE) (wd_1650 hE) rfl rfl (by decide +kernel) ⟨Nat.le_of_ble_eq_true rfl, Nat.le_of_ble_eq_true rfl⟩, (wd_1652 hE), (wd_83 hE)⟩ ⟨PcE.blind, va_recv hK hP (ci := 11) (q0 := 0) rfl rfl, (pre_E (av := [.ref a0, .int v0]) (wc := [(a0, .inr (11, [.ref a1, .int 0, .int 0, .int 0, .ref a2, .int 0, .ref a3, .ref a4, .ref a5, .ref a6, .int 0, .int 0, .int 0, .int 0, .int 0, .int 0, .int 0, .int (-1), .int (-1), .int (-1), .int 0, .int 0, .int 0, .ref a7, .ref a8, .ref a9, .ref a10, .ref a11, .ref a12, .ref a13, .int 0])), (a1, .inl (k0, 7202, .inl (fun _ => 0)))]) (tysc := [(k0, .int)]) [0, 1] [0] rfl (by decide) rfl rfl hK hP hD hE)⟩ rfl rfl hl.1 rfl (lv_room (Nat.le_of_ble_eq_true rfl)) dX12_core_2 ⟨Nat.le_of_ble_eq_true rfl, Nat.le_of_ble_eq_true rfl⟩) (fun r1 u1 H locs hw1 hK hP hD hS => ?_)
  have hK : va_K (dC, dI) vwCl [(k0, .int)] s := hK
  have hP : va_P (dC, dI) vwCl [(a0, .inr (11, [.ref a1, .int 0, .int 0, .int 0, .ref a2, .int 0, .ref a3, .ref a4, .ref a5, .ref a6, .int 0, .int 0, .int 0, .int 0, .int 0, .int 0, .int 0, .int (-1), .int (-1), .int (-1), .int 0, .int 0, .int 0, .ref a7, .ref a8, .ref a9, .ref a10, .ref a11, .ref a12, .ref a13, .int 0])), (a1, .inl (k0, 7202, .inl (fun _ => 0)))] H := hP
  have hD : va_D A [(a0, .inr (11, [.ref a1, .int 0, .int 0, .int 0, .ref a2, .int 0, .ref a3, .ref a4, .ref a5, .ref a6, .int 0, .int 0, .int 0, .int 0, .int 0, .int 0, .int 0, .int (-1), .int (-1), .int (-1), .int 0, .int 0, .int 0, .ref a7, .ref a8, .ref a9, .ref a10, .ref a11, .ref a12, .ref a13, .int 0])), (a1, .inl (k0, 7202, .inl (fun _ => 0)))] := hD
  subst hw1
  refine W.eq (g2 := F0 m 5 ls [.int 0]) rfl ?_
  refine lv_if_ne (tgt := 14) hx hb dX12_core_5 (by decide) (fun c2 => absurd c2 (by decide)) (fun c2 => ?_)
  refine lv_aload_n hx hb dX12_core_8 rfl (lv_at hl 0 rfl) ?_
  refine lv_iconst (v := 2) hx hb dX12_core_9 (by decide) ?_
  refine cl_i (wc := [(a0, .inr (11, [.ref a1, .int 0, .int 0, .int 0, .ref a2, .int 0, .ref a3, .ref a4, .ref a5, .ref a6, .int 0, .int 0, .int 0, .int 0, .int 0, .int 0, .int 0, .int (-1), .int (-1), .int (-1), .int 0, .int 0, .int 0, .ref a7, .ref a8, .ref a9, .ref a10, .ref a11, .ref a12, .ref a13, .int 0]))]) (wr := [(a1, .inl (k0, 7202, .inl (fun _ => 0)))]) [0] [1] rfl rfl (by decide) (by decide) hK hP hD hS hA (va_runV (As := [.int 2]) (rest := []) ⟨hx, hb, hml, hown, noTs⟩ (c_X12_refuse_2 l dC dI H.size a0 a1 a2 a3 a4 a5 a6 a7 a8 a9 a10 a11 a12 a13) ⟨cbE 1 (wd_1498 hE) (wd_126 hE) (wd_1495 hE) rfl rfl (by decide +kernel) ⟨Nat.le_of_ble_eq_true rfl, Nat.le_of_ble_eq_true rfl⟩, (wd_1497 hE), (wd_54 hE)⟩ ⟨PcE.blind, va_recv hK hP (ci := 11) (q0 := 0) rfl rfl, (pre_E (av := [.ref a0, .int 2]) (wc := [(a0, .inr (11, [.ref a1, .int 0, .int 0, .int 0, .ref a2, .int 0, .ref a3, .ref a4, .ref a5, .ref a6, .int 0, .int 0, .int 0, .int 0, .int 0, .int 0, .int 0, .int (-1), .int (-1), .int (-1), .int 0, .int 0, .int 0, .ref a7, .ref a8, .ref a9, .ref a10, .ref a11, .ref a12, .ref a13, .int 0]))]) (tysc := []) [0] [] rfl (by decide) rfl rfl hK hP hD hE)⟩ rfl rfl hl.1 rfl (lv_room (Nat.le_of_ble_eq_true rfl)) dX12_core_10 ⟨Nat.le_of_ble_eq_true rfl, Nat.le_of_ble_eq_true rfl⟩) (fun r3 u3 H locs hw3 hK hP hD hS => ?_)
  have hK : va_K (dC, dI) vwCl [(k0, .int)] s := hK
  have hP : va_P (dC, dI) vwCl [(a1, .inl (k0, 7202, .inl (fun _ => 0))), (a0, .inr (11, [.ref a1, .int 2, .int 0, .int 0, .ref a2, .int 0, .ref a3, .ref a4, .ref a5, .ref a6, .int 0, .int 0, .int 0, .int 0, .int 0, .int 0, .int 0, .int (-1), .int (-1), .int (-1), .int 0, .int 0, .int 0, .ref a7, .ref a8, .ref a9, .ref a10, .ref a11, .ref a12, .ref a13, .int 0]))] H := hP
  have hD : va_D A [(a1, .inl (k0, 7202, .inl (fun _ => 0))), (a0, .inr (11, [.ref a1, .int 2, .int 0, .int 0, .ref a2, .int 0, .ref a3, .ref a4, .ref a5, .ref a6, .int 0, .int 0, .int 0, .int 0, .int 0, .int 0, .int 0, .int (-1), .int (-1), .int (-1), .int 0, .int 0, .int 0, .ref a7, .ref a8, .ref a9, .ref a10, .ref a11, .ref a12, .ref a13, .int 0]))] := hD
  subst hw3
  refine W.eq (g2 := F0 m 13 ls [.int (-1)]) rfl ?_
  have hP9 := hP.sub (ws' := []) [] rfl
  have hD9 := hD.sub (ws' := []) [] (by decide) rfl
  have hK9 := hK.sub (tys' := []) [] rfl
  refine W.widen (k := 0) (n := 0) (Nat.le_of_ble_eq_true rfl) (Nat.le_of_ble_eq_true rfl) ?_
  exact W.iret (v := -1) hx hb hr (fun t ht hW => ⟨⟨-1, (), rfl, rfl, by rw [ht]; exact hP9, va_K.moved hW.alike hK9, hD9⟩, hS.F ht⟩) hS.2.2 dX12_core_13

set_option maxHeartbeats 4000000 in
set_option maxRecDepth 100000 in
theorem c_isFrom_0_12 (l : Launch) (dC : Nat → ClassId) (dI : Nat → Nat → Nat) (sz : Nat)  (v0 : Int32)  : Met l yX12_isFrom [.code yX12_isFrom cX12_isFrom 3 (some .boolean)] ({ frames := 0, cells := 0, slots := 0, locals := 0 }) (PcE [.int v0, .int 0, .int 12] sz dC dI [] []) (va_Qi (fun (r : Int32) (u : Unit) => (r = 1 ∧ 0 ≤ v0 ∧ v0 ≤ 12) ∨ (r = 0 ∧ ¬ (0 ≤ v0 ∧ v0 ≤ 12))) (Bw dC dI (va_A [] sz) (fun (u : Unit) => []) (fun (u : Unit) => [])) (va_A [] sz)) 0 0 (va_A [] sz) := by
  refine Met.ofW (cc := cX12_isFrom) (maxL := 3) (ret := (some .boolean)) (by decide) rfl ?_
  intro p e s m args below meth c s₁ B hml hv
  obtain ⟨rfl, hsz, hP, hK, hD0, hE⟩ := hv
  have hx := B.exec
  have hb := B.bytes
  have hr := B.returns
  have hown : s.vm.findClass RX12 = some m.cls := findClass_of_methodNamed B.named
  have hlocks := B.notSynchronized
  subst hsz
  have hD := hD0.self (sz := s.heap.size)
  generalize hAe : va_A [] s.heap.size = A at hD ⊢
  have hA : ∀ q : Nat, s.heap.size ≤ q → A q := fun q h => by rw [← hAe]; exact Or.inr h
  have hS : va_S A s.heap s.heap [] := va_S.rf
  have hl := lv_entry ([.int v0, .int 0, .int 12]) (n := 3) (Nat.le_of_ble_eq_true rfl)
  rw [lg_entry_eq]
  generalize (lg_sl ([.int v0, .int 0, .int 12]) ++ List.replicate (3 - (lg_sl ([.int v0, .int 0, .int 12])).length) Slot.unset).toArray = ls at hl ⊢
  have hl : lv_has ls 3 [(0, .int v0), (1, .int 0), (2, .int 12)] := hl
  refine lv_iload_n hx hb dX12_isFrom_0 rfl (lv_at hl 0 rfl) ?_
  refine lv_iload_n hx hb dX12_isFrom_1 rfl (lv_at hl 1 rfl) ?_
  refine lv_icmp_lt (tgt := 14) hx hb dX12_isFrom_2 (by decide) (fun c1 => ?_) (fun c1 => ?_)
  · refine lv_iconst (v := 0) hx hb dX12_isFrom_14 (by decide) ?_
    have hP9 := hP.sub (ws' := []) [] rfl
    have hD9 := hD.sub (ws' := []) [] (by decide) rfl
    have hK9 := hK.sub (tys' := []) [] rfl
    refine W.widen (k := 0) (n := 0) (Nat.le_of_ble_eq_true rfl) (Nat.le_of_ble_eq_true rfl) ?_
    exact W.zret (v := 0) hx hb hr rfl (fun t ht hW => ⟨⟨0, (), rfl, Or.inr ⟨rfl, (by simp only [i_lt, i_le, i_eq, ti_m9, ti_m1, ti_0, ti_1, ti_2, ti_3, ti_4, ti_5, ti_6, ti_7, ti_9, ti_12, ti_20, ti_99, ti_700] at c1 ⊢; omega)⟩, by rw [ht]; exact hP9, va_K.moved hW.alike hK9, hD9⟩, hS.F ht⟩) hS.2.2 dX12_isFrom_15
  · refine lv_iload_n hx hb dX12_isFrom_5 rfl (lv_at hl 0 rfl) ?_
    refine lv_iload_n hx hb dX12_isFrom_6 rfl (lv_at hl 2 rfl) ?_
    refine lv_icmp_gt (tgt := 14) hx hb dX12_isFrom_7 (by decide) (fun c2 => ?_) (fun c2 => ?_)
    · refine lv_iconst (v := 0) hx hb dX12_isFrom_14 (by decide) ?_
      have hP9 := hP.sub (ws' := []) [] rfl
      have hD9 := hD.sub (ws' := []) [] (by decide) rfl
      have hK9 := hK.sub (tys' := []) [] rfl
      refine W.widen (k := 0) (n := 0) (Nat.le_of_ble_eq_true rfl) (Nat.le_of_ble_eq_true rfl) ?_
      exact W.zret (v := 0) hx hb hr rfl (fun t ht hW => ⟨⟨0, (), rfl, Or.inr ⟨rfl, (by simp only [i_lt, i_le, i_eq, ti_m9, ti_m1, ti_0, ti_1, ti_2, ti_3, ti_4, ti_5, ti_6, ti_7, ti_9, ti_12, ti_20, ti_99, ti_700] at c1 c2 ⊢; omega)⟩, by rw [ht]; exact hP9, va_K.moved hW.alike hK9, hD9⟩, hS.F ht⟩) hS.2.2 dX12_isFrom_15
    · refine lv_iconst (v := 1) hx hb dX12_isFrom_10 (by decide) ?_
      refine lv_goto (tgt := 15) hx hb dX12_isFrom_11 (by decide) ?_
      have hP9 := hP.sub (ws' := []) [] rfl
      have hD9 := hD.sub (ws' := []) [] (by decide) rfl
      have hK9 := hK.sub (tys' := []) [] rfl
      refine W.widen (k := 0) (n := 0) (Nat.le_of_ble_eq_true rfl) (Nat.le_of_ble_eq_true rfl) ?_
      exact W.zret (v := 1) hx hb hr rfl (fun t ht hW => ⟨⟨1, (), rfl, Or.inl ⟨rfl, (by simp only [i_lt, i_le, i_eq, ti_m9, ti_m1, ti_0, ti_1, ti_2, ti_3, ti_4, ti_5, ti_6, ti_7, ti_9, ti_12, ti_20, ti_99, ti_700] at c1 c2 ⊢; omega), (by simp only [i_lt, i_le, i_eq, ti_m9, ti_m1, ti_0, ti_1, ti_2, ti_3, ti_4, ti_5, ti_6, ti_7, ti_9, ti_12, ti_20, ti_99, ti_700] at c1 c2 ⊢; omega)⟩, by rw [ht]; exact hP9, va_K.moved hW.alike hK9, hD9⟩, hS.F ht⟩) hS.2.2 dX12_isFrom_15

set_option maxHeartbeats 4000000 in
set_option maxRecDepth 100000 in
theorem c_X12_spell (l : Launch) (dC : Nat → ClassId) (dI : Nat → Nat → Nat) (sz : Nat)  (a0 a1 a2 a3 a4 a5 a6 a7 a8 a9 a10 a11 a12 a13 : Nat) (k0 : ClassId) (v0 : Int32) (v1 : Int32) (v2 : Int32)  : Met l yX12_spell [.code yX12_spell cX12_spell 12 (some .int)] ({ frames := 2, cells := 0, slots := 0, locals := 80 }) (PcE [.ref a0, .int v0, .int v1, .int v2] sz dC dI [(k0, .int)] [(a0, .inr (11, [.ref a1, .int 0, .int 0, .int 0, .ref a2, .int 0, .ref a3, .ref a4, .ref a5, .ref a6, .int 0, .int 0, .int 0, .int 0, .int 0, .int 0, .int 0, .int (-1), .int (-1), .int (-1), .int 0, .int 0, .int 0, .ref a7, .ref a8, .ref a9, .ref a10, .ref a11, .ref a12, .ref a13, .int 0])), (a1, .inl (k0, 7202, .inl (fun _ => 0)))]) (va_Qi (fun (r : Int32) (u : Unit) => r = -1) (Bw dC dI (va_A [(a0, .inr (11, [.ref a1, .int 0, .int 0, .int 0, .ref a2, .int 0, .ref a3, .ref a4, .ref a5, .ref a6, .int 0, .int 0, .int 0, .int 0, .int 0, .int 0, .int 0, .int (-1), .int (-1), .int (-1), .int 0, .int 0, .int 0, .ref a7, .ref a8, .ref a9, .ref a10, .ref a11, .ref a12, .ref a13, .int 0])), (a1, .inl (k0, 7202, .inl (fun _ => 0)))] sz) (fun (u : Unit) => []) (fun (u : Unit) => [])) (va_A [(a0, .inr (11, [.ref a1, .int 0, .int 0, .int 0, .ref a2, .int 0, .ref a3, .ref a4, .ref a5, .ref a6, .int 0, .int 0, .int 0, .int 0, .int 0, .int 0, .int 0, .int (-1), .int (-1), .int (-1), .int 0, .int 0, .int 0, .ref a7, .ref a8, .ref a9, .ref a10, .ref a11, .ref a12, .ref a13, .int 0])), (a1, .inl (k0, 7202, .inl (fun _ => 0)))] sz)) 0 0 (va_A [(a0, .inr (11, [.ref a1, .int 0, .int 0, .int 0, .ref a2, .int 0, .ref a3, .ref a4, .ref a5, .ref a6, .int 0, .int 0, .int 0, .int 0, .int 0, .int 0, .int 0, .int (-1), .int (-1), .int (-1), .int 0, .int 0, .int 0, .ref a7, .ref a8, .ref a9, .ref a10, .ref a11, .ref a12, .ref a13, .int 0])), (a1, .inl (k0, 7202, .inl (fun _ => 0)))] sz) := by
  refine Met.ofW (cc := cX12_spell) (maxL := 12) (ret := (some .int)) (by decide) rfl ?_
  intro p e s m args below meth c s₁ B hml hv
  obtain ⟨rfl, hsz, hP, hK, hD0, hE⟩ := hv
  have hx := B.exec
  have hb := B.bytes
  have hr := B.returns
  have hown : s.vm.findClass RX12 = some m.cls := findClass_of_methodNamed B.named
  have hlocks := B.notSynchronized
  subst hsz
  have hD := hD0.self (sz := s.heap.size)
  generalize hAe : va_A [(a0, .inr (11, [.ref a1, .int 0, .int 0, .int 0, .ref a2, .int 0, .ref a3, .ref a4, .ref a5, .ref a6, .int 0, .int 0, .int 0, .int 0, .int 0, .int 0, .int 0, .int (-1), .int (-1), .int (-1), .int 0, .int 0, .int 0, .ref a7, .ref a8, .ref a9, .ref a10, .ref a11, .ref a12, .ref a13, .int 0])), (a1, .inl (k0, 7202, .inl (fun _ => 0)))] s.heap.size = A at hD ⊢
  have hA : ∀ q : Nat, s.heap.size ≤ q → A q := fun q h => by rw [← hAe]; exact Or.inr h
  have hS : va_S A s.heap s.heap [] := va_S.rf
  have hl := lv_entry ([.ref a0, .int v0, .int v1, .int v2]) (n := 12) (Nat.le_of_ble_eq_true rfl)
  rw [lg_entry_eq]
  generalize (lg_sl ([.ref a0, .int v0, .int v1, .int v2]) ++ List.replicate (12 - (lg_sl ([.ref a0, .int v0, .int v1, .int v2])).length) Slot.unset).toArray = ls at hl ⊢
  have hl : lv_has ls 12 [(0, .ref a0), (1, .int v0), (2, .int v1), (3, .int v2)] := hl
  refine lv_iload_n hx hb dX12_spell_0 rfl (lv_at hl 2 rfl) ?_
  refine lv_iconst (v := 0) hx hb dX12_spell_1 (by decide) ?_
  refine lv_bipush (v := 12) hx hb dX12_spell_2 (by decide) ?_
  refine cl_i (wc := []) (wr := [(a0, .inr (11, [.ref a1, .int 0, .int 0, .int 0, .ref a2, .int 0, .ref a3, .ref a4, .ref a5, .ref a6, .int 0, .int 0, .int 0, .int 0, .int 0, .int 0, .int 0, .int (-1), .int (-1), .int (-1), .int 0, .int 0, .int 0, .ref a7, .ref a8, .ref a9, .ref a10, .ref a11, .ref a12, .ref a13, .int 0])), (a1, .inl (k0, 7202, .inl (fun _ => 0)))]) [] [0, 1] rfl rfl (by decide) (by decide) hK hP hD hS hA (va_runS (As := [.int v1, .int 0, .int 12]) (rest := []) ⟨hx, hb, hml, hown, noTs⟩ (c_isFrom_0_12 l dC dI s.heap.size v1) ⟨cbE 3 (wd_1494 hE) (wd_126 hE) (wd_1492 hE) rfl rfl (by decide +kernel) ⟨Nat.le_of_ble_eq_true rfl, Nat.le_of_ble_eq_true rfl⟩, (wd_1493 hE)⟩ ⟨PcE.blind, (pre_E (av := [.int v1, .int 0, .int 12]) (wc := []) (tysc := []) [] [] rfl (by decide) rfl rfl hK hP hD hE)⟩ rfl rfl hl.1 rfl (lv_room (Nat.le_of_ble_eq_true rfl)) dX12_spell_4 ⟨Nat.le_of_ble_eq_true rfl, Nat.le_of_ble_eq_true rfl⟩) (fun r1 u1 H locs hw1 hK hP hD hS => ?_)
  have hK : va_K (dC, dI) vwCl [(k0, .int)] s := hK
  have hP : va_P (dC, dI) vwCl [(a0, .inr (11, [.ref a1, .int 0, .int 0, .int 0, .ref a2, .int 0, .ref a3, .ref a4, .ref a5, .ref a6, .int 0, .int 0, .int 0, .int 0, .int 0, .int 0, .int 0, .int (-1), .int (-1), .int (-1), .int 0, .int 0, .int 0, .ref a7, .ref a8, .ref a9, .ref a10, .ref a11, .ref a12, .ref a13, .int 0])), (a1, .inl (k0, 7202, .inl (fun _ => 0)))] H := hP
  have hD : va_D A [(a0, .inr (11, [.ref a1, .int 0, .int 0, .int 0, .ref a2, .int 0, .ref a3, .ref a4, .ref a5, .ref a6, .int 0, .int 0, .int 0, .int 0, .int 0, .int 0, .int 0, .int (-1), .int (-1), .int (-1), .int 0, .int 0, .int 0, .ref a7, .ref a8, .ref a9, .ref a10, .ref a11, .ref a12, .ref a13, .int 0])), (a1, .inl (k0, 7202, .inl (fun _ => 0)))] := hD
  rcases hw1 with ⟨rfl, ha1, hb1⟩ | ⟨rfl, ha1⟩
  · refine W.eq (g2 := F0 m 7 ls [.int 1]) rfl ?_
    refine lv_if_eq (tgt := 14) hx hb dX12_spell_7 (by decide) (fun c2 => absurd c2 (by decide)) (fun c2 => ?_)
    refine lv_iload_n hx hb dX12_spell_10 rfl (lv_at hl 3 rfl) ?_
    refine lv_if_ge (tgt := 20) hx hb dX12_spell_11 (by decide) (fun c3 => ?_) (fun c3 => ?_)
    · refine lv_aload_n hx hb dX12_spell_20 rfl (lv_at hl 0 rfl) ?_
      refine lv_iload_n hx hb dX12_spell_21 rfl (lv_at hl 1 rfl) ?_
      refine cl_i (wc := [(a0, .inr (11, [.ref a1, .int 0, .int 0, .int 0, .ref a2, .int 0, .ref a3, .ref a4, .ref a5, .ref a6, .int 0, .int 0, .int 0, .int 0, .int 0, .int 0, .int 0, .int (-1), .int (-1), .int (-1), .int 0, .int 0, .int 0, .ref a7, .ref a8, .ref a9, .ref a10, .ref a11, .ref a12, .ref a13, .int 0])), (a1, .inl (k0, 7202, .inl (fun _ => 0)))]) (wr := []) [0, 1] [] rfl rfl (by decide) (by decide) hK hP hD hS hA (va_runV (As := [.int v0]) (rest := []) ⟨hx, hb, hml, hown, noTs⟩ (c_X12_isVertex l dC dI H.size a0 a1 a2 a3 a4 a5 a6 a7 a8 a9 a10 a11 a12 a13 k0 v0) ⟨cbE 1 (wd_1560 hE) (wd_126 hE) (wd_1557 hE) rfl rfl (by decide +kernel) ⟨Nat.le_of_ble_eq_true rfl, Nat.le_of_ble_eq_true rfl⟩, (wd_1559 hE), (wd_67 hE)⟩ ⟨PcE.blind, va_recv hK hP (ci := 11) (q0 := 0) rfl rfl, (pre_E (av := [.ref a0, .int v0]) (wc := [(a0, .inr (11, [.ref a1, .int 0, .int 0, .int 0, .ref a2, .int 0, .ref a3, .ref a4, .ref a5, .ref a6, .int 0, .int 0, .int 0, .int 0, .int 0, .int 0, .int 0, .int (-1), .int (-1), .int (-1), .int 0, .int 0, .int 0, .ref a7, .ref a8, .ref a9, .ref a10, .ref a11, .ref a12, .ref a13, .int 0])), (a1, .inl (k0, 7202, .inl (fun _ => 0)))]) (tysc := [(k0, .int)]) [0, 1] [0] rfl (by decide) rfl rfl hK hP hD hE)⟩ rfl rfl hl.1 rfl (lv_room (Nat.le_of_ble_eq_true rfl)) dX12_spell_22 ⟨Nat.le_of_ble_eq_true rfl, Nat.le_of_ble_eq_true rfl⟩) (fun r4 u4 H locs hw4 hK hP hD hS => ?_)
      have hK : va_K (dC, dI) vwCl [(k0, .int)] s := hK
      have hP : va_P (dC, dI) vwCl [(a0, .inr (11, [.ref a1, .int 0, .int 0, .int 0, .ref a2, .int 0, .ref a3, .ref a4, .ref a5, .ref a6, .int 0, .int 0, .int 0, .int 0, .int 0, .int 0, .int 0, .int (-1), .int (-1), .int (-1), .int 0, .int 0, .int 0, .ref a7, .ref a8, .ref a9, .ref a10, .ref a11, .ref a12, .ref a13, .int 0])), (a1, .inl (k0, 7202, .inl (fun _ => 0)))] H := hP
      have hD : va_D A [(a0, .inr (11, [.ref a1, .int 0, .int 0, .int 0, .ref a2, .int 0, .ref a3, .ref a4, .ref a5, .ref a6, .int 0, .int 0, .int 0, .int 0, .int 0, .int 0, .int 0, .int (-1), .int (-1), .int (-1), .int 0, .int 0, .int 0, .ref a7, .ref a8, .ref a9, .ref a10, .ref a11, .ref a12, .ref a13, .int 0])), (a1, .inl (k0, 7202, .inl (fun _ => 0)))] := hD
      subst hw4
      refine W.eq (g2 := F0 m 25 ls [.int 0]) rfl ?_
      refine lv_if_ne (tgt := 34) hx hb dX12_spell_25 (by decide) (fun c5 => absurd c5 (by decide)) (fun c5 => ?_)
      refine lv_aload_n hx hb dX12_spell_28 rfl (lv_at hl 0 rfl) ?_
      refine lv_iconst (v := 2) hx hb dX12_spell_29 (by decide) ?_
      refine cl_i (wc := [(a0, .inr (11, [.ref a1, .int 0, .int 0, .int 0, .ref a2, .int 0, .ref a3, .ref a4, .ref a5, .ref a6, .int 0, .int 0, .int 0, .int 0, .int 0, .int 0, .int 0, .int (-1), .int (-1), .int (-1), .int 0, .int 0, .int 0, .ref a7, .ref a8, .ref a9, .ref a10, .ref a11, .ref a12, .ref a13, .int 0]))]) (wr := [(a1, .inl (k0, 7202, .inl (fun _ => 0)))]) [0] [1] rfl rfl (by decide) (by decide) hK hP hD hS hA (va_runV (As := [.int 2]) (rest := []) ⟨hx, hb, hml, hown, noTs⟩ (c_X12_refuse_2 l dC dI H.size a0 a1 a2 a3 a4 a5 a6 a7 a8 a9 a10 a11 a12 a13) ⟨cbE 1 (wd_1498 hE) (wd_126 hE) (wd_1495 hE) rfl rfl (by decide +kernel) ⟨Nat.le_of_ble_eq_true rfl, Nat.le_of_ble_eq_true rfl⟩, (wd_1497 hE), (wd_54 hE)⟩ ⟨PcE.blind, va_recv hK hP (ci := 11) (q0 := 0) rfl rfl, (pre_E (av := [.ref a0, .int 2]) (wc := [(a0, .inr (11, [.ref a1, .int 0, .int 0, .int 0, .ref a2, .int 0, .ref a3, .ref a4, .ref a5, .ref a6, .int 0, .int 0, .int 0, .int 0, .int 0, .int 0, .int 0, .int (-1), .int (-1), .int (-1), .int 0, .int 0, .int 0, .ref a7, .ref a8, .ref a9, .ref a10, .ref a11, .ref a12, .ref a13, .int 0]))]) (tysc := []) [0] [] rfl (by decide) rfl rfl hK hP hD hE)⟩ rfl rfl hl.1 rfl (lv_room (Nat.le_of_ble_eq_true rfl)) dX12_spell_30 ⟨Nat.le_of_ble_eq_true rfl, Nat.le_of_ble_eq_true rfl⟩) (fun r6 u6 H locs hw6 hK hP hD hS => ?_)
      have hK : va_K (dC, dI) vwCl [(k0, .int)] s := hK
      have hP : va_P (dC, dI) vwCl [(a1, .inl (k0, 7202, .inl (fun _ => 0))), (a0, .inr (11, [.ref a1, .int 2, .int 0, .int 0, .ref a2, .int 0, .ref a3, .ref a4, .ref a5, .ref a6, .int 0, .int 0, .int 0, .int 0, .int 0, .int 0, .int 0, .int (-1), .int (-1), .int (-1), .int 0, .int 0, .int 0, .ref a7, .ref a8, .ref a9, .ref a10, .ref a11, .ref a12, .ref a13, .int 0]))] H := hP
      have hD : va_D A [(a1, .inl (k0, 7202, .inl (fun _ => 0))), (a0, .inr (11, [.ref a1, .int 2, .int 0, .int 0, .ref a2, .int 0, .ref a3, .ref a4, .ref a5, .ref a6, .int 0, .int 0, .int 0, .int 0, .int 0, .int 0, .int 0, .int (-1), .int (-1), .int (-1), .int 0, .int 0, .int 0, .ref a7, .ref a8, .ref a9, .ref a10, .ref a11, .ref a12, .ref a13, .int 0]))] := hD
      subst hw6
      refine W.eq (g2 := F0 m 33 ls [.int (-1)]) rfl ?_
      have hP9 := hP.sub (ws' := []) [] rfl
      have hD9 := hD.sub (ws' := []) [] (by decide) rfl
      have hK9 := hK.sub (tys' := []) [] rfl
      refine W.widen (k := 0) (n := 0) (Nat.le_of_ble_eq_true rfl) (Nat.le_of_ble_eq_true rfl) ?_
      exact W.iret (v := -1) hx hb hr (fun t ht hW => ⟨⟨-1, (), rfl, rfl, by rw [ht]; exact hP9, va_K.moved hW.alike hK9, hD9⟩, hS.F ht⟩) hS.2.2 dX12_spell_33
    · refine lv_aload_n hx hb dX12_spell_14 rfl (lv_at hl 0 rfl) ?_
      refine lv_iconst (v := 1) hx hb dX12_spell_15 (by decide) ?_
      refine cl_i (wc := [(a0, .inr (11, [.ref a1, .int 0, .int 0, .int 0, .ref a2, .int 0, .ref a3, .ref a4, .ref a5, .ref a6, .int 0, .int 0, .int 0, .int 0, .int 0, .int 0, .int 0, .int (-1), .int (-1), .int (-1), .int 0, .int 0, .int 0, .ref a7, .ref a8, .ref a9, .ref a10, .ref a11, .ref a12, .ref a13, .int 0]))]) (wr := [(a1, .inl (k0, 7202, .inl (fun _ => 0)))]) [0] [1] rfl rfl (by decide) (by decide) hK hP hD hS hA (va_runV (As := [.int 1]) (rest := []) ⟨hx, hb, hml, hown, noTs⟩ (c_X12_refuse l dC dI H.size a0 a1 a2 a3 a4 a5 a6 a7 a8 a9 a10 a11 a12 a13) ⟨cbE 1 (wd_1498 hE) (wd_126 hE) (wd_1495 hE) rfl rfl (by decide +kernel) ⟨Nat.le_of_ble_eq_true rfl, Nat.le_of_ble_eq_true rfl⟩, (wd_1497 hE), (wd_54 hE)⟩ ⟨PcE.blind, va_recv hK hP (ci := 11) (q0 := 0) rfl rfl, (pre_E (av := [.ref a0, .int 1]) (wc := [(a0, .inr (11, [.ref a1, .int 0, .int 0, .int 0, .ref a2, .int 0, .ref a3, .ref a4, .ref a5, .ref a6, .int 0, .int 0, .int 0, .int 0, .int 0, .int 0, .int 0, .int (-1), .int (-1), .int (-1), .int 0, .int 0, .int 0, .ref a7, .ref a8, .ref a9, .ref a10, .ref a11, .ref a12, .ref a13, .int 0]))]) (tysc := []) [0] [] rfl (by decide) rfl rfl hK hP hD hE)⟩ rfl rfl hl.1 rfl (lv_room (Nat.le_of_ble_eq_true rfl)) dX12_spell_16 ⟨Nat.le_of_ble_eq_true rfl, Nat.le_of_ble_eq_true rfl⟩) (fun r7 u7 H locs hw7 hK hP hD hS => ?_)
      have hK : va_K (dC, dI) vwCl [(k0, .int)] s := hK
      have hP : va_P (dC, dI) vwCl [(a1, .inl (k0, 7202, .inl (fun _ => 0))), (a0, .inr (11, [.ref a1, .int 1, .int 0, .int 0, .ref a2, .int 0, .ref a3, .ref a4, .ref a5, .ref a6, .int 0, .int 0, .int 0, .int 0, .int 0, .int 0, .int 0, .int (-1), .int (-1), .int (-1), .int 0, .int 0, .int 0, .ref a7, .ref a8, .ref a9, .ref a10, .ref a11, .ref a12, .ref a13, .int 0]))] H := hP
      have hD : va_D A [(a1, .inl (k0, 7202, .inl (fun _ => 0))), (a0, .inr (11, [.ref a1, .int 1, .int 0, .int 0, .ref a2, .int 0, .ref a3, .ref a4, .ref a5, .ref a6, .int 0, .int 0, .int 0, .int 0, .int 0, .int 0, .int 0, .int (-1), .int (-1), .int (-1), .int 0, .int 0, .int 0, .ref a7, .ref a8, .ref a9, .ref a10, .ref a11, .ref a12, .ref a13, .int 0]))] := hD
      subst hw7
      refine W.eq (g2 := F0 m 19 ls [.int (-1)]) rfl ?_
      have hP9 := hP.sub (ws' := []) [] rfl
      have hD9 := hD.sub (ws' := []) [] (by decide) rfl
      have hK9 := hK.sub (tys' := []) [] rfl
      refine W.widen (k := 0) (n := 0) (Nat.le_of_ble_eq_true rfl) (Nat.le_of_ble_eq_true rfl) ?_
      exact W.iret (v := -1) hx hb hr (fun t ht hW => ⟨⟨-1, (), rfl, rfl, by rw [ht]; exact hP9, va_K.moved hW.alike hK9, hD9⟩, hS.F ht⟩) hS.2.2 dX12_spell_19
  · refine W.eq (g2 := F0 m 7 ls [.int 0]) rfl ?_
    refine lv_if_eq (tgt := 14) hx hb dX12_spell_7 (by decide) (fun c8 => ?_) (fun c8 => absurd c8 (by decide))
    refine lv_aload_n hx hb dX12_spell_14 rfl (lv_at hl 0 rfl) ?_
    refine lv_iconst (v := 1) hx hb dX12_spell_15 (by decide) ?_
    refine cl_i (wc := [(a0, .inr (11, [.ref a1, .int 0, .int 0, .int 0, .ref a2, .int 0, .ref a3, .ref a4, .ref a5, .ref a6, .int 0, .int 0, .int 0, .int 0, .int 0, .int 0, .int 0, .int (-1), .int (-1), .int (-1), .int 0, .int 0, .int 0, .ref a7, .ref a8, .ref a9, .ref a10, .ref a11, .ref a12, .ref a13, .int 0]))]) (wr := [(a1, .inl (k0, 7202, .inl (fun _ => 0)))]) [0] [1] rfl rfl (by decide) (by decide) hK hP hD hS hA (va_runV (As := [.int 1]) (rest := []) ⟨hx, hb, hml, hown, noTs⟩ (c_X12_refuse l dC dI H.size a0 a1 a2 a3 a4 a5 a6 a7 a8 a9 a10 a11 a12 a13) ⟨cbE 1 (wd_1498 hE) (wd_126 hE) (wd_1495 hE) rfl rfl (by decide +kernel) ⟨Nat.le_of_ble_eq_true rfl, Nat.le_of_ble_eq_true rfl⟩, (wd_1497 hE), (wd_54 hE)⟩ ⟨PcE.blind, va_recv hK hP (ci := 11) (q0 := 0) rfl rfl, (pre_E (av := [.ref a0, .int 1]) (wc := [(a0, .inr (11, [.ref a1, .int 0, .int 0, .int 0, .ref a2, .int 0, .ref a3, .ref a4, .ref a5, .ref a6, .int 0, .int 0, .int 0, .int 0, .int 0, .int 0, .int 0, .int (-1), .int (-1), .int (-1), .int 0, .int 0, .int 0, .ref a7, .ref a8, .ref a9, .ref a10, .ref a11, .ref a12, .ref a13, .int 0]))]) (tysc := []) [0] [] rfl (by decide) rfl rfl hK hP hD hE)⟩ rfl rfl hl.1 rfl (lv_room (Nat.le_of_ble_eq_true rfl)) dX12_spell_16 ⟨Nat.le_of_ble_eq_true rfl, Nat.le_of_ble_eq_true rfl⟩) (fun r9 u9 H locs hw9 hK hP hD hS => ?_)
    have hK : va_K (dC, dI) vwCl [(k0, .int)] s := hK
    have hP : va_P (dC, dI) vwCl [(a1, .inl (k0, 7202, .inl (fun _ => 0))), (a0, .inr (11, [.ref a1, .int 1, .int 0, .int 0, .ref a2, .int 0, .ref a3, .ref a4, .ref a5, .ref a6, .int 0, .int 0, .int 0, .int 0, .int 0, .int 0, .int 0, .int (-1), .int (-1), .int (-1), .int 0, .int 0, .int 0, .ref a7, .ref a8, .ref a9, .ref a10, .ref a11, .ref a12, .ref a13, .int 0]))] H := hP
    have hD : va_D A [(a1, .inl (k0, 7202, .inl (fun _ => 0))), (a0, .inr (11, [.ref a1, .int 1, .int 0, .int 0, .ref a2, .int 0, .ref a3, .ref a4, .ref a5, .ref a6, .int 0, .int 0, .int 0, .int 0, .int 0, .int 0, .int 0, .int (-1), .int (-1), .int (-1), .int 0, .int 0, .int 0, .ref a7, .ref a8, .ref a9, .ref a10, .ref a11, .ref a12, .ref a13, .int 0]))] := hD
    subst hw9
    refine W.eq (g2 := F0 m 19 ls [.int (-1)]) rfl ?_
    have hP9 := hP.sub (ws' := []) [] rfl
    have hD9 := hD.sub (ws' := []) [] (by decide) rfl
    have hK9 := hK.sub (tys' := []) [] rfl
    refine W.widen (k := 0) (n := 0) (Nat.le_of_ble_eq_true rfl) (Nat.le_of_ble_eq_true rfl) ?_
    exact W.iret (v := -1) hx hb hr (fun t ht hW => ⟨⟨-1, (), rfl, rfl, by rw [ht]; exact hP9, va_K.moved hW.alike hK9, hD9⟩, hS.F ht⟩) hS.2.2 dX12_spell_19

set_option maxHeartbeats 4000000 in
set_option maxRecDepth 100000 in
theorem c_X12_drop (l : Launch) (dC : Nat → ClassId) (dI : Nat → Nat → Nat) (sz : Nat)  (a0 a1 a2 a3 a4 a5 a6 a7 a8 a9 a10 a11 a12 a13 : Nat) (k0 : ClassId) (v0 : Int32)  : Met l yX12_drop [.code yX12_drop cX12_drop 3 (some .int)] ({ frames := 2, cells := 0, slots := 0, locals := 80 }) (PcE [.ref a0, .int v0] sz dC dI [(k0, .int)] [(a0, .inr (11, [.ref a1, .int 0, .int 0, .int 0, .ref a2, .int 0, .ref a3, .ref a4, .ref a5, .ref a6, .int 0, .int 0, .int 0, .int 0, .int 0, .int 0, .int 0, .int (-1), .int (-1), .int (-1), .int 0, .int 0, .int 0, .ref a7, .ref a8, .ref a9, .ref a10, .ref a11, .ref a12, .ref a13, .int 0])), (a1, .inl (k0, 7202, .inl (fun _ => 0)))]) (va_Qi (fun (r : Int32) (u : Unit) => r = -1) (Bw dC dI (va_A [(a0, .inr (11, [.ref a1, .int 0, .int 0, .int 0, .ref a2, .int 0, .ref a3, .ref a4, .ref a5, .ref a6, .int 0, .int 0, .int 0, .int 0, .int 0, .int 0, .int 0, .int (-1), .int (-1), .int (-1), .int 0, .int 0, .int 0, .ref a7, .ref a8, .ref a9, .ref a10, .ref a11, .ref a12, .ref a13, .int 0])), (a1, .inl (k0, 7202, .inl (fun _ => 0)))] sz) (fun (u : Unit) => []) (fun (u : Unit) => [])) (va_A [(a0, .inr (11, [.ref a1, .int 0, .int 0, .int 0, .ref a2, .int 0, .ref a3, .ref a4, .ref a5, .ref a6, .int 0, .int 0, .int 0, .int 0, .int 0, .int 0, .int 0, .int (-1), .int (-1), .int (-1), .int 0, .int 0, .int 0, .ref a7, .ref a8, .ref a9, .ref a10, .ref a11, .ref a12, .ref a13, .int 0])), (a1, .inl (k0, 7202, .inl (fun _ => 0)))] sz)) 0 0 (va_A [(a0, .inr (11, [.ref a1, .int 0, .int 0, .int 0, .ref a2, .int 0, .ref a3, .ref a4, .ref a5, .ref a6, .int 0, .int 0, .int 0, .int 0, .int 0, .int 0, .int 0, .int (-1), .int (-1), .int (-1), .int 0, .int 0, .int 0, .ref a7, .ref a8, .ref a9, .ref a10, .ref a11, .ref a12, .ref a13, .int 0])), (a1, .inl (k0, 7202, .inl (fun _ => 0)))] sz) := by
  refine Met.ofW (cc := cX12_drop) (maxL := 3) (ret := (some .int)) (by decide) rfl ?_
  intro p e s m args below meth c s₁ B hml hv
  obtain ⟨rfl, hsz, hP, hK, hD0, hE⟩ := hv
  have hx := B.exec
  have hb := B.bytes
  have hr := B.returns
  have hown : s.vm.findClass RX12 = some m.cls := findClass_of_methodNamed B.named
  have hlocks := B.notSynchronized
  subst hsz
  have hD := hD0.self (sz := s.heap.size)
  generalize hAe : va_A [(a0, .inr (11, [.ref a1, .int 0, .int 0, .int 0, .ref a2, .int 0, .ref a3, .ref a4, .ref a5, .ref a6, .int 0, .int 0, .int 0, .int 0, .int 0, .int 0, .int 0, .int (-1), .int (-1), .int (-1), .int 0, .int 0, .int 0, .ref a7, .ref a8, .ref a9, .ref a10, .ref a11, .ref a12, .ref a13, .int 0])), (a1, .inl (k0, 7202, .inl (fun _ => 0)))] s.heap.size = A at hD ⊢
  have hA : ∀ q : Nat, s.heap.size ≤ q → A q := fun q h => by rw [← hAe]; exact Or.inr h
  have hS : va_S A s.heap s.heap [] := va_S.rf
  have hl := lv_entry ([.ref a0, .int v0]) (n := 3) (Nat.le_of_ble_eq_true rfl)
  rw [lg_entry_eq]
  generalize (lg_sl ([.ref a0, .int v0]) ++ List.replicate (3 - (lg_sl ([.ref a0, .int v0])).length) Slot.unset).toArray = ls at hl ⊢
  have hl : lv_has ls 3 [(0, .ref a0), (1, .int v0)] := hl
  refine lv_aload_n hx hb dX12_drop_0 rfl (lv_at hl 0 rfl) ?_
  refine lv_iload_n hx hb dX12_drop_1 rfl (lv_at hl 1 rfl) ?_
  refine cl_i (wc := [(a0, .inr (11, [.ref a1, .int 0, .int 0, .int 0, .ref a2, .int 0, .ref a3, .ref a4, .ref a5, .ref a6, .int 0, .int 0, .int 0, .int 0, .int 0, .int 0, .int 0, .int (-1), .int (-1), .int (-1), .int 0, .int 0, .int 0, .ref a7, .ref a8, .ref a9, .ref a10, .ref a11, .ref a12, .ref a13, .int 0])), (a1, .inl (k0, 7202, .inl (fun _ => 0)))]) (wr := []) [0, 1] [] rfl rfl (by decide) (by decide) hK hP hD hS hA (va_runV (As := [.int v0]) (rest := []) ⟨hx, hb, hml, hown, noTs⟩ (c_X12_isWord l dC dI s.heap.size a0 a1 a2 a3 a4 a5 a6 a7 a8 a9 a10 a11 a12 a13 k0 v0) ⟨cbE 1 (wd_1653 hE) (wd_126 hE) (wd_1650 hE) rfl rfl (by decide +kernel) ⟨Nat.le_of_ble_eq_true rfl, Nat.le_of_ble_eq_true rfl⟩, (wd_1652 hE), (wd_83 hE)⟩ ⟨PcE.blind, va_recv hK hP (ci := 11) (q0 := 0) rfl rfl, (pre_E (av := [.ref a0, .int v0]) (wc := [(a0, .inr (11, [.ref a1, .int 0, .int 0, .int 0, .ref a2, .int 0, .ref a3, .ref a4, .ref a5, .ref a6, .int 0, .int 0, .int 0, .int 0, .int 0, .int 0, .int 0, .int (-1), .int (-1), .int (-1), .int 0, .int 0, .int 0, .ref a7, .ref a8, .ref a9, .ref a10, .ref a11, .ref a12, .ref a13, .int 0])), (a1, .inl (k0, 7202, .inl (fun _ => 0)))]) (tysc := [(k0, .int)]) [0, 1] [0] rfl (by decide) rfl rfl hK hP hD hE)⟩ rfl rfl hl.1 rfl (lv_room (Nat.le_of_ble_eq_true rfl)) dX12_drop_2 ⟨Nat.le_of_ble_eq_true rfl, Nat.le_of_ble_eq_true rfl⟩) (fun r1 u1 H locs hw1 hK hP hD hS => ?_)
  have hK : va_K (dC, dI) vwCl [(k0, .int)] s := hK
  have hP : va_P (dC, dI) vwCl [(a0, .inr (11, [.ref a1, .int 0, .int 0, .int 0, .ref a2, .int 0, .ref a3, .ref a4, .ref a5, .ref a6, .int 0, .int 0, .int 0, .int 0, .int 0, .int 0, .int 0, .int (-1), .int (-1), .int (-1), .int 0, .int 0, .int 0, .ref a7, .ref a8, .ref a9, .ref a10, .ref a11, .ref a12, .ref a13, .int 0])), (a1, .inl (k0, 7202, .inl (fun _ => 0)))] H := hP
  have hD : va_D A [(a0, .inr (11, [.ref a1, .int 0, .int 0, .int 0, .ref a2, .int 0, .ref a3, .ref a4, .ref a5, .ref a6, .int 0, .int 0, .int 0, .int 0, .int 0, .int 0, .int 0, .int (-1), .int (-1), .int (-1), .int 0, .int 0, .int 0, .ref a7, .ref a8, .ref a9, .ref a10, .ref a11, .ref a12, .ref a13, .int 0])), (a1, .inl (k0, 7202, .inl (fun _ => 0)))] := hD
  subst hw1
  refine W.eq (g2 := F0 m 5 ls [.int 0]) rfl ?_
  refine lv_if_ne (tgt := 14) hx hb dX12_drop_5 (by decide) (fun c2 => absurd c2 (by decide)) (fun c2 => ?_)
  refine lv_aload_n hx hb dX12_drop_8 rfl (lv_at hl 0 rfl) ?_
  refine lv_iconst (v := 2) hx hb dX12_drop_9 (by decide) ?_
  refine cl_i (wc := [(a0, .inr (11, [.ref a1, .int 0, .int 0, .int 0, .ref a2, .int 0, .ref a3, .ref a4, .ref a5, .ref a6, .int 0, .int 0, .int 0, .int 0, .int 0, .int 0, .int 0, .int (-1), .int (-1), .int (-1), .int 0, .int 0, .int 0, .ref a7, .ref a8, .ref a9, .ref a10, .ref a11, .ref a12, .ref a13, .int 0]))]) (wr := [(a1, .inl (k0, 7202, .inl (fun _ => 0)))]) [0] [1] rfl rfl (by decide) (by decide) hK hP hD hS hA (va_runV (As := [.int 2]) (rest := []) ⟨hx, hb, hml, hown, noTs⟩ (c_X12_refuse_2 l dC dI H.size a0 a1 a2 a3 a4 a5 a6 a7 a8 a9 a10 a11 a12 a13) ⟨cbE 1 (wd_1498 hE) (wd_126 hE) (wd_1495 hE) rfl rfl (by decide +kernel) ⟨Nat.le_of_ble_eq_true rfl, Nat.le_of_ble_eq_true rfl⟩, (wd_1497 hE), (wd_54 hE)⟩ ⟨PcE.blind, va_recv hK hP (ci := 11) (q0 := 0) rfl rfl, (pre_E (av := [.ref a0, .int 2]) (wc := [(a0, .inr (11, [.ref a1, .int 0, .int 0, .int 0, .ref a2, .int 0, .ref a3, .ref a4, .ref a5, .ref a6, .int 0, .int 0, .int 0, .int 0, .int 0, .int 0, .int 0, .int (-1), .int (-1), .int (-1), .int 0, .int 0, .int 0, .ref a7, .ref a8, .ref a9, .ref a10, .ref a11, .ref a12, .ref a13, .int 0]))]) (tysc := []) [0] [] rfl (by decide) rfl rfl hK hP hD hE)⟩ rfl rfl hl.1 rfl (lv_room (Nat.le_of_ble_eq_true rfl)) dX12_drop_10 ⟨Nat.le_of_ble_eq_true rfl, Nat.le_of_ble_eq_true rfl⟩) (fun r3 u3 H locs hw3 hK hP hD hS => ?_)
  have hK : va_K (dC, dI) vwCl [(k0, .int)] s := hK
  have hP : va_P (dC, dI) vwCl [(a1, .inl (k0, 7202, .inl (fun _ => 0))), (a0, .inr (11, [.ref a1, .int 2, .int 0, .int 0, .ref a2, .int 0, .ref a3, .ref a4, .ref a5, .ref a6, .int 0, .int 0, .int 0, .int 0, .int 0, .int 0, .int 0, .int (-1), .int (-1), .int (-1), .int 0, .int 0, .int 0, .ref a7, .ref a8, .ref a9, .ref a10, .ref a11, .ref a12, .ref a13, .int 0]))] H := hP
  have hD : va_D A [(a1, .inl (k0, 7202, .inl (fun _ => 0))), (a0, .inr (11, [.ref a1, .int 2, .int 0, .int 0, .ref a2, .int 0, .ref a3, .ref a4, .ref a5, .ref a6, .int 0, .int 0, .int 0, .int 0, .int 0, .int 0, .int 0, .int (-1), .int (-1), .int (-1), .int 0, .int 0, .int 0, .ref a7, .ref a8, .ref a9, .ref a10, .ref a11, .ref a12, .ref a13, .int 0]))] := hD
  subst hw3
  refine W.eq (g2 := F0 m 13 ls [.int (-1)]) rfl ?_
  have hP9 := hP.sub (ws' := []) [] rfl
  have hD9 := hD.sub (ws' := []) [] (by decide) rfl
  have hK9 := hK.sub (tys' := []) [] rfl
  refine W.widen (k := 0) (n := 0) (Nat.le_of_ble_eq_true rfl) (Nat.le_of_ble_eq_true rfl) ?_
  exact W.iret (v := -1) hx hb hr (fun t ht hW => ⟨⟨-1, (), rfl, rfl, by rw [ht]; exact hP9, va_K.moved hW.alike hK9, hD9⟩, hS.F ht⟩) hS.2.2 dX12_drop_13

set_option maxHeartbeats 4000000 in
set_option maxRecDepth 100000 in
theorem c_X12_refuse_3 (l : Launch) (dC : Nat → ClassId) (dI : Nat → Nat → Nat) (sz : Nat)  (a0 a1 a2 a3 a4 a5 a6 a7 a8 a9 a10 a11 a12 a13 : Nat)  : Met l yX12_refuse [.code yX12_refuse cX12_refuse 2 (some .int)] ({ frames := 0, cells := 0, slots := 0, locals := 0 }) (PcE [.ref a0, .int 5] sz dC dI [] [(a0, .inr (11, [.ref a1, .int 0, .int 0, .int 0, .ref a2, .int 0, .ref a3, .ref a4, .ref a5, .ref a6, .int 0, .int 0, .int 0, .int 0, .int 0, .int 0, .int 0, .int (-1), .int (-1), .int (-1), .int 0, .int 0, .int 0, .ref a7, .ref a8, .ref a9, .ref a10, .ref a11, .ref a12, .ref a13, .int 0]))]) (va_Qi (fun (r : Int32) (u : Unit) => r = -1) (Bw dC dI (va_A [(a0, .inr (11, [.ref a1, .int 0, .int 0, .int 0, .ref a2, .int 0, .ref a3, .ref a4, .ref a5, .ref a6, .int 0, .int 0, .int 0, .int 0, .int 0, .int 0, .int 0, .int (-1), .int (-1), .int (-1), .int 0, .int 0, .int 0, .ref a7, .ref a8, .ref a9, .ref a10, .ref a11, .ref a12, .ref a13, .int 0]))] sz) (fun (u : Unit) => []) (fun (u : Unit) => [(a0, .inr (11, [.ref a1, .int 5, .int 0, .int 0, .ref a2, .int 0, .ref a3, .ref a4, .ref a5, .ref a6, .int 0, .int 0, .int 0, .int 0, .int 0, .int 0, .int 0, .int (-1), .int (-1), .int (-1), .int 0, .int 0, .int 0, .ref a7, .ref a8, .ref a9, .ref a10, .ref a11, .ref a12, .ref a13, .int 0]))])) (va_A [(a0, .inr (11, [.ref a1, .int 0, .int 0, .int 0, .ref a2, .int 0, .ref a3, .ref a4, .ref a5, .ref a6, .int 0, .int 0, .int 0, .int 0, .int 0, .int 0, .int 0, .int (-1), .int (-1), .int (-1), .int 0, .int 0, .int 0, .ref a7, .ref a8, .ref a9, .ref a10, .ref a11, .ref a12, .ref a13, .int 0]))] sz)) 0 0 (va_A [(a0, .inr (11, [.ref a1, .int 0, .int 0, .int 0, .ref a2, .int 0, .ref a3, .ref a4, .ref a5, .ref a6, .int 0, .int 0, .int 0, .int 0, .int 0, .int 0, .int 0, .int (-1), .int (-1), .int (-1), .int 0, .int 0, .int 0, .ref a7, .ref a8, .ref a9, .ref a10, .ref a11, .ref a12, .ref a13, .int 0]))] sz) := by
  refine Met.ofW (cc := cX12_refuse) (maxL := 2) (ret := (some .int)) (by decide) rfl ?_
  intro p e s m args below meth c s₁ B hml hv
  obtain ⟨rfl, hsz, hP, hK, hD0, hE⟩ := hv
  have hx := B.exec
  have hb := B.bytes
  have hr := B.returns
  have hown : s.vm.findClass RX12 = some m.cls := findClass_of_methodNamed B.named
  have hlocks := B.notSynchronized
  subst hsz
  have hD := hD0.self (sz := s.heap.size)
  generalize hAe : va_A [(a0, .inr (11, [.ref a1, .int 0, .int 0, .int 0, .ref a2, .int 0, .ref a3, .ref a4, .ref a5, .ref a6, .int 0, .int 0, .int 0, .int 0, .int 0, .int 0, .int 0, .int (-1), .int (-1), .int (-1), .int 0, .int 0, .int 0, .ref a7, .ref a8, .ref a9, .ref a10, .ref a11, .ref a12, .ref a13, .int 0]))] s.heap.size = A at hD ⊢
  have hA : ∀ q : Nat, s.heap.size ≤ q → A q := fun q h => by rw [← hAe]; exact Or.inr h
  have hS : va_S A s.heap s.heap [] := va_S.rf
  have hl := lv_entry ([.ref a0, .int 5]) (n := 2) (Nat.le_of_ble_eq_true rfl)
  rw [lg_entry_eq]
  generalize (lg_sl ([.ref a0, .int 5]) ++ List.replicate (2 - (lg_sl ([.ref a0, .int 5])).length) Slot.unset).toArray = ls at hl ⊢
  have hl : lv_has ls 2 [(0, .ref a0), (1, .int 5)] := hl
  refine lv_aload_n hx hb dX12_refuse_0 rfl (lv_at hl 0 rfl) ?_
  refine lv_iload_n hx hb dX12_refuse_1 rfl (lv_at hl 1 rfl) ?_
  refine va_put (D := (dC, dI)) (ci := 11) (v := .int 5) (ty := .int) (C := RX12) (T := TX12) (N := 31) hx hb (ly_X12 hE) (fun _ h9 => h9) tyX12 tyX12_ok nmX12 hown hK hP hD hS 0 rfl rfl 1 (by decide) (wd_1382 hE) (fun _ h9 => h9) rfl (by decide +kernel) rfl rfl (Nat.le_of_ble_eq_true rfl) dX12_refuse_2 (fun H locs hP hD hS => ?_)
  have hP : va_P (dC, dI) vwCl [(a0, .inr (11, [.ref a1, .int 5, .int 0, .int 0, .ref a2, .int 0, .ref a3, .ref a4, .ref a5, .ref a6, .int 0, .int 0, .int 0, .int 0, .int 0, .int 0, .int 0, .int (-1), .int (-1), .int (-1), .int 0, .int 0, .int 0, .ref a7, .ref a8, .ref a9, .ref a10, .ref a11, .ref a12, .ref a13, .int 0]))] H := hP
  have hD : va_D A [(a0, .inr (11, [.ref a1, .int 5, .int 0, .int 0, .ref a2, .int 0, .ref a3, .ref a4, .ref a5, .ref a6, .int 0, .int 0, .int 0, .int 0, .int 0, .int 0, .int 0, .int (-1), .int (-1), .int (-1), .int 0, .int 0, .int 0, .ref a7, .ref a8, .ref a9, .ref a10, .ref a11, .ref a12, .ref a13, .int 0]))] := hD
  refine lv_iconst (v := -1) hx hb dX12_refuse_5 (by decide) ?_
  have hP9 := hP.sub (ws' := [(a0, .inr (11, [.ref a1, .int 5, .int 0, .int 0, .ref a2, .int 0, .ref a3, .ref a4, .ref a5, .ref a6, .int 0, .int 0, .int 0, .int 0, .int 0, .int 0, .int 0, .int (-1), .int (-1), .int (-1), .int 0, .int 0, .int 0, .ref a7, .ref a8, .ref a9, .ref a10, .ref a11, .ref a12, .ref a13, .int 0]))]) [0] rfl
  have hD9 := hD.sub (ws' := [(a0, .inr (11, [.ref a1, .int 5, .int 0, .int 0, .ref a2, .int 0, .ref a3, .ref a4, .ref a5, .ref a6, .int 0, .int 0, .int 0, .int 0, .int 0, .int 0, .int 0, .int (-1), .int (-1), .int (-1), .int 0, .int 0, .int 0, .ref a7, .ref a8, .ref a9, .ref a10, .ref a11, .ref a12, .ref a13, .int 0]))]) [0] (by decide) rfl
  have hK9 := hK.sub (tys' := []) [] rfl
  refine W.widen (k := 0) (n := 0) (Nat.le_of_ble_eq_true rfl) (Nat.le_of_ble_eq_true rfl) ?_
  exact W.iret (v := -1) hx hb hr (fun t ht hW => ⟨⟨-1, (), rfl, rfl, by rw [ht]; exact hP9, va_K.moved hW.alike hK9, hD9⟩, hS.F ht⟩) hS.2.2 dX12_refuse_6

set_option maxHeartbeats 4000000 in
set_option maxRecDepth 100000 in
theorem c_X12_undo (l : Launch) (dC : Nat → ClassId) (dI : Nat → Nat → Nat) (sz : Nat)  (a0 a1 a2 a3 a4 a5 a6 a7 a8 a9 a10 a11 a12 a13 : Nat)  : Met l yX12_undo [.code yX12_undo cX12_undo 1 (some .int)] ({ frames := 1, cells := 0, slots := 0, locals := 40 }) (PcE [.ref a0] sz dC dI [] [(a0, .inr (11, [.ref a1, .int 0, .int 0, .int 0, .ref a2, .int 0, .ref a3, .ref a4, .ref a5, .ref a6, .int 0, .int 0, .int 0, .int 0, .int 0, .int 0, .int 0, .int (-1), .int (-1), .int (-1), .int 0, .int 0, .int 0, .ref a7, .ref a8, .ref a9, .ref a10, .ref a11, .ref a12, .ref a13, .int 0]))]) (va_Qi (fun (r : Int32) (u : Unit) => r = -1) (Bw dC dI (va_A [(a0, .inr (11, [.ref a1, .int 0, .int 0, .int 0, .ref a2, .int 0, .ref a3, .ref a4, .ref a5, .ref a6, .int 0, .int 0, .int 0, .int 0, .int 0, .int 0, .int 0, .int (-1), .int (-1), .int (-1), .int 0, .int 0, .int 0, .ref a7, .ref a8, .ref a9, .ref a10, .ref a11, .ref a12, .ref a13, .int 0]))] sz) (fun (u : Unit) => []) (fun (u : Unit) => [])) (va_A [(a0, .inr (11, [.ref a1, .int 0, .int 0, .int 0, .ref a2, .int 0, .ref a3, .ref a4, .ref a5, .ref a6, .int 0, .int 0, .int 0, .int 0, .int 0, .int 0, .int 0, .int (-1), .int (-1), .int (-1), .int 0, .int 0, .int 0, .ref a7, .ref a8, .ref a9, .ref a10, .ref a11, .ref a12, .ref a13, .int 0]))] sz)) 0 0 (va_A [(a0, .inr (11, [.ref a1, .int 0, .int 0, .int 0, .ref a2, .int 0, .ref a3, .ref a4, .ref a5, .ref a6, .int 0, .int 0, .int 0, .int 0, .int 0, .int 0, .int 0, .int (-1), .int (-1), .int (-1), .int 0, .int 0, .int 0, .ref a7, .ref a8, .ref a9, .ref a10, .ref a11, .ref a12, .ref a13, .int 0]))] sz) := by
  refine Met.ofW (cc := cX12_undo) (maxL := 1) (ret := (some .int)) (by decide) rfl ?_
  intro p e s m args below meth c s₁ B hml hv
  obtain ⟨rfl, hsz, hP, hK, hD0, hE⟩ := hv
  have hx := B.exec
  have hb := B.bytes
  have hr := B.returns
  have hown : s.vm.findClass RX12 = some m.cls := findClass_of_methodNamed B.named
  have hlocks := B.notSynchronized
  subst hsz
  have hD := hD0.self (sz := s.heap.size)
  generalize hAe : va_A [(a0, .inr (11, [.ref a1, .int 0, .int 0, .int 0, .ref a2, .int 0, .ref a3, .ref a4, .ref a5, .ref a6, .int 0, .int 0, .int 0, .int 0, .int 0, .int 0, .int 0, .int (-1), .int (-1), .int (-1), .int 0, .int 0, .int 0, .ref a7, .ref a8, .ref a9, .ref a10, .ref a11, .ref a12, .ref a13, .int 0]))] s.heap.size = A at hD ⊢
  have hA : ∀ q : Nat, s.heap.size ≤ q → A q := fun q h => by rw [← hAe]; exact Or.inr h
  have hS : va_S A s.heap s.heap [] := va_S.rf
  have hl := lv_entry ([.ref a0]) (n := 1) (Nat.le_of_ble_eq_true rfl)
  rw [lg_entry_eq]
  generalize (lg_sl ([.ref a0]) ++ List.replicate (1 - (lg_sl ([.ref a0])).length) Slot.unset).toArray = ls at hl ⊢
  have hl : lv_has ls 1 [(0, .ref a0)] := hl
  refine lv_aload_n hx hb dX12_undo_0 rfl (lv_at hl 0 rfl) ?_
  refine va_get (D := (dC, dI)) (ci := 11) (v := .int 0) (C := RX12) (T := TX12) (N := 31) hx hb (ly_X12 hE) (fun _ h9 => h9) hown hK hP 0 rfl rfl 2 (by decide) (wd_1383 hE) (fun _ h9 => h9) rfl dX12_undo_1 ?_
  refine lv_if_ne (tgt := 13) hx hb dX12_undo_4 (by decide) (fun c1 => absurd c1 (by decide)) (fun c1 => ?_)
  refine lv_aload_n hx hb dX12_undo_7 rfl (lv_at hl 0 rfl) ?_
  refine lv_iconst (v := 5) hx hb dX12_undo_8 (by decide) ?_
  refine cl_i (wc := [(a0, .inr (11, [.ref a1, .int 0, .int 0, .int 0, .ref a2, .int 0, .ref a3, .ref a4, .ref a5, .ref a6, .int 0, .int 0, .int 0, .int 0, .int 0, .int 0, .int 0, .int (-1), .int (-1), .int (-1), .int 0, .int 0, .int 0, .ref a7, .ref a8, .ref a9, .ref a10, .ref a11, .ref a12, .ref a13, .int 0]))]) (wr := []) [0] [] rfl rfl (by decide) (by decide) hK hP hD hS hA (va_runV (As := [.int 5]) (rest := []) ⟨hx, hb, hml, hown, noTs⟩ (c_X12_refuse_3 l dC dI s.heap.size a0 a1 a2 a3 a4 a5 a6 a7 a8 a9 a10 a11 a12 a13) ⟨cbE 1 (wd_1498 hE) (wd_126 hE) (wd_1495 hE) rfl rfl (by decide +kernel) ⟨Nat.le_of_ble_eq_true rfl, Nat.le_of_ble_eq_true rfl⟩, (wd_1497 hE), (wd_54 hE)⟩ ⟨PcE.blind, va_recv hK hP (ci := 11) (q0 := 0) rfl rfl, (pre_E (av := [.ref a0, .int 5]) (wc := [(a0, .inr (11, [.ref a1, .int 0, .int 0, .int 0, .ref a2, .int 0, .ref a3, .ref a4, .ref a5, .ref a6, .int 0, .int 0, .int 0, .int 0, .int 0, .int 0, .int 0, .int (-1), .int (-1), .int (-1), .int 0, .int 0, .int 0, .ref a7, .ref a8, .ref a9, .ref a10, .ref a11, .ref a12, .ref a13, .int 0]))]) (tysc := []) [0] [] rfl (by decide) rfl rfl hK hP hD hE)⟩ rfl rfl hl.1 rfl (lv_room (Nat.le_of_ble_eq_true rfl)) dX12_undo_9 ⟨Nat.le_of_ble_eq_true rfl, Nat.le_of_ble_eq_true rfl⟩) (fun r2 u2 H locs hw2 hK hP hD hS => ?_)
  have hK : va_K (dC, dI) vwCl [] s := hK
  have hP : va_P (dC, dI) vwCl [(a0, .inr (11, [.ref a1, .int 5, .int 0, .int 0, .ref a2, .int 0, .ref a3, .ref a4, .ref a5, .ref a6, .int 0, .int 0, .int 0, .int 0, .int 0, .int 0, .int 0, .int (-1), .int (-1), .int (-1), .int 0, .int 0, .int 0, .ref a7, .ref a8, .ref a9, .ref a10, .ref a11, .ref a12, .ref a13, .int 0]))] H := hP
  have hD : va_D A [(a0, .inr (11, [.ref a1, .int 5, .int 0, .int 0, .ref a2, .int 0, .ref a3, .ref a4, .ref a5, .ref a6, .int 0, .int 0, .int 0, .int 0, .int 0, .int 0, .int 0, .int (-1), .int (-1), .int (-1), .int 0, .int 0, .int 0, .ref a7, .ref a8, .ref a9, .ref a10, .ref a11, .ref a12, .ref a13, .int 0]))] := hD
  subst hw2
  refine W.eq (g2 := F0 m 12 ls [.int (-1)]) rfl ?_
  have hP9 := hP.sub (ws' := []) [] rfl
  have hD9 := hD.sub (ws' := []) [] (by decide) rfl
  have hK9 := hK.sub (tys' := []) [] rfl
  refine W.widen (k := 0) (n := 0) (Nat.le_of_ble_eq_true rfl) (Nat.le_of_ble_eq_true rfl) ?_
  exact W.iret (v := -1) hx hb hr (fun t ht hW => ⟨⟨-1, (), rfl, rfl, by rw [ht]; exact hP9, va_K.moved hW.alike hK9, hD9⟩, hS.F ht⟩) hS.2.2 dX12_undo_12

set_option maxHeartbeats 4000000 in
set_option maxRecDepth 100000 in
theorem c_X12_copies_3 (l : Launch) (dC : Nat → ClassId) (dI : Nat → Nat → Nat) (sz : Nat)  (a0 a1 a2 a3 a4 a5 a6 a7 a8 a9 a10 a11 a12 a13 : Nat) (k0 : ClassId)  : Met l yX12_copies [.code yX12_copies cX12_copies 4 none] ({ frames := 0, cells := 0, slots := 0, locals := 0 }) (PcE [.ref a0, .int 0, .int 5540] sz dC dI [(k0, .int)] [(a0, .inr (11, [.ref a1, .int 0, .int 0, .int 0, .ref a2, .int 0, .ref a3, .ref a4, .ref a5, .ref a6, .int 0, .int 0, .int 0, .int 0, .int 0, .int 0, .int 0, .int (-1), .int (-1), .int (-1), .int 0, .int 0, .int 0, .ref a7, .ref a8, .ref a9, .ref a10, .ref a11, .ref a12, .ref a13, .int 0])), (a1, .inl (k0, 7202, .inl (fun _ => 0)))]) (va_Qv (fun (u : Unit) => True) (Bw dC dI (va_A [(a0, .inr (11, [.ref a1, .int 0, .int 0, .int 0, .ref a2, .int 0, .ref a3, .ref a4, .ref a5, .ref a6, .int 0, .int 0, .int 0, .int 0, .int 0, .int 0, .int 0, .int (-1), .int (-1), .int (-1), .int 0, .int 0, .int 0, .ref a7, .ref a8, .ref a9, .ref a10, .ref a11, .ref a12, .ref a13, .int 0])), (a1, .inl (k0, 7202, .inl (fun _ => 0)))] sz) (fun (u : Unit) => []) (fun (u : Unit) => [(a0, .inr (11, [.ref a1, .int 0, .int 0, .int 0, .ref a2, .int 0, .ref a3, .ref a4, .ref a5, .ref a6, .int 0, .int 0, .int 0, .int 0, .int 0, .int 0, .int 0, .int (-1), .int (-1), .int (-1), .int 0, .int 0, .int 0, .ref a7, .ref a8, .ref a9, .ref a10, .ref a11, .ref a12, .ref a13, .int 0])), (a1, .inl (k0, 7202, .inl (fun _ => 0)))])) (va_A [(a0, .inr (11, [.ref a1, .int 0, .int 0, .int 0, .ref a2, .int 0, .ref a3, .ref a4, .ref a5, .ref a6, .int 0, .int 0, .int 0, .int 0, .int 0, .int 0, .int 0, .int (-1), .int (-1), .int (-1), .int 0, .int 0, .int 0, .ref a7, .ref a8, .ref a9, .ref a10, .ref a11, .ref a12, .ref a13, .int 0])), (a1, .inl (k0, 7202, .inl (fun _ => 0)))] sz)) 0 0 (va_A [(a0, .inr (11, [.ref a1, .int 0, .int 0, .int 0, .ref a2, .int 0, .ref a3, .ref a4, .ref a5, .ref a6, .int 0, .int 0, .int 0, .int 0, .int 0, .int 0, .int 0, .int (-1), .int (-1), .int (-1), .int 0, .int 0, .int 0, .ref a7, .ref a8, .ref a9, .ref a10, .ref a11, .ref a12, .ref a13, .int 0])), (a1, .inl (k0, 7202, .inl (fun _ => 0)))] sz) := by
  refine Met.ofW (cc := cX12_copies) (maxL := 4) (ret := none) (by decide) rfl ?_
  intro p e s m args below meth c s₁ B hml hv
  obtain ⟨rfl, hsz, hP, hK, hD0, hE⟩ := hv
  have hx := B.exec
  have hb := B.bytes
  have hr := B.returns
  have hown : s.vm.findClass RX12 = some m.cls := findClass_of_methodNamed B.named
  have hlocks := B.notSynchronized
  subst hsz
  have hD := hD0.self (sz := s.heap.size)
  generalize hAe : va_A [(a0, .inr (11, [.ref a1, .int 0, .int 0, .int 0, .ref a2, .int 0, .ref a3, .ref a4, .ref a5, .ref a6, .int 0, .int 0, .int 0, .int 0, .int 0, .int 0, .int 0, .int (-1), .int (-1), .int (-1), .int 0, .int 0, .int 0, .ref a7, .ref a8, .ref a9, .ref a10, .ref a11, .ref a12, .ref a13, .int 0])), (a1, .inl (k0, 7202, .inl (fun _ => 0)))] s.heap.size = A at hD ⊢
  have hA : ∀ q : Nat, s.heap.size ≤ q → A q := fun q h => by rw [← hAe]; exact Or.inr h
  have hS : va_S A s.heap s.heap [] := va_S.rf
  have hl := lv_entry ([.ref a0, .int 0, .int 5540]) (n := 4) (Nat.le_of_ble_eq_true rfl)
  rw [lg_entry_eq]
  generalize (lg_sl ([.ref a0, .int 0, .int 5540]) ++ List.replicate (4 - (lg_sl ([.ref a0, .int 0, .int 5540])).length) Slot.unset).toArray = ls at hl ⊢
  have hl : lv_has ls 4 [(0, .ref a0), (1, .int 0), (2, .int 5540)] := hl
  refine lv_iconst (v := 0) hx hb dX12_copies_0 (by decide) ?_
  refine lv_istore_n (lv' := [(3, .int 0), (0, .ref a0), (1, .int 0), (2, .int 5540)]) hx hb dX12_copies_1 rfl hl (by decide) rfl (fun ls hl => ?_)
  refine w_loop (pc := 2) (N := 554) (I := fun k H locs ls => va_P (dC, dI) vwCl [(a0, .inr (11, [.ref a1, .int 0, .int 0, .int 0, .ref a2, .int 0, .ref a3, .ref a4, .ref a5, .ref a6, .int 0, .int 0, .int 0, .int 0, .int 0, .int 0, .int 0, .int (-1), .int (-1), .int (-1), .int 0, .int 0, .int 0, .ref a7, .ref a8, .ref a9, .ref a10, .ref a11, .ref a12, .ref a13, .int 0])), (a1, .inl (k0, 7202, .inl (fun _ => 0)))] H ∧ va_D A [(a0, .inr (11, [.ref a1, .int 0, .int 0, .int 0, .ref a2, .int 0, .ref a3, .ref a4, .ref a5, .ref a6, .int 0, .int 0, .int 0, .int 0, .int 0, .int 0, .int 0, .int (-1), .int (-1), .int (-1), .int 0, .int 0, .int 0, .ref a7, .ref a8, .ref a9, .ref a10, .ref a11, .ref a12, .ref a13, .int 0])), (a1, .inl (k0, 7202, .inl (fun _ => 0)))] ∧ va_S A s.heap H locs ∧ lv_has ls 4 [(0, .ref a0), (1, .int 0), (2, .int 5540), (3, .int (nI k))]) (fun k H locs ls hk hI ih => ?_) 0 _ _ _ (Nat.zero_le _) ⟨hP, hD, hS, lv_sub hl [1, 2, 3, 0] rfl⟩
  obtain ⟨hP, hD, hS, hl⟩ := hI
  refine lv_iload_n hx hb dX12_copies_2 rfl (lv_at hl 3 rfl) ?_
  refine lv_sipush (v := 554) hx hb dX12_copies_3 (by decide) ?_
  rcases Nat.lt_or_ge k 554 with hlt | hge
  · refine lv_icmp_ge (tgt := 31) hx hb dX12_copies_6 (by decide) (fun c1 => absurd c1 (nI_ge (b := 554) hlt (by decide))) (fun _ => ?_)
    refine lv_aload_n hx hb dX12_copies_9 rfl (lv_at hl 0 rfl) ?_
    refine va_get (D := (dC, dI)) (ci := 11) (v := .ref a1) (C := RX12) (T := TX12) (N := 31) hx hb (ly_X12 hE) (fun _ h9 => h9) hown hK hP 0 rfl rfl 0 (by decide) (wd_1381 hE) (fun _ h9 => h9) rfl dX12_copies_10 ?_
    refine lv_iload_n hx hb dX12_copies_13 rfl (lv_at hl 2 rfl) ?_
    refine lv_iload_n hx hb dX12_copies_14 rfl (lv_at hl 3 rfl) ?_
    refine lv_iadd hx hb dX12_copies_15 ?_
    refine W.eq (g2 := F0 m 16 ls [.int (nI (5540 + k)), .ref a1]) (congrArg (fun z : Int32 => F0 m 16 ls (.int z :: [.ref a1])) (nI_add 5540 k)) ?_
    refine lv_aload_n hx hb dX12_copies_16 rfl (lv_at hl 0 rfl) ?_
    refine va_get (D := (dC, dI)) (ci := 11) (v := .ref a1) (C := RX12) (T := TX12) (N := 31) hx hb (ly_X12 hE) (fun _ h9 => h9) hown hK hP 0 rfl rfl 0 (by decide) (wd_1381 hE) (fun _ h9 => h9) rfl dX12_copies_17 ?_
    refine lv_iload_n hx hb dX12_copies_20 rfl (lv_at hl 1 rfl) ?_
    refine lv_iload_n hx hb dX12_copies_21 rfl (lv_at hl 3 rfl) ?_
    refine lv_iadd hx hb dX12_copies_22 ?_
    refine W.eq (g2 := F0 m 23 ls [.int (nI (0 + k)), .ref a1, .int (nI (5540 + k)), .ref a1]) (congrArg (fun z : Int32 => F0 m 23 ls (.int z :: [.ref a1, .int (nI (5540 + k)), .ref a1])) (nI_add 0 k)) ?_
    refine va_iald hx hb hK hP 1 0 rfl rfl (vp_in_nI (by omega) (by omega)) dX12_copies_23 ?_
    refine W.eq (g2 := F0 m 24 ls [.int 0, .int (nI (5540 + k)), .ref a1]) rfl ?_
    refine va_iast hx hb hK hP hD hS 1 0 rfl rfl (vp_in_nI (by omega) (by omega)) dX12_copies_24 (fun H locs hP hD hS => ?_)
    rw [nI_clamp (show 5540 + k < 2 ^ 31 by omega)] at hP hD
    rw [zz_upd] at hP hD
    have hP : va_P (dC, dI) vwCl [(a0, .inr (11, [.ref a1, .int 0, .int 0, .int 0, .ref a2, .int 0, .ref a3, .ref a4, .ref a5, .ref a6, .int 0, .int 0, .int 0, .int 0, .int 0, .int 0, .int 0, .int (-1), .int (-1), .int (-1), .int 0, .int 0, .int 0, .ref a7, .ref a8, .ref a9, .ref a10, .ref a11, .ref a12, .ref a13, .int 0])), (a1, .inl (k0, 7202, .inl (fun _ => 0)))] H := hP
    have hD : va_D A [(a0, .inr (11, [.ref a1, .int 0, .int 0, .int 0, .ref a2, .int 0, .ref a3, .ref a4, .ref a5, .ref a6, .int 0, .int 0, .int 0, .int 0, .int 0, .int 0, .int 0, .int (-1), .int (-1), .int (-1), .int 0, .int 0, .int 0, .ref a7, .ref a8, .ref a9, .ref a10, .ref a11, .ref a12, .ref a13, .int 0])), (a1, .inl (k0, 7202, .inl (fun _ => 0)))] := hD
    refine lv_iinc (v := nI (k + 1)) (lv' := [(3, .int (nI (k + 1))), (0, .ref a0), (1, .int 0), (2, .int 5540)]) hx hb dX12_copies_25 hl (k := 3) rfl (nI_1 k) (by decide) rfl (fun ls hl => ?_)
    refine lv_goto (tgt := 2) hx hb dX12_copies_28 (by decide) ?_
    exact ih hlt _ _ _ ⟨hP, hD, hS, lv_sub hl [1, 2, 3, 0] rfl⟩
  · refine lv_icmp_ge (tgt := 31) hx hb dX12_copies_6 (by decide) (fun _ => ?_) (fun c1 => absurd (nI_le hge (by omega)) c1)
    have hP9 := hP.sub (ws' := [(a0, .inr (11, [.ref a1, .int 0, .int 0, .int 0, .ref a2, .int 0, .ref a3, .ref a4, .ref a5, .ref a6, .int 0, .int 0, .int 0, .int 0, .int 0, .int 0, .int 0, .int (-1), .int (-1), .int (-1), .int 0, .int 0, .int 0, .ref a7, .ref a8, .ref a9, .ref a10, .ref a11, .ref a12, .ref a13, .int 0])), (a1, .inl (k0, 7202, .inl (fun _ => 0)))]) [0, 1] rfl
    have hD9 := hD.sub (ws' := [(a0, .inr (11, [.ref a1, .int 0, .int 0, .int 0, .ref a2, .int 0, .ref a3, .ref a4, .ref a5, .ref a6, .int 0, .int 0, .int 0, .int 0, .int 0, .int 0, .int 0, .int (-1), .int (-1), .int (-1), .int 0, .int 0, .int 0, .ref a7, .ref a8, .ref a9, .ref a10, .ref a11, .ref a12, .ref a13, .int 0])), (a1, .inl (k0, 7202, .inl (fun _ => 0)))]) [0, 1] (by decide) rfl
    have hK9 := hK.sub (tys' := []) [] rfl
    refine W.widen (k := 0) (n := 0) (Nat.le_of_ble_eq_true rfl) (Nat.le_of_ble_eq_true rfl) ?_
    exact W.vret hx hb hr (fun t ht hW => ⟨⟨(), rfl, trivial, by rw [ht]; exact hP9, va_K.moved hW.alike hK9, hD9⟩, hS.F ht⟩) hS.2.2 dX12_copies_31

set_option maxHeartbeats 4000000 in
set_option maxRecDepth 100000 in
theorem c_X12_gives_3 (l : Launch) (dC : Nat → ClassId) (dI : Nat → Nat → Nat) (sz : Nat)  (a0 a1 a2 a3 a4 a5 a6 a7 a8 a9 a10 a11 a12 a13 : Nat)  : Met l yX12_gives [.code yX12_gives cX12_gives 2 (some .int)] ({ frames := 0, cells := 0, slots := 0, locals := 0 }) (PcE [.ref a0, .int 1] sz dC dI [] [(a0, .inr (11, [.ref a1, .int 0, .int 0, .int 1, .ref a2, .int 0, .ref a3, .ref a4, .ref a5, .ref a6, .int 0, .int 0, .int 0, .int 0, .int 0, .int 0, .int 0, .int (-1), .int (-1), .int (-1), .int 0, .int 0, .int 0, .ref a7, .ref a8, .ref a9, .ref a10, .ref a11, .ref a12, .ref a13, .int 0]))]) (va_Qi (fun (r : Int32) (u : Unit) => r = 1) (Bw dC dI (va_A [(a0, .inr (11, [.ref a1, .int 0, .int 0, .int 1, .ref a2, .int 0, .ref a3, .ref a4, .ref a5, .ref a6, .int 0, .int 0, .int 0, .int 0, .int 0, .int 0, .int 0, .int (-1), .int (-1), .int (-1), .int 0, .int 0, .int 0, .ref a7, .ref a8, .ref a9, .ref a10, .ref a11, .ref a12, .ref a13, .int 0]))] sz) (fun (u : Unit) => []) (fun (u : Unit) => [(a0, .inr (11, [.ref a1, .int 0, .int 0, .int 1, .ref a2, .int 0, .ref a3, .ref a4, .ref a5, .ref a6, .int 0, .int 0, .int 0, .int 0, .int 0, .int 0, .int 0, .int (-1), .int (-1), .int (-1), .int 0, .int 0, .int 0, .ref a7, .ref a8, .ref a9, .ref a10, .ref a11, .ref a12, .ref a13, .int 0]))])) (va_A [(a0, .inr (11, [.ref a1, .int 0, .int 0, .int 1, .ref a2, .int 0, .ref a3, .ref a4, .ref a5, .ref a6, .int 0, .int 0, .int 0, .int 0, .int 0, .int 0, .int 0, .int (-1), .int (-1), .int (-1), .int 0, .int 0, .int 0, .ref a7, .ref a8, .ref a9, .ref a10, .ref a11, .ref a12, .ref a13, .int 0]))] sz)) 0 0 (va_A [(a0, .inr (11, [.ref a1, .int 0, .int 0, .int 1, .ref a2, .int 0, .ref a3, .ref a4, .ref a5, .ref a6, .int 0, .int 0, .int 0, .int 0, .int 0, .int 0, .int 0, .int (-1), .int (-1), .int (-1), .int 0, .int 0, .int 0, .ref a7, .ref a8, .ref a9, .ref a10, .ref a11, .ref a12, .ref a13, .int 0]))] sz) := by
  refine Met.ofW (cc := cX12_gives) (maxL := 2) (ret := (some .int)) (by decide) rfl ?_
  intro p e s m args below meth c s₁ B hml hv
  obtain ⟨rfl, hsz, hP, hK, hD0, hE⟩ := hv
  have hx := B.exec
  have hb := B.bytes
  have hr := B.returns
  have hown : s.vm.findClass RX12 = some m.cls := findClass_of_methodNamed B.named
  have hlocks := B.notSynchronized
  subst hsz
  have hD := hD0.self (sz := s.heap.size)
  generalize hAe : va_A [(a0, .inr (11, [.ref a1, .int 0, .int 0, .int 1, .ref a2, .int 0, .ref a3, .ref a4, .ref a5, .ref a6, .int 0, .int 0, .int 0, .int 0, .int 0, .int 0, .int 0, .int (-1), .int (-1), .int (-1), .int 0, .int 0, .int 0, .ref a7, .ref a8, .ref a9, .ref a10, .ref a11, .ref a12, .ref a13, .int 0]))] s.heap.size = A at hD ⊢
  have hA : ∀ q : Nat, s.heap.size ≤ q → A q := fun q h => by rw [← hAe]; exact Or.inr h
  have hS : va_S A s.heap s.heap [] := va_S.rf
  have hl := lv_entry ([.ref a0, .int 1]) (n := 2) (Nat.le_of_ble_eq_true rfl)
  rw [lg_entry_eq]
  generalize (lg_sl ([.ref a0, .int 1]) ++ List.replicate (2 - (lg_sl ([.ref a0, .int 1])).length) Slot.unset).toArray = ls at hl ⊢
  have hl : lv_has ls 2 [(0, .ref a0), (1, .int 1)] := hl
  refine lv_aload_n hx hb dX12_gives_0 rfl (lv_at hl 0 rfl) ?_
  refine lv_iconst (v := 0) hx hb dX12_gives_1 (by decide) ?_
  refine va_put (D := (dC, dI)) (ci := 11) (v := .int 0) (ty := .int) (C := RX12) (T := TX12) (N := 31) hx hb (ly_X12 hE) (fun _ h9 => h9) tyX12 tyX12_ok nmX12 hown hK hP hD hS 0 rfl rfl 1 (by decide) (wd_1382 hE) (fun _ h9 => h9) rfl (by decide +kernel) rfl rfl (Nat.le_of_ble_eq_true rfl) dX12_gives_2 (fun H locs hP hD hS => ?_)
  have hP : va_P (dC, dI) vwCl [(a0, .inr (11, [.ref a1, .int 0, .int 0, .int 1, .ref a2, .int 0, .ref a3, .ref a4, .ref a5, .ref a6, .int 0, .int 0, .int 0, .int 0, .int 0, .int 0, .int 0, .int (-1), .int (-1), .int (-1), .int 0, .int 0, .int 0, .ref a7, .ref a8, .ref a9, .ref a10, .ref a11, .ref a12, .ref a13, .int 0]))] H := hP
  have hD : va_D A [(a0, .inr (11, [.ref a1, .int 0, .int 0, .int 1, .ref a2, .int 0, .ref a3, .ref a4, .ref a5, .ref a6, .int 0, .int 0, .int 0, .int 0, .int 0, .int 0, .int 0, .int (-1), .int (-1), .int (-1), .int 0, .int 0, .int 0, .ref a7, .ref a8, .ref a9, .ref a10, .ref a11, .ref a12, .ref a13, .int 0]))] := hD
  refine lv_iload_n hx hb dX12_gives_5 rfl (lv_at hl 1 rfl) ?_
  have hP9 := hP.sub (ws' := [(a0, .inr (11, [.ref a1, .int 0, .int 0, .int 1, .ref a2, .int 0, .ref a3, .ref a4, .ref a5, .ref a6, .int 0, .int 0, .int 0, .int 0, .int 0, .int 0, .int 0, .int (-1), .int (-1), .int (-1), .int 0, .int 0, .int 0, .ref a7, .ref a8, .ref a9, .ref a10, .ref a11, .ref a12, .ref a13, .int 0]))]) [0] rfl
  have hD9 := hD.sub (ws' := [(a0, .inr (11, [.ref a1, .int 0, .int 0, .int 1, .ref a2, .int 0, .ref a3, .ref a4, .ref a5, .ref a6, .int 0, .int 0, .int 0, .int 0, .int 0, .int 0, .int 0, .int (-1), .int (-1), .int (-1), .int 0, .int 0, .int 0, .ref a7, .ref a8, .ref a9, .ref a10, .ref a11, .ref a12, .ref a13, .int 0]))]) [0] (by decide) rfl
  have hK9 := hK.sub (tys' := []) [] rfl
  refine W.widen (k := 0) (n := 0) (Nat.le_of_ble_eq_true rfl) (Nat.le_of_ble_eq_true rfl) ?_
  exact W.iret (v := 1) hx hb hr (fun t ht hW => ⟨⟨1, (), rfl, rfl, by rw [ht]; exact hP9, va_K.moved hW.alike hK9, hD9⟩, hS.F ht⟩) hS.2.2 dX12_gives_6

set_option maxHeartbeats 4000000 in
set_option maxRecDepth 100000 in
theorem c_X12_mark (l : Launch) (dC : Nat → ClassId) (dI : Nat → Nat → Nat) (sz : Nat)  (a0 a1 a2 a3 a4 a5 a6 a7 a8 a9 a10 a11 a12 a13 : Nat) (k0 : ClassId)  : Met l yX12_mark [.code yX12_mark cX12_mark 1 (some .int)] ({ frames := 1, cells := 0, slots := 0, locals := 40 }) (PcE [.ref a0] sz dC dI [(k0, .int)] [(a0, .inr (11, [.ref a1, .int 0, .int 0, .int 0, .ref a2, .int 0, .ref a3, .ref a4, .ref a5, .ref a6, .int 0, .int 0, .int 0, .int 0, .int 0, .int 0, .int 0, .int (-1), .int (-1), .int (-1), .int 0, .int 0, .int 0, .ref a7, .ref a8, .ref a9, .ref a10, .ref a11, .ref a12, .ref a13, .int 0])), (a1, .inl (k0, 7202, .inl (fun _ => 0)))]) (va_Qi (fun (r : Int32) (u : Unit) => r = 1) (Bw dC dI (va_A [(a0, .inr (11, [.ref a1, .int 0, .int 0, .int 0, .ref a2, .int 0, .ref a3, .ref a4, .ref a5, .ref a6, .int 0, .int 0, .int 0, .int 0, .int 0, .int 0, .int 0, .int (-1), .int (-1), .int (-1), .int 0, .int 0, .int 0, .ref a7, .ref a8, .ref a9, .ref a10, .ref a11, .ref a12, .ref a13, .int 0])), (a1, .inl (k0, 7202, .inl (fun _ => 0)))] sz) (fun (u : Unit) => []) (fun (u : Unit) => [])) (va_A [(a0, .inr (11, [.ref a1, .int 0, .int 0, .int 0, .ref a2, .int 0, .ref a3, .ref a4, .ref a5, .ref a6, .int 0, .int 0, .int 0, .int 0, .int 0, .int 0, .int 0, .int (-1), .int (-1), .int (-1), .int 0, .int 0, .int 0, .ref a7, .ref a8, .ref a9, .ref a10, .ref a11, .ref a12, .ref a13, .int 0])), (a1, .inl (k0, 7202, .inl (fun _ => 0)))] sz)) 0 0 (va_A [(a0, .inr (11, [.ref a1, .int 0, .int 0, .int 0, .ref a2, .int 0, .ref a3, .ref a4, .ref a5, .ref a6, .int 0, .int 0, .int 0, .int 0, .int 0, .int 0, .int 0, .int (-1), .int (-1), .int (-1), .int 0, .int 0, .int 0, .ref a7, .ref a8, .ref a9, .ref a10, .ref a11, .ref a12, .ref a13, .int 0])), (a1, .inl (k0, 7202, .inl (fun _ => 0)))] sz) := by
  refine Met.ofW (cc := cX12_mark) (maxL := 1) (ret := (some .int)) (by decide) rfl ?_
  intro p e s m args below meth c s₁ B hml hv
  obtain ⟨rfl, hsz, hP, hK, hD0, hE⟩ := hv
  have hx := B.exec
  have hb := B.bytes
  have hr := B.returns
  have hown : s.vm.findClass RX12 = some m.cls := findClass_of_methodNamed B.named
  have hlocks := B.notSynchronized
  subst hsz
  have hD := hD0.self (sz := s.heap.size)
  generalize hAe : va_A [(a0, .inr (11, [.ref a1, .int 0, .int 0, .int 0, .ref a2, .int 0, .ref a3, .ref a4, .ref a5, .ref a6, .int 0, .int 0, .int 0, .int 0, .int 0, .int 0, .int 0, .int (-1), .int (-1), .int (-1), .int 0, .int 0, .int 0, .ref a7, .ref a8, .ref a9, .ref a10, .ref a11, .ref a12, .ref a13, .int 0])), (a1, .inl (k0, 7202, .inl (fun _ => 0)))] s.heap.size = A at hD ⊢
  have hA : ∀ q : Nat, s.heap.size ≤ q → A q := fun q h => by rw [← hAe]; exact Or.inr h
  have hS : va_S A s.heap s.heap [] := va_S.rf
  have hl := lv_entry ([.ref a0]) (n := 1) (Nat.le_of_ble_eq_true rfl)
  rw [lg_entry_eq]
  generalize (lg_sl ([.ref a0]) ++ List.replicate (1 - (lg_sl ([.ref a0])).length) Slot.unset).toArray = ls at hl ⊢
  have hl : lv_has ls 1 [(0, .ref a0)] := hl
  refine lv_aload_n hx hb dX12_mark_0 rfl (lv_at hl 0 rfl) ?_
  refine va_get (D := (dC, dI)) (ci := 11) (v := .int 0) (C := RX12) (T := TX12) (N := 31) hx hb (ly_X12 hE) (fun _ h9 => h9) hown hK hP 0 rfl rfl 3 (by decide) (wd_1384 hE) (fun _ h9 => h9) rfl dX12_mark_1 ?_
  refine lv_iconst (v := 3) hx hb dX12_mark_4 (by decide) ?_
  refine lv_icmp_ne (tgt := 14) hx hb dX12_mark_5 (by decide) (fun c1 => ?_) (fun c1 => absurd c1 (by decide))
  refine lv_aload_n hx hb dX12_mark_14 rfl (lv_at hl 0 rfl) ?_
  refine lv_iconst (v := 0) hx hb dX12_mark_15 (by decide) ?_
  refine lv_sipush (v := 5540) hx hb dX12_mark_16 (by decide) ?_
  refine lv_sipush (v := 554) hx hb dX12_mark_19 (by decide) ?_
  refine lv_aload_n hx hb dX12_mark_22 rfl (lv_at hl 0 rfl) ?_
  refine va_get (D := (dC, dI)) (ci := 11) (v := .int 0) (C := RX12) (T := TX12) (N := 31) hx hb (ly_X12 hE) (fun _ h9 => h9) hown hK hP 0 rfl rfl 3 (by decide) (wd_1384 hE) (fun _ h9 => h9) rfl dX12_mark_23 ?_
  refine lv_imul hx hb dX12_mark_26 ?_
  refine W.eq (g2 := F0 m 27 ls [.int 0, .int 5540, .int 0, .ref a0]) rfl ?_
  refine lv_iadd hx hb dX12_mark_27 ?_
  refine W.eq (g2 := F0 m 28 ls [.int 5540, .int 0, .ref a0]) rfl ?_
  refine cl_v (wc := [(a0, .inr (11, [.ref a1, .int 0, .int 0, .int 0, .ref a2, .int 0, .ref a3, .ref a4, .ref a5, .ref a6, .int 0, .int 0, .int 0, .int 0, .int 0, .int 0, .int 0, .int (-1), .int (-1), .int (-1), .int 0, .int 0, .int 0, .ref a7, .ref a8, .ref a9, .ref a10, .ref a11, .ref a12, .ref a13, .int 0])), (a1, .inl (k0, 7202, .inl (fun _ => 0)))]) (wr := []) [0, 1] [] rfl rfl (by decide) (by decide) hK hP hD hS hA (va_runV (As := [.int 0, .int 5540]) (rest := []) ⟨hx, hb, hml, hown, noTs⟩ (c_X12_copies_3 l dC dI s.heap.size a0 a1 a2 a3 a4 a5 a6 a7 a8 a9 a10 a11 a12 a13 k0) ⟨cbE 2 (wd_1502 hE) (wd_126 hE) (wd_1499 hE) rfl rfl (by decide +kernel) ⟨Nat.le_of_ble_eq_true rfl, Nat.le_of_ble_eq_true rfl⟩, (wd_1501 hE), (wd_55 hE)⟩ ⟨PcE.blind, va_recv hK hP (ci := 11) (q0 := 0) rfl rfl, (pre_E (av := [.ref a0, .int 0, .int 5540]) (wc := [(a0, .inr (11, [.ref a1, .int 0, .int 0, .int 0, .ref a2, .int 0, .ref a3, .ref a4, .ref a5, .ref a6, .int 0, .int 0, .int 0, .int 0, .int 0, .int 0, .int 0, .int (-1), .int (-1), .int (-1), .int 0, .int 0, .int 0, .ref a7, .ref a8, .ref a9, .ref a10, .ref a11, .ref a12, .ref a13, .int 0])), (a1, .inl (k0, 7202, .inl (fun _ => 0)))]) (tysc := [(k0, .int)]) [0, 1] [0] rfl (by decide) rfl rfl hK hP hD hE)⟩ rfl rfl hl.1 rfl (lv_room (Nat.le_of_ble_eq_true rfl)) dX12_mark_28 ⟨Nat.le_of_ble_eq_true rfl, Nat.le_of_ble_eq_true rfl⟩) (fun u2 H locs hw2 hK hP hD hS => ?_)
  have hK : va_K (dC, dI) vwCl [(k0, .int)] s := hK
  have hP : va_P (dC, dI) vwCl [(a0, .inr (11, [.ref a1, .int 0, .int 0, .int 0, .ref a2, .int 0, .ref a3, .ref a4, .ref a5, .ref a6, .int 0, .int 0, .int 0, .int 0, .int 0, .int 0, .int 0, .int (-1), .int (-1), .int (-1), .int 0, .int 0, .int 0, .ref a7, .ref a8, .ref a9, .ref a10, .ref a11, .ref a12, .ref a13, .int 0])), (a1, .inl (k0, 7202, .inl (fun _ => 0)))] H := hP
  have hD : va_D A [(a0, .inr (11, [.ref a1, .int 0, .int 0, .int 0, .ref a2, .int 0, .ref a3, .ref a4, .ref a5, .ref a6, .int 0, .int 0, .int 0, .int 0, .int 0, .int 0, .int 0, .int (-1), .int (-1), .int (-1), .int 0, .int 0, .int 0, .ref a7, .ref a8, .ref a9, .ref a10, .ref a11, .ref a12, .ref a13, .int 0])), (a1, .inl (k0, 7202, .inl (fun _ => 0)))] := hD
  refine lv_aload_n hx hb dX12_mark_31 rfl (lv_at hl 0 rfl) ?_
  refine lv_dup hx hb dX12_mark_32 rfl ?_
  refine va_get (D := (dC, dI)) (ci := 11) (v := .int 0) (C := RX12) (T := TX12) (N := 31) hx hb (ly_X12 hE) (fun _ h9 => h9) hown hK hP 0 rfl rfl 3 (by decide) (wd_1384 hE) (fun _ h9 => h9) rfl dX12_mark_33 ?_
  refine lv_iconst (v := 1) hx hb dX12_mark_36 (by decide) ?_
  refine lv_iadd hx hb dX12_mark_37 ?_
  refine W.eq (g2 := F0 m 38 ls [.int 1, .ref a0]) rfl ?_
  refine va_put (D := (dC, dI)) (ci := 11) (v := .int 1) (ty := .int) (C := RX12) (T := TX12) (N := 31) hx hb (ly_X12 hE) (fun _ h9 => h9) tyX12 tyX12_ok nmX12 hown hK hP hD hS 0 rfl rfl 3 (by decide) (wd_1384 hE) (fun _ h9 => h9) rfl (by decide +kernel) rfl rfl (Nat.le_of_ble_eq_true rfl) dX12_mark_38 (fun H locs hP hD hS => ?_)
  have hP : va_P (dC, dI) vwCl [(a0, .inr (11, [.ref a1, .int 0, .int 0, .int 1, .ref a2, .int 0, .ref a3, .ref a4, .ref a5, .ref a6, .int 0, .int 0, .int 0, .int 0, .int 0, .int 0, .int 0, .int (-1), .int (-1), .int (-1), .int 0, .int 0, .int 0, .ref a7, .ref a8, .ref a9, .ref a10, .ref a11, .ref a12, .ref a13, .int 0])), (a1, .inl (k0, 7202, .inl (fun _ => 0)))] H := hP
  have hD : va_D A [(a0, .inr (11, [.ref a1, .int 0, .int 0, .int 1, .ref a2, .int 0, .ref a3, .ref a4, .ref a5, .ref a6, .int 0, .int 0, .int 0, .int 0, .int 0, .int 0, .int 0, .int (-1), .int (-1), .int (-1), .int 0, .int 0, .int 0, .ref a7, .ref a8, .ref a9, .ref a10, .ref a11, .ref a12, .ref a13, .int 0])), (a1, .inl (k0, 7202, .inl (fun _ => 0)))] := hD
  refine lv_aload_n hx hb dX12_mark_41 rfl (lv_at hl 0 rfl) ?_
  refine lv_aload_n hx hb dX12_mark_42 rfl (lv_at hl 0 rfl) ?_
  refine va_get (D := (dC, dI)) (ci := 11) (v := .int 1) (C := RX12) (T := TX12) (N := 31) hx hb (ly_X12 hE) (fun _ h9 => h9) hown hK hP 0 rfl rfl 3 (by decide) (wd_1384 hE) (fun _ h9 => h9) rfl dX12_mark_43 ?_
  refine cl_i (wc := [(a0, .inr (11, [.ref a1, .int 0, .int 0, .int 1, .ref a2, .int 0, .ref a3, .ref a4, .ref a5, .ref a6, .int 0, .int 0, .int 0, .int 0, .int 0, .int 0, .int 0, .int (-1), .int (-1), .int (-1), .int 0, .int 0, .int 0, .ref a7, .ref a8, .ref a9, .ref a10, .ref a11, .ref a12, .ref a13, .int 0]))]) (wr := [(a1, .inl (k0, 7202, .inl (fun _ => 0)))]) [0] [1] rfl rfl (by decide) (by decide) hK hP hD hS hA (va_runV (As := [.int 1]) (rest := []) ⟨hx, hb, hml, hown, noTs⟩ (c_X12_gives_3 l dC dI H.size a0 a1 a2 a3 a4 a5 a6 a7 a8 a9 a10 a11 a12 a13) ⟨cbE 1 (wd_1621 hE) (wd_126 hE) (wd_1618 hE) rfl rfl (by decide +kernel) ⟨Nat.le_of_ble_eq_true rfl, Nat.le_of_ble_eq_true rfl⟩, (wd_1620 hE), (wd_80 hE)⟩ ⟨PcE.blind, va_recv hK hP (ci := 11) (q0 := 0) rfl rfl, (pre_E (av := [.ref a0, .int 1]) (wc := [(a0, .inr (11, [.ref a1, .int 0, .int 0, .int 1, .ref a2, .int 0, .ref a3, .ref a4, .ref a5, .ref a6, .int 0, .int 0, .int 0, .int 0, .int 0, .int 0, .int 0, .int (-1), .int (-1), .int (-1), .int 0, .int 0, .int 0, .ref a7, .ref a8, .ref a9, .ref a10, .ref a11, .ref a12, .ref a13, .int 0]))]) (tysc := []) [0] [] rfl (by decide) rfl rfl hK hP hD hE)⟩ rfl rfl hl.1 rfl (lv_room (Nat.le_of_ble_eq_true rfl)) dX12_mark_46 ⟨Nat.le_of_ble_eq_true rfl, Nat.le_of_ble_eq_true rfl⟩) (fun r3 u3 H locs hw3 hK hP hD hS => ?_)
  have hK : va_K (dC, dI) vwCl [(k0, .int)] s := hK
  have hP : va_P (dC, dI) vwCl [(a1, .inl (k0, 7202, .inl (fun _ => 0))), (a0, .inr (11, [.ref a1, .int 0, .int 0, .int 1, .ref a2, .int 0, .ref a3, .ref a4, .ref a5, .ref a6, .int 0, .int 0, .int 0, .int 0, .int 0, .int 0, .int 0, .int (-1), .int (-1), .int (-1), .int 0, .int 0, .int 0, .ref a7, .ref a8, .ref a9, .ref a10, .ref a11, .ref a12, .ref a13, .int 0]))] H := hP
  have hD : va_D A [(a1, .inl (k0, 7202, .inl (fun _ => 0))), (a0, .inr (11, [.ref a1, .int 0, .int 0, .int 1, .ref a2, .int 0, .ref a3, .ref a4, .ref a5, .ref a6, .int 0, .int 0, .int 0, .int 0, .int 0, .int 0, .int 0, .int (-1), .int (-1), .int (-1), .int 0, .int 0, .int 0, .ref a7, .ref a8, .ref a9, .ref a10, .ref a11, .ref a12, .ref a13, .int 0]))] := hD
  subst hw3
  refine W.eq (g2 := F0 m 49 ls [.int 1]) rfl ?_
  have hP9 := hP.sub (ws' := []) [] rfl
  have hD9 := hD.sub (ws' := []) [] (by decide) rfl
  have hK9 := hK.sub (tys' := []) [] rfl
  refine W.widen (k := 0) (n := 0) (Nat.le_of_ble_eq_true rfl) (Nat.le_of_ble_eq_true rfl) ?_
  exact W.iret (v := 1) hx hb hr (fun t ht hW => ⟨⟨1, (), rfl, rfl, by rw [ht]; exact hP9, va_K.moved hW.alike hK9, hD9⟩, hS.F ht⟩) hS.2.2 dX12_mark_49

set_option maxHeartbeats 4000000 in
set_option maxRecDepth 100000 in
theorem c_X12_back (l : Launch) (dC : Nat → ClassId) (dI : Nat → Nat → Nat) (sz : Nat)  (a0 a1 a2 a3 a4 a5 a6 a7 a8 a9 a10 a11 a12 a13 : Nat)  : Met l yX12_back [.code yX12_back cX12_back 1 (some .int)] ({ frames := 1, cells := 0, slots := 0, locals := 40 }) (PcE [.ref a0] sz dC dI [] [(a0, .inr (11, [.ref a1, .int 0, .int 0, .int 0, .ref a2, .int 0, .ref a3, .ref a4, .ref a5, .ref a6, .int 0, .int 0, .int 0, .int 0, .int 0, .int 0, .int 0, .int (-1), .int (-1), .int (-1), .int 0, .int 0, .int 0, .ref a7, .ref a8, .ref a9, .ref a10, .ref a11, .ref a12, .ref a13, .int 0]))]) (va_Qi (fun (r : Int32) (u : Unit) => r = -1) (Bw dC dI (va_A [(a0, .inr (11, [.ref a1, .int 0, .int 0, .int 0, .ref a2, .int 0, .ref a3, .ref a4, .ref a5, .ref a6, .int 0, .int 0, .int 0, .int 0, .int 0, .int 0, .int 0, .int (-1), .int (-1), .int (-1), .int 0, .int 0, .int 0, .ref a7, .ref a8, .ref a9, .ref a10, .ref a11, .ref a12, .ref a13, .int 0]))] sz) (fun (u : Unit) => []) (fun (u : Unit) => [])) (va_A [(a0, .inr (11, [.ref a1, .int 0, .int 0, .int 0, .ref a2, .int 0, .ref a3, .ref a4, .ref a5, .ref a6, .int 0, .int 0, .int 0, .int 0, .int 0, .int 0, .int 0, .int (-1), .int (-1), .int (-1), .int 0, .int 0, .int 0, .ref a7, .ref a8, .ref a9, .ref a10, .ref a11, .ref a12, .ref a13, .int 0]))] sz)) 0 0 (va_A [(a0, .inr (11, [.ref a1, .int 0, .int 0, .int 0, .ref a2, .int 0, .ref a3, .ref a4, .ref a5, .ref a6, .int 0, .int 0, .int 0, .int 0, .int 0, .int 0, .int 0, .int (-1), .int (-1), .int (-1), .int 0, .int 0, .int 0, .ref a7, .ref a8, .ref a9, .ref a10, .ref a11, .ref a12, .ref a13, .int 0]))] sz) := by
  refine Met.ofW (cc := cX12_back) (maxL := 1) (ret := (some .int)) (by decide) rfl ?_
  intro p e s m args below meth c s₁ B hml hv
  obtain ⟨rfl, hsz, hP, hK, hD0, hE⟩ := hv
  have hx := B.exec
  have hb := B.bytes
  have hr := B.returns
  have hown : s.vm.findClass RX12 = some m.cls := findClass_of_methodNamed B.named
  have hlocks := B.notSynchronized
  subst hsz
  have hD := hD0.self (sz := s.heap.size)
  generalize hAe : va_A [(a0, .inr (11, [.ref a1, .int 0, .int 0, .int 0, .ref a2, .int 0, .ref a3, .ref a4, .ref a5, .ref a6, .int 0, .int 0, .int 0, .int 0, .int 0, .int 0, .int 0, .int (-1), .int (-1), .int (-1), .int 0, .int 0, .int 0, .ref a7, .ref a8, .ref a9, .ref a10, .ref a11, .ref a12, .ref a13, .int 0]))] s.heap.size = A at hD ⊢
  have hA : ∀ q : Nat, s.heap.size ≤ q → A q := fun q h => by rw [← hAe]; exact Or.inr h
  have hS : va_S A s.heap s.heap [] := va_S.rf
  have hl := lv_entry ([.ref a0]) (n := 1) (Nat.le_of_ble_eq_true rfl)
  rw [lg_entry_eq]
  generalize (lg_sl ([.ref a0]) ++ List.replicate (1 - (lg_sl ([.ref a0])).length) Slot.unset).toArray = ls at hl ⊢
  have hl : lv_has ls 1 [(0, .ref a0)] := hl
  refine lv_aload_n hx hb dX12_back_0 rfl (lv_at hl 0 rfl) ?_
  refine va_get (D := (dC, dI)) (ci := 11) (v := .int 0) (C := RX12) (T := TX12) (N := 31) hx hb (ly_X12 hE) (fun _ h9 => h9) hown hK hP 0 rfl rfl 3 (by decide) (wd_1384 hE) (fun _ h9 => h9) rfl dX12_back_1 ?_
  refine lv_if_ne (tgt := 13) hx hb dX12_back_4 (by decide) (fun c1 => absurd c1 (by decide)) (fun c1 => ?_)
  refine lv_aload_n hx hb dX12_back_7 rfl (lv_at hl 0 rfl) ?_
  refine lv_iconst (v := 5) hx hb dX12_back_8 (by decide) ?_
  refine cl_i (wc := [(a0, .inr (11, [.ref a1, .int 0, .int 0, .int 0, .ref a2, .int 0, .ref a3, .ref a4, .ref a5, .ref a6, .int 0, .int 0, .int 0, .int 0, .int 0, .int 0, .int 0, .int (-1), .int (-1), .int (-1), .int 0, .int 0, .int 0, .ref a7, .ref a8, .ref a9, .ref a10, .ref a11, .ref a12, .ref a13, .int 0]))]) (wr := []) [0] [] rfl rfl (by decide) (by decide) hK hP hD hS hA (va_runV (As := [.int 5]) (rest := []) ⟨hx, hb, hml, hown, noTs⟩ (c_X12_refuse_3 l dC dI s.heap.size a0 a1 a2 a3 a4 a5 a6 a7 a8 a9 a10 a11 a12 a13) ⟨cbE 1 (wd_1498 hE) (wd_126 hE) (wd_1495 hE) rfl rfl (by decide +kernel) ⟨Nat.le_of_ble_eq_true rfl, Nat.le_of_ble_eq_true rfl⟩, (wd_1497 hE), (wd_54 hE)⟩ ⟨PcE.blind, va_recv hK hP (ci := 11) (q0 := 0) rfl rfl, (pre_E (av := [.ref a0, .int 5]) (wc := [(a0, .inr (11, [.ref a1, .int 0, .int 0, .int 0, .ref a2, .int 0, .ref a3, .ref a4, .ref a5, .ref a6, .int 0, .int 0, .int 0, .int 0, .int 0, .int 0, .int 0, .int (-1), .int (-1), .int (-1), .int 0, .int 0, .int 0, .ref a7, .ref a8, .ref a9, .ref a10, .ref a11, .ref a12, .ref a13, .int 0]))]) (tysc := []) [0] [] rfl (by decide) rfl rfl hK hP hD hE)⟩ rfl rfl hl.1 rfl (lv_room (Nat.le_of_ble_eq_true rfl)) dX12_back_9 ⟨Nat.le_of_ble_eq_true rfl, Nat.le_of_ble_eq_true rfl⟩) (fun r2 u2 H locs hw2 hK hP hD hS => ?_)
  have hK : va_K (dC, dI) vwCl [] s := hK
  have hP : va_P (dC, dI) vwCl [(a0, .inr (11, [.ref a1, .int 5, .int 0, .int 0, .ref a2, .int 0, .ref a3, .ref a4, .ref a5, .ref a6, .int 0, .int 0, .int 0, .int 0, .int 0, .int 0, .int 0, .int (-1), .int (-1), .int (-1), .int 0, .int 0, .int 0, .ref a7, .ref a8, .ref a9, .ref a10, .ref a11, .ref a12, .ref a13, .int 0]))] H := hP
  have hD : va_D A [(a0, .inr (11, [.ref a1, .int 5, .int 0, .int 0, .ref a2, .int 0, .ref a3, .ref a4, .ref a5, .ref a6, .int 0, .int 0, .int 0, .int 0, .int 0, .int 0, .int 0, .int (-1), .int (-1), .int (-1), .int 0, .int 0, .int 0, .ref a7, .ref a8, .ref a9, .ref a10, .ref a11, .ref a12, .ref a13, .int 0]))] := hD
  subst hw2
  refine W.eq (g2 := F0 m 12 ls [.int (-1)]) rfl ?_
  have hP9 := hP.sub (ws' := []) [] rfl
  have hD9 := hD.sub (ws' := []) [] (by decide) rfl
  have hK9 := hK.sub (tys' := []) [] rfl
  refine W.widen (k := 0) (n := 0) (Nat.le_of_ble_eq_true rfl) (Nat.le_of_ble_eq_true rfl) ?_
  exact W.iret (v := -1) hx hb hr (fun t ht hW => ⟨⟨-1, (), rfl, rfl, by rw [ht]; exact hP9, va_K.moved hW.alike hK9, hD9⟩, hS.F ht⟩) hS.2.2 dX12_back_12

set_option maxHeartbeats 4000000 in
set_option maxRecDepth 100000 in
theorem c_X12_alike (l : Launch) (dC : Nat → ClassId) (dI : Nat → Nat → Nat) (sz : Nat)  (a0 a1 a2 a3 a4 a5 a6 a7 a8 a9 a10 a11 a12 a13 : Nat) (k0 : ClassId) (v0 : Int32) (v1 : Int32)  : Met l yX12_alike [.code yX12_alike cX12_alike 3 (some .int)] ({ frames := 2, cells := 0, slots := 0, locals := 80 }) (PcE [.ref a0, .int v0, .int v1] sz dC dI [(k0, .int)] [(a0, .inr (11, [.ref a1, .int 0, .int 0, .int 0, .ref a2, .int 0, .ref a3, .ref a4, .ref a5, .ref a6, .int 0, .int 0, .int 0, .int 0, .int 0, .int 0, .int 0, .int (-1), .int (-1), .int (-1), .int 0, .int 0, .int 0, .ref a7, .ref a8, .ref a9, .ref a10, .ref a11, .ref a12, .ref a13, .int 0])), (a1, .inl (k0, 7202, .inl (fun _ => 0)))]) (va_Qi (fun (r : Int32) (u : Unit) => r = -1) (Bw dC dI (va_A [(a0, .inr (11, [.ref a1, .int 0, .int 0, .int 0, .ref a2, .int 0, .ref a3, .ref a4, .ref a5, .ref a6, .int 0, .int 0, .int 0, .int 0, .int 0, .int 0, .int 0, .int (-1), .int (-1), .int (-1), .int 0, .int 0, .int 0, .ref a7, .ref a8, .ref a9, .ref a10, .ref a11, .ref a12, .ref a13, .int 0])), (a1, .inl (k0, 7202, .inl (fun _ => 0)))] sz) (fun (u : Unit) => []) (fun (u : Unit) => [])) (va_A [(a0, .inr (11, [.ref a1, .int 0, .int 0, .int 0, .ref a2, .int 0, .ref a3, .ref a4, .ref a5, .ref a6, .int 0, .int 0, .int 0, .int 0, .int 0, .int 0, .int 0, .int (-1), .int (-1), .int (-1), .int 0, .int 0, .int 0, .ref a7, .ref a8, .ref a9, .ref a10, .ref a11, .ref a12, .ref a13, .int 0])), (a1, .inl (k0, 7202, .inl (fun _ => 0)))] sz)) 0 0 (va_A [(a0, .inr (11, [.ref a1, .int 0, .int 0, .int 0, .ref a2, .int 0, .ref a3, .ref a4, .ref a5, .ref a6, .int 0, .int 0, .int 0, .int 0, .int 0, .int 0, .int 0, .int (-1), .int (-1), .int (-1), .int 0, .int 0, .int 0, .ref a7, .ref a8, .ref a9, .ref a10, .ref a11, .ref a12, .ref a13, .int 0])), (a1, .inl (k0, 7202, .inl (fun _ => 0)))] sz) := by
  refine Met.ofW (cc := cX12_alike) (maxL := 3) (ret := (some .int)) (by decide) rfl ?_
  intro p e s m args below meth c s₁ B hml hv
  obtain ⟨rfl, hsz, hP, hK, hD0, hE⟩ := hv
  have hx := B.exec
  have hb := B.bytes
  have hr := B.returns
  have hown : s.vm.findClass RX12 = some m.cls := findClass_of_methodNamed B.named
  have hlocks := B.notSynchronized
  subst hsz
  have hD := hD0.self (sz := s.heap.size)
  generalize hAe : va_A [(a0, .inr (11, [.ref a1, .int 0, .int 0, .int 0, .ref a2, .int 0, .ref a3, .ref a4, .ref a5, .ref a6, .int 0, .int 0, .int 0, .int 0, .int 0, .int 0, .int 0, .int (-1), .int (-1), .int (-1), .int 0, .int 0, .int 0, .ref a7, .ref a8, .ref a9, .ref a10, .ref a11, .ref a12, .ref a13, .int 0])), (a1, .inl (k0, 7202, .inl (fun _ => 0)))] s.heap.size = A at hD ⊢
  have hA : ∀ q : Nat, s.heap.size ≤ q → A q := fun q h => by rw [← hAe]; exact Or.inr h
  have hS : va_S A s.heap s.heap [] := va_S.rf
  have hl := lv_entry ([.ref a0, .int v0, .int v1]) (n := 3) (Nat.le_of_ble_eq_true rfl)
  rw [lg_entry_eq]
  generalize (lg_sl ([.ref a0, .int v0, .int v1]) ++ List.replicate (3 - (lg_sl ([.ref a0, .int v0, .int v1])).length) Slot.unset).toArray = ls at hl ⊢
  have hl : lv_has ls 3 [(0, .ref a0), (1, .int v0), (2, .int v1)] := hl
  refine lv_aload_n hx hb dX12_alike_0 rfl (lv_at hl 0 rfl) ?_
  refine lv_iload_n hx hb dX12_alike_1 rfl (lv_at hl 1 rfl) ?_
  refine cl_i (wc := [(a0, .inr (11, [.ref a1, .int 0, .int 0, .int 0, .ref a2, .int 0, .ref a3, .ref a4, .ref a5, .ref a6, .int 0, .int 0, .int 0, .int 0, .int 0, .int 0, .int 0, .int (-1), .int (-1), .int (-1), .int 0, .int 0, .int 0, .ref a7, .ref a8, .ref a9, .ref a10, .ref a11, .ref a12, .ref a13, .int 0])), (a1, .inl (k0, 7202, .inl (fun _ => 0)))]) (wr := []) [0, 1] [] rfl rfl (by decide) (by decide) hK hP hD hS hA (va_runV (As := [.int v0]) (rest := []) ⟨hx, hb, hml, hown, noTs⟩ (c_X12_isWord l dC dI s.heap.size a0 a1 a2 a3 a4 a5 a6 a7 a8 a9 a10 a11 a12 a13 k0 v0) ⟨cbE 1 (wd_1653 hE) (wd_126 hE) (wd_1650 hE) rfl rfl (by decide +kernel) ⟨Nat.le_of_ble_eq_true rfl, Nat.le_of_ble_eq_true rfl⟩, (wd_1652 hE), (wd_83 hE)⟩ ⟨PcE.blind, va_recv hK hP (ci := 11) (q0 := 0) rfl rfl, (pre_E (av := [.ref a0, .int v0]) (wc := [(a0, .inr (11, [.ref a1, .int 0, .int 0, .int 0, .ref a2, .int 0, .ref a3, .ref a4, .ref a5, .ref a6, .int 0, .int 0, .int 0, .int 0, .int 0, .int 0, .int 0, .int (-1), .int (-1), .int (-1), .int 0, .int 0, .int 0, .ref a7, .ref a8, .ref a9, .ref a10, .ref a11, .ref a12, .ref a13, .int 0])), (a1, .inl (k0, 7202, .inl (fun _ => 0)))]) (tysc := [(k0, .int)]) [0, 1] [0] rfl (by decide) rfl rfl hK hP hD hE)⟩ rfl rfl hl.1 rfl (lv_room (Nat.le_of_ble_eq_true rfl)) dX12_alike_2 ⟨Nat.le_of_ble_eq_true rfl, Nat.le_of_ble_eq_true rfl⟩) (fun r1 u1 H locs hw1 hK hP hD hS => ?_)
  have hK : va_K (dC, dI) vwCl [(k0, .int)] s := hK
  have hP : va_P (dC, dI) vwCl [(a0, .inr (11, [.ref a1, .int 0, .int 0, .int 0, .ref a2, .int 0, .ref a3, .ref a4, .ref a5, .ref a6, .int 0, .int 0, .int 0, .int 0, .int 0, .int 0, .int 0, .int (-1), .int (-1), .int (-1), .int 0, .int 0, .int 0, .ref a7, .ref a8, .ref a9, .ref a10, .ref a11, .ref a12, .ref a13, .int 0])), (a1, .inl (k0, 7202, .inl (fun _ => 0)))] H := hP
  have hD : va_D A [(a0, .inr (11, [.ref a1, .int 0, .int 0, .int 0, .ref a2, .int 0, .ref a3, .ref a4, .ref a5, .ref a6, .int 0, .int 0, .int 0, .int 0, .int 0, .int 0, .int 0, .int (-1), .int (-1), .int (-1), .int 0, .int 0, .int 0, .ref a7, .ref a8, .ref a9, .ref a10, .ref a11, .ref a12, .ref a13, .int 0])), (a1, .inl (k0, 7202, .inl (fun _ => 0)))] := hD
  subst hw1
  refine W.eq (g2 := F0 m 5 ls [.int 0]) rfl ?_
  refine lv_if_eq (tgt := 37) hx hb dX12_alike_5 (by decide) (fun c2 => ?_) (fun c2 => absurd c2 (by decide))
  refine lv_aload_n hx hb dX12_alike_37 rfl (lv_at hl 0 rfl) ?_
  refine lv_iconst (v := 2) hx hb dX12_alike_38 (by decide) ?_
  refine cl_i (wc := [(a0, .inr (11, [.ref a1, .int 0, .int 0, .int 0, .ref a2, .int 0, .ref a3, .ref a4, .ref a5, .ref a6, .int 0, .int 0, .int 0, .int 0, .int 0, .int 0, .int 0, .int (-1), .int (-1), .int (-1), .int 0, .int 0, .int 0, .ref a7, .ref a8, .ref a9, .ref a10, .ref a11, .ref a12, .ref a13, .int 0]))]) (wr := [(a1, .inl (k0, 7202, .inl (fun _ => 0)))]) [0] [1] rfl rfl (by decide) (by decide) hK hP hD hS hA (va_runV (As := [.int 2]) (rest := []) ⟨hx, hb, hml, hown, noTs⟩ (c_X12_refuse_2 l dC dI H.size a0 a1 a2 a3 a4 a5 a6 a7 a8 a9 a10 a11 a12 a13) ⟨cbE 1 (wd_1498 hE) (wd_126 hE) (wd_1495 hE) rfl rfl (by decide +kernel) ⟨Nat.le_of_ble_eq_true rfl, Nat.le_of_ble_eq_true rfl⟩, (wd_1497 hE), (wd_54 hE)⟩ ⟨PcE.blind, va_recv hK hP (ci := 11) (q0 := 0) rfl rfl, (pre_E (av := [.ref a0, .int 2]) (wc := [(a0, .inr (11, [.ref a1, .int 0, .int 0, .int 0, .ref a2, .int 0, .ref a3, .ref a4, .ref a5, .ref a6, .int 0, .int 0, .int 0, .int 0, .int 0, .int 0, .int 0, .int (-1), .int (-1), .int (-1), .int 0, .int 0, .int 0, .ref a7, .ref a8, .ref a9, .ref a10, .ref a11, .ref a12, .ref a13, .int 0]))]) (tysc := []) [0] [] rfl (by decide) rfl rfl hK hP hD hE)⟩ rfl rfl hl.1 rfl (lv_room (Nat.le_of_ble_eq_true rfl)) dX12_alike_39 ⟨Nat.le_of_ble_eq_true rfl, Nat.le_of_ble_eq_true rfl⟩) (fun r3 u3 H locs hw3 hK hP hD hS => ?_)
  have hK : va_K (dC, dI) vwCl [(k0, .int)] s := hK
  have hP : va_P (dC, dI) vwCl [(a1, .inl (k0, 7202, .inl (fun _ => 0))), (a0, .inr (11, [.ref a1, .int 2, .int 0, .int 0, .ref a2, .int 0, .ref a3, .ref a4, .ref a5, .ref a6, .int 0, .int 0, .int 0, .int 0, .int 0, .int 0, .int 0, .int (-1), .int (-1), .int (-1), .int 0, .int 0, .int 0, .ref a7, .ref a8, .ref a9, .ref a10, .ref a11, .ref a12, .ref a13, .int 0]))] H := hP
  have hD : va_D A [(a1, .inl (k0, 7202, .inl (fun _ => 0))), (a0, .inr (11, [.ref a1, .int 2, .int 0, .int 0, .ref a2, .int 0, .ref a3, .ref a4, .ref a5, .ref a6, .int 0, .int 0, .int 0, .int 0, .int 0, .int 0, .int 0, .int (-1), .int (-1), .int (-1), .int 0, .int 0, .int 0, .ref a7, .ref a8, .ref a9, .ref a10, .ref a11, .ref a12, .ref a13, .int 0]))] := hD
  subst hw3
  refine W.eq (g2 := F0 m 42 ls [.int (-1)]) rfl ?_
  have hP9 := hP.sub (ws' := []) [] rfl
  have hD9 := hD.sub (ws' := []) [] (by decide) rfl
  have hK9 := hK.sub (tys' := []) [] rfl
  refine W.widen (k := 0) (n := 0) (Nat.le_of_ble_eq_true rfl) (Nat.le_of_ble_eq_true rfl) ?_
  exact W.iret (v := -1) hx hb hr (fun t ht hW => ⟨⟨-1, (), rfl, rfl, by rw [ht]; exact hP9, va_K.moved hW.alike hK9, hD9⟩, hS.F ht⟩) hS.2.2 dX12_alike_42

set_option maxHeartbeats 4000000 in
set_option maxRecDepth 100000 in
theorem c_X12_steps (l : Launch) (dC : Nat → ClassId) (dI : Nat → Nat → Nat) (sz : Nat)  (a0 a1 a2 a3 a4 a5 a6 a7 a8 a9 a10 a11 a12 a13 : Nat) (k0 : ClassId) (v0 : Int32)  : Met l yX12_steps [.code yX12_steps cX12_steps 2 (some .int)] ({ frames := 2, cells := 0, slots := 0, locals := 80 }) (PcE [.ref a0, .int v0] sz dC dI [(k0, .int)] [(a0, .inr (11, [.ref a1, .int 0, .int 0, .int 0, .ref a2, .int 0, .ref a3, .ref a4, .ref a5, .ref a6, .int 0, .int 0, .int 0, .int 0, .int 0, .int 0, .int 0, .int (-1), .int (-1), .int (-1), .int 0, .int 0, .int 0, .ref a7, .ref a8, .ref a9, .ref a10, .ref a11, .ref a12, .ref a13, .int 0])), (a1, .inl (k0, 7202, .inl (fun _ => 0)))]) (va_Qi (fun (r : Int32) (u : Unit) => r = -1) (Bw dC dI (va_A [(a0, .inr (11, [.ref a1, .int 0, .int 0, .int 0, .ref a2, .int 0, .ref a3, .ref a4, .ref a5, .ref a6, .int 0, .int 0, .int 0, .int 0, .int 0, .int 0, .int 0, .int (-1), .int (-1), .int (-1), .int 0, .int 0, .int 0, .ref a7, .ref a8, .ref a9, .ref a10, .ref a11, .ref a12, .ref a13, .int 0])), (a1, .inl (k0, 7202, .inl (fun _ => 0)))] sz) (fun (u : Unit) => []) (fun (u : Unit) => [])) (va_A [(a0, .inr (11, [.ref a1, .int 0, .int 0, .int 0, .ref a2, .int 0, .ref a3, .ref a4, .ref a5, .ref a6, .int 0, .int 0, .int 0, .int 0, .int 0, .int 0, .int 0, .int (-1), .int (-1), .int (-1), .int 0, .int 0, .int 0, .ref a7, .ref a8, .ref a9, .ref a10, .ref a11, .ref a12, .ref a13, .int 0])), (a1, .inl (k0, 7202, .inl (fun _ => 0)))] sz)) 0 0 (va_A [(a0, .inr (11, [.ref a1, .int 0, .int 0, .int 0, .ref a2, .int 0, .ref a3, .ref a4, .ref a5, .ref a6, .int 0, .int 0, .int 0, .int 0, .int 0, .int 0, .int 0, .int (-1), .int (-1), .int (-1), .int 0, .int 0, .int 0, .ref a7, .ref a8, .ref a9, .ref a10, .ref a11, .ref a12, .ref a13, .int 0])), (a1, .inl (k0, 7202, .inl (fun _ => 0)))] sz) := by
  refine Met.ofW (cc := cX12_steps) (maxL := 2) (ret := (some .int)) (by decide) rfl ?_
  intro p e s m args below meth c s₁ B hml hv
  obtain ⟨rfl, hsz, hP, hK, hD0, hE⟩ := hv
  have hx := B.exec
  have hb := B.bytes
  have hr := B.returns
  have hown : s.vm.findClass RX12 = some m.cls := findClass_of_methodNamed B.named
  have hlocks := B.notSynchronized
  subst hsz
  have hD := hD0.self (sz := s.heap.size)
  generalize hAe : va_A [(a0, .inr (11, [.ref a1, .int 0, .int 0, .int 0, .ref a2, .int 0, .ref a3, .ref a4, .ref a5, .ref a6, .int 0, .int 0, .int 0, .int 0, .int 0, .int 0, .int 0, .int (-1), .int (-1), .int (-1), .int 0, .int 0, .int 0, .ref a7, .ref a8, .ref a9, .ref a10, .ref a11, .ref a12, .ref a13, .int 0])), (a1, .inl (k0, 7202, .inl (fun _ => 0)))] s.heap.size = A at hD ⊢
  have hA : ∀ q : Nat, s.heap.size ≤ q → A q := fun q h => by rw [← hAe]; exact Or.inr h
  have hS : va_S A s.heap s.heap [] := va_S.rf
  have hl := lv_entry ([.ref a0, .int v0]) (n := 2) (Nat.le_of_ble_eq_true rfl)
  rw [lg_entry_eq]
  generalize (lg_sl ([.ref a0, .int v0]) ++ List.replicate (2 - (lg_sl ([.ref a0, .int v0])).length) Slot.unset).toArray = ls at hl ⊢
  have hl : lv_has ls 2 [(0, .ref a0), (1, .int v0)] := hl
  refine lv_aload_n hx hb dX12_steps_0 rfl (lv_at hl 0 rfl) ?_
  refine lv_iload_n hx hb dX12_steps_1 rfl (lv_at hl 1 rfl) ?_
  refine cl_i (wc := [(a0, .inr (11, [.ref a1, .int 0, .int 0, .int 0, .ref a2, .int 0, .ref a3, .ref a4, .ref a5, .ref a6, .int 0, .int 0, .int 0, .int 0, .int 0, .int 0, .int 0, .int (-1), .int (-1), .int (-1), .int 0, .int 0, .int 0, .ref a7, .ref a8, .ref a9, .ref a10, .ref a11, .ref a12, .ref a13, .int 0])), (a1, .inl (k0, 7202, .inl (fun _ => 0)))]) (wr := []) [0, 1] [] rfl rfl (by decide) (by decide) hK hP hD hS hA (va_runV (As := [.int v0]) (rest := []) ⟨hx, hb, hml, hown, noTs⟩ (c_X12_isWord l dC dI s.heap.size a0 a1 a2 a3 a4 a5 a6 a7 a8 a9 a10 a11 a12 a13 k0 v0) ⟨cbE 1 (wd_1653 hE) (wd_126 hE) (wd_1650 hE) rfl rfl (by decide +kernel) ⟨Nat.le_of_ble_eq_true rfl, Nat.le_of_ble_eq_true rfl⟩, (wd_1652 hE), (wd_83 hE)⟩ ⟨PcE.blind, va_recv hK hP (ci := 11) (q0 := 0) rfl rfl, (pre_E (av := [.ref a0, .int v0]) (wc := [(a0, .inr (11, [.ref a1, .int 0, .int 0, .int 0, .ref a2, .int 0, .ref a3, .ref a4, .ref a5, .ref a6, .int 0, .int 0, .int 0, .int 0, .int 0, .int 0, .int 0, .int (-1), .int (-1), .int (-1), .int 0, .int 0, .int 0, .ref a7, .ref a8, .ref a9, .ref a10, .ref a11, .ref a12, .ref a13, .int 0])), (a1, .inl (k0, 7202, .inl (fun _ => 0)))]) (tysc := [(k0, .int)]) [0, 1] [0] rfl (by decide) rfl rfl hK hP hD hE)⟩ rfl rfl hl.1 rfl (lv_room (Nat.le_of_ble_eq_true rfl)) dX12_steps_2 ⟨Nat.le_of_ble_eq_true rfl, Nat.le_of_ble_eq_true rfl⟩) (fun r1 u1 H locs hw1 hK hP hD hS => ?_)
  have hK : va_K (dC, dI) vwCl [(k0, .int)] s := hK
  have hP : va_P (dC, dI) vwCl [(a0, .inr (11, [.ref a1, .int 0, .int 0, .int 0, .ref a2, .int 0, .ref a3, .ref a4, .ref a5, .ref a6, .int 0, .int 0, .int 0, .int 0, .int 0, .int 0, .int 0, .int (-1), .int (-1), .int (-1), .int 0, .int 0, .int 0, .ref a7, .ref a8, .ref a9, .ref a10, .ref a11, .ref a12, .ref a13, .int 0])), (a1, .inl (k0, 7202, .inl (fun _ => 0)))] H := hP
  have hD : va_D A [(a0, .inr (11, [.ref a1, .int 0, .int 0, .int 0, .ref a2, .int 0, .ref a3, .ref a4, .ref a5, .ref a6, .int 0, .int 0, .int 0, .int 0, .int 0, .int 0, .int 0, .int (-1), .int (-1), .int (-1), .int 0, .int 0, .int 0, .ref a7, .ref a8, .ref a9, .ref a10, .ref a11, .ref a12, .ref a13, .int 0])), (a1, .inl (k0, 7202, .inl (fun _ => 0)))] := hD
  subst hw1
  refine W.eq (g2 := F0 m 5 ls [.int 0]) rfl ?_
  refine lv_if_ne (tgt := 14) hx hb dX12_steps_5 (by decide) (fun c2 => absurd c2 (by decide)) (fun c2 => ?_)
  refine lv_aload_n hx hb dX12_steps_8 rfl (lv_at hl 0 rfl) ?_
  refine lv_iconst (v := 2) hx hb dX12_steps_9 (by decide) ?_
  refine cl_i (wc := [(a0, .inr (11, [.ref a1, .int 0, .int 0, .int 0, .ref a2, .int 0, .ref a3, .ref a4, .ref a5, .ref a6, .int 0, .int 0, .int 0, .int 0, .int 0, .int 0, .int 0, .int (-1), .int (-1), .int (-1), .int 0, .int 0, .int 0, .ref a7, .ref a8, .ref a9, .ref a10, .ref a11, .ref a12, .ref a13, .int 0]))]) (wr := [(a1, .inl (k0, 7202, .inl (fun _ => 0)))]) [0] [1] rfl rfl (by decide) (by decide) hK hP hD hS hA (va_runV (As := [.int 2]) (rest := []) ⟨hx, hb, hml, hown, noTs⟩ (c_X12_refuse_2 l dC dI H.size a0 a1 a2 a3 a4 a5 a6 a7 a8 a9 a10 a11 a12 a13) ⟨cbE 1 (wd_1498 hE) (wd_126 hE) (wd_1495 hE) rfl rfl (by decide +kernel) ⟨Nat.le_of_ble_eq_true rfl, Nat.le_of_ble_eq_true rfl⟩, (wd_1497 hE), (wd_54 hE)⟩ ⟨PcE.blind, va_recv hK hP (ci := 11) (q0 := 0) rfl rfl, (pre_E (av := [.ref a0, .int 2]) (wc := [(a0, .inr (11, [.ref a1, .int 0, .int 0, .int 0, .ref a2, .int 0, .ref a3, .ref a4, .ref a5, .ref a6, .int 0, .int 0, .int 0, .int 0, .int 0, .int 0, .int 0, .int (-1), .int (-1), .int (-1), .int 0, .int 0, .int 0, .ref a7, .ref a8, .ref a9, .ref a10, .ref a11, .ref a12, .ref a13, .int 0]))]) (tysc := []) [0] [] rfl (by decide) rfl rfl hK hP hD hE)⟩ rfl rfl hl.1 rfl (lv_room (Nat.le_of_ble_eq_true rfl)) dX12_steps_10 ⟨Nat.le_of_ble_eq_true rfl, Nat.le_of_ble_eq_true rfl⟩) (fun r3 u3 H locs hw3 hK hP hD hS => ?_)
  have hK : va_K (dC, dI) vwCl [(k0, .int)] s := hK
  have hP : va_P (dC, dI) vwCl [(a1, .inl (k0, 7202, .inl (fun _ => 0))), (a0, .inr (11, [.ref a1, .int 2, .int 0, .int 0, .ref a2, .int 0, .ref a3, .ref a4, .ref a5, .ref a6, .int 0, .int 0, .int 0, .int 0, .int 0, .int 0, .int 0, .int (-1), .int (-1), .int (-1), .int 0, .int 0, .int 0, .ref a7, .ref a8, .ref a9, .ref a10, .ref a11, .ref a12, .ref a13, .int 0]))] H := hP
  have hD : va_D A [(a1, .inl (k0, 7202, .inl (fun _ => 0))), (a0, .inr (11, [.ref a1, .int 2, .int 0, .int 0, .ref a2, .int 0, .ref a3, .ref a4, .ref a5, .ref a6, .int 0, .int 0, .int 0, .int 0, .int 0, .int 0, .int 0, .int (-1), .int (-1), .int (-1), .int 0, .int 0, .int 0, .ref a7, .ref a8, .ref a9, .ref a10, .ref a11, .ref a12, .ref a13, .int 0]))] := hD
  subst hw3
  refine W.eq (g2 := F0 m 13 ls [.int (-1)]) rfl ?_
  have hP9 := hP.sub (ws' := []) [] rfl
  have hD9 := hD.sub (ws' := []) [] (by decide) rfl
  have hK9 := hK.sub (tys' := []) [] rfl
  refine W.widen (k := 0) (n := 0) (Nat.le_of_ble_eq_true rfl) (Nat.le_of_ble_eq_true rfl) ?_
  exact W.iret (v := -1) hx hb hr (fun t ht hW => ⟨⟨-1, (), rfl, rfl, by rw [ht]; exact hP9, va_K.moved hW.alike hK9, hD9⟩, hS.F ht⟩) hS.2.2 dX12_steps_13

set_option maxHeartbeats 4000000 in
set_option maxRecDepth 100000 in
theorem c_X12_wrongLoop (l : Launch) (dC : Nat → ClassId) (dI : Nat → Nat → Nat) (sz : Nat)  (a0 a1 a2 a3 a4 a5 a6 a7 a8 a9 a10 a11 a12 a13 : Nat) (k0 : ClassId) (v0 : Int32)  : Met l yX12_wrongLoop [.code yX12_wrongLoop cX12_wrongLoop 2 (some .int)] ({ frames := 2, cells := 0, slots := 0, locals := 80 }) (PcE [.ref a0, .int v0] sz dC dI [(k0, .int)] [(a0, .inr (11, [.ref a1, .int 0, .int 0, .int 0, .ref a2, .int 0, .ref a3, .ref a4, .ref a5, .ref a6, .int 0, .int 0, .int 0, .int 0, .int 0, .int 0, .int 0, .int (-1), .int (-1), .int (-1), .int 0, .int 0, .int 0, .ref a7, .ref a8, .ref a9, .ref a10, .ref a11, .ref a12, .ref a13, .int 0])), (a1, .inl (k0, 7202, .inl (fun _ => 0)))]) (va_Qi (fun (r : Int32) (u : Unit) => r = 2) (Bw dC dI (va_A [(a0, .inr (11, [.ref a1, .int 0, .int 0, .int 0, .ref a2, .int 0, .ref a3, .ref a4, .ref a5, .ref a6, .int 0, .int 0, .int 0, .int 0, .int 0, .int 0, .int 0, .int (-1), .int (-1), .int (-1), .int 0, .int 0, .int 0, .ref a7, .ref a8, .ref a9, .ref a10, .ref a11, .ref a12, .ref a13, .int 0])), (a1, .inl (k0, 7202, .inl (fun _ => 0)))] sz) (fun (u : Unit) => []) (fun (u : Unit) => [(a0, .inr (11, [.ref a1, .int 0, .int 0, .int 0, .ref a2, .int 0, .ref a3, .ref a4, .ref a5, .ref a6, .int 0, .int 0, .int 0, .int 0, .int 0, .int 0, .int 0, .int (-1), .int (-1), .int (-1), .int 0, .int 0, .int 0, .ref a7, .ref a8, .ref a9, .ref a10, .ref a11, .ref a12, .ref a13, .int 0])), (a1, .inl (k0, 7202, .inl (fun _ => 0)))])) (va_A [(a0, .inr (11, [.ref a1, .int 0, .int 0, .int 0, .ref a2, .int 0, .ref a3, .ref a4, .ref a5, .ref a6, .int 0, .int 0, .int 0, .int 0, .int 0, .int 0, .int 0, .int (-1), .int (-1), .int (-1), .int 0, .int 0, .int 0, .ref a7, .ref a8, .ref a9, .ref a10, .ref a11, .ref a12, .ref a13, .int 0])), (a1, .inl (k0, 7202, .inl (fun _ => 0)))] sz)) 0 0 (va_A [(a0, .inr (11, [.ref a1, .int 0, .int 0, .int 0, .ref a2, .int 0, .ref a3, .ref a4, .ref a5, .ref a6, .int 0, .int 0, .int 0, .int 0, .int 0, .int 0, .int 0, .int (-1), .int (-1), .int (-1), .int 0, .int 0, .int 0, .ref a7, .ref a8, .ref a9, .ref a10, .ref a11, .ref a12, .ref a13, .int 0])), (a1, .inl (k0, 7202, .inl (fun _ => 0)))] sz) := by
  refine Met.ofW (cc := cX12_wrongLoop) (maxL := 2) (ret := (some .int)) (by decide) rfl ?_
  intro p e s m args below meth c s₁ B hml hv
  obtain ⟨rfl, hsz, hP, hK, hD0, hE⟩ := hv
  have hx := B.exec
  have hb := B.bytes
  have hr := B.returns
  have hown : s.vm.findClass RX12 = some m.cls := findClass_of_methodNamed B.named
  have hlocks := B.notSynchronized
  subst hsz
  have hD := hD0.self (sz := s.heap.size)
  generalize hAe : va_A [(a0, .inr (11, [.ref a1, .int 0, .int 0, .int 0, .ref a2, .int 0, .ref a3, .ref a4, .ref a5, .ref a6, .int 0, .int 0, .int 0, .int 0, .int 0, .int 0, .int 0, .int (-1), .int (-1), .int (-1), .int 0, .int 0, .int 0, .ref a7, .ref a8, .ref a9, .ref a10, .ref a11, .ref a12, .ref a13, .int 0])), (a1, .inl (k0, 7202, .inl (fun _ => 0)))] s.heap.size = A at hD ⊢
  have hA : ∀ q : Nat, s.heap.size ≤ q → A q := fun q h => by rw [← hAe]; exact Or.inr h
  have hS : va_S A s.heap s.heap [] := va_S.rf
  have hl := lv_entry ([.ref a0, .int v0]) (n := 2) (Nat.le_of_ble_eq_true rfl)
  rw [lg_entry_eq]
  generalize (lg_sl ([.ref a0, .int v0]) ++ List.replicate (2 - (lg_sl ([.ref a0, .int v0])).length) Slot.unset).toArray = ls at hl ⊢
  have hl : lv_has ls 2 [(0, .ref a0), (1, .int v0)] := hl
  refine lv_aload_n hx hb dX12_wrongLoop_0 rfl (lv_at hl 0 rfl) ?_
  refine lv_iload_n hx hb dX12_wrongLoop_1 rfl (lv_at hl 1 rfl) ?_
  refine cl_i (wc := [(a0, .inr (11, [.ref a1, .int 0, .int 0, .int 0, .ref a2, .int 0, .ref a3, .ref a4, .ref a5, .ref a6, .int 0, .int 0, .int 0, .int 0, .int 0, .int 0, .int 0, .int (-1), .int (-1), .int (-1), .int 0, .int 0, .int 0, .ref a7, .ref a8, .ref a9, .ref a10, .ref a11, .ref a12, .ref a13, .int 0])), (a1, .inl (k0, 7202, .inl (fun _ => 0)))]) (wr := []) [0, 1] [] rfl rfl (by decide) (by decide) hK hP hD hS hA (va_runV (As := [.int v0]) (rest := []) ⟨hx, hb, hml, hown, noTs⟩ (c_X12_isWord l dC dI s.heap.size a0 a1 a2 a3 a4 a5 a6 a7 a8 a9 a10 a11 a12 a13 k0 v0) ⟨cbE 1 (wd_1653 hE) (wd_126 hE) (wd_1650 hE) rfl rfl (by decide +kernel) ⟨Nat.le_of_ble_eq_true rfl, Nat.le_of_ble_eq_true rfl⟩, (wd_1652 hE), (wd_83 hE)⟩ ⟨PcE.blind, va_recv hK hP (ci := 11) (q0 := 0) rfl rfl, (pre_E (av := [.ref a0, .int v0]) (wc := [(a0, .inr (11, [.ref a1, .int 0, .int 0, .int 0, .ref a2, .int 0, .ref a3, .ref a4, .ref a5, .ref a6, .int 0, .int 0, .int 0, .int 0, .int 0, .int 0, .int 0, .int (-1), .int (-1), .int (-1), .int 0, .int 0, .int 0, .ref a7, .ref a8, .ref a9, .ref a10, .ref a11, .ref a12, .ref a13, .int 0])), (a1, .inl (k0, 7202, .inl (fun _ => 0)))]) (tysc := [(k0, .int)]) [0, 1] [0] rfl (by decide) rfl rfl hK hP hD hE)⟩ rfl rfl hl.1 rfl (lv_room (Nat.le_of_ble_eq_true rfl)) dX12_wrongLoop_2 ⟨Nat.le_of_ble_eq_true rfl, Nat.le_of_ble_eq_true rfl⟩) (fun r1 u1 H locs hw1 hK hP hD hS => ?_)
  have hK : va_K (dC, dI) vwCl [(k0, .int)] s := hK
  have hP : va_P (dC, dI) vwCl [(a0, .inr (11, [.ref a1, .int 0, .int 0, .int 0, .ref a2, .int 0, .ref a3, .ref a4, .ref a5, .ref a6, .int 0, .int 0, .int 0, .int 0, .int 0, .int 0, .int 0, .int (-1), .int (-1), .int (-1), .int 0, .int 0, .int 0, .ref a7, .ref a8, .ref a9, .ref a10, .ref a11, .ref a12, .ref a13, .int 0])), (a1, .inl (k0, 7202, .inl (fun _ => 0)))] H := hP
  have hD : va_D A [(a0, .inr (11, [.ref a1, .int 0, .int 0, .int 0, .ref a2, .int 0, .ref a3, .ref a4, .ref a5, .ref a6, .int 0, .int 0, .int 0, .int 0, .int 0, .int 0, .int 0, .int (-1), .int (-1), .int (-1), .int 0, .int 0, .int 0, .ref a7, .ref a8, .ref a9, .ref a10, .ref a11, .ref a12, .ref a13, .int 0])), (a1, .inl (k0, 7202, .inl (fun _ => 0)))] := hD
  subst hw1
  refine W.eq (g2 := F0 m 5 ls [.int 0]) rfl ?_
  refine lv_if_ne (tgt := 12) hx hb dX12_wrongLoop_5 (by decide) (fun c2 => absurd c2 (by decide)) (fun c2 => ?_)
  refine lv_iconst (v := 2) hx hb dX12_wrongLoop_8 (by decide) ?_
  refine lv_goto (tgt := 25) hx hb dX12_wrongLoop_9 (by decide) ?_
  have hP9 := hP.sub (ws' := [(a0, .inr (11, [.ref a1, .int 0, .int 0, .int 0, .ref a2, .int 0, .ref a3, .ref a4, .ref a5, .ref a6, .int 0, .int 0, .int 0, .int 0, .int 0, .int 0, .int 0, .int (-1), .int (-1), .int (-1), .int 0, .int 0, .int 0, .ref a7, .ref a8, .ref a9, .ref a10, .ref a11, .ref a12, .ref a13, .int 0])), (a1, .inl (k0, 7202, .inl (fun _ => 0)))]) [0, 1] rfl
  have hD9 := hD.sub (ws' := [(a0, .inr (11, [.ref a1, .int 0, .int 0, .int 0, .ref a2, .int 0, .ref a3, .ref a4, .ref a5, .ref a6, .int 0, .int 0, .int 0, .int 0, .int 0, .int 0, .int 0, .int (-1), .int (-1), .int (-1), .int 0, .int 0, .int 0, .ref a7, .ref a8, .ref a9, .ref a10, .ref a11, .ref a12, .ref a13, .int 0])), (a1, .inl (k0, 7202, .inl (fun _ => 0)))]) [0, 1] (by decide) rfl
  have hK9 := hK.sub (tys' := []) [] rfl
  refine W.widen (k := 0) (n := 0) (Nat.le_of_ble_eq_true rfl) (Nat.le_of_ble_eq_true rfl) ?_
  exact W.iret (v := 2) hx hb hr (fun t ht hW => ⟨⟨2, (), rfl, rfl, by rw [ht]; exact hP9, va_K.moved hW.alike hK9, hD9⟩, hS.F ht⟩) hS.2.2 dX12_wrongLoop_25

set_option maxHeartbeats 4000000 in
set_option maxRecDepth 100000 in
theorem c_X12_length (l : Launch) (dC : Nat → ClassId) (dI : Nat → Nat → Nat) (sz : Nat)  (a0 a1 a2 a3 a4 a5 a6 a7 a8 a9 a10 a11 a12 a13 : Nat) (k0 : ClassId) (v0 : Int32)  : Met l yX12_length [.code yX12_length cX12_length 3 (some .int)] ({ frames := 3, cells := 0, slots := 0, locals := 120 }) (PcE [.ref a0, .int v0] sz dC dI [(k0, .int)] [(a0, .inr (11, [.ref a1, .int 0, .int 0, .int 0, .ref a2, .int 0, .ref a3, .ref a4, .ref a5, .ref a6, .int 0, .int 0, .int 0, .int 0, .int 0, .int 0, .int 0, .int (-1), .int (-1), .int (-1), .int 0, .int 0, .int 0, .ref a7, .ref a8, .ref a9, .ref a10, .ref a11, .ref a12, .ref a13, .int 0])), (a1, .inl (k0, 7202, .inl (fun _ => 0)))]) (va_Qi (fun (r : Int32) (u : Unit) => r = -1) (Bw dC dI (va_A [(a0, .inr (11, [.ref a1, .int 0, .int 0, .int 0, .ref a2, .int 0, .ref a3, .ref a4, .ref a5, .ref a6, .int 0, .int 0, .int 0, .int 0, .int 0, .int 0, .int 0, .int (-1), .int (-1), .int (-1), .int 0, .int 0, .int 0, .ref a7, .ref a8, .ref a9, .ref a10, .ref a11, .ref a12, .ref a13, .int 0])), (a1, .inl (k0, 7202, .inl (fun _ => 0)))] sz) (fun (u : Unit) => []) (fun (u : Unit) => [])) (va_A [(a0, .inr (11, [.ref a1, .int 0, .int 0, .int 0, .ref a2, .int 0, .ref a3, .ref a4, .ref a5, .ref a6, .int 0, .int 0, .int 0, .int 0, .int 0, .int 0, .int 0, .int (-1), .int (-1), .int (-1), .int 0, .int 0, .int 0, .ref a7, .ref a8, .ref a9, .ref a10, .ref a11, .ref a12, .ref a13, .int 0])), (a1, .inl (k0, 7202, .inl (fun _ => 0)))] sz)) 0 0 (va_A [(a0, .inr (11, [.ref a1, .int 0, .int 0, .int 0, .ref a2, .int 0, .ref a3, .ref a4, .ref a5, .ref a6, .int 0, .int 0, .int 0, .int 0, .int 0, .int 0, .int 0, .int (-1), .int (-1), .int (-1), .int 0, .int 0, .int 0, .ref a7, .ref a8, .ref a9, .ref a10, .ref a11, .ref a12, .ref a13, .int 0])), (a1, .inl (k0, 7202, .inl (fun _ => 0)))] sz) := by
  refine Met.ofW (cc := cX12_length) (maxL := 3) (ret := (some .int)) (by decide) rfl ?_
  intro p e s m args below meth c s₁ B hml hv
  obtain ⟨rfl, hsz, hP, hK, hD0, hE⟩ := hv
  have hx := B.exec
  have hb := B.bytes
  have hr := B.returns
  have hown : s.vm.findClass RX12 = some m.cls := findClass_of_methodNamed B.named
  have hlocks := B.notSynchronized
  subst hsz
  have hD := hD0.self (sz := s.heap.size)
  generalize hAe : va_A [(a0, .inr (11, [.ref a1, .int 0, .int 0, .int 0, .ref a2, .int 0, .ref a3, .ref a4, .ref a5, .ref a6, .int 0, .int 0, .int 0, .int 0, .int 0, .int 0, .int 0, .int (-1), .int (-1), .int (-1), .int 0, .int 0, .int 0, .ref a7, .ref a8, .ref a9, .ref a10, .ref a11, .ref a12, .ref a13, .int 0])), (a1, .inl (k0, 7202, .inl (fun _ => 0)))] s.heap.size = A at hD ⊢
  have hA : ∀ q : Nat, s.heap.size ≤ q → A q := fun q h => by rw [← hAe]; exact Or.inr h
  have hS : va_S A s.heap s.heap [] := va_S.rf
  have hl := lv_entry ([.ref a0, .int v0]) (n := 3) (Nat.le_of_ble_eq_true rfl)
  rw [lg_entry_eq]
  generalize (lg_sl ([.ref a0, .int v0]) ++ List.replicate (3 - (lg_sl ([.ref a0, .int v0])).length) Slot.unset).toArray = ls at hl ⊢
  have hl : lv_has ls 3 [(0, .ref a0), (1, .int v0)] := hl
  refine lv_aload_n hx hb dX12_length_0 rfl (lv_at hl 0 rfl) ?_
  refine lv_iload_n hx hb dX12_length_1 rfl (lv_at hl 1 rfl) ?_
  refine cl_i (wc := [(a0, .inr (11, [.ref a1, .int 0, .int 0, .int 0, .ref a2, .int 0, .ref a3, .ref a4, .ref a5, .ref a6, .int 0, .int 0, .int 0, .int 0, .int 0, .int 0, .int 0, .int (-1), .int (-1), .int (-1), .int 0, .int 0, .int 0, .ref a7, .ref a8, .ref a9, .ref a10, .ref a11, .ref a12, .ref a13, .int 0])), (a1, .inl (k0, 7202, .inl (fun _ => 0)))]) (wr := []) [0, 1] [] rfl rfl (by decide) (by decide) hK hP hD hS hA (va_runV (As := [.int v0]) (rest := []) ⟨hx, hb, hml, hown, noTs⟩ (c_X12_wrongLoop l dC dI s.heap.size a0 a1 a2 a3 a4 a5 a6 a7 a8 a9 a10 a11 a12 a13 k0 v0) ⟨cbE 1 (wd_1781 hE) (wd_126 hE) (wd_1778 hE) rfl rfl (by decide +kernel) ⟨Nat.le_of_ble_eq_true rfl, Nat.le_of_ble_eq_true rfl⟩, (wd_1780 hE), (wd_95 hE)⟩ ⟨PcE.blind, va_recv hK hP (ci := 11) (q0 := 0) rfl rfl, (pre_E (av := [.ref a0, .int v0]) (wc := [(a0, .inr (11, [.ref a1, .int 0, .int 0, .int 0, .ref a2, .int 0, .ref a3, .ref a4, .ref a5, .ref a6, .int 0, .int 0, .int 0, .int 0, .int 0, .int 0, .int 0, .int (-1), .int (-1), .int (-1), .int 0, .int 0, .int 0, .ref a7, .ref a8, .ref a9, .ref a10, .ref a11, .ref a12, .ref a13, .int 0])), (a1, .inl (k0, 7202, .inl (fun _ => 0)))]) (tysc := [(k0, .int)]) [0, 1] [0] rfl (by decide) rfl rfl hK hP hD hE)⟩ rfl rfl hl.1 rfl (lv_room (Nat.le_of_ble_eq_true rfl)) dX12_length_2 ⟨Nat.le_of_ble_eq_true rfl, Nat.le_of_ble_eq_true rfl⟩) (fun r1 u1 H locs hw1 hK hP hD hS => ?_)
  have hK : va_K (dC, dI) vwCl [(k0, .int)] s := hK
  have hP : va_P (dC, dI) vwCl [(a0, .inr (11, [.ref a1, .int 0, .int 0, .int 0, .ref a2, .int 0, .ref a3, .ref a4, .ref a5, .ref a6, .int 0, .int 0, .int 0, .int 0, .int 0, .int 0, .int 0, .int (-1), .int (-1), .int (-1), .int 0, .int 0, .int 0, .ref a7, .ref a8, .ref a9, .ref a10, .ref a11, .ref a12, .ref a13, .int 0])), (a1, .inl (k0, 7202, .inl (fun _ => 0)))] H := hP
  have hD : va_D A [(a0, .inr (11, [.ref a1, .int 0, .int 0, .int 0, .ref a2, .int 0, .ref a3, .ref a4, .ref a5, .ref a6, .int 0, .int 0, .int 0, .int 0, .int 0, .int 0, .int 0, .int (-1), .int (-1), .int (-1), .int 0, .int 0, .int 0, .ref a7, .ref a8, .ref a9, .ref a10, .ref a11, .ref a12, .ref a13, .int 0])), (a1, .inl (k0, 7202, .inl (fun _ => 0)))] := hD
  subst hw1
  refine W.eq (g2 := F0 m 5 ls [.int 2]) rfl ?_
  refine lv_istore_n (lv' := [(2, .int 2), (0, .ref a0), (1, .int v0)]) hx hb dX12_length_5 rfl hl (by decide) rfl (fun ls hl => ?_)
  refine lv_iload_n hx hb dX12_length_6 rfl (lv_at hl 0 rfl) ?_
  refine lv_if_le (tgt := 16) hx hb dX12_length_7 (by decide) (fun c2 => absurd c2 (by decide)) (fun c2 => ?_)
  refine lv_aload_n hx hb dX12_length_10 rfl (lv_at hl 1 rfl) ?_
  refine lv_iload_n hx hb dX12_length_11 rfl (lv_at hl 0 rfl) ?_
  refine cl_i (wc := [(a0, .inr (11, [.ref a1, .int 0, .int 0, .int 0, .ref a2, .int 0, .ref a3, .ref a4, .ref a5, .ref a6, .int 0, .int 0, .int 0, .int 0, .int 0, .int 0, .int 0, .int (-1), .int (-1), .int (-1), .int 0, .int 0, .int 0, .ref a7, .ref a8, .ref a9, .ref a10, .ref a11, .ref a12, .ref a13, .int 0]))]) (wr := [(a1, .inl (k0, 7202, .inl (fun _ => 0)))]) [0] [1] rfl rfl (by decide) (by decide) hK hP hD hS hA (va_runV (As := [.int 2]) (rest := []) ⟨hx, hb, hml, hown, noTs⟩ (c_X12_refuse_2 l dC dI H.size a0 a1 a2 a3 a4 a5 a6 a7 a8 a9 a10 a11 a12 a13) ⟨cbE 1 (wd_1498 hE) (wd_126 hE) (wd_1495 hE) rfl rfl (by decide +kernel) ⟨Nat.le_of_ble_eq_true rfl, Nat.le_of_ble_eq_true rfl⟩, (wd_1497 hE), (wd_54 hE)⟩ ⟨PcE.blind, va_recv hK hP (ci := 11) (q0 := 0) rfl rfl, (pre_E (av := [.ref a0, .int 2]) (wc := [(a0, .inr (11, [.ref a1, .int 0, .int 0, .int 0, .ref a2, .int 0, .ref a3, .ref a4, .ref a5, .ref a6, .int 0, .int 0, .int 0, .int 0, .int 0, .int 0, .int 0, .int (-1), .int (-1), .int (-1), .int 0, .int 0, .int 0, .ref a7, .ref a8, .ref a9, .ref a10, .ref a11, .ref a12, .ref a13, .int 0]))]) (tysc := []) [0] [] rfl (by decide) rfl rfl hK hP hD hE)⟩ rfl rfl hl.1 rfl (lv_room (Nat.le_of_ble_eq_true rfl)) dX12_length_12 ⟨Nat.le_of_ble_eq_true rfl, Nat.le_of_ble_eq_true rfl⟩) (fun r3 u3 H locs hw3 hK hP hD hS => ?_)
  have hK : va_K (dC, dI) vwCl [(k0, .int)] s := hK
  have hP : va_P (dC, dI) vwCl [(a1, .inl (k0, 7202, .inl (fun _ => 0))), (a0, .inr (11, [.ref a1, .int 2, .int 0, .int 0, .ref a2, .int 0, .ref a3, .ref a4, .ref a5, .ref a6, .int 0, .int 0, .int 0, .int 0, .int 0, .int 0, .int 0, .int (-1), .int (-1), .int (-1), .int 0, .int 0, .int 0, .ref a7, .ref a8, .ref a9, .ref a10, .ref a11, .ref a12, .ref a13, .int 0]))] H := hP
  have hD : va_D A [(a1, .inl (k0, 7202, .inl (fun _ => 0))), (a0, .inr (11, [.ref a1, .int 2, .int 0, .int 0, .ref a2, .int 0, .ref a3, .ref a4, .ref a5, .ref a6, .int 0, .int 0, .int 0, .int 0, .int 0, .int 0, .int 0, .int (-1), .int (-1), .int (-1), .int 0, .int 0, .int 0, .ref a7, .ref a8, .ref a9, .ref a10, .ref a11, .ref a12, .ref a13, .int 0]))] := hD
  subst hw3
  refine W.eq (g2 := F0 m 15 ls [.int (-1)]) rfl ?_
  have hP9 := hP.sub (ws' := []) [] rfl
  have hD9 := hD.sub (ws' := []) [] (by decide) rfl
  have hK9 := hK.sub (tys' := []) [] rfl
  refine W.widen (k := 0) (n := 0) (Nat.le_of_ble_eq_true rfl) (Nat.le_of_ble_eq_true rfl) ?_
  exact W.iret (v := -1) hx hb hr (fun t ht hW => ⟨⟨-1, (), rfl, rfl, by rw [ht]; exact hP9, va_K.moved hW.alike hK9, hD9⟩, hS.F ht⟩) hS.2.2 dX12_length_15

set_option maxHeartbeats 4000000 in
set_option maxRecDepth 100000 in
theorem c_X12_orderOf (l : Launch) (dC : Nat → ClassId) (dI : Nat → Nat → Nat) (sz : Nat)  (a0 a1 a2 a3 a4 a5 a6 a7 a8 a9 a10 a11 a12 a13 : Nat) (k0 : ClassId) (v0 : Int32)  : Met l yX12_orderOf [.code yX12_orderOf cX12_orderOf 3 (some .int)] ({ frames := 3, cells := 0, slots := 0, locals := 120 }) (PcE [.ref a0, .int v0] sz dC dI [(k0, .int)] [(a0, .inr (11, [.ref a1, .int 0, .int 0, .int 0, .ref a2, .int 0, .ref a3, .ref a4, .ref a5, .ref a6, .int 0, .int 0, .int 0, .int 0, .int 0, .int 0, .int 0, .int (-1), .int (-1), .int (-1), .int 0, .int 0, .int 0, .ref a7, .ref a8, .ref a9, .ref a10, .ref a11, .ref a12, .ref a13, .int 0])), (a1, .inl (k0, 7202, .inl (fun _ => 0)))]) (va_Qi (fun (r : Int32) (u : Unit) => r = -1) (Bw dC dI (va_A [(a0, .inr (11, [.ref a1, .int 0, .int 0, .int 0, .ref a2, .int 0, .ref a3, .ref a4, .ref a5, .ref a6, .int 0, .int 0, .int 0, .int 0, .int 0, .int 0, .int 0, .int (-1), .int (-1), .int (-1), .int 0, .int 0, .int 0, .ref a7, .ref a8, .ref a9, .ref a10, .ref a11, .ref a12, .ref a13, .int 0])), (a1, .inl (k0, 7202, .inl (fun _ => 0)))] sz) (fun (u : Unit) => []) (fun (u : Unit) => [])) (va_A [(a0, .inr (11, [.ref a1, .int 0, .int 0, .int 0, .ref a2, .int 0, .ref a3, .ref a4, .ref a5, .ref a6, .int 0, .int 0, .int 0, .int 0, .int 0, .int 0, .int 0, .int (-1), .int (-1), .int (-1), .int 0, .int 0, .int 0, .ref a7, .ref a8, .ref a9, .ref a10, .ref a11, .ref a12, .ref a13, .int 0])), (a1, .inl (k0, 7202, .inl (fun _ => 0)))] sz)) 0 0 (va_A [(a0, .inr (11, [.ref a1, .int 0, .int 0, .int 0, .ref a2, .int 0, .ref a3, .ref a4, .ref a5, .ref a6, .int 0, .int 0, .int 0, .int 0, .int 0, .int 0, .int 0, .int (-1), .int (-1), .int (-1), .int 0, .int 0, .int 0, .ref a7, .ref a8, .ref a9, .ref a10, .ref a11, .ref a12, .ref a13, .int 0])), (a1, .inl (k0, 7202, .inl (fun _ => 0)))] sz) := by
  refine Met.ofW (cc := cX12_orderOf) (maxL := 3) (ret := (some .int)) (by decide) rfl ?_
  intro p e s m args below meth c s₁ B hml hv
  obtain ⟨rfl, hsz, hP, hK, hD0, hE⟩ := hv
  have hx := B.exec
  have hb := B.bytes
  have hr := B.returns
  have hown : s.vm.findClass RX12 = some m.cls := findClass_of_methodNamed B.named
  have hlocks := B.notSynchronized
  subst hsz
  have hD := hD0.self (sz := s.heap.size)
  generalize hAe : va_A [(a0, .inr (11, [.ref a1, .int 0, .int 0, .int 0, .ref a2, .int 0, .ref a3, .ref a4, .ref a5, .ref a6, .int 0, .int 0, .int 0, .int 0, .int 0, .int 0, .int 0, .int (-1), .int (-1), .int (-1), .int 0, .int 0, .int 0, .ref a7, .ref a8, .ref a9, .ref a10, .ref a11, .ref a12, .ref a13, .int 0])), (a1, .inl (k0, 7202, .inl (fun _ => 0)))] s.heap.size = A at hD ⊢
  have hA : ∀ q : Nat, s.heap.size ≤ q → A q := fun q h => by rw [← hAe]; exact Or.inr h
  have hS : va_S A s.heap s.heap [] := va_S.rf
  have hl := lv_entry ([.ref a0, .int v0]) (n := 3) (Nat.le_of_ble_eq_true rfl)
  rw [lg_entry_eq]
  generalize (lg_sl ([.ref a0, .int v0]) ++ List.replicate (3 - (lg_sl ([.ref a0, .int v0])).length) Slot.unset).toArray = ls at hl ⊢
  have hl : lv_has ls 3 [(0, .ref a0), (1, .int v0)] := hl
  refine lv_aload_n hx hb dX12_orderOf_0 rfl (lv_at hl 0 rfl) ?_
  refine lv_iload_n hx hb dX12_orderOf_1 rfl (lv_at hl 1 rfl) ?_
  refine cl_i (wc := [(a0, .inr (11, [.ref a1, .int 0, .int 0, .int 0, .ref a2, .int 0, .ref a3, .ref a4, .ref a5, .ref a6, .int 0, .int 0, .int 0, .int 0, .int 0, .int 0, .int 0, .int (-1), .int (-1), .int (-1), .int 0, .int 0, .int 0, .ref a7, .ref a8, .ref a9, .ref a10, .ref a11, .ref a12, .ref a13, .int 0])), (a1, .inl (k0, 7202, .inl (fun _ => 0)))]) (wr := []) [0, 1] [] rfl rfl (by decide) (by decide) hK hP hD hS hA (va_runV (As := [.int v0]) (rest := []) ⟨hx, hb, hml, hown, noTs⟩ (c_X12_wrongLoop l dC dI s.heap.size a0 a1 a2 a3 a4 a5 a6 a7 a8 a9 a10 a11 a12 a13 k0 v0) ⟨cbE 1 (wd_1781 hE) (wd_126 hE) (wd_1778 hE) rfl rfl (by decide +kernel) ⟨Nat.le_of_ble_eq_true rfl, Nat.le_of_ble_eq_true rfl⟩, (wd_1780 hE), (wd_95 hE)⟩ ⟨PcE.blind, va_recv hK hP (ci := 11) (q0 := 0) rfl rfl, (pre_E (av := [.ref a0, .int v0]) (wc := [(a0, .inr (11, [.ref a1, .int 0, .int 0, .int 0, .ref a2, .int 0, .ref a3, .ref a4, .ref a5, .ref a6, .int 0, .int 0, .int 0, .int 0, .int 0, .int 0, .int 0, .int (-1), .int (-1), .int (-1), .int 0, .int 0, .int 0, .ref a7, .ref a8, .ref a9, .ref a10, .ref a11, .ref a12, .ref a13, .int 0])), (a1, .inl (k0, 7202, .inl (fun _ => 0)))]) (tysc := [(k0, .int)]) [0, 1] [0] rfl (by decide) rfl rfl hK hP hD hE)⟩ rfl rfl hl.1 rfl (lv_room (Nat.le_of_ble_eq_true rfl)) dX12_orderOf_2 ⟨Nat.le_of_ble_eq_true rfl, Nat.le_of_ble_eq_true rfl⟩) (fun r1 u1 H locs hw1 hK hP hD hS => ?_)
  have hK : va_K (dC, dI) vwCl [(k0, .int)] s := hK
  have hP : va_P (dC, dI) vwCl [(a0, .inr (11, [.ref a1, .int 0, .int 0, .int 0, .ref a2, .int 0, .ref a3, .ref a4, .ref a5, .ref a6, .int 0, .int 0, .int 0, .int 0, .int 0, .int 0, .int 0, .int (-1), .int (-1), .int (-1), .int 0, .int 0, .int 0, .ref a7, .ref a8, .ref a9, .ref a10, .ref a11, .ref a12, .ref a13, .int 0])), (a1, .inl (k0, 7202, .inl (fun _ => 0)))] H := hP
  have hD : va_D A [(a0, .inr (11, [.ref a1, .int 0, .int 0, .int 0, .ref a2, .int 0, .ref a3, .ref a4, .ref a5, .ref a6, .int 0, .int 0, .int 0, .int 0, .int 0, .int 0, .int 0, .int (-1), .int (-1), .int (-1), .int 0, .int 0, .int 0, .ref a7, .ref a8, .ref a9, .ref a10, .ref a11, .ref a12, .ref a13, .int 0])), (a1, .inl (k0, 7202, .inl (fun _ => 0)))] := hD
  subst hw1
  refine W.eq (g2 := F0 m 5 ls [.int 2]) rfl ?_
  refine lv_istore_n (lv' := [(2, .int 2), (0, .ref a0), (1, .int v0)]) hx hb dX12_orderOf_5 rfl hl (by decide) rfl (fun ls hl => ?_)
  refine lv_iload_n hx hb dX12_orderOf_6 rfl (lv_at hl 0 rfl) ?_
  refine lv_if_le (tgt := 16) hx hb dX12_orderOf_7 (by decide) (fun c2 => absurd c2 (by decide)) (fun c2 => ?_)
  refine lv_aload_n hx hb dX12_orderOf_10 rfl (lv_at hl 1 rfl) ?_
  refine lv_iload_n hx hb dX12_orderOf_11 rfl (lv_at hl 0 rfl) ?_
  refine cl_i (wc := [(a0, .inr (11, [.ref a1, .int 0, .int 0, .int 0, .ref a2, .int 0, .ref a3, .ref a4, .ref a5, .ref a6, .int 0, .int 0, .int 0, .int 0, .int 0, .int 0, .int 0, .int (-1), .int (-1), .int (-1), .int 0, .int 0, .int 0, .ref a7, .ref a8, .ref a9, .ref a10, .ref a11, .ref a12, .ref a13, .int 0]))]) (wr := [(a1, .inl (k0, 7202, .inl (fun _ => 0)))]) [0] [1] rfl rfl (by decide) (by decide) hK hP hD hS hA (va_runV (As := [.int 2]) (rest := []) ⟨hx, hb, hml, hown, noTs⟩ (c_X12_refuse_2 l dC dI H.size a0 a1 a2 a3 a4 a5 a6 a7 a8 a9 a10 a11 a12 a13) ⟨cbE 1 (wd_1498 hE) (wd_126 hE) (wd_1495 hE) rfl rfl (by decide +kernel) ⟨Nat.le_of_ble_eq_true rfl, Nat.le_of_ble_eq_true rfl⟩, (wd_1497 hE), (wd_54 hE)⟩ ⟨PcE.blind, va_recv hK hP (ci := 11) (q0 := 0) rfl rfl, (pre_E (av := [.ref a0, .int 2]) (wc := [(a0, .inr (11, [.ref a1, .int 0, .int 0, .int 0, .ref a2, .int 0, .ref a3, .ref a4, .ref a5, .ref a6, .int 0, .int 0, .int 0, .int 0, .int 0, .int 0, .int 0, .int (-1), .int (-1), .int (-1), .int 0, .int 0, .int 0, .ref a7, .ref a8, .ref a9, .ref a10, .ref a11, .ref a12, .ref a13, .int 0]))]) (tysc := []) [0] [] rfl (by decide) rfl rfl hK hP hD hE)⟩ rfl rfl hl.1 rfl (lv_room (Nat.le_of_ble_eq_true rfl)) dX12_orderOf_12 ⟨Nat.le_of_ble_eq_true rfl, Nat.le_of_ble_eq_true rfl⟩) (fun r3 u3 H locs hw3 hK hP hD hS => ?_)
  have hK : va_K (dC, dI) vwCl [(k0, .int)] s := hK
  have hP : va_P (dC, dI) vwCl [(a1, .inl (k0, 7202, .inl (fun _ => 0))), (a0, .inr (11, [.ref a1, .int 2, .int 0, .int 0, .ref a2, .int 0, .ref a3, .ref a4, .ref a5, .ref a6, .int 0, .int 0, .int 0, .int 0, .int 0, .int 0, .int 0, .int (-1), .int (-1), .int (-1), .int 0, .int 0, .int 0, .ref a7, .ref a8, .ref a9, .ref a10, .ref a11, .ref a12, .ref a13, .int 0]))] H := hP
  have hD : va_D A [(a1, .inl (k0, 7202, .inl (fun _ => 0))), (a0, .inr (11, [.ref a1, .int 2, .int 0, .int 0, .ref a2, .int 0, .ref a3, .ref a4, .ref a5, .ref a6, .int 0, .int 0, .int 0, .int 0, .int 0, .int 0, .int 0, .int (-1), .int (-1), .int (-1), .int 0, .int 0, .int 0, .ref a7, .ref a8, .ref a9, .ref a10, .ref a11, .ref a12, .ref a13, .int 0]))] := hD
  subst hw3
  refine W.eq (g2 := F0 m 15 ls [.int (-1)]) rfl ?_
  have hP9 := hP.sub (ws' := []) [] rfl
  have hD9 := hD.sub (ws' := []) [] (by decide) rfl
  have hK9 := hK.sub (tys' := []) [] rfl
  refine W.widen (k := 0) (n := 0) (Nat.le_of_ble_eq_true rfl) (Nat.le_of_ble_eq_true rfl) ?_
  exact W.iret (v := -1) hx hb hr (fun t ht hW => ⟨⟨-1, (), rfl, rfl, by rw [ht]; exact hP9, va_K.moved hW.alike hK9, hD9⟩, hS.F ht⟩) hS.2.2 dX12_orderOf_15

set_option maxHeartbeats 4000000 in
set_option maxRecDepth 100000 in
theorem c_X12_wrongLoops (l : Launch) (dC : Nat → ClassId) (dI : Nat → Nat → Nat) (sz : Nat)  (a0 a1 a2 a3 a4 a5 a6 a7 a8 a9 a10 a11 a12 a13 : Nat) (k0 : ClassId) (v0 : Int32) (v1 : Int32)  : Met l yX12_wrongLoops [.code yX12_wrongLoops cX12_wrongLoops 4 (some .int)] ({ frames := 2, cells := 0, slots := 0, locals := 80 }) (PcE [.ref a0, .int v0, .int v1] sz dC dI [(k0, .int)] [(a0, .inr (11, [.ref a1, .int 0, .int 0, .int 0, .ref a2, .int 0, .ref a3, .ref a4, .ref a5, .ref a6, .int 0, .int 0, .int 0, .int 0, .int 0, .int 0, .int 0, .int (-1), .int (-1), .int (-1), .int 0, .int 0, .int 0, .ref a7, .ref a8, .ref a9, .ref a10, .ref a11, .ref a12, .ref a13, .int 0])), (a1, .inl (k0, 7202, .inl (fun _ => 0)))]) (va_Qi (fun (r : Int32) (u : Unit) => r = 2) (Bw dC dI (va_A [(a0, .inr (11, [.ref a1, .int 0, .int 0, .int 0, .ref a2, .int 0, .ref a3, .ref a4, .ref a5, .ref a6, .int 0, .int 0, .int 0, .int 0, .int 0, .int 0, .int 0, .int (-1), .int (-1), .int (-1), .int 0, .int 0, .int 0, .ref a7, .ref a8, .ref a9, .ref a10, .ref a11, .ref a12, .ref a13, .int 0])), (a1, .inl (k0, 7202, .inl (fun _ => 0)))] sz) (fun (u : Unit) => []) (fun (u : Unit) => [(a0, .inr (11, [.ref a1, .int 0, .int 0, .int 0, .ref a2, .int 0, .ref a3, .ref a4, .ref a5, .ref a6, .int 0, .int 0, .int 0, .int 0, .int 0, .int 0, .int 0, .int (-1), .int (-1), .int (-1), .int 0, .int 0, .int 0, .ref a7, .ref a8, .ref a9, .ref a10, .ref a11, .ref a12, .ref a13, .int 0])), (a1, .inl (k0, 7202, .inl (fun _ => 0)))])) (va_A [(a0, .inr (11, [.ref a1, .int 0, .int 0, .int 0, .ref a2, .int 0, .ref a3, .ref a4, .ref a5, .ref a6, .int 0, .int 0, .int 0, .int 0, .int 0, .int 0, .int 0, .int (-1), .int (-1), .int (-1), .int 0, .int 0, .int 0, .ref a7, .ref a8, .ref a9, .ref a10, .ref a11, .ref a12, .ref a13, .int 0])), (a1, .inl (k0, 7202, .inl (fun _ => 0)))] sz)) 0 0 (va_A [(a0, .inr (11, [.ref a1, .int 0, .int 0, .int 0, .ref a2, .int 0, .ref a3, .ref a4, .ref a5, .ref a6, .int 0, .int 0, .int 0, .int 0, .int 0, .int 0, .int 0, .int (-1), .int (-1), .int (-1), .int 0, .int 0, .int 0, .ref a7, .ref a8, .ref a9, .ref a10, .ref a11, .ref a12, .ref a13, .int 0])), (a1, .inl (k0, 7202, .inl (fun _ => 0)))] sz) := by
  refine Met.ofW (cc := cX12_wrongLoops) (maxL := 4) (ret := (some .int)) (by decide) rfl ?_
  intro p e s m args below meth c s₁ B hml hv
  obtain ⟨rfl, hsz, hP, hK, hD0, hE⟩ := hv
  have hx := B.exec
  have hb := B.bytes
  have hr := B.returns
  have hown : s.vm.findClass RX12 = some m.cls := findClass_of_methodNamed B.named
  have hlocks := B.notSynchronized
  subst hsz
  have hD := hD0.self (sz := s.heap.size)
  generalize hAe : va_A [(a0, .inr (11, [.ref a1, .int 0, .int 0, .int 0, .ref a2, .int 0, .ref a3, .ref a4, .ref a5, .ref a6, .int 0, .int 0, .int 0, .int 0, .int 0, .int 0, .int 0, .int (-1), .int (-1), .int (-1), .int 0, .int 0, .int 0, .ref a7, .ref a8, .ref a9, .ref a10, .ref a11, .ref a12, .ref a13, .int 0])), (a1, .inl (k0, 7202, .inl (fun _ => 0)))] s.heap.size = A at hD ⊢
  have hA : ∀ q : Nat, s.heap.size ≤ q → A q := fun q h => by rw [← hAe]; exact Or.inr h
  have hS : va_S A s.heap s.heap [] := va_S.rf
  have hl := lv_entry ([.ref a0, .int v0, .int v1]) (n := 4) (Nat.le_of_ble_eq_true rfl)
  rw [lg_entry_eq]
  generalize (lg_sl ([.ref a0, .int v0, .int v1]) ++ List.replicate (4 - (lg_sl ([.ref a0, .int v0, .int v1])).length) Slot.unset).toArray = ls at hl ⊢
  have hl : lv_has ls 4 [(0, .ref a0), (1, .int v0), (2, .int v1)] := hl
  refine lv_aload_n hx hb dX12_wrongLoops_0 rfl (lv_at hl 0 rfl) ?_
  refine lv_iload_n hx hb dX12_wrongLoops_1 rfl (lv_at hl 1 rfl) ?_
  refine cl_i (wc := [(a0, .inr (11, [.ref a1, .int 0, .int 0, .int 0, .ref a2, .int 0, .ref a3, .ref a4, .ref a5, .ref a6, .int 0, .int 0, .int 0, .int 0, .int 0, .int 0, .int 0, .int (-1), .int (-1), .int (-1), .int 0, .int 0, .int 0, .ref a7, .ref a8, .ref a9, .ref a10, .ref a11, .ref a12, .ref a13, .int 0])), (a1, .inl (k0, 7202, .inl (fun _ => 0)))]) (wr := []) [0, 1] [] rfl rfl (by decide) (by decide) hK hP hD hS hA (va_runV (As := [.int v0]) (rest := []) ⟨hx, hb, hml, hown, noTs⟩ (c_X12_isWord l dC dI s.heap.size a0 a1 a2 a3 a4 a5 a6 a7 a8 a9 a10 a11 a12 a13 k0 v0) ⟨cbE 1 (wd_1653 hE) (wd_126 hE) (wd_1650 hE) rfl rfl (by decide +kernel) ⟨Nat.le_of_ble_eq_true rfl, Nat.le_of_ble_eq_true rfl⟩, (wd_1652 hE), (wd_83 hE)⟩ ⟨PcE.blind, va_recv hK hP (ci := 11) (q0 := 0) rfl rfl, (pre_E (av := [.ref a0, .int v0]) (wc := [(a0, .inr (11, [.ref a1, .int 0, .int 0, .int 0, .ref a2, .int 0, .ref a3, .ref a4, .ref a5, .ref a6, .int 0, .int 0, .int 0, .int 0, .int 0, .int 0, .int 0, .int (-1), .int (-1), .int (-1), .int 0, .int 0, .int 0, .ref a7, .ref a8, .ref a9, .ref a10, .ref a11, .ref a12, .ref a13, .int 0])), (a1, .inl (k0, 7202, .inl (fun _ => 0)))]) (tysc := [(k0, .int)]) [0, 1] [0] rfl (by decide) rfl rfl hK hP hD hE)⟩ rfl rfl hl.1 rfl (lv_room (Nat.le_of_ble_eq_true rfl)) dX12_wrongLoops_2 ⟨Nat.le_of_ble_eq_true rfl, Nat.le_of_ble_eq_true rfl⟩) (fun r1 u1 H locs hw1 hK hP hD hS => ?_)
  have hK : va_K (dC, dI) vwCl [(k0, .int)] s := hK
  have hP : va_P (dC, dI) vwCl [(a0, .inr (11, [.ref a1, .int 0, .int 0, .int 0, .ref a2, .int 0, .ref a3, .ref a4, .ref a5, .ref a6, .int 0, .int 0, .int 0, .int 0, .int 0, .int 0, .int 0, .int (-1), .int (-1), .int (-1), .int 0, .int 0, .int 0, .ref a7, .ref a8, .ref a9, .ref a10, .ref a11, .ref a12, .ref a13, .int 0])), (a1, .inl (k0, 7202, .inl (fun _ => 0)))] H := hP
  have hD : va_D A [(a0, .inr (11, [.ref a1, .int 0, .int 0, .int 0, .ref a2, .int 0, .ref a3, .ref a4, .ref a5, .ref a6, .int 0, .int 0, .int 0, .int 0, .int 0, .int 0, .int 0, .int (-1), .int (-1), .int (-1), .int 0, .int 0, .int 0, .ref a7, .ref a8, .ref a9, .ref a10, .ref a11, .ref a12, .ref a13, .int 0])), (a1, .inl (k0, 7202, .inl (fun _ => 0)))] := hD
  subst hw1
  refine W.eq (g2 := F0 m 5 ls [.int 0]) rfl ?_
  refine lv_if_eq (tgt := 16) hx hb dX12_wrongLoops_5 (by decide) (fun c2 => ?_) (fun c2 => absurd c2 (by decide))
  refine lv_iconst (v := 2) hx hb dX12_wrongLoops_16 (by decide) ?_
  refine lv_goto (tgt := 25) hx hb dX12_wrongLoops_17 (by decide) ?_
  refine lv_istore_n (lv' := [(3, .int 2), (0, .ref a0), (1, .int v0), (2, .int v1)]) hx hb dX12_wrongLoops_25 rfl hl (by decide) rfl (fun ls hl => ?_)
  refine lv_iload_n hx hb dX12_wrongLoops_26 rfl (lv_at hl 0 rfl) ?_
  refine lv_if_le (tgt := 34) hx hb dX12_wrongLoops_27 (by decide) (fun c3 => absurd c3 (by decide)) (fun c3 => ?_)
  refine lv_iload_n hx hb dX12_wrongLoops_30 rfl (lv_at hl 0 rfl) ?_
  refine lv_goto (tgt := 39) hx hb dX12_wrongLoops_31 (by decide) ?_
  have hP9 := hP.sub (ws' := [(a0, .inr (11, [.ref a1, .int 0, .int 0, .int 0, .ref a2, .int 0, .ref a3, .ref a4, .ref a5, .ref a6, .int 0, .int 0, .int 0, .int 0, .int 0, .int 0, .int 0, .int (-1), .int (-1), .int (-1), .int 0, .int 0, .int 0, .ref a7, .ref a8, .ref a9, .ref a10, .ref a11, .ref a12, .ref a13, .int 0])), (a1, .inl (k0, 7202, .inl (fun _ => 0)))]) [0, 1] rfl
  have hD9 := hD.sub (ws' := [(a0, .inr (11, [.ref a1, .int 0, .int 0, .int 0, .ref a2, .int 0, .ref a3, .ref a4, .ref a5, .ref a6, .int 0, .int 0, .int 0, .int 0, .int 0, .int 0, .int 0, .int (-1), .int (-1), .int (-1), .int 0, .int 0, .int 0, .ref a7, .ref a8, .ref a9, .ref a10, .ref a11, .ref a12, .ref a13, .int 0])), (a1, .inl (k0, 7202, .inl (fun _ => 0)))]) [0, 1] (by decide) rfl
  have hK9 := hK.sub (tys' := []) [] rfl
  refine W.widen (k := 0) (n := 0) (Nat.le_of_ble_eq_true rfl) (Nat.le_of_ble_eq_true rfl) ?_
  exact W.iret (v := 2) hx hb hr (fun t ht hW => ⟨⟨2, (), rfl, rfl, by rw [ht]; exact hP9, va_K.moved hW.alike hK9, hD9⟩, hS.F ht⟩) hS.2.2 dX12_wrongLoops_39

set_option maxHeartbeats 4000000 in
set_option maxRecDepth 100000 in
theorem c_X12_kin (l : Launch) (dC : Nat → ClassId) (dI : Nat → Nat → Nat) (sz : Nat)  (a0 a1 a2 a3 a4 a5 a6 a7 a8 a9 a10 a11 a12 a13 : Nat) (k0 : ClassId) (v0 : Int32) (v1 : Int32)  : Met l yX12_kin [.code yX12_kin cX12_kin 4 (some .int)] ({ frames := 3, cells := 0, slots := 0, locals := 120 }) (PcE [.ref a0, .int v0, .int v1] sz dC dI [(k0, .int)] [(a0, .inr (11, [.ref a1, .int 0, .int 0, .int 0, .ref a2, .int 0, .ref a3, .ref a4, .ref a5, .ref a6, .int 0, .int 0, .int 0, .int 0, .int 0, .int 0, .int 0, .int (-1), .int (-1), .int (-1), .int 0, .int 0, .int 0, .ref a7, .ref a8, .ref a9, .ref a10, .ref a11, .ref a12, .ref a13, .int 0])), (a1, .inl (k0, 7202, .inl (fun _ => 0)))]) (va_Qi (fun (r : Int32) (u : Unit) => r = -1) (Bw dC dI (va_A [(a0, .inr (11, [.ref a1, .int 0, .int 0, .int 0, .ref a2, .int 0, .ref a3, .ref a4, .ref a5, .ref a6, .int 0, .int 0, .int 0, .int 0, .int 0, .int 0, .int 0, .int (-1), .int (-1), .int (-1), .int 0, .int 0, .int 0, .ref a7, .ref a8, .ref a9, .ref a10, .ref a11, .ref a12, .ref a13, .int 0])), (a1, .inl (k0, 7202, .inl (fun _ => 0)))] sz) (fun (u : Unit) => []) (fun (u : Unit) => [])) (va_A [(a0, .inr (11, [.ref a1, .int 0, .int 0, .int 0, .ref a2, .int 0, .ref a3, .ref a4, .ref a5, .ref a6, .int 0, .int 0, .int 0, .int 0, .int 0, .int 0, .int 0, .int (-1), .int (-1), .int (-1), .int 0, .int 0, .int 0, .ref a7, .ref a8, .ref a9, .ref a10, .ref a11, .ref a12, .ref a13, .int 0])), (a1, .inl (k0, 7202, .inl (fun _ => 0)))] sz)) 0 0 (va_A [(a0, .inr (11, [.ref a1, .int 0, .int 0, .int 0, .ref a2, .int 0, .ref a3, .ref a4, .ref a5, .ref a6, .int 0, .int 0, .int 0, .int 0, .int 0, .int 0, .int 0, .int (-1), .int (-1), .int (-1), .int 0, .int 0, .int 0, .ref a7, .ref a8, .ref a9, .ref a10, .ref a11, .ref a12, .ref a13, .int 0])), (a1, .inl (k0, 7202, .inl (fun _ => 0)))] sz) := by
  refine Met.ofW (cc := cX12_kin) (maxL := 4) (ret := (some .int)) (by decide) rfl ?_
  intro p e s m args below meth c s₁ B hml hv
  obtain ⟨rfl, hsz, hP, hK, hD0, hE⟩ := hv
  have hx := B.exec
  have hb := B.bytes
  have hr := B.returns
  have hown : s.vm.findClass RX12 = some m.cls := findClass_of_methodNamed B.named
  have hlocks := B.notSynchronized
  subst hsz
  have hD := hD0.self (sz := s.heap.size)
  generalize hAe : va_A [(a0, .inr (11, [.ref a1, .int 0, .int 0, .int 0, .ref a2, .int 0, .ref a3, .ref a4, .ref a5, .ref a6, .int 0, .int 0, .int 0, .int 0, .int 0, .int 0, .int 0, .int (-1), .int (-1), .int (-1), .int 0, .int 0, .int 0, .ref a7, .ref a8, .ref a9, .ref a10, .ref a11, .ref a12, .ref a13, .int 0])), (a1, .inl (k0, 7202, .inl (fun _ => 0)))] s.heap.size = A at hD ⊢
  have hA : ∀ q : Nat, s.heap.size ≤ q → A q := fun q h => by rw [← hAe]; exact Or.inr h
  have hS : va_S A s.heap s.heap [] := va_S.rf
  have hl := lv_entry ([.ref a0, .int v0, .int v1]) (n := 4) (Nat.le_of_ble_eq_true rfl)
  rw [lg_entry_eq]
  generalize (lg_sl ([.ref a0, .int v0, .int v1]) ++ List.replicate (4 - (lg_sl ([.ref a0, .int v0, .int v1])).length) Slot.unset).toArray = ls at hl ⊢
  have hl : lv_has ls 4 [(0, .ref a0), (1, .int v0), (2, .int v1)] := hl
  refine lv_aload_n hx hb dX12_kin_0 rfl (lv_at hl 0 rfl) ?_
  refine lv_iload_n hx hb dX12_kin_1 rfl (lv_at hl 1 rfl) ?_
  refine lv_iload_n hx hb dX12_kin_2 rfl (lv_at hl 2 rfl) ?_
  refine cl_i (wc := [(a0, .inr (11, [.ref a1, .int 0, .int 0, .int 0, .ref a2, .int 0, .ref a3, .ref a4, .ref a5, .ref a6, .int 0, .int 0, .int 0, .int 0, .int 0, .int 0, .int 0, .int (-1), .int (-1), .int (-1), .int 0, .int 0, .int 0, .ref a7, .ref a8, .ref a9, .ref a10, .ref a11, .ref a12, .ref a13, .int 0])), (a1, .inl (k0, 7202, .inl (fun _ => 0)))]) (wr := []) [0, 1] [] rfl rfl (by decide) (by decide) hK hP hD hS hA (va_runV (As := [.int v0, .int v1]) (rest := []) ⟨hx, hb, hml, hown, noTs⟩ (c_X12_wrongLoops l dC dI s.heap.size a0 a1 a2 a3 a4 a5 a6 a7 a8 a9 a10 a11 a12 a13 k0 v0 v1) ⟨cbE 2 (wd_1800 hE) (wd_126 hE) (wd_1797 hE) rfl rfl (by decide +kernel) ⟨Nat.le_of_ble_eq_true rfl, Nat.le_of_ble_eq_true rfl⟩, (wd_1799 hE), (wd_97 hE)⟩ ⟨PcE.blind, va_recv hK hP (ci := 11) (q0 := 0) rfl rfl, (pre_E (av := [.ref a0, .int v0, .int v1]) (wc := [(a0, .inr (11, [.ref a1, .int 0, .int 0, .int 0, .ref a2, .int 0, .ref a3, .ref a4, .ref a5, .ref a6, .int 0, .int 0, .int 0, .int 0, .int 0, .int 0, .int 0, .int (-1), .int (-1), .int (-1), .int 0, .int 0, .int 0, .ref a7, .ref a8, .ref a9, .ref a10, .ref a11, .ref a12, .ref a13, .int 0])), (a1, .inl (k0, 7202, .inl (fun _ => 0)))]) (tysc := [(k0, .int)]) [0, 1] [0] rfl (by decide) rfl rfl hK hP hD hE)⟩ rfl rfl hl.1 rfl (lv_room (Nat.le_of_ble_eq_true rfl)) dX12_kin_3 ⟨Nat.le_of_ble_eq_true rfl, Nat.le_of_ble_eq_true rfl⟩) (fun r1 u1 H locs hw1 hK hP hD hS => ?_)
  have hK : va_K (dC, dI) vwCl [(k0, .int)] s := hK
  have hP : va_P (dC, dI) vwCl [(a0, .inr (11, [.ref a1, .int 0, .int 0, .int 0, .ref a2, .int 0, .ref a3, .ref a4, .ref a5, .ref a6, .int 0, .int 0, .int 0, .int 0, .int 0, .int 0, .int 0, .int (-1), .int (-1), .int (-1), .int 0, .int 0, .int 0, .ref a7, .ref a8, .ref a9, .ref a10, .ref a11, .ref a12, .ref a13, .int 0])), (a1, .inl (k0, 7202, .inl (fun _ => 0)))] H := hP
  have hD : va_D A [(a0, .inr (11, [.ref a1, .int 0, .int 0, .int 0, .ref a2, .int 0, .ref a3, .ref a4, .ref a5, .ref a6, .int 0, .int 0, .int 0, .int 0, .int 0, .int 0, .int 0, .int (-1), .int (-1), .int (-1), .int 0, .int 0, .int 0, .ref a7, .ref a8, .ref a9, .ref a10, .ref a11, .ref a12, .ref a13, .int 0])), (a1, .inl (k0, 7202, .inl (fun _ => 0)))] := hD
  subst hw1
  refine W.eq (g2 := F0 m 6 ls [.int 2]) rfl ?_
  refine lv_istore_n (lv' := [(3, .int 2), (0, .ref a0), (1, .int v0), (2, .int v1)]) hx hb dX12_kin_6 rfl hl (by decide) rfl (fun ls hl => ?_)
  refine lv_iload_n hx hb dX12_kin_7 rfl (lv_at hl 0 rfl) ?_
  refine lv_if_le (tgt := 19) hx hb dX12_kin_8 (by decide) (fun c2 => absurd c2 (by decide)) (fun c2 => ?_)
  refine lv_aload_n hx hb dX12_kin_11 rfl (lv_at hl 1 rfl) ?_
  refine lv_iload_n hx hb dX12_kin_12 rfl (lv_at hl 0 rfl) ?_
  refine cl_i (wc := [(a0, .inr (11, [.ref a1, .int 0, .int 0, .int 0, .ref a2, .int 0, .ref a3, .ref a4, .ref a5, .ref a6, .int 0, .int 0, .int 0, .int 0, .int 0, .int 0, .int 0, .int (-1), .int (-1), .int (-1), .int 0, .int 0, .int 0, .ref a7, .ref a8, .ref a9, .ref a10, .ref a11, .ref a12, .ref a13, .int 0]))]) (wr := [(a1, .inl (k0, 7202, .inl (fun _ => 0)))]) [0] [1] rfl rfl (by decide) (by decide) hK hP hD hS hA (va_runV (As := [.int 2]) (rest := []) ⟨hx, hb, hml, hown, noTs⟩ (c_X12_refuse_2 l dC dI H.size a0 a1 a2 a3 a4 a5 a6 a7 a8 a9 a10 a11 a12 a13) ⟨cbE 1 (wd_1498 hE) (wd_126 hE) (wd_1495 hE) rfl rfl (by decide +kernel) ⟨Nat.le_of_ble_eq_true rfl, Nat.le_of_ble_eq_true rfl⟩, (wd_1497 hE), (wd_54 hE)⟩ ⟨PcE.blind, va_recv hK hP (ci := 11) (q0 := 0) rfl rfl, (pre_E (av := [.ref a0, .int 2]) (wc := [(a0, .inr (11, [.ref a1, .int 0, .int 0, .int 0, .ref a2, .int 0, .ref a3, .ref a4, .ref a5, .ref a6, .int 0, .int 0, .int 0, .int 0, .int 0, .int 0, .int 0, .int (-1), .int (-1), .int (-1), .int 0, .int 0, .int 0, .ref a7, .ref a8, .ref a9, .ref a10, .ref a11, .ref a12, .ref a13, .int 0]))]) (tysc := []) [0] [] rfl (by decide) rfl rfl hK hP hD hE)⟩ rfl rfl hl.1 rfl (lv_room (Nat.le_of_ble_eq_true rfl)) dX12_kin_13 ⟨Nat.le_of_ble_eq_true rfl, Nat.le_of_ble_eq_true rfl⟩) (fun r3 u3 H locs hw3 hK hP hD hS => ?_)
  have hK : va_K (dC, dI) vwCl [(k0, .int)] s := hK
  have hP : va_P (dC, dI) vwCl [(a1, .inl (k0, 7202, .inl (fun _ => 0))), (a0, .inr (11, [.ref a1, .int 2, .int 0, .int 0, .ref a2, .int 0, .ref a3, .ref a4, .ref a5, .ref a6, .int 0, .int 0, .int 0, .int 0, .int 0, .int 0, .int 0, .int (-1), .int (-1), .int (-1), .int 0, .int 0, .int 0, .ref a7, .ref a8, .ref a9, .ref a10, .ref a11, .ref a12, .ref a13, .int 0]))] H := hP
  have hD : va_D A [(a1, .inl (k0, 7202, .inl (fun _ => 0))), (a0, .inr (11, [.ref a1, .int 2, .int 0, .int 0, .ref a2, .int 0, .ref a3, .ref a4, .ref a5, .ref a6, .int 0, .int 0, .int 0, .int 0, .int 0, .int 0, .int 0, .int (-1), .int (-1), .int (-1), .int 0, .int 0, .int 0, .ref a7, .ref a8, .ref a9, .ref a10, .ref a11, .ref a12, .ref a13, .int 0]))] := hD
  subst hw3
  refine W.eq (g2 := F0 m 16 ls [.int (-1)]) rfl ?_
  refine lv_goto (tgt := 37) hx hb dX12_kin_16 (by decide) ?_
  have hP9 := hP.sub (ws' := []) [] rfl
  have hD9 := hD.sub (ws' := []) [] (by decide) rfl
  have hK9 := hK.sub (tys' := []) [] rfl
  refine W.widen (k := 0) (n := 0) (Nat.le_of_ble_eq_true rfl) (Nat.le_of_ble_eq_true rfl) ?_
  exact W.iret (v := -1) hx hb hr (fun t ht hW => ⟨⟨-1, (), rfl, rfl, by rw [ht]; exact hP9, va_K.moved hW.alike hK9, hD9⟩, hS.F ht⟩) hS.2.2 dX12_kin_37

set_option maxHeartbeats 4000000 in
set_option maxRecDepth 100000 in
theorem c_isFrom_0_1 (l : Launch) (dC : Nat → ClassId) (dI : Nat → Nat → Nat) (sz : Nat)  (v0 : Int32)  : Met l yX12_isFrom [.code yX12_isFrom cX12_isFrom 3 (some .boolean)] ({ frames := 0, cells := 0, slots := 0, locals := 0 }) (PcE [.int v0, .int 0, .int 1] sz dC dI [] []) (va_Qi (fun (r : Int32) (u : Unit) => (r = 1 ∧ 0 ≤ v0 ∧ v0 ≤ 1) ∨ (r = 0 ∧ ¬ (0 ≤ v0 ∧ v0 ≤ 1))) (Bw dC dI (va_A [] sz) (fun (u : Unit) => []) (fun (u : Unit) => [])) (va_A [] sz)) 0 0 (va_A [] sz) := by
  refine Met.ofW (cc := cX12_isFrom) (maxL := 3) (ret := (some .boolean)) (by decide) rfl ?_
  intro p e s m args below meth c s₁ B hml hv
  obtain ⟨rfl, hsz, hP, hK, hD0, hE⟩ := hv
  have hx := B.exec
  have hb := B.bytes
  have hr := B.returns
  have hown : s.vm.findClass RX12 = some m.cls := findClass_of_methodNamed B.named
  have hlocks := B.notSynchronized
  subst hsz
  have hD := hD0.self (sz := s.heap.size)
  generalize hAe : va_A [] s.heap.size = A at hD ⊢
  have hA : ∀ q : Nat, s.heap.size ≤ q → A q := fun q h => by rw [← hAe]; exact Or.inr h
  have hS : va_S A s.heap s.heap [] := va_S.rf
  have hl := lv_entry ([.int v0, .int 0, .int 1]) (n := 3) (Nat.le_of_ble_eq_true rfl)
  rw [lg_entry_eq]
  generalize (lg_sl ([.int v0, .int 0, .int 1]) ++ List.replicate (3 - (lg_sl ([.int v0, .int 0, .int 1])).length) Slot.unset).toArray = ls at hl ⊢
  have hl : lv_has ls 3 [(0, .int v0), (1, .int 0), (2, .int 1)] := hl
  refine lv_iload_n hx hb dX12_isFrom_0 rfl (lv_at hl 0 rfl) ?_
  refine lv_iload_n hx hb dX12_isFrom_1 rfl (lv_at hl 1 rfl) ?_
  refine lv_icmp_lt (tgt := 14) hx hb dX12_isFrom_2 (by decide) (fun c1 => ?_) (fun c1 => ?_)
  · refine lv_iconst (v := 0) hx hb dX12_isFrom_14 (by decide) ?_
    have hP9 := hP.sub (ws' := []) [] rfl
    have hD9 := hD.sub (ws' := []) [] (by decide) rfl
    have hK9 := hK.sub (tys' := []) [] rfl
    refine W.widen (k := 0) (n := 0) (Nat.le_of_ble_eq_true rfl) (Nat.le_of_ble_eq_true rfl) ?_
    exact W.zret (v := 0) hx hb hr rfl (fun t ht hW => ⟨⟨0, (), rfl, Or.inr ⟨rfl, (by simp only [i_lt, i_le, i_eq, ti_m9, ti_m1, ti_0, ti_1, ti_2, ti_3, ti_4, ti_5, ti_6, ti_7, ti_9, ti_12, ti_20, ti_99, ti_700] at c1 ⊢; omega)⟩, by rw [ht]; exact hP9, va_K.moved hW.alike hK9, hD9⟩, hS.F ht⟩) hS.2.2 dX12_isFrom_15
  · refine lv_iload_n hx hb dX12_isFrom_5 rfl (lv_at hl 0 rfl) ?_
    refine lv_iload_n hx hb dX12_isFrom_6 rfl (lv_at hl 2 rfl) ?_
    refine lv_icmp_gt (tgt := 14) hx hb dX12_isFrom_7 (by decide) (fun c2 => ?_) (fun c2 => ?_)
    · refine lv_iconst (v := 0) hx hb dX12_isFrom_14 (by decide) ?_
      have hP9 := hP.sub (ws' := []) [] rfl
      have hD9 := hD.sub (ws' := []) [] (by decide) rfl
      have hK9 := hK.sub (tys' := []) [] rfl
      refine W.widen (k := 0) (n := 0) (Nat.le_of_ble_eq_true rfl) (Nat.le_of_ble_eq_true rfl) ?_
      exact W.zret (v := 0) hx hb hr rfl (fun t ht hW => ⟨⟨0, (), rfl, Or.inr ⟨rfl, (by simp only [i_lt, i_le, i_eq, ti_m9, ti_m1, ti_0, ti_1, ti_2, ti_3, ti_4, ti_5, ti_6, ti_7, ti_9, ti_12, ti_20, ti_99, ti_700] at c1 c2 ⊢; omega)⟩, by rw [ht]; exact hP9, va_K.moved hW.alike hK9, hD9⟩, hS.F ht⟩) hS.2.2 dX12_isFrom_15
    · refine lv_iconst (v := 1) hx hb dX12_isFrom_10 (by decide) ?_
      refine lv_goto (tgt := 15) hx hb dX12_isFrom_11 (by decide) ?_
      have hP9 := hP.sub (ws' := []) [] rfl
      have hD9 := hD.sub (ws' := []) [] (by decide) rfl
      have hK9 := hK.sub (tys' := []) [] rfl
      refine W.widen (k := 0) (n := 0) (Nat.le_of_ble_eq_true rfl) (Nat.le_of_ble_eq_true rfl) ?_
      exact W.zret (v := 1) hx hb hr rfl (fun t ht hW => ⟨⟨1, (), rfl, Or.inl ⟨rfl, (by simp only [i_lt, i_le, i_eq, ti_m9, ti_m1, ti_0, ti_1, ti_2, ti_3, ti_4, ti_5, ti_6, ti_7, ti_9, ti_12, ti_20, ti_99, ti_700] at c1 c2 ⊢; omega), (by simp only [i_lt, i_le, i_eq, ti_m9, ti_m1, ti_0, ti_1, ti_2, ti_3, ti_4, ti_5, ti_6, ti_7, ti_9, ti_12, ti_20, ti_99, ti_700] at c1 c2 ⊢; omega)⟩, by rw [ht]; exact hP9, va_K.moved hW.alike hK9, hD9⟩, hS.F ht⟩) hS.2.2 dX12_isFrom_15

set_option maxHeartbeats 4000000 in
set_option maxRecDepth 100000 in
theorem c_X12_kinBy (l : Launch) (dC : Nat → ClassId) (dI : Nat → Nat → Nat) (sz : Nat)  (a0 a1 a2 a3 a4 a5 a6 a7 a8 a9 a10 a11 a12 a13 : Nat) (k0 : ClassId) (v0 : Int32) (v1 : Int32) (v2 : Int32)  : Met l yX12_kinBy [.code yX12_kinBy cX12_kinBy 5 (some .int)] ({ frames := 3, cells := 0, slots := 0, locals := 120 }) (PcE [.ref a0, .int v0, .int v1, .int v2] sz dC dI [(k0, .int)] [(a0, .inr (11, [.ref a1, .int 0, .int 0, .int 0, .ref a2, .int 0, .ref a3, .ref a4, .ref a5, .ref a6, .int 0, .int 0, .int 0, .int 0, .int 0, .int 0, .int 0, .int (-1), .int (-1), .int (-1), .int 0, .int 0, .int 0, .ref a7, .ref a8, .ref a9, .ref a10, .ref a11, .ref a12, .ref a13, .int 0])), (a1, .inl (k0, 7202, .inl (fun _ => 0)))]) (va_Qi (fun (r : Int32) (u : Unit) => r = -1) (Bw dC dI (va_A [(a0, .inr (11, [.ref a1, .int 0, .int 0, .int 0, .ref a2, .int 0, .ref a3, .ref a4, .ref a5, .ref a6, .int 0, .int 0, .int 0, .int 0, .int 0, .int 0, .int 0, .int (-1), .int (-1), .int (-1), .int 0, .int 0, .int 0, .ref a7, .ref a8, .ref a9, .ref a10, .ref a11, .ref a12, .ref a13, .int 0])), (a1, .inl (k0, 7202, .inl (fun _ => 0)))] sz) (fun (u : Unit) => []) (fun (u : Unit) => [])) (va_A [(a0, .inr (11, [.ref a1, .int 0, .int 0, .int 0, .ref a2, .int 0, .ref a3, .ref a4, .ref a5, .ref a6, .int 0, .int 0, .int 0, .int 0, .int 0, .int 0, .int 0, .int (-1), .int (-1), .int (-1), .int 0, .int 0, .int 0, .ref a7, .ref a8, .ref a9, .ref a10, .ref a11, .ref a12, .ref a13, .int 0])), (a1, .inl (k0, 7202, .inl (fun _ => 0)))] sz)) 0 0 (va_A [(a0, .inr (11, [.ref a1, .int 0, .int 0, .int 0, .ref a2, .int 0, .ref a3, .ref a4, .ref a5, .ref a6, .int 0, .int 0, .int 0, .int 0, .int 0, .int 0, .int 0, .int (-1), .int (-1), .int (-1), .int 0, .int 0, .int 0, .ref a7, .ref a8, .ref a9, .ref a10, .ref a11, .ref a12, .ref a13, .int 0])), (a1, .inl (k0, 7202, .inl (fun _ => 0)))] sz) := by
  refine Met.ofW (cc := cX12_kinBy) (maxL := 5) (ret := (some .int)) (by decide) rfl ?_
  intro p e s m args below meth c s₁ B hml hv
  obtain ⟨rfl, hsz, hP, hK, hD0, hE⟩ := hv
  have hx := B.exec
  have hb := B.bytes
  have hr := B.returns
  have hown : s.vm.findClass RX12 = some m.cls := findClass_of_methodNamed B.named
  have hlocks := B.notSynchronized
  subst hsz
  have hD := hD0.self (sz := s.heap.size)
  generalize hAe : va_A [(a0, .inr (11, [.ref a1, .int 0, .int 0, .int 0, .ref a2, .int 0, .ref a3, .ref a4, .ref a5, .ref a6, .int 0, .int 0, .int 0, .int 0, .int 0, .int 0, .int 0, .int (-1), .int (-1), .int (-1), .int 0, .int 0, .int 0, .ref a7, .ref a8, .ref a9, .ref a10, .ref a11, .ref a12, .ref a13, .int 0])), (a1, .inl (k0, 7202, .inl (fun _ => 0)))] s.heap.size = A at hD ⊢
  have hA : ∀ q : Nat, s.heap.size ≤ q → A q := fun q h => by rw [← hAe]; exact Or.inr h
  have hS : va_S A s.heap s.heap [] := va_S.rf
  have hl := lv_entry ([.ref a0, .int v0, .int v1, .int v2]) (n := 5) (Nat.le_of_ble_eq_true rfl)
  rw [lg_entry_eq]
  generalize (lg_sl ([.ref a0, .int v0, .int v1, .int v2]) ++ List.replicate (5 - (lg_sl ([.ref a0, .int v0, .int v1, .int v2])).length) Slot.unset).toArray = ls at hl ⊢
  have hl : lv_has ls 5 [(0, .ref a0), (1, .int v0), (2, .int v1), (3, .int v2)] := hl
  refine lv_iload_n hx hb dX12_kinBy_0 rfl (lv_at hl 3 rfl) ?_
  refine lv_iconst (v := 0) hx hb dX12_kinBy_1 (by decide) ?_
  refine lv_iconst (v := 1) hx hb dX12_kinBy_2 (by decide) ?_
  refine cl_i (wc := []) (wr := [(a0, .inr (11, [.ref a1, .int 0, .int 0, .int 0, .ref a2, .int 0, .ref a3, .ref a4, .ref a5, .ref a6, .int 0, .int 0, .int 0, .int 0, .int 0, .int 0, .int 0, .int (-1), .int (-1), .int (-1), .int 0, .int 0, .int 0, .ref a7, .ref a8, .ref a9, .ref a10, .ref a11, .ref a12, .ref a13, .int 0])), (a1, .inl (k0, 7202, .inl (fun _ => 0)))]) [] [0, 1] rfl rfl (by decide) (by decide) hK hP hD hS hA (va_runS (As := [.int v2, .int 0, .int 1]) (rest := []) ⟨hx, hb, hml, hown, noTs⟩ (c_isFrom_0_1 l dC dI s.heap.size v2) ⟨cbE 3 (wd_1494 hE) (wd_126 hE) (wd_1492 hE) rfl rfl (by decide +kernel) ⟨Nat.le_of_ble_eq_true rfl, Nat.le_of_ble_eq_true rfl⟩, (wd_1493 hE)⟩ ⟨PcE.blind, (pre_E (av := [.int v2, .int 0, .int 1]) (wc := []) (tysc := []) [] [] rfl (by decide) rfl rfl hK hP hD hE)⟩ rfl rfl hl.1 rfl (lv_room (Nat.le_of_ble_eq_true rfl)) dX12_kinBy_3 ⟨Nat.le_of_ble_eq_true rfl, Nat.le_of_ble_eq_true rfl⟩) (fun r1 u1 H locs hw1 hK hP hD hS => ?_)
  have hK : va_K (dC, dI) vwCl [(k0, .int)] s := hK
  have hP : va_P (dC, dI) vwCl [(a0, .inr (11, [.ref a1, .int 0, .int 0, .int 0, .ref a2, .int 0, .ref a3, .ref a4, .ref a5, .ref a6, .int 0, .int 0, .int 0, .int 0, .int 0, .int 0, .int 0, .int (-1), .int (-1), .int (-1), .int 0, .int 0, .int 0, .ref a7, .ref a8, .ref a9, .ref a10, .ref a11, .ref a12, .ref a13, .int 0])), (a1, .inl (k0, 7202, .inl (fun _ => 0)))] H := hP
  have hD : va_D A [(a0, .inr (11, [.ref a1, .int 0, .int 0, .int 0, .ref a2, .int 0, .ref a3, .ref a4, .ref a5, .ref a6, .int 0, .int 0, .int 0, .int 0, .int 0, .int 0, .int 0, .int (-1), .int (-1), .int (-1), .int 0, .int 0, .int 0, .ref a7, .ref a8, .ref a9, .ref a10, .ref a11, .ref a12, .ref a13, .int 0])), (a1, .inl (k0, 7202, .inl (fun _ => 0)))] := hD
  rcases hw1 with ⟨rfl, ha1, hb1⟩ | ⟨rfl, ha1⟩
  · refine W.eq (g2 := F0 m 6 ls [.int 1]) rfl ?_
    refine lv_if_eq (tgt := 18) hx hb dX12_kinBy_6 (by decide) (fun c2 => absurd c2 (by decide)) (fun c2 => ?_)
    refine lv_aload_n hx hb dX12_kinBy_9 rfl (lv_at hl 0 rfl) ?_
    refine lv_iload_n hx hb dX12_kinBy_10 rfl (lv_at hl 1 rfl) ?_
    refine lv_iload_n hx hb dX12_kinBy_11 rfl (lv_at hl 2 rfl) ?_
    refine cl_i (wc := [(a0, .inr (11, [.ref a1, .int 0, .int 0, .int 0, .ref a2, .int 0, .ref a3, .ref a4, .ref a5, .ref a6, .int 0, .int 0, .int 0, .int 0, .int 0, .int 0, .int 0, .int (-1), .int (-1), .int (-1), .int 0, .int 0, .int 0, .ref a7, .ref a8, .ref a9, .ref a10, .ref a11, .ref a12, .ref a13, .int 0])), (a1, .inl (k0, 7202, .inl (fun _ => 0)))]) (wr := []) [0, 1] [] rfl rfl (by decide) (by decide) hK hP hD hS hA (va_runV (As := [.int v0, .int v1]) (rest := []) ⟨hx, hb, hml, hown, noTs⟩ (c_X12_wrongLoops l dC dI H.size a0 a1 a2 a3 a4 a5 a6 a7 a8 a9 a10 a11 a12 a13 k0 v0 v1) ⟨cbE 2 (wd_1800 hE) (wd_126 hE) (wd_1797 hE) rfl rfl (by decide +kernel) ⟨Nat.le_of_ble_eq_true rfl, Nat.le_of_ble_eq_true rfl⟩, (wd_1799 hE), (wd_97 hE)⟩ ⟨PcE.blind, va_recv hK hP (ci := 11) (q0 := 0) rfl rfl, (pre_E (av := [.ref a0, .int v0, .int v1]) (wc := [(a0, .inr (11, [.ref a1, .int 0, .int 0, .int 0, .ref a2, .int 0, .ref a3, .ref a4, .ref a5, .ref a6, .int 0, .int 0, .int 0, .int 0, .int 0, .int 0, .int 0, .int (-1), .int (-1), .int (-1), .int 0, .int 0, .int 0, .ref a7, .ref a8, .ref a9, .ref a10, .ref a11, .ref a12, .ref a13, .int 0])), (a1, .inl (k0, 7202, .inl (fun _ => 0)))]) (tysc := [(k0, .int)]) [0, 1] [0] rfl (by decide) rfl rfl hK hP hD hE)⟩ rfl rfl hl.1 rfl (lv_room (Nat.le_of_ble_eq_true rfl)) dX12_kinBy_12 ⟨Nat.le_of_ble_eq_true rfl, Nat.le_of_ble_eq_true rfl⟩) (fun r3 u3 H locs hw3 hK hP hD hS => ?_)
    have hK : va_K (dC, dI) vwCl [(k0, .int)] s := hK
    have hP : va_P (dC, dI) vwCl [(a0, .inr (11, [.ref a1, .int 0, .int 0, .int 0, .ref a2, .int 0, .ref a3, .ref a4, .ref a5, .ref a6, .int 0, .int 0, .int 0, .int 0, .int 0, .int 0, .int 0, .int (-1), .int (-1), .int (-1), .int 0, .int 0, .int 0, .ref a7, .ref a8, .ref a9, .ref a10, .ref a11, .ref a12, .ref a13, .int 0])), (a1, .inl (k0, 7202, .inl (fun _ => 0)))] H := hP
    have hD : va_D A [(a0, .inr (11, [.ref a1, .int 0, .int 0, .int 0, .ref a2, .int 0, .ref a3, .ref a4, .ref a5, .ref a6, .int 0, .int 0, .int 0, .int 0, .int 0, .int 0, .int 0, .int (-1), .int (-1), .int (-1), .int 0, .int 0, .int 0, .ref a7, .ref a8, .ref a9, .ref a10, .ref a11, .ref a12, .ref a13, .int 0])), (a1, .inl (k0, 7202, .inl (fun _ => 0)))] := hD
    subst hw3
    refine W.eq (g2 := F0 m 15 ls [.int 2]) rfl ?_
    refine lv_goto (tgt := 19) hx hb dX12_kinBy_15 (by decide) ?_
    refine lv_istore (lv' := [(4, .int 2), (0, .ref a0), (1, .int v0), (2, .int v1), (3, .int v2)]) hx hb dX12_kinBy_19 hl (by decide) rfl (fun ls hl => ?_)
    refine lv_iload hx hb dX12_kinBy_21 (lv_at hl 0 rfl) ?_
    refine lv_if_ne (tgt := 38) hx hb dX12_kinBy_23 (by decide) (fun c4 => ?_) (fun c4 => absurd c4 (by decide))
    refine lv_iload hx hb dX12_kinBy_38 (lv_at hl 0 rfl) ?_
    refine lv_if_le (tgt := 52) hx hb dX12_kinBy_40 (by decide) (fun c5 => absurd c5 (by decide)) (fun c5 => ?_)
    refine lv_aload_n hx hb dX12_kinBy_43 rfl (lv_at hl 1 rfl) ?_
    refine lv_iload hx hb dX12_kinBy_44 (lv_at hl 0 rfl) ?_
    refine cl_i (wc := [(a0, .inr (11, [.ref a1, .int 0, .int 0, .int 0, .ref a2, .int 0, .ref a3, .ref a4, .ref a5, .ref a6, .int 0, .int 0, .int 0, .int 0, .int 0, .int 0, .int 0, .int (-1), .int (-1), .int (-1), .int 0, .int 0, .int 0, .ref a7, .ref a8, .ref a9, .ref a10, .ref a11, .ref a12, .ref a13, .int 0]))]) (wr := [(a1, .inl (k0, 7202, .inl (fun _ => 0)))]) [0] [1] rfl rfl (by decide) (by decide) hK hP hD hS hA (va_runV (As := [.int 2]) (rest := []) ⟨hx, hb, hml, hown, noTs⟩ (c_X12_refuse_2 l dC dI H.size a0 a1 a2 a3 a4 a5 a6 a7 a8 a9 a10 a11 a12 a13) ⟨cbE 1 (wd_1498 hE) (wd_126 hE) (wd_1495 hE) rfl rfl (by decide +kernel) ⟨Nat.le_of_ble_eq_true rfl, Nat.le_of_ble_eq_true rfl⟩, (wd_1497 hE), (wd_54 hE)⟩ ⟨PcE.blind, va_recv hK hP (ci := 11) (q0 := 0) rfl rfl, (pre_E (av := [.ref a0, .int 2]) (wc := [(a0, .inr (11, [.ref a1, .int 0, .int 0, .int 0, .ref a2, .int 0, .ref a3, .ref a4, .ref a5, .ref a6, .int 0, .int 0, .int 0, .int 0, .int 0, .int 0, .int 0, .int (-1), .int (-1), .int (-1), .int 0, .int 0, .int 0, .ref a7, .ref a8, .ref a9, .ref a10, .ref a11, .ref a12, .ref a13, .int 0]))]) (tysc := []) [0] [] rfl (by decide) rfl rfl hK hP hD hE)⟩ rfl rfl hl.1 rfl (lv_room (Nat.le_of_ble_eq_true rfl)) dX12_kinBy_46 ⟨Nat.le_of_ble_eq_true rfl, Nat.le_of_ble_eq_true rfl⟩) (fun r6 u6 H locs hw6 hK hP hD hS => ?_)
    have hK : va_K (dC, dI) vwCl [(k0, .int)] s := hK
    have hP : va_P (dC, dI) vwCl [(a1, .inl (k0, 7202, .inl (fun _ => 0))), (a0, .inr (11, [.ref a1, .int 2, .int 0, .int 0, .ref a2, .int 0, .ref a3, .ref a4, .ref a5, .ref a6, .int 0, .int 0, .int 0, .int 0, .int 0, .int 0, .int 0, .int (-1), .int (-1), .int (-1), .int 0, .int 0, .int 0, .ref a7, .ref a8, .ref a9, .ref a10, .ref a11, .ref a12, .ref a13, .int 0]))] H := hP
    have hD : va_D A [(a1, .inl (k0, 7202, .inl (fun _ => 0))), (a0, .inr (11, [.ref a1, .int 2, .int 0, .int 0, .ref a2, .int 0, .ref a3, .ref a4, .ref a5, .ref a6, .int 0, .int 0, .int 0, .int 0, .int 0, .int 0, .int 0, .int (-1), .int (-1), .int (-1), .int 0, .int 0, .int 0, .ref a7, .ref a8, .ref a9, .ref a10, .ref a11, .ref a12, .ref a13, .int 0]))] := hD
    subst hw6
    refine W.eq (g2 := F0 m 49 ls [.int (-1)]) rfl ?_
    refine lv_goto (tgt := 71) hx hb dX12_kinBy_49 (by decide) ?_
    have hP9 := hP.sub (ws' := []) [] rfl
    have hD9 := hD.sub (ws' := []) [] (by decide) rfl
    have hK9 := hK.sub (tys' := []) [] rfl
    refine W.widen (k := 0) (n := 0) (Nat.le_of_ble_eq_true rfl) (Nat.le_of_ble_eq_true rfl) ?_
    exact W.iret (v := -1) hx hb hr (fun t ht hW => ⟨⟨-1, (), rfl, rfl, by rw [ht]; exact hP9, va_K.moved hW.alike hK9, hD9⟩, hS.F ht⟩) hS.2.2 dX12_kinBy_71
  · refine W.eq (g2 := F0 m 6 ls [.int 0]) rfl ?_
    refine lv_if_eq (tgt := 18) hx hb dX12_kinBy_6 (by decide) (fun c7 => ?_) (fun c7 => absurd c7 (by decide))
    refine lv_iconst (v := 1) hx hb dX12_kinBy_18 (by decide) ?_
    refine lv_istore (lv' := [(4, .int 1), (0, .ref a0), (1, .int v0), (2, .int v1), (3, .int v2)]) hx hb dX12_kinBy_19 hl (by decide) rfl (fun ls hl => ?_)
    refine lv_iload hx hb dX12_kinBy_21 (lv_at hl 0 rfl) ?_
    refine lv_if_ne (tgt := 38) hx hb dX12_kinBy_23 (by decide) (fun c8 => ?_) (fun c8 => absurd c8 (by decide))
    refine lv_iload hx hb dX12_kinBy_38 (lv_at hl 0 rfl) ?_
    refine lv_if_le (tgt := 52) hx hb dX12_kinBy_40 (by decide) (fun c9 => absurd c9 (by decide)) (fun c9 => ?_)
    refine lv_aload_n hx hb dX12_kinBy_43 rfl (lv_at hl 1 rfl) ?_
    refine lv_iload hx hb dX12_kinBy_44 (lv_at hl 0 rfl) ?_
    refine cl_i (wc := [(a0, .inr (11, [.ref a1, .int 0, .int 0, .int 0, .ref a2, .int 0, .ref a3, .ref a4, .ref a5, .ref a6, .int 0, .int 0, .int 0, .int 0, .int 0, .int 0, .int 0, .int (-1), .int (-1), .int (-1), .int 0, .int 0, .int 0, .ref a7, .ref a8, .ref a9, .ref a10, .ref a11, .ref a12, .ref a13, .int 0]))]) (wr := [(a1, .inl (k0, 7202, .inl (fun _ => 0)))]) [0] [1] rfl rfl (by decide) (by decide) hK hP hD hS hA (va_runV (As := [.int 1]) (rest := []) ⟨hx, hb, hml, hown, noTs⟩ (c_X12_refuse l dC dI H.size a0 a1 a2 a3 a4 a5 a6 a7 a8 a9 a10 a11 a12 a13) ⟨cbE 1 (wd_1498 hE) (wd_126 hE) (wd_1495 hE) rfl rfl (by decide +kernel) ⟨Nat.le_of_ble_eq_true rfl, Nat.le_of_ble_eq_true rfl⟩, (wd_1497 hE), (wd_54 hE)⟩ ⟨PcE.blind, va_recv hK hP (ci := 11) (q0 := 0) rfl rfl, (pre_E (av := [.ref a0, .int 1]) (wc := [(a0, .inr (11, [.ref a1, .int 0, .int 0, .int 0, .ref a2, .int 0, .ref a3, .ref a4, .ref a5, .ref a6, .int 0, .int 0, .int 0, .int 0, .int 0, .int 0, .int 0, .int (-1), .int (-1), .int (-1), .int 0, .int 0, .int 0, .ref a7, .ref a8, .ref a9, .ref a10, .ref a11, .ref a12, .ref a13, .int 0]))]) (tysc := []) [0] [] rfl (by decide) rfl rfl hK hP hD hE)⟩ rfl rfl hl.1 rfl (lv_room (Nat.le_of_ble_eq_true rfl)) dX12_kinBy_46 ⟨Nat.le_of_ble_eq_true rfl, Nat.le_of_ble_eq_true rfl⟩) (fun r10 u10 H locs hw10 hK hP hD hS => ?_)
    have hK : va_K (dC, dI) vwCl [(k0, .int)] s := hK
    have hP : va_P (dC, dI) vwCl [(a1, .inl (k0, 7202, .inl (fun _ => 0))), (a0, .inr (11, [.ref a1, .int 1, .int 0, .int 0, .ref a2, .int 0, .ref a3, .ref a4, .ref a5, .ref a6, .int 0, .int 0, .int 0, .int 0, .int 0, .int 0, .int 0, .int (-1), .int (-1), .int (-1), .int 0, .int 0, .int 0, .ref a7, .ref a8, .ref a9, .ref a10, .ref a11, .ref a12, .ref a13, .int 0]))] H := hP
    have hD : va_D A [(a1, .inl (k0, 7202, .inl (fun _ => 0))), (a0, .inr (11, [.ref a1, .int 1, .int 0, .int 0, .ref a2, .int 0, .ref a3, .ref a4, .ref a5, .ref a6, .int 0, .int 0, .int 0, .int 0, .int 0, .int 0, .int 0, .int (-1), .int (-1), .int (-1), .int 0, .int 0, .int 0, .ref a7, .ref a8, .ref a9, .ref a10, .ref a11, .ref a12, .ref a13, .int 0]))] := hD
    subst hw10
    refine W.eq (g2 := F0 m 49 ls [.int (-1)]) rfl ?_
    refine lv_goto (tgt := 71) hx hb dX12_kinBy_49 (by decide) ?_
    have hP9 := hP.sub (ws' := []) [] rfl
    have hD9 := hD.sub (ws' := []) [] (by decide) rfl
    have hK9 := hK.sub (tys' := []) [] rfl
    refine W.widen (k := 0) (n := 0) (Nat.le_of_ble_eq_true rfl) (Nat.le_of_ble_eq_true rfl) ?_
    exact W.iret (v := -1) hx hb hr (fun t ht hW => ⟨⟨-1, (), rfl, rfl, by rw [ht]; exact hP9, va_K.moved hW.alike hK9, hD9⟩, hS.F ht⟩) hS.2.2 dX12_kinBy_71

set_option maxHeartbeats 4000000 in
set_option maxRecDepth 100000 in
theorem c_X12_kins (l : Launch) (dC : Nat → ClassId) (dI : Nat → Nat → Nat) (sz : Nat)  (a0 a1 a2 a3 a4 a5 a6 a7 a8 a9 a10 a11 a12 a13 : Nat) (k0 : ClassId) (v0 : Int32)  : Met l yX12_kins [.code yX12_kins cX12_kins 5 (some .int)] ({ frames := 3, cells := 0, slots := 0, locals := 120 }) (PcE [.ref a0, .int v0] sz dC dI [(k0, .int)] [(a0, .inr (11, [.ref a1, .int 0, .int 0, .int 0, .ref a2, .int 0, .ref a3, .ref a4, .ref a5, .ref a6, .int 0, .int 0, .int 0, .int 0, .int 0, .int 0, .int 0, .int (-1), .int (-1), .int (-1), .int 0, .int 0, .int 0, .ref a7, .ref a8, .ref a9, .ref a10, .ref a11, .ref a12, .ref a13, .int 0])), (a1, .inl (k0, 7202, .inl (fun _ => 0)))]) (va_Qi (fun (r : Int32) (u : Unit) => r = -1) (Bw dC dI (va_A [(a0, .inr (11, [.ref a1, .int 0, .int 0, .int 0, .ref a2, .int 0, .ref a3, .ref a4, .ref a5, .ref a6, .int 0, .int 0, .int 0, .int 0, .int 0, .int 0, .int 0, .int (-1), .int (-1), .int (-1), .int 0, .int 0, .int 0, .ref a7, .ref a8, .ref a9, .ref a10, .ref a11, .ref a12, .ref a13, .int 0])), (a1, .inl (k0, 7202, .inl (fun _ => 0)))] sz) (fun (u : Unit) => []) (fun (u : Unit) => [])) (va_A [(a0, .inr (11, [.ref a1, .int 0, .int 0, .int 0, .ref a2, .int 0, .ref a3, .ref a4, .ref a5, .ref a6, .int 0, .int 0, .int 0, .int 0, .int 0, .int 0, .int 0, .int (-1), .int (-1), .int (-1), .int 0, .int 0, .int 0, .ref a7, .ref a8, .ref a9, .ref a10, .ref a11, .ref a12, .ref a13, .int 0])), (a1, .inl (k0, 7202, .inl (fun _ => 0)))] sz)) 0 0 (va_A [(a0, .inr (11, [.ref a1, .int 0, .int 0, .int 0, .ref a2, .int 0, .ref a3, .ref a4, .ref a5, .ref a6, .int 0, .int 0, .int 0, .int 0, .int 0, .int 0, .int 0, .int (-1), .int (-1), .int (-1), .int 0, .int 0, .int 0, .ref a7, .ref a8, .ref a9, .ref a10, .ref a11, .ref a12, .ref a13, .int 0])), (a1, .inl (k0, 7202, .inl (fun _ => 0)))] sz) := by
  refine Met.ofW (cc := cX12_kins) (maxL := 5) (ret := (some .int)) (by decide) rfl ?_
  intro p e s m args below meth c s₁ B hml hv
  obtain ⟨rfl, hsz, hP, hK, hD0, hE⟩ := hv
  have hx := B.exec
  have hb := B.bytes
  have hr := B.returns
  have hown : s.vm.findClass RX12 = some m.cls := findClass_of_methodNamed B.named
  have hlocks := B.notSynchronized
  subst hsz
  have hD := hD0.self (sz := s.heap.size)
  generalize hAe : va_A [(a0, .inr (11, [.ref a1, .int 0, .int 0, .int 0, .ref a2, .int 0, .ref a3, .ref a4, .ref a5, .ref a6, .int 0, .int 0, .int 0, .int 0, .int 0, .int 0, .int 0, .int (-1), .int (-1), .int (-1), .int 0, .int 0, .int 0, .ref a7, .ref a8, .ref a9, .ref a10, .ref a11, .ref a12, .ref a13, .int 0])), (a1, .inl (k0, 7202, .inl (fun _ => 0)))] s.heap.size = A at hD ⊢
  have hA : ∀ q : Nat, s.heap.size ≤ q → A q := fun q h => by rw [← hAe]; exact Or.inr h
  have hS : va_S A s.heap s.heap [] := va_S.rf
  have hl := lv_entry ([.ref a0, .int v0]) (n := 5) (Nat.le_of_ble_eq_true rfl)
  rw [lg_entry_eq]
  generalize (lg_sl ([.ref a0, .int v0]) ++ List.replicate (5 - (lg_sl ([.ref a0, .int v0])).length) Slot.unset).toArray = ls at hl ⊢
  have hl : lv_has ls 5 [(0, .ref a0), (1, .int v0)] := hl
  refine lv_aload_n hx hb dX12_kins_0 rfl (lv_at hl 0 rfl) ?_
  refine lv_iload_n hx hb dX12_kins_1 rfl (lv_at hl 1 rfl) ?_
  refine cl_i (wc := [(a0, .inr (11, [.ref a1, .int 0, .int 0, .int 0, .ref a2, .int 0, .ref a3, .ref a4, .ref a5, .ref a6, .int 0, .int 0, .int 0, .int 0, .int 0, .int 0, .int 0, .int (-1), .int (-1), .int (-1), .int 0, .int 0, .int 0, .ref a7, .ref a8, .ref a9, .ref a10, .ref a11, .ref a12, .ref a13, .int 0])), (a1, .inl (k0, 7202, .inl (fun _ => 0)))]) (wr := []) [0, 1] [] rfl rfl (by decide) (by decide) hK hP hD hS hA (va_runV (As := [.int v0]) (rest := []) ⟨hx, hb, hml, hown, noTs⟩ (c_X12_wrongLoop l dC dI s.heap.size a0 a1 a2 a3 a4 a5 a6 a7 a8 a9 a10 a11 a12 a13 k0 v0) ⟨cbE 1 (wd_1781 hE) (wd_126 hE) (wd_1778 hE) rfl rfl (by decide +kernel) ⟨Nat.le_of_ble_eq_true rfl, Nat.le_of_ble_eq_true rfl⟩, (wd_1780 hE), (wd_95 hE)⟩ ⟨PcE.blind, va_recv hK hP (ci := 11) (q0 := 0) rfl rfl, (pre_E (av := [.ref a0, .int v0]) (wc := [(a0, .inr (11, [.ref a1, .int 0, .int 0, .int 0, .ref a2, .int 0, .ref a3, .ref a4, .ref a5, .ref a6, .int 0, .int 0, .int 0, .int 0, .int 0, .int 0, .int 0, .int (-1), .int (-1), .int (-1), .int 0, .int 0, .int 0, .ref a7, .ref a8, .ref a9, .ref a10, .ref a11, .ref a12, .ref a13, .int 0])), (a1, .inl (k0, 7202, .inl (fun _ => 0)))]) (tysc := [(k0, .int)]) [0, 1] [0] rfl (by decide) rfl rfl hK hP hD hE)⟩ rfl rfl hl.1 rfl (lv_room (Nat.le_of_ble_eq_true rfl)) dX12_kins_2 ⟨Nat.le_of_ble_eq_true rfl, Nat.le_of_ble_eq_true rfl⟩) (fun r1 u1 H locs hw1 hK hP hD hS => ?_)
  have hK : va_K (dC, dI) vwCl [(k0, .int)] s := hK
  have hP : va_P (dC, dI) vwCl [(a0, .inr (11, [.ref a1, .int 0, .int 0, .int 0, .ref a2, .int 0, .ref a3, .ref a4, .ref a5, .ref a6, .int 0, .int 0, .int 0, .int 0, .int 0, .int 0, .int 0, .int (-1), .int (-1), .int (-1), .int 0, .int 0, .int 0, .ref a7, .ref a8, .ref a9, .ref a10, .ref a11, .ref a12, .ref a13, .int 0])), (a1, .inl (k0, 7202, .inl (fun _ => 0)))] H := hP
  have hD : va_D A [(a0, .inr (11, [.ref a1, .int 0, .int 0, .int 0, .ref a2, .int 0, .ref a3, .ref a4, .ref a5, .ref a6, .int 0, .int 0, .int 0, .int 0, .int 0, .int 0, .int 0, .int (-1), .int (-1), .int (-1), .int 0, .int 0, .int 0, .ref a7, .ref a8, .ref a9, .ref a10, .ref a11, .ref a12, .ref a13, .int 0])), (a1, .inl (k0, 7202, .inl (fun _ => 0)))] := hD
  subst hw1
  refine W.eq (g2 := F0 m 5 ls [.int 2]) rfl ?_
  refine lv_istore_n (lv' := [(2, .int 2), (0, .ref a0), (1, .int v0)]) hx hb dX12_kins_5 rfl hl (by decide) rfl (fun ls hl => ?_)
  refine lv_iload_n hx hb dX12_kins_6 rfl (lv_at hl 0 rfl) ?_
  refine lv_if_le (tgt := 16) hx hb dX12_kins_7 (by decide) (fun c2 => absurd c2 (by decide)) (fun c2 => ?_)
  refine lv_aload_n hx hb dX12_kins_10 rfl (lv_at hl 1 rfl) ?_
  refine lv_iload_n hx hb dX12_kins_11 rfl (lv_at hl 0 rfl) ?_
  refine cl_i (wc := [(a0, .inr (11, [.ref a1, .int 0, .int 0, .int 0, .ref a2, .int 0, .ref a3, .ref a4, .ref a5, .ref a6, .int 0, .int 0, .int 0, .int 0, .int 0, .int 0, .int 0, .int (-1), .int (-1), .int (-1), .int 0, .int 0, .int 0, .ref a7, .ref a8, .ref a9, .ref a10, .ref a11, .ref a12, .ref a13, .int 0]))]) (wr := [(a1, .inl (k0, 7202, .inl (fun _ => 0)))]) [0] [1] rfl rfl (by decide) (by decide) hK hP hD hS hA (va_runV (As := [.int 2]) (rest := []) ⟨hx, hb, hml, hown, noTs⟩ (c_X12_refuse_2 l dC dI H.size a0 a1 a2 a3 a4 a5 a6 a7 a8 a9 a10 a11 a12 a13) ⟨cbE 1 (wd_1498 hE) (wd_126 hE) (wd_1495 hE) rfl rfl (by decide +kernel) ⟨Nat.le_of_ble_eq_true rfl, Nat.le_of_ble_eq_true rfl⟩, (wd_1497 hE), (wd_54 hE)⟩ ⟨PcE.blind, va_recv hK hP (ci := 11) (q0 := 0) rfl rfl, (pre_E (av := [.ref a0, .int 2]) (wc := [(a0, .inr (11, [.ref a1, .int 0, .int 0, .int 0, .ref a2, .int 0, .ref a3, .ref a4, .ref a5, .ref a6, .int 0, .int 0, .int 0, .int 0, .int 0, .int 0, .int 0, .int (-1), .int (-1), .int (-1), .int 0, .int 0, .int 0, .ref a7, .ref a8, .ref a9, .ref a10, .ref a11, .ref a12, .ref a13, .int 0]))]) (tysc := []) [0] [] rfl (by decide) rfl rfl hK hP hD hE)⟩ rfl rfl hl.1 rfl (lv_room (Nat.le_of_ble_eq_true rfl)) dX12_kins_12 ⟨Nat.le_of_ble_eq_true rfl, Nat.le_of_ble_eq_true rfl⟩) (fun r3 u3 H locs hw3 hK hP hD hS => ?_)
  have hK : va_K (dC, dI) vwCl [(k0, .int)] s := hK
  have hP : va_P (dC, dI) vwCl [(a1, .inl (k0, 7202, .inl (fun _ => 0))), (a0, .inr (11, [.ref a1, .int 2, .int 0, .int 0, .ref a2, .int 0, .ref a3, .ref a4, .ref a5, .ref a6, .int 0, .int 0, .int 0, .int 0, .int 0, .int 0, .int 0, .int (-1), .int (-1), .int (-1), .int 0, .int 0, .int 0, .ref a7, .ref a8, .ref a9, .ref a10, .ref a11, .ref a12, .ref a13, .int 0]))] H := hP
  have hD : va_D A [(a1, .inl (k0, 7202, .inl (fun _ => 0))), (a0, .inr (11, [.ref a1, .int 2, .int 0, .int 0, .ref a2, .int 0, .ref a3, .ref a4, .ref a5, .ref a6, .int 0, .int 0, .int 0, .int 0, .int 0, .int 0, .int 0, .int (-1), .int (-1), .int (-1), .int 0, .int 0, .int 0, .ref a7, .ref a8, .ref a9, .ref a10, .ref a11, .ref a12, .ref a13, .int 0]))] := hD
  subst hw3
  refine W.eq (g2 := F0 m 15 ls [.int (-1)]) rfl ?_
  have hP9 := hP.sub (ws' := []) [] rfl
  have hD9 := hD.sub (ws' := []) [] (by decide) rfl
  have hK9 := hK.sub (tys' := []) [] rfl
  refine W.widen (k := 0) (n := 0) (Nat.le_of_ble_eq_true rfl) (Nat.le_of_ble_eq_true rfl) ?_
  exact W.iret (v := -1) hx hb hr (fun t ht hW => ⟨⟨-1, (), rfl, rfl, by rw [ht]; exact hP9, va_K.moved hW.alike hK9, hD9⟩, hS.F ht⟩) hS.2.2 dX12_kins_15

set_option maxHeartbeats 4000000 in
set_option maxRecDepth 100000 in
theorem c_X12_net (l : Launch) (dC : Nat → ClassId) (dI : Nat → Nat → Nat) (sz : Nat)  (a0 a1 a2 a3 a4 a5 a6 a7 a8 a9 a10 a11 a12 a13 : Nat) (k0 : ClassId) (v0 : Int32) (v1 : Int32)  : Met l yX12_net [.code yX12_net cX12_net 5 (some .int)] ({ frames := 2, cells := 0, slots := 0, locals := 80 }) (PcE [.ref a0, .int v0, .int v1] sz dC dI [(k0, .int)] [(a0, .inr (11, [.ref a1, .int 0, .int 0, .int 0, .ref a2, .int 0, .ref a3, .ref a4, .ref a5, .ref a6, .int 0, .int 0, .int 0, .int 0, .int 0, .int 0, .int 0, .int (-1), .int (-1), .int (-1), .int 0, .int 0, .int 0, .ref a7, .ref a8, .ref a9, .ref a10, .ref a11, .ref a12, .ref a13, .int 0])), (a1, .inl (k0, 7202, .inl (fun _ => 0)))]) (va_Qi (fun (r : Int32) (u : Unit) => r = -1) (Bw dC dI (va_A [(a0, .inr (11, [.ref a1, .int 0, .int 0, .int 0, .ref a2, .int 0, .ref a3, .ref a4, .ref a5, .ref a6, .int 0, .int 0, .int 0, .int 0, .int 0, .int 0, .int 0, .int (-1), .int (-1), .int (-1), .int 0, .int 0, .int 0, .ref a7, .ref a8, .ref a9, .ref a10, .ref a11, .ref a12, .ref a13, .int 0])), (a1, .inl (k0, 7202, .inl (fun _ => 0)))] sz) (fun (u : Unit) => []) (fun (u : Unit) => [])) (va_A [(a0, .inr (11, [.ref a1, .int 0, .int 0, .int 0, .ref a2, .int 0, .ref a3, .ref a4, .ref a5, .ref a6, .int 0, .int 0, .int 0, .int 0, .int 0, .int 0, .int 0, .int (-1), .int (-1), .int (-1), .int 0, .int 0, .int 0, .ref a7, .ref a8, .ref a9, .ref a10, .ref a11, .ref a12, .ref a13, .int 0])), (a1, .inl (k0, 7202, .inl (fun _ => 0)))] sz)) 0 0 (va_A [(a0, .inr (11, [.ref a1, .int 0, .int 0, .int 0, .ref a2, .int 0, .ref a3, .ref a4, .ref a5, .ref a6, .int 0, .int 0, .int 0, .int 0, .int 0, .int 0, .int 0, .int (-1), .int (-1), .int (-1), .int 0, .int 0, .int 0, .ref a7, .ref a8, .ref a9, .ref a10, .ref a11, .ref a12, .ref a13, .int 0])), (a1, .inl (k0, 7202, .inl (fun _ => 0)))] sz) := by
  refine Met.ofW (cc := cX12_net) (maxL := 5) (ret := (some .int)) (by decide) rfl ?_
  intro p e s m args below meth c s₁ B hml hv
  obtain ⟨rfl, hsz, hP, hK, hD0, hE⟩ := hv
  have hx := B.exec
  have hb := B.bytes
  have hr := B.returns
  have hown : s.vm.findClass RX12 = some m.cls := findClass_of_methodNamed B.named
  have hlocks := B.notSynchronized
  subst hsz
  have hD := hD0.self (sz := s.heap.size)
  generalize hAe : va_A [(a0, .inr (11, [.ref a1, .int 0, .int 0, .int 0, .ref a2, .int 0, .ref a3, .ref a4, .ref a5, .ref a6, .int 0, .int 0, .int 0, .int 0, .int 0, .int 0, .int 0, .int (-1), .int (-1), .int (-1), .int 0, .int 0, .int 0, .ref a7, .ref a8, .ref a9, .ref a10, .ref a11, .ref a12, .ref a13, .int 0])), (a1, .inl (k0, 7202, .inl (fun _ => 0)))] s.heap.size = A at hD ⊢
  have hA : ∀ q : Nat, s.heap.size ≤ q → A q := fun q h => by rw [← hAe]; exact Or.inr h
  have hS : va_S A s.heap s.heap [] := va_S.rf
  have hl := lv_entry ([.ref a0, .int v0, .int v1]) (n := 5) (Nat.le_of_ble_eq_true rfl)
  rw [lg_entry_eq]
  generalize (lg_sl ([.ref a0, .int v0, .int v1]) ++ List.replicate (5 - (lg_sl ([.ref a0, .int v0, .int v1])).length) Slot.unset).toArray = ls at hl ⊢
  have hl : lv_has ls 5 [(0, .ref a0), (1, .int v0), (2, .int v1)] := hl
  refine lv_aload_n hx hb dX12_net_0 rfl (lv_at hl 0 rfl) ?_
  refine lv_iload_n hx hb dX12_net_1 rfl (lv_at hl 1 rfl) ?_
  refine cl_i (wc := [(a0, .inr (11, [.ref a1, .int 0, .int 0, .int 0, .ref a2, .int 0, .ref a3, .ref a4, .ref a5, .ref a6, .int 0, .int 0, .int 0, .int 0, .int 0, .int 0, .int 0, .int (-1), .int (-1), .int (-1), .int 0, .int 0, .int 0, .ref a7, .ref a8, .ref a9, .ref a10, .ref a11, .ref a12, .ref a13, .int 0])), (a1, .inl (k0, 7202, .inl (fun _ => 0)))]) (wr := []) [0, 1] [] rfl rfl (by decide) (by decide) hK hP hD hS hA (va_runV (As := [.int v0]) (rest := []) ⟨hx, hb, hml, hown, noTs⟩ (c_X12_isWord l dC dI s.heap.size a0 a1 a2 a3 a4 a5 a6 a7 a8 a9 a10 a11 a12 a13 k0 v0) ⟨cbE 1 (wd_1653 hE) (wd_126 hE) (wd_1650 hE) rfl rfl (by decide +kernel) ⟨Nat.le_of_ble_eq_true rfl, Nat.le_of_ble_eq_true rfl⟩, (wd_1652 hE), (wd_83 hE)⟩ ⟨PcE.blind, va_recv hK hP (ci := 11) (q0 := 0) rfl rfl, (pre_E (av := [.ref a0, .int v0]) (wc := [(a0, .inr (11, [.ref a1, .int 0, .int 0, .int 0, .ref a2, .int 0, .ref a3, .ref a4, .ref a5, .ref a6, .int 0, .int 0, .int 0, .int 0, .int 0, .int 0, .int 0, .int (-1), .int (-1), .int (-1), .int 0, .int 0, .int 0, .ref a7, .ref a8, .ref a9, .ref a10, .ref a11, .ref a12, .ref a13, .int 0])), (a1, .inl (k0, 7202, .inl (fun _ => 0)))]) (tysc := [(k0, .int)]) [0, 1] [0] rfl (by decide) rfl rfl hK hP hD hE)⟩ rfl rfl hl.1 rfl (lv_room (Nat.le_of_ble_eq_true rfl)) dX12_net_2 ⟨Nat.le_of_ble_eq_true rfl, Nat.le_of_ble_eq_true rfl⟩) (fun r1 u1 H locs hw1 hK hP hD hS => ?_)
  have hK : va_K (dC, dI) vwCl [(k0, .int)] s := hK
  have hP : va_P (dC, dI) vwCl [(a0, .inr (11, [.ref a1, .int 0, .int 0, .int 0, .ref a2, .int 0, .ref a3, .ref a4, .ref a5, .ref a6, .int 0, .int 0, .int 0, .int 0, .int 0, .int 0, .int 0, .int (-1), .int (-1), .int (-1), .int 0, .int 0, .int 0, .ref a7, .ref a8, .ref a9, .ref a10, .ref a11, .ref a12, .ref a13, .int 0])), (a1, .inl (k0, 7202, .inl (fun _ => 0)))] H := hP
  have hD : va_D A [(a0, .inr (11, [.ref a1, .int 0, .int 0, .int 0, .ref a2, .int 0, .ref a3, .ref a4, .ref a5, .ref a6, .int 0, .int 0, .int 0, .int 0, .int 0, .int 0, .int 0, .int (-1), .int (-1), .int (-1), .int 0, .int 0, .int 0, .ref a7, .ref a8, .ref a9, .ref a10, .ref a11, .ref a12, .ref a13, .int 0])), (a1, .inl (k0, 7202, .inl (fun _ => 0)))] := hD
  subst hw1
  refine W.eq (g2 := F0 m 5 ls [.int 0]) rfl ?_
  refine lv_if_eq (tgt := 16) hx hb dX12_net_5 (by decide) (fun c2 => ?_) (fun c2 => absurd c2 (by decide))
  refine lv_aload_n hx hb dX12_net_16 rfl (lv_at hl 0 rfl) ?_
  refine lv_iconst (v := 2) hx hb dX12_net_17 (by decide) ?_
  refine cl_i (wc := [(a0, .inr (11, [.ref a1, .int 0, .int 0, .int 0, .ref a2, .int 0, .ref a3, .ref a4, .ref a5, .ref a6, .int 0, .int 0, .int 0, .int 0, .int 0, .int 0, .int 0, .int (-1), .int (-1), .int (-1), .int 0, .int 0, .int 0, .ref a7, .ref a8, .ref a9, .ref a10, .ref a11, .ref a12, .ref a13, .int 0]))]) (wr := [(a1, .inl (k0, 7202, .inl (fun _ => 0)))]) [0] [1] rfl rfl (by decide) (by decide) hK hP hD hS hA (va_runV (As := [.int 2]) (rest := []) ⟨hx, hb, hml, hown, noTs⟩ (c_X12_refuse_2 l dC dI H.size a0 a1 a2 a3 a4 a5 a6 a7 a8 a9 a10 a11 a12 a13) ⟨cbE 1 (wd_1498 hE) (wd_126 hE) (wd_1495 hE) rfl rfl (by decide +kernel) ⟨Nat.le_of_ble_eq_true rfl, Nat.le_of_ble_eq_true rfl⟩, (wd_1497 hE), (wd_54 hE)⟩ ⟨PcE.blind, va_recv hK hP (ci := 11) (q0 := 0) rfl rfl, (pre_E (av := [.ref a0, .int 2]) (wc := [(a0, .inr (11, [.ref a1, .int 0, .int 0, .int 0, .ref a2, .int 0, .ref a3, .ref a4, .ref a5, .ref a6, .int 0, .int 0, .int 0, .int 0, .int 0, .int 0, .int 0, .int (-1), .int (-1), .int (-1), .int 0, .int 0, .int 0, .ref a7, .ref a8, .ref a9, .ref a10, .ref a11, .ref a12, .ref a13, .int 0]))]) (tysc := []) [0] [] rfl (by decide) rfl rfl hK hP hD hE)⟩ rfl rfl hl.1 rfl (lv_room (Nat.le_of_ble_eq_true rfl)) dX12_net_18 ⟨Nat.le_of_ble_eq_true rfl, Nat.le_of_ble_eq_true rfl⟩) (fun r3 u3 H locs hw3 hK hP hD hS => ?_)
  have hK : va_K (dC, dI) vwCl [(k0, .int)] s := hK
  have hP : va_P (dC, dI) vwCl [(a1, .inl (k0, 7202, .inl (fun _ => 0))), (a0, .inr (11, [.ref a1, .int 2, .int 0, .int 0, .ref a2, .int 0, .ref a3, .ref a4, .ref a5, .ref a6, .int 0, .int 0, .int 0, .int 0, .int 0, .int 0, .int 0, .int (-1), .int (-1), .int (-1), .int 0, .int 0, .int 0, .ref a7, .ref a8, .ref a9, .ref a10, .ref a11, .ref a12, .ref a13, .int 0]))] H := hP
  have hD : va_D A [(a1, .inl (k0, 7202, .inl (fun _ => 0))), (a0, .inr (11, [.ref a1, .int 2, .int 0, .int 0, .ref a2, .int 0, .ref a3, .ref a4, .ref a5, .ref a6, .int 0, .int 0, .int 0, .int 0, .int 0, .int 0, .int 0, .int (-1), .int (-1), .int (-1), .int 0, .int 0, .int 0, .ref a7, .ref a8, .ref a9, .ref a10, .ref a11, .ref a12, .ref a13, .int 0]))] := hD
  subst hw3
  refine W.eq (g2 := F0 m 21 ls [.int (-1)]) rfl ?_
  have hP9 := hP.sub (ws' := []) [] rfl
  have hD9 := hD.sub (ws' := []) [] (by decide) rfl
  have hK9 := hK.sub (tys' := []) [] rfl
  refine W.widen (k := 0) (n := 0) (Nat.le_of_ble_eq_true rfl) (Nat.le_of_ble_eq_true rfl) ?_
  exact W.iret (v := -1) hx hb hr (fun t ht hW => ⟨⟨-1, (), rfl, rfl, by rw [ht]; exact hP9, va_K.moved hW.alike hK9, hD9⟩, hS.F ht⟩) hS.2.2 dX12_net_21

set_option maxHeartbeats 4000000 in
set_option maxRecDepth 100000 in
theorem c_X12_central (l : Launch) (dC : Nat → ClassId) (dI : Nat → Nat → Nat) (sz : Nat)  (a0 a1 a2 a3 a4 a5 a6 a7 a8 a9 a10 a11 a12 a13 : Nat) (k0 : ClassId) (v0 : Int32) (v1 : Int32)  : Met l yX12_central [.code yX12_central cX12_central 3 (some .int)] ({ frames := 2, cells := 0, slots := 0, locals := 80 }) (PcE [.ref a0, .int v0, .int v1] sz dC dI [(k0, .int)] [(a0, .inr (11, [.ref a1, .int 0, .int 0, .int 0, .ref a2, .int 0, .ref a3, .ref a4, .ref a5, .ref a6, .int 0, .int 0, .int 0, .int 0, .int 0, .int 0, .int 0, .int (-1), .int (-1), .int (-1), .int 0, .int 0, .int 0, .ref a7, .ref a8, .ref a9, .ref a10, .ref a11, .ref a12, .ref a13, .int 0])), (a1, .inl (k0, 7202, .inl (fun _ => 0)))]) (va_Qi (fun (r : Int32) (u : Unit) => r = -1) (Bw dC dI (va_A [(a0, .inr (11, [.ref a1, .int 0, .int 0, .int 0, .ref a2, .int 0, .ref a3, .ref a4, .ref a5, .ref a6, .int 0, .int 0, .int 0, .int 0, .int 0, .int 0, .int 0, .int (-1), .int (-1), .int (-1), .int 0, .int 0, .int 0, .ref a7, .ref a8, .ref a9, .ref a10, .ref a11, .ref a12, .ref a13, .int 0])), (a1, .inl (k0, 7202, .inl (fun _ => 0)))] sz) (fun (u : Unit) => []) (fun (u : Unit) => [])) (va_A [(a0, .inr (11, [.ref a1, .int 0, .int 0, .int 0, .ref a2, .int 0, .ref a3, .ref a4, .ref a5, .ref a6, .int 0, .int 0, .int 0, .int 0, .int 0, .int 0, .int 0, .int (-1), .int (-1), .int (-1), .int 0, .int 0, .int 0, .ref a7, .ref a8, .ref a9, .ref a10, .ref a11, .ref a12, .ref a13, .int 0])), (a1, .inl (k0, 7202, .inl (fun _ => 0)))] sz)) 0 0 (va_A [(a0, .inr (11, [.ref a1, .int 0, .int 0, .int 0, .ref a2, .int 0, .ref a3, .ref a4, .ref a5, .ref a6, .int 0, .int 0, .int 0, .int 0, .int 0, .int 0, .int 0, .int (-1), .int (-1), .int (-1), .int 0, .int 0, .int 0, .ref a7, .ref a8, .ref a9, .ref a10, .ref a11, .ref a12, .ref a13, .int 0])), (a1, .inl (k0, 7202, .inl (fun _ => 0)))] sz) := by
  refine Met.ofW (cc := cX12_central) (maxL := 3) (ret := (some .int)) (by decide) rfl ?_
  intro p e s m args below meth c s₁ B hml hv
  obtain ⟨rfl, hsz, hP, hK, hD0, hE⟩ := hv
  have hx := B.exec
  have hb := B.bytes
  have hr := B.returns
  have hown : s.vm.findClass RX12 = some m.cls := findClass_of_methodNamed B.named
  have hlocks := B.notSynchronized
  subst hsz
  have hD := hD0.self (sz := s.heap.size)
  generalize hAe : va_A [(a0, .inr (11, [.ref a1, .int 0, .int 0, .int 0, .ref a2, .int 0, .ref a3, .ref a4, .ref a5, .ref a6, .int 0, .int 0, .int 0, .int 0, .int 0, .int 0, .int 0, .int (-1), .int (-1), .int (-1), .int 0, .int 0, .int 0, .ref a7, .ref a8, .ref a9, .ref a10, .ref a11, .ref a12, .ref a13, .int 0])), (a1, .inl (k0, 7202, .inl (fun _ => 0)))] s.heap.size = A at hD ⊢
  have hA : ∀ q : Nat, s.heap.size ≤ q → A q := fun q h => by rw [← hAe]; exact Or.inr h
  have hS : va_S A s.heap s.heap [] := va_S.rf
  have hl := lv_entry ([.ref a0, .int v0, .int v1]) (n := 3) (Nat.le_of_ble_eq_true rfl)
  rw [lg_entry_eq]
  generalize (lg_sl ([.ref a0, .int v0, .int v1]) ++ List.replicate (3 - (lg_sl ([.ref a0, .int v0, .int v1])).length) Slot.unset).toArray = ls at hl ⊢
  have hl : lv_has ls 3 [(0, .ref a0), (1, .int v0), (2, .int v1)] := hl
  refine lv_iload_n hx hb dX12_central_0 rfl (lv_at hl 2 rfl) ?_
  refine lv_if_ge (tgt := 10) hx hb dX12_central_1 (by decide) (fun c1 => ?_) (fun c1 => ?_)
  · refine lv_aload_n hx hb dX12_central_10 rfl (lv_at hl 0 rfl) ?_
    refine lv_iload_n hx hb dX12_central_11 rfl (lv_at hl 1 rfl) ?_
    refine cl_i (wc := [(a0, .inr (11, [.ref a1, .int 0, .int 0, .int 0, .ref a2, .int 0, .ref a3, .ref a4, .ref a5, .ref a6, .int 0, .int 0, .int 0, .int 0, .int 0, .int 0, .int 0, .int (-1), .int (-1), .int (-1), .int 0, .int 0, .int 0, .ref a7, .ref a8, .ref a9, .ref a10, .ref a11, .ref a12, .ref a13, .int 0])), (a1, .inl (k0, 7202, .inl (fun _ => 0)))]) (wr := []) [0, 1] [] rfl rfl (by decide) (by decide) hK hP hD hS hA (va_runV (As := [.int v0]) (rest := []) ⟨hx, hb, hml, hown, noTs⟩ (c_X12_isVertex l dC dI s.heap.size a0 a1 a2 a3 a4 a5 a6 a7 a8 a9 a10 a11 a12 a13 k0 v0) ⟨cbE 1 (wd_1560 hE) (wd_126 hE) (wd_1557 hE) rfl rfl (by decide +kernel) ⟨Nat.le_of_ble_eq_true rfl, Nat.le_of_ble_eq_true rfl⟩, (wd_1559 hE), (wd_67 hE)⟩ ⟨PcE.blind, va_recv hK hP (ci := 11) (q0 := 0) rfl rfl, (pre_E (av := [.ref a0, .int v0]) (wc := [(a0, .inr (11, [.ref a1, .int 0, .int 0, .int 0, .ref a2, .int 0, .ref a3, .ref a4, .ref a5, .ref a6, .int 0, .int 0, .int 0, .int 0, .int 0, .int 0, .int 0, .int (-1), .int (-1), .int (-1), .int 0, .int 0, .int 0, .ref a7, .ref a8, .ref a9, .ref a10, .ref a11, .ref a12, .ref a13, .int 0])), (a1, .inl (k0, 7202, .inl (fun _ => 0)))]) (tysc := [(k0, .int)]) [0, 1] [0] rfl (by decide) rfl rfl hK hP hD hE)⟩ rfl rfl hl.1 rfl (lv_room (Nat.le_of_ble_eq_true rfl)) dX12_central_12 ⟨Nat.le_of_ble_eq_true rfl, Nat.le_of_ble_eq_true rfl⟩) (fun r2 u2 H locs hw2 hK hP hD hS => ?_)
    have hK : va_K (dC, dI) vwCl [(k0, .int)] s := hK
    have hP : va_P (dC, dI) vwCl [(a0, .inr (11, [.ref a1, .int 0, .int 0, .int 0, .ref a2, .int 0, .ref a3, .ref a4, .ref a5, .ref a6, .int 0, .int 0, .int 0, .int 0, .int 0, .int 0, .int 0, .int (-1), .int (-1), .int (-1), .int 0, .int 0, .int 0, .ref a7, .ref a8, .ref a9, .ref a10, .ref a11, .ref a12, .ref a13, .int 0])), (a1, .inl (k0, 7202, .inl (fun _ => 0)))] H := hP
    have hD : va_D A [(a0, .inr (11, [.ref a1, .int 0, .int 0, .int 0, .ref a2, .int 0, .ref a3, .ref a4, .ref a5, .ref a6, .int 0, .int 0, .int 0, .int 0, .int 0, .int 0, .int 0, .int (-1), .int (-1), .int (-1), .int 0, .int 0, .int 0, .ref a7, .ref a8, .ref a9, .ref a10, .ref a11, .ref a12, .ref a13, .int 0])), (a1, .inl (k0, 7202, .inl (fun _ => 0)))] := hD
    subst hw2
    refine W.eq (g2 := F0 m 15 ls [.int 0]) rfl ?_
    refine lv_if_ne (tgt := 24) hx hb dX12_central_15 (by decide) (fun c3 => absurd c3 (by decide)) (fun c3 => ?_)
    refine lv_aload_n hx hb dX12_central_18 rfl (lv_at hl 0 rfl) ?_
    refine lv_iconst (v := 2) hx hb dX12_central_19 (by decide) ?_
    refine cl_i (wc := [(a0, .inr (11, [.ref a1, .int 0, .int 0, .int 0, .ref a2, .int 0, .ref a3, .ref a4, .ref a5, .ref a6, .int 0, .int 0, .int 0, .int 0, .int 0, .int 0, .int 0, .int (-1), .int (-1), .int (-1), .int 0, .int 0, .int 0, .ref a7, .ref a8, .ref a9, .ref a10, .ref a11, .ref a12, .ref a13, .int 0]))]) (wr := [(a1, .inl (k0, 7202, .inl (fun _ => 0)))]) [0] [1] rfl rfl (by decide) (by decide) hK hP hD hS hA (va_runV (As := [.int 2]) (rest := []) ⟨hx, hb, hml, hown, noTs⟩ (c_X12_refuse_2 l dC dI H.size a0 a1 a2 a3 a4 a5 a6 a7 a8 a9 a10 a11 a12 a13) ⟨cbE 1 (wd_1498 hE) (wd_126 hE) (wd_1495 hE) rfl rfl (by decide +kernel) ⟨Nat.le_of_ble_eq_true rfl, Nat.le_of_ble_eq_true rfl⟩, (wd_1497 hE), (wd_54 hE)⟩ ⟨PcE.blind, va_recv hK hP (ci := 11) (q0 := 0) rfl rfl, (pre_E (av := [.ref a0, .int 2]) (wc := [(a0, .inr (11, [.ref a1, .int 0, .int 0, .int 0, .ref a2, .int 0, .ref a3, .ref a4, .ref a5, .ref a6, .int 0, .int 0, .int 0, .int 0, .int 0, .int 0, .int 0, .int (-1), .int (-1), .int (-1), .int 0, .int 0, .int 0, .ref a7, .ref a8, .ref a9, .ref a10, .ref a11, .ref a12, .ref a13, .int 0]))]) (tysc := []) [0] [] rfl (by decide) rfl rfl hK hP hD hE)⟩ rfl rfl hl.1 rfl (lv_room (Nat.le_of_ble_eq_true rfl)) dX12_central_20 ⟨Nat.le_of_ble_eq_true rfl, Nat.le_of_ble_eq_true rfl⟩) (fun r4 u4 H locs hw4 hK hP hD hS => ?_)
    have hK : va_K (dC, dI) vwCl [(k0, .int)] s := hK
    have hP : va_P (dC, dI) vwCl [(a1, .inl (k0, 7202, .inl (fun _ => 0))), (a0, .inr (11, [.ref a1, .int 2, .int 0, .int 0, .ref a2, .int 0, .ref a3, .ref a4, .ref a5, .ref a6, .int 0, .int 0, .int 0, .int 0, .int 0, .int 0, .int 0, .int (-1), .int (-1), .int (-1), .int 0, .int 0, .int 0, .ref a7, .ref a8, .ref a9, .ref a10, .ref a11, .ref a12, .ref a13, .int 0]))] H := hP
    have hD : va_D A [(a1, .inl (k0, 7202, .inl (fun _ => 0))), (a0, .inr (11, [.ref a1, .int 2, .int 0, .int 0, .ref a2, .int 0, .ref a3, .ref a4, .ref a5, .ref a6, .int 0, .int 0, .int 0, .int 0, .int 0, .int 0, .int 0, .int (-1), .int (-1), .int (-1), .int 0, .int 0, .int 0, .ref a7, .ref a8, .ref a9, .ref a10, .ref a11, .ref a12, .ref a13, .int 0]))] := hD
    subst hw4
    refine W.eq (g2 := F0 m 23 ls [.int (-1)]) rfl ?_
    have hP9 := hP.sub (ws' := []) [] rfl
    have hD9 := hD.sub (ws' := []) [] (by decide) rfl
    have hK9 := hK.sub (tys' := []) [] rfl
    refine W.widen (k := 0) (n := 0) (Nat.le_of_ble_eq_true rfl) (Nat.le_of_ble_eq_true rfl) ?_
    exact W.iret (v := -1) hx hb hr (fun t ht hW => ⟨⟨-1, (), rfl, rfl, by rw [ht]; exact hP9, va_K.moved hW.alike hK9, hD9⟩, hS.F ht⟩) hS.2.2 dX12_central_23
  · refine lv_aload_n hx hb dX12_central_4 rfl (lv_at hl 0 rfl) ?_
    refine lv_iconst (v := 1) hx hb dX12_central_5 (by decide) ?_
    refine cl_i (wc := [(a0, .inr (11, [.ref a1, .int 0, .int 0, .int 0, .ref a2, .int 0, .ref a3, .ref a4, .ref a5, .ref a6, .int 0, .int 0, .int 0, .int 0, .int 0, .int 0, .int 0, .int (-1), .int (-1), .int (-1), .int 0, .int 0, .int 0, .ref a7, .ref a8, .ref a9, .ref a10, .ref a11, .ref a12, .ref a13, .int 0]))]) (wr := [(a1, .inl (k0, 7202, .inl (fun _ => 0)))]) [0] [1] rfl rfl (by decide) (by decide) hK hP hD hS hA (va_runV (As := [.int 1]) (rest := []) ⟨hx, hb, hml, hown, noTs⟩ (c_X12_refuse l dC dI s.heap.size a0 a1 a2 a3 a4 a5 a6 a7 a8 a9 a10 a11 a12 a13) ⟨cbE 1 (wd_1498 hE) (wd_126 hE) (wd_1495 hE) rfl rfl (by decide +kernel) ⟨Nat.le_of_ble_eq_true rfl, Nat.le_of_ble_eq_true rfl⟩, (wd_1497 hE), (wd_54 hE)⟩ ⟨PcE.blind, va_recv hK hP (ci := 11) (q0 := 0) rfl rfl, (pre_E (av := [.ref a0, .int 1]) (wc := [(a0, .inr (11, [.ref a1, .int 0, .int 0, .int 0, .ref a2, .int 0, .ref a3, .ref a4, .ref a5, .ref a6, .int 0, .int 0, .int 0, .int 0, .int 0, .int 0, .int 0, .int (-1), .int (-1), .int (-1), .int 0, .int 0, .int 0, .ref a7, .ref a8, .ref a9, .ref a10, .ref a11, .ref a12, .ref a13, .int 0]))]) (tysc := []) [0] [] rfl (by decide) rfl rfl hK hP hD hE)⟩ rfl rfl hl.1 rfl (lv_room (Nat.le_of_ble_eq_true rfl)) dX12_central_6 ⟨Nat.le_of_ble_eq_true rfl, Nat.le_of_ble_eq_true rfl⟩) (fun r5 u5 H locs hw5 hK hP hD hS => ?_)
    have hK : va_K (dC, dI) vwCl [(k0, .int)] s := hK
    have hP : va_P (dC, dI) vwCl [(a1, .inl (k0, 7202, .inl (fun _ => 0))), (a0, .inr (11, [.ref a1, .int 1, .int 0, .int 0, .ref a2, .int 0, .ref a3, .ref a4, .ref a5, .ref a6, .int 0, .int 0, .int 0, .int 0, .int 0, .int 0, .int 0, .int (-1), .int (-1), .int (-1), .int 0, .int 0, .int 0, .ref a7, .ref a8, .ref a9, .ref a10, .ref a11, .ref a12, .ref a13, .int 0]))] H := hP
    have hD : va_D A [(a1, .inl (k0, 7202, .inl (fun _ => 0))), (a0, .inr (11, [.ref a1, .int 1, .int 0, .int 0, .ref a2, .int 0, .ref a3, .ref a4, .ref a5, .ref a6, .int 0, .int 0, .int 0, .int 0, .int 0, .int 0, .int 0, .int (-1), .int (-1), .int (-1), .int 0, .int 0, .int 0, .ref a7, .ref a8, .ref a9, .ref a10, .ref a11, .ref a12, .ref a13, .int 0]))] := hD
    subst hw5
    refine W.eq (g2 := F0 m 9 ls [.int (-1)]) rfl ?_
    have hP9 := hP.sub (ws' := []) [] rfl
    have hD9 := hD.sub (ws' := []) [] (by decide) rfl
    have hK9 := hK.sub (tys' := []) [] rfl
    refine W.widen (k := 0) (n := 0) (Nat.le_of_ble_eq_true rfl) (Nat.le_of_ble_eq_true rfl) ?_
    exact W.iret (v := -1) hx hb hr (fun t ht hW => ⟨⟨-1, (), rfl, rfl, by rw [ht]; exact hP9, va_K.moved hW.alike hK9, hD9⟩, hS.F ht⟩) hS.2.2 dX12_central_9

set_option maxHeartbeats 4000000 in
set_option maxRecDepth 100000 in
theorem c_X12_centre (l : Launch) (dC : Nat → ClassId) (dI : Nat → Nat → Nat) (sz : Nat)  (a0 a1 a2 a3 a4 a5 a6 a7 a8 a9 a10 a11 a12 a13 : Nat) (k0 : ClassId) (v0 : Int32)  : Met l yX12_centre [.code yX12_centre cX12_centre 4 (some .int)] ({ frames := 2, cells := 0, slots := 0, locals := 80 }) (PcE [.ref a0, .int v0] sz dC dI [(k0, .int)] [(a0, .inr (11, [.ref a1, .int 0, .int 0, .int 0, .ref a2, .int 0, .ref a3, .ref a4, .ref a5, .ref a6, .int 0, .int 0, .int 0, .int 0, .int 0, .int 0, .int 0, .int (-1), .int (-1), .int (-1), .int 0, .int 0, .int 0, .ref a7, .ref a8, .ref a9, .ref a10, .ref a11, .ref a12, .ref a13, .int 0])), (a1, .inl (k0, 7202, .inl (fun _ => 0)))]) (va_Qi (fun (r : Int32) (u : Unit) => r = -1) (Bw dC dI (va_A [(a0, .inr (11, [.ref a1, .int 0, .int 0, .int 0, .ref a2, .int 0, .ref a3, .ref a4, .ref a5, .ref a6, .int 0, .int 0, .int 0, .int 0, .int 0, .int 0, .int 0, .int (-1), .int (-1), .int (-1), .int 0, .int 0, .int 0, .ref a7, .ref a8, .ref a9, .ref a10, .ref a11, .ref a12, .ref a13, .int 0])), (a1, .inl (k0, 7202, .inl (fun _ => 0)))] sz) (fun (u : Unit) => []) (fun (u : Unit) => [])) (va_A [(a0, .inr (11, [.ref a1, .int 0, .int 0, .int 0, .ref a2, .int 0, .ref a3, .ref a4, .ref a5, .ref a6, .int 0, .int 0, .int 0, .int 0, .int 0, .int 0, .int 0, .int (-1), .int (-1), .int (-1), .int 0, .int 0, .int 0, .ref a7, .ref a8, .ref a9, .ref a10, .ref a11, .ref a12, .ref a13, .int 0])), (a1, .inl (k0, 7202, .inl (fun _ => 0)))] sz)) 0 0 (va_A [(a0, .inr (11, [.ref a1, .int 0, .int 0, .int 0, .ref a2, .int 0, .ref a3, .ref a4, .ref a5, .ref a6, .int 0, .int 0, .int 0, .int 0, .int 0, .int 0, .int 0, .int (-1), .int (-1), .int (-1), .int 0, .int 0, .int 0, .ref a7, .ref a8, .ref a9, .ref a10, .ref a11, .ref a12, .ref a13, .int 0])), (a1, .inl (k0, 7202, .inl (fun _ => 0)))] sz) := by
  refine Met.ofW (cc := cX12_centre) (maxL := 4) (ret := (some .int)) (by decide) rfl ?_
  intro p e s m args below meth c s₁ B hml hv
  obtain ⟨rfl, hsz, hP, hK, hD0, hE⟩ := hv
  have hx := B.exec
  have hb := B.bytes
  have hr := B.returns
  have hown : s.vm.findClass RX12 = some m.cls := findClass_of_methodNamed B.named
  have hlocks := B.notSynchronized
  subst hsz
  have hD := hD0.self (sz := s.heap.size)
  generalize hAe : va_A [(a0, .inr (11, [.ref a1, .int 0, .int 0, .int 0, .ref a2, .int 0, .ref a3, .ref a4, .ref a5, .ref a6, .int 0, .int 0, .int 0, .int 0, .int 0, .int 0, .int 0, .int (-1), .int (-1), .int (-1), .int 0, .int 0, .int 0, .ref a7, .ref a8, .ref a9, .ref a10, .ref a11, .ref a12, .ref a13, .int 0])), (a1, .inl (k0, 7202, .inl (fun _ => 0)))] s.heap.size = A at hD ⊢
  have hA : ∀ q : Nat, s.heap.size ≤ q → A q := fun q h => by rw [← hAe]; exact Or.inr h
  have hS : va_S A s.heap s.heap [] := va_S.rf
  have hl := lv_entry ([.ref a0, .int v0]) (n := 4) (Nat.le_of_ble_eq_true rfl)
  rw [lg_entry_eq]
  generalize (lg_sl ([.ref a0, .int v0]) ++ List.replicate (4 - (lg_sl ([.ref a0, .int v0])).length) Slot.unset).toArray = ls at hl ⊢
  have hl : lv_has ls 4 [(0, .ref a0), (1, .int v0)] := hl
  refine lv_aload_n hx hb dX12_centre_0 rfl (lv_at hl 0 rfl) ?_
  refine lv_iload_n hx hb dX12_centre_1 rfl (lv_at hl 1 rfl) ?_
  refine cl_i (wc := [(a0, .inr (11, [.ref a1, .int 0, .int 0, .int 0, .ref a2, .int 0, .ref a3, .ref a4, .ref a5, .ref a6, .int 0, .int 0, .int 0, .int 0, .int 0, .int 0, .int 0, .int (-1), .int (-1), .int (-1), .int 0, .int 0, .int 0, .ref a7, .ref a8, .ref a9, .ref a10, .ref a11, .ref a12, .ref a13, .int 0])), (a1, .inl (k0, 7202, .inl (fun _ => 0)))]) (wr := []) [0, 1] [] rfl rfl (by decide) (by decide) hK hP hD hS hA (va_runV (As := [.int v0]) (rest := []) ⟨hx, hb, hml, hown, noTs⟩ (c_X12_isVertex l dC dI s.heap.size a0 a1 a2 a3 a4 a5 a6 a7 a8 a9 a10 a11 a12 a13 k0 v0) ⟨cbE 1 (wd_1560 hE) (wd_126 hE) (wd_1557 hE) rfl rfl (by decide +kernel) ⟨Nat.le_of_ble_eq_true rfl, Nat.le_of_ble_eq_true rfl⟩, (wd_1559 hE), (wd_67 hE)⟩ ⟨PcE.blind, va_recv hK hP (ci := 11) (q0 := 0) rfl rfl, (pre_E (av := [.ref a0, .int v0]) (wc := [(a0, .inr (11, [.ref a1, .int 0, .int 0, .int 0, .ref a2, .int 0, .ref a3, .ref a4, .ref a5, .ref a6, .int 0, .int 0, .int 0, .int 0, .int 0, .int 0, .int 0, .int (-1), .int (-1), .int (-1), .int 0, .int 0, .int 0, .ref a7, .ref a8, .ref a9, .ref a10, .ref a11, .ref a12, .ref a13, .int 0])), (a1, .inl (k0, 7202, .inl (fun _ => 0)))]) (tysc := [(k0, .int)]) [0, 1] [0] rfl (by decide) rfl rfl hK hP hD hE)⟩ rfl rfl hl.1 rfl (lv_room (Nat.le_of_ble_eq_true rfl)) dX12_centre_2 ⟨Nat.le_of_ble_eq_true rfl, Nat.le_of_ble_eq_true rfl⟩) (fun r1 u1 H locs hw1 hK hP hD hS => ?_)
  have hK : va_K (dC, dI) vwCl [(k0, .int)] s := hK
  have hP : va_P (dC, dI) vwCl [(a0, .inr (11, [.ref a1, .int 0, .int 0, .int 0, .ref a2, .int 0, .ref a3, .ref a4, .ref a5, .ref a6, .int 0, .int 0, .int 0, .int 0, .int 0, .int 0, .int 0, .int (-1), .int (-1), .int (-1), .int 0, .int 0, .int 0, .ref a7, .ref a8, .ref a9, .ref a10, .ref a11, .ref a12, .ref a13, .int 0])), (a1, .inl (k0, 7202, .inl (fun _ => 0)))] H := hP
  have hD : va_D A [(a0, .inr (11, [.ref a1, .int 0, .int 0, .int 0, .ref a2, .int 0, .ref a3, .ref a4, .ref a5, .ref a6, .int 0, .int 0, .int 0, .int 0, .int 0, .int 0, .int 0, .int (-1), .int (-1), .int (-1), .int 0, .int 0, .int 0, .ref a7, .ref a8, .ref a9, .ref a10, .ref a11, .ref a12, .ref a13, .int 0])), (a1, .inl (k0, 7202, .inl (fun _ => 0)))] := hD
  subst hw1
  refine W.eq (g2 := F0 m 5 ls [.int 0]) rfl ?_
  refine lv_if_ne (tgt := 14) hx hb dX12_centre_5 (by decide) (fun c2 => absurd c2 (by decide)) (fun c2 => ?_)
  refine lv_aload_n hx hb dX12_centre_8 rfl (lv_at hl 0 rfl) ?_
  refine lv_iconst (v := 2) hx hb dX12_centre_9 (by decide) ?_
  refine cl_i (wc := [(a0, .inr (11, [.ref a1, .int 0, .int 0, .int 0, .ref a2, .int 0, .ref a3, .ref a4, .ref a5, .ref a6, .int 0, .int 0, .int 0, .int 0, .int 0, .int 0, .int 0, .int (-1), .int (-1), .int (-1), .int 0, .int 0, .int 0, .ref a7, .ref a8, .ref a9, .ref a10, .ref a11, .ref a12, .ref a13, .int 0]))]) (wr := [(a1, .inl (k0, 7202, .inl (fun _ => 0)))]) [0] [1] rfl rfl (by decide) (by decide) hK hP hD hS hA (va_runV (As := [.int 2]) (rest := []) ⟨hx, hb, hml, hown, noTs⟩ (c_X12_refuse_2 l dC dI H.size a0 a1 a2 a3 a4 a5 a6 a7 a8 a9 a10 a11 a12 a13) ⟨cbE 1 (wd_1498 hE) (wd_126 hE) (wd_1495 hE) rfl rfl (by decide +kernel) ⟨Nat.le_of_ble_eq_true rfl, Nat.le_of_ble_eq_true rfl⟩, (wd_1497 hE), (wd_54 hE)⟩ ⟨PcE.blind, va_recv hK hP (ci := 11) (q0 := 0) rfl rfl, (pre_E (av := [.ref a0, .int 2]) (wc := [(a0, .inr (11, [.ref a1, .int 0, .int 0, .int 0, .ref a2, .int 0, .ref a3, .ref a4, .ref a5, .ref a6, .int 0, .int 0, .int 0, .int 0, .int 0, .int 0, .int 0, .int (-1), .int (-1), .int (-1), .int 0, .int 0, .int 0, .ref a7, .ref a8, .ref a9, .ref a10, .ref a11, .ref a12, .ref a13, .int 0]))]) (tysc := []) [0] [] rfl (by decide) rfl rfl hK hP hD hE)⟩ rfl rfl hl.1 rfl (lv_room (Nat.le_of_ble_eq_true rfl)) dX12_centre_10 ⟨Nat.le_of_ble_eq_true rfl, Nat.le_of_ble_eq_true rfl⟩) (fun r3 u3 H locs hw3 hK hP hD hS => ?_)
  have hK : va_K (dC, dI) vwCl [(k0, .int)] s := hK
  have hP : va_P (dC, dI) vwCl [(a1, .inl (k0, 7202, .inl (fun _ => 0))), (a0, .inr (11, [.ref a1, .int 2, .int 0, .int 0, .ref a2, .int 0, .ref a3, .ref a4, .ref a5, .ref a6, .int 0, .int 0, .int 0, .int 0, .int 0, .int 0, .int 0, .int (-1), .int (-1), .int (-1), .int 0, .int 0, .int 0, .ref a7, .ref a8, .ref a9, .ref a10, .ref a11, .ref a12, .ref a13, .int 0]))] H := hP
  have hD : va_D A [(a1, .inl (k0, 7202, .inl (fun _ => 0))), (a0, .inr (11, [.ref a1, .int 2, .int 0, .int 0, .ref a2, .int 0, .ref a3, .ref a4, .ref a5, .ref a6, .int 0, .int 0, .int 0, .int 0, .int 0, .int 0, .int 0, .int (-1), .int (-1), .int (-1), .int 0, .int 0, .int 0, .ref a7, .ref a8, .ref a9, .ref a10, .ref a11, .ref a12, .ref a13, .int 0]))] := hD
  subst hw3
  refine W.eq (g2 := F0 m 13 ls [.int (-1)]) rfl ?_
  have hP9 := hP.sub (ws' := []) [] rfl
  have hD9 := hD.sub (ws' := []) [] (by decide) rfl
  have hK9 := hK.sub (tys' := []) [] rfl
  refine W.widen (k := 0) (n := 0) (Nat.le_of_ble_eq_true rfl) (Nat.le_of_ble_eq_true rfl) ?_
  exact W.iret (v := -1) hx hb hr (fun t ht hW => ⟨⟨-1, (), rfl, rfl, by rw [ht]; exact hP9, va_K.moved hW.alike hK9, hD9⟩, hS.F ht⟩) hS.2.2 dX12_centre_13

set_option maxHeartbeats 4000000 in
set_option maxRecDepth 100000 in
theorem c_X12_having (l : Launch) (dC : Nat → ClassId) (dI : Nat → Nat → Nat) (sz : Nat)  (a0 a1 a2 a3 a4 a5 a6 a7 a8 a9 a10 a11 a12 a13 : Nat) (k0 : ClassId) (v0 : Int32) (v1 : Int32)  : Met l yX12_having [.code yX12_having cX12_having 5 (some .int)] ({ frames := 2, cells := 0, slots := 0, locals := 80 }) (PcE [.ref a0, .int v0, .int v1] sz dC dI [(k0, .int)] [(a0, .inr (11, [.ref a1, .int 0, .int 0, .int 0, .ref a2, .int 0, .ref a3, .ref a4, .ref a5, .ref a6, .int 0, .int 0, .int 0, .int 0, .int 0, .int 0, .int 0, .int (-1), .int (-1), .int (-1), .int 0, .int 0, .int 0, .ref a7, .ref a8, .ref a9, .ref a10, .ref a11, .ref a12, .ref a13, .int 0])), (a1, .inl (k0, 7202, .inl (fun _ => 0)))]) (va_Qi (fun (r : Int32) (u : Unit) => r = -1) (Bw dC dI (va_A [(a0, .inr (11, [.ref a1, .int 0, .int 0, .int 0, .ref a2, .int 0, .ref a3, .ref a4, .ref a5, .ref a6, .int 0, .int 0, .int 0, .int 0, .int 0, .int 0, .int 0, .int (-1), .int (-1), .int (-1), .int 0, .int 0, .int 0, .ref a7, .ref a8, .ref a9, .ref a10, .ref a11, .ref a12, .ref a13, .int 0])), (a1, .inl (k0, 7202, .inl (fun _ => 0)))] sz) (fun (u : Unit) => []) (fun (u : Unit) => [])) (va_A [(a0, .inr (11, [.ref a1, .int 0, .int 0, .int 0, .ref a2, .int 0, .ref a3, .ref a4, .ref a5, .ref a6, .int 0, .int 0, .int 0, .int 0, .int 0, .int 0, .int 0, .int (-1), .int (-1), .int (-1), .int 0, .int 0, .int 0, .ref a7, .ref a8, .ref a9, .ref a10, .ref a11, .ref a12, .ref a13, .int 0])), (a1, .inl (k0, 7202, .inl (fun _ => 0)))] sz)) 0 0 (va_A [(a0, .inr (11, [.ref a1, .int 0, .int 0, .int 0, .ref a2, .int 0, .ref a3, .ref a4, .ref a5, .ref a6, .int 0, .int 0, .int 0, .int 0, .int 0, .int 0, .int 0, .int (-1), .int (-1), .int (-1), .int 0, .int 0, .int 0, .ref a7, .ref a8, .ref a9, .ref a10, .ref a11, .ref a12, .ref a13, .int 0])), (a1, .inl (k0, 7202, .inl (fun _ => 0)))] sz) := by
  refine Met.ofW (cc := cX12_having) (maxL := 5) (ret := (some .int)) (by decide) rfl ?_
  intro p e s m args below meth c s₁ B hml hv
  obtain ⟨rfl, hsz, hP, hK, hD0, hE⟩ := hv
  have hx := B.exec
  have hb := B.bytes
  have hr := B.returns
  have hown : s.vm.findClass RX12 = some m.cls := findClass_of_methodNamed B.named
  have hlocks := B.notSynchronized
  subst hsz
  have hD := hD0.self (sz := s.heap.size)
  generalize hAe : va_A [(a0, .inr (11, [.ref a1, .int 0, .int 0, .int 0, .ref a2, .int 0, .ref a3, .ref a4, .ref a5, .ref a6, .int 0, .int 0, .int 0, .int 0, .int 0, .int 0, .int 0, .int (-1), .int (-1), .int (-1), .int 0, .int 0, .int 0, .ref a7, .ref a8, .ref a9, .ref a10, .ref a11, .ref a12, .ref a13, .int 0])), (a1, .inl (k0, 7202, .inl (fun _ => 0)))] s.heap.size = A at hD ⊢
  have hA : ∀ q : Nat, s.heap.size ≤ q → A q := fun q h => by rw [← hAe]; exact Or.inr h
  have hS : va_S A s.heap s.heap [] := va_S.rf
  have hl := lv_entry ([.ref a0, .int v0, .int v1]) (n := 5) (Nat.le_of_ble_eq_true rfl)
  rw [lg_entry_eq]
  generalize (lg_sl ([.ref a0, .int v0, .int v1]) ++ List.replicate (5 - (lg_sl ([.ref a0, .int v0, .int v1])).length) Slot.unset).toArray = ls at hl ⊢
  have hl : lv_has ls 5 [(0, .ref a0), (1, .int v0), (2, .int v1)] := hl
  refine lv_iload_n hx hb dX12_having_0 rfl (lv_at hl 2 rfl) ?_
  refine lv_iconst (v := 1) hx hb dX12_having_1 (by decide) ?_
  refine lv_icmp_ge (tgt := 11) hx hb dX12_having_2 (by decide) (fun c1 => ?_) (fun c1 => ?_)
  · refine lv_aload_n hx hb dX12_having_11 rfl (lv_at hl 0 rfl) ?_
    refine lv_iload_n hx hb dX12_having_12 rfl (lv_at hl 1 rfl) ?_
    refine cl_i (wc := [(a0, .inr (11, [.ref a1, .int 0, .int 0, .int 0, .ref a2, .int 0, .ref a3, .ref a4, .ref a5, .ref a6, .int 0, .int 0, .int 0, .int 0, .int 0, .int 0, .int 0, .int (-1), .int (-1), .int (-1), .int 0, .int 0, .int 0, .ref a7, .ref a8, .ref a9, .ref a10, .ref a11, .ref a12, .ref a13, .int 0])), (a1, .inl (k0, 7202, .inl (fun _ => 0)))]) (wr := []) [0, 1] [] rfl rfl (by decide) (by decide) hK hP hD hS hA (va_runV (As := [.int v0]) (rest := []) ⟨hx, hb, hml, hown, noTs⟩ (c_X12_isVertex l dC dI s.heap.size a0 a1 a2 a3 a4 a5 a6 a7 a8 a9 a10 a11 a12 a13 k0 v0) ⟨cbE 1 (wd_1560 hE) (wd_126 hE) (wd_1557 hE) rfl rfl (by decide +kernel) ⟨Nat.le_of_ble_eq_true rfl, Nat.le_of_ble_eq_true rfl⟩, (wd_1559 hE), (wd_67 hE)⟩ ⟨PcE.blind, va_recv hK hP (ci := 11) (q0 := 0) rfl rfl, (pre_E (av := [.ref a0, .int v0]) (wc := [(a0, .inr (11, [.ref a1, .int 0, .int 0, .int 0, .ref a2, .int 0, .ref a3, .ref a4, .ref a5, .ref a6, .int 0, .int 0, .int 0, .int 0, .int 0, .int 0, .int 0, .int (-1), .int (-1), .int (-1), .int 0, .int 0, .int 0, .ref a7, .ref a8, .ref a9, .ref a10, .ref a11, .ref a12, .ref a13, .int 0])), (a1, .inl (k0, 7202, .inl (fun _ => 0)))]) (tysc := [(k0, .int)]) [0, 1] [0] rfl (by decide) rfl rfl hK hP hD hE)⟩ rfl rfl hl.1 rfl (lv_room (Nat.le_of_ble_eq_true rfl)) dX12_having_13 ⟨Nat.le_of_ble_eq_true rfl, Nat.le_of_ble_eq_true rfl⟩) (fun r2 u2 H locs hw2 hK hP hD hS => ?_)
    have hK : va_K (dC, dI) vwCl [(k0, .int)] s := hK
    have hP : va_P (dC, dI) vwCl [(a0, .inr (11, [.ref a1, .int 0, .int 0, .int 0, .ref a2, .int 0, .ref a3, .ref a4, .ref a5, .ref a6, .int 0, .int 0, .int 0, .int 0, .int 0, .int 0, .int 0, .int (-1), .int (-1), .int (-1), .int 0, .int 0, .int 0, .ref a7, .ref a8, .ref a9, .ref a10, .ref a11, .ref a12, .ref a13, .int 0])), (a1, .inl (k0, 7202, .inl (fun _ => 0)))] H := hP
    have hD : va_D A [(a0, .inr (11, [.ref a1, .int 0, .int 0, .int 0, .ref a2, .int 0, .ref a3, .ref a4, .ref a5, .ref a6, .int 0, .int 0, .int 0, .int 0, .int 0, .int 0, .int 0, .int (-1), .int (-1), .int (-1), .int 0, .int 0, .int 0, .ref a7, .ref a8, .ref a9, .ref a10, .ref a11, .ref a12, .ref a13, .int 0])), (a1, .inl (k0, 7202, .inl (fun _ => 0)))] := hD
    subst hw2
    refine W.eq (g2 := F0 m 16 ls [.int 0]) rfl ?_
    refine lv_if_ne (tgt := 25) hx hb dX12_having_16 (by decide) (fun c3 => absurd c3 (by decide)) (fun c3 => ?_)
    refine lv_aload_n hx hb dX12_having_19 rfl (lv_at hl 0 rfl) ?_
    refine lv_iconst (v := 2) hx hb dX12_having_20 (by decide) ?_
    refine cl_i (wc := [(a0, .inr (11, [.ref a1, .int 0, .int 0, .int 0, .ref a2, .int 0, .ref a3, .ref a4, .ref a5, .ref a6, .int 0, .int 0, .int 0, .int 0, .int 0, .int 0, .int 0, .int (-1), .int (-1), .int (-1), .int 0, .int 0, .int 0, .ref a7, .ref a8, .ref a9, .ref a10, .ref a11, .ref a12, .ref a13, .int 0]))]) (wr := [(a1, .inl (k0, 7202, .inl (fun _ => 0)))]) [0] [1] rfl rfl (by decide) (by decide) hK hP hD hS hA (va_runV (As := [.int 2]) (rest := []) ⟨hx, hb, hml, hown, noTs⟩ (c_X12_refuse_2 l dC dI H.size a0 a1 a2 a3 a4 a5 a6 a7 a8 a9 a10 a11 a12 a13) ⟨cbE 1 (wd_1498 hE) (wd_126 hE) (wd_1495 hE) rfl rfl (by decide +kernel) ⟨Nat.le_of_ble_eq_true rfl, Nat.le_of_ble_eq_true rfl⟩, (wd_1497 hE), (wd_54 hE)⟩ ⟨PcE.blind, va_recv hK hP (ci := 11) (q0 := 0) rfl rfl, (pre_E (av := [.ref a0, .int 2]) (wc := [(a0, .inr (11, [.ref a1, .int 0, .int 0, .int 0, .ref a2, .int 0, .ref a3, .ref a4, .ref a5, .ref a6, .int 0, .int 0, .int 0, .int 0, .int 0, .int 0, .int 0, .int (-1), .int (-1), .int (-1), .int 0, .int 0, .int 0, .ref a7, .ref a8, .ref a9, .ref a10, .ref a11, .ref a12, .ref a13, .int 0]))]) (tysc := []) [0] [] rfl (by decide) rfl rfl hK hP hD hE)⟩ rfl rfl hl.1 rfl (lv_room (Nat.le_of_ble_eq_true rfl)) dX12_having_21 ⟨Nat.le_of_ble_eq_true rfl, Nat.le_of_ble_eq_true rfl⟩) (fun r4 u4 H locs hw4 hK hP hD hS => ?_)
    have hK : va_K (dC, dI) vwCl [(k0, .int)] s := hK
    have hP : va_P (dC, dI) vwCl [(a1, .inl (k0, 7202, .inl (fun _ => 0))), (a0, .inr (11, [.ref a1, .int 2, .int 0, .int 0, .ref a2, .int 0, .ref a3, .ref a4, .ref a5, .ref a6, .int 0, .int 0, .int 0, .int 0, .int 0, .int 0, .int 0, .int (-1), .int (-1), .int (-1), .int 0, .int 0, .int 0, .ref a7, .ref a8, .ref a9, .ref a10, .ref a11, .ref a12, .ref a13, .int 0]))] H := hP
    have hD : va_D A [(a1, .inl (k0, 7202, .inl (fun _ => 0))), (a0, .inr (11, [.ref a1, .int 2, .int 0, .int 0, .ref a2, .int 0, .ref a3, .ref a4, .ref a5, .ref a6, .int 0, .int 0, .int 0, .int 0, .int 0, .int 0, .int 0, .int (-1), .int (-1), .int (-1), .int 0, .int 0, .int 0, .ref a7, .ref a8, .ref a9, .ref a10, .ref a11, .ref a12, .ref a13, .int 0]))] := hD
    subst hw4
    refine W.eq (g2 := F0 m 24 ls [.int (-1)]) rfl ?_
    have hP9 := hP.sub (ws' := []) [] rfl
    have hD9 := hD.sub (ws' := []) [] (by decide) rfl
    have hK9 := hK.sub (tys' := []) [] rfl
    refine W.widen (k := 0) (n := 0) (Nat.le_of_ble_eq_true rfl) (Nat.le_of_ble_eq_true rfl) ?_
    exact W.iret (v := -1) hx hb hr (fun t ht hW => ⟨⟨-1, (), rfl, rfl, by rw [ht]; exact hP9, va_K.moved hW.alike hK9, hD9⟩, hS.F ht⟩) hS.2.2 dX12_having_24
  · refine lv_aload_n hx hb dX12_having_5 rfl (lv_at hl 0 rfl) ?_
    refine lv_iconst (v := 1) hx hb dX12_having_6 (by decide) ?_
    refine cl_i (wc := [(a0, .inr (11, [.ref a1, .int 0, .int 0, .int 0, .ref a2, .int 0, .ref a3, .ref a4, .ref a5, .ref a6, .int 0, .int 0, .int 0, .int 0, .int 0, .int 0, .int 0, .int (-1), .int (-1), .int (-1), .int 0, .int 0, .int 0, .ref a7, .ref a8, .ref a9, .ref a10, .ref a11, .ref a12, .ref a13, .int 0]))]) (wr := [(a1, .inl (k0, 7202, .inl (fun _ => 0)))]) [0] [1] rfl rfl (by decide) (by decide) hK hP hD hS hA (va_runV (As := [.int 1]) (rest := []) ⟨hx, hb, hml, hown, noTs⟩ (c_X12_refuse l dC dI s.heap.size a0 a1 a2 a3 a4 a5 a6 a7 a8 a9 a10 a11 a12 a13) ⟨cbE 1 (wd_1498 hE) (wd_126 hE) (wd_1495 hE) rfl rfl (by decide +kernel) ⟨Nat.le_of_ble_eq_true rfl, Nat.le_of_ble_eq_true rfl⟩, (wd_1497 hE), (wd_54 hE)⟩ ⟨PcE.blind, va_recv hK hP (ci := 11) (q0 := 0) rfl rfl, (pre_E (av := [.ref a0, .int 1]) (wc := [(a0, .inr (11, [.ref a1, .int 0, .int 0, .int 0, .ref a2, .int 0, .ref a3, .ref a4, .ref a5, .ref a6, .int 0, .int 0, .int 0, .int 0, .int 0, .int 0, .int 0, .int (-1), .int (-1), .int (-1), .int 0, .int 0, .int 0, .ref a7, .ref a8, .ref a9, .ref a10, .ref a11, .ref a12, .ref a13, .int 0]))]) (tysc := []) [0] [] rfl (by decide) rfl rfl hK hP hD hE)⟩ rfl rfl hl.1 rfl (lv_room (Nat.le_of_ble_eq_true rfl)) dX12_having_7 ⟨Nat.le_of_ble_eq_true rfl, Nat.le_of_ble_eq_true rfl⟩) (fun r5 u5 H locs hw5 hK hP hD hS => ?_)
    have hK : va_K (dC, dI) vwCl [(k0, .int)] s := hK
    have hP : va_P (dC, dI) vwCl [(a1, .inl (k0, 7202, .inl (fun _ => 0))), (a0, .inr (11, [.ref a1, .int 1, .int 0, .int 0, .ref a2, .int 0, .ref a3, .ref a4, .ref a5, .ref a6, .int 0, .int 0, .int 0, .int 0, .int 0, .int 0, .int 0, .int (-1), .int (-1), .int (-1), .int 0, .int 0, .int 0, .ref a7, .ref a8, .ref a9, .ref a10, .ref a11, .ref a12, .ref a13, .int 0]))] H := hP
    have hD : va_D A [(a1, .inl (k0, 7202, .inl (fun _ => 0))), (a0, .inr (11, [.ref a1, .int 1, .int 0, .int 0, .ref a2, .int 0, .ref a3, .ref a4, .ref a5, .ref a6, .int 0, .int 0, .int 0, .int 0, .int 0, .int 0, .int 0, .int (-1), .int (-1), .int (-1), .int 0, .int 0, .int 0, .ref a7, .ref a8, .ref a9, .ref a10, .ref a11, .ref a12, .ref a13, .int 0]))] := hD
    subst hw5
    refine W.eq (g2 := F0 m 10 ls [.int (-1)]) rfl ?_
    have hP9 := hP.sub (ws' := []) [] rfl
    have hD9 := hD.sub (ws' := []) [] (by decide) rfl
    have hK9 := hK.sub (tys' := []) [] rfl
    refine W.widen (k := 0) (n := 0) (Nat.le_of_ble_eq_true rfl) (Nat.le_of_ble_eq_true rfl) ?_
    exact W.iret (v := -1) hx hb hr (fun t ht hW => ⟨⟨-1, (), rfl, rfl, by rw [ht]; exact hP9, va_K.moved hW.alike hK9, hD9⟩, hS.F ht⟩) hS.2.2 dX12_having_10

set_option maxHeartbeats 4000000 in
set_option maxRecDepth 100000 in
theorem c_X12_root (l : Launch) (dC : Nat → ClassId) (dI : Nat → Nat → Nat) (sz : Nat)  (a0 a1 a2 a3 a4 a5 a6 a7 a8 a9 a10 a11 a12 a13 : Nat) (k0 : ClassId) (v0 : Int32)  : Met l yX12_root [.code yX12_root cX12_root 3 (some .int)] ({ frames := 3, cells := 0, slots := 0, locals := 120 }) (PcE [.ref a0, .int v0] sz dC dI [(k0, .int)] [(a0, .inr (11, [.ref a1, .int 0, .int 0, .int 0, .ref a2, .int 0, .ref a3, .ref a4, .ref a5, .ref a6, .int 0, .int 0, .int 0, .int 0, .int 0, .int 0, .int 0, .int (-1), .int (-1), .int (-1), .int 0, .int 0, .int 0, .ref a7, .ref a8, .ref a9, .ref a10, .ref a11, .ref a12, .ref a13, .int 0])), (a1, .inl (k0, 7202, .inl (fun _ => 0)))]) (va_Qi (fun (r : Int32) (u : Unit) => r = -1) (Bw dC dI (va_A [(a0, .inr (11, [.ref a1, .int 0, .int 0, .int 0, .ref a2, .int 0, .ref a3, .ref a4, .ref a5, .ref a6, .int 0, .int 0, .int 0, .int 0, .int 0, .int 0, .int 0, .int (-1), .int (-1), .int (-1), .int 0, .int 0, .int 0, .ref a7, .ref a8, .ref a9, .ref a10, .ref a11, .ref a12, .ref a13, .int 0])), (a1, .inl (k0, 7202, .inl (fun _ => 0)))] sz) (fun (u : Unit) => []) (fun (u : Unit) => [])) (va_A [(a0, .inr (11, [.ref a1, .int 0, .int 0, .int 0, .ref a2, .int 0, .ref a3, .ref a4, .ref a5, .ref a6, .int 0, .int 0, .int 0, .int 0, .int 0, .int 0, .int 0, .int (-1), .int (-1), .int (-1), .int 0, .int 0, .int 0, .ref a7, .ref a8, .ref a9, .ref a10, .ref a11, .ref a12, .ref a13, .int 0])), (a1, .inl (k0, 7202, .inl (fun _ => 0)))] sz)) 0 0 (va_A [(a0, .inr (11, [.ref a1, .int 0, .int 0, .int 0, .ref a2, .int 0, .ref a3, .ref a4, .ref a5, .ref a6, .int 0, .int 0, .int 0, .int 0, .int 0, .int 0, .int 0, .int (-1), .int (-1), .int (-1), .int 0, .int 0, .int 0, .ref a7, .ref a8, .ref a9, .ref a10, .ref a11, .ref a12, .ref a13, .int 0])), (a1, .inl (k0, 7202, .inl (fun _ => 0)))] sz) := by
  refine Met.ofW (cc := cX12_root) (maxL := 3) (ret := (some .int)) (by decide) rfl ?_
  intro p e s m args below meth c s₁ B hml hv
  obtain ⟨rfl, hsz, hP, hK, hD0, hE⟩ := hv
  have hx := B.exec
  have hb := B.bytes
  have hr := B.returns
  have hown : s.vm.findClass RX12 = some m.cls := findClass_of_methodNamed B.named
  have hlocks := B.notSynchronized
  subst hsz
  have hD := hD0.self (sz := s.heap.size)
  generalize hAe : va_A [(a0, .inr (11, [.ref a1, .int 0, .int 0, .int 0, .ref a2, .int 0, .ref a3, .ref a4, .ref a5, .ref a6, .int 0, .int 0, .int 0, .int 0, .int 0, .int 0, .int 0, .int (-1), .int (-1), .int (-1), .int 0, .int 0, .int 0, .ref a7, .ref a8, .ref a9, .ref a10, .ref a11, .ref a12, .ref a13, .int 0])), (a1, .inl (k0, 7202, .inl (fun _ => 0)))] s.heap.size = A at hD ⊢
  have hA : ∀ q : Nat, s.heap.size ≤ q → A q := fun q h => by rw [← hAe]; exact Or.inr h
  have hS : va_S A s.heap s.heap [] := va_S.rf
  have hl := lv_entry ([.ref a0, .int v0]) (n := 3) (Nat.le_of_ble_eq_true rfl)
  rw [lg_entry_eq]
  generalize (lg_sl ([.ref a0, .int v0]) ++ List.replicate (3 - (lg_sl ([.ref a0, .int v0])).length) Slot.unset).toArray = ls at hl ⊢
  have hl : lv_has ls 3 [(0, .ref a0), (1, .int v0)] := hl
  refine lv_aload_n hx hb dX12_root_0 rfl (lv_at hl 0 rfl) ?_
  refine lv_iload_n hx hb dX12_root_1 rfl (lv_at hl 1 rfl) ?_
  refine cl_i (wc := [(a0, .inr (11, [.ref a1, .int 0, .int 0, .int 0, .ref a2, .int 0, .ref a3, .ref a4, .ref a5, .ref a6, .int 0, .int 0, .int 0, .int 0, .int 0, .int 0, .int 0, .int (-1), .int (-1), .int (-1), .int 0, .int 0, .int 0, .ref a7, .ref a8, .ref a9, .ref a10, .ref a11, .ref a12, .ref a13, .int 0])), (a1, .inl (k0, 7202, .inl (fun _ => 0)))]) (wr := []) [0, 1] [] rfl rfl (by decide) (by decide) hK hP hD hS hA (va_runV (As := [.int v0]) (rest := []) ⟨hx, hb, hml, hown, noTs⟩ (c_X12_wrongLoop l dC dI s.heap.size a0 a1 a2 a3 a4 a5 a6 a7 a8 a9 a10 a11 a12 a13 k0 v0) ⟨cbE 1 (wd_1781 hE) (wd_126 hE) (wd_1778 hE) rfl rfl (by decide +kernel) ⟨Nat.le_of_ble_eq_true rfl, Nat.le_of_ble_eq_true rfl⟩, (wd_1780 hE), (wd_95 hE)⟩ ⟨PcE.blind, va_recv hK hP (ci := 11) (q0 := 0) rfl rfl, (pre_E (av := [.ref a0, .int v0]) (wc := [(a0, .inr (11, [.ref a1, .int 0, .int 0, .int 0, .ref a2, .int 0, .ref a3, .ref a4, .ref a5, .ref a6, .int 0, .int 0, .int 0, .int 0, .int 0, .int 0, .int 0, .int (-1), .int (-1), .int (-1), .int 0, .int 0, .int 0, .ref a7, .ref a8, .ref a9, .ref a10, .ref a11, .ref a12, .ref a13, .int 0])), (a1, .inl (k0, 7202, .inl (fun _ => 0)))]) (tysc := [(k0, .int)]) [0, 1] [0] rfl (by decide) rfl rfl hK hP hD hE)⟩ rfl rfl hl.1 rfl (lv_room (Nat.le_of_ble_eq_true rfl)) dX12_root_2 ⟨Nat.le_of_ble_eq_true rfl, Nat.le_of_ble_eq_true rfl⟩) (fun r1 u1 H locs hw1 hK hP hD hS => ?_)
  have hK : va_K (dC, dI) vwCl [(k0, .int)] s := hK
  have hP : va_P (dC, dI) vwCl [(a0, .inr (11, [.ref a1, .int 0, .int 0, .int 0, .ref a2, .int 0, .ref a3, .ref a4, .ref a5, .ref a6, .int 0, .int 0, .int 0, .int 0, .int 0, .int 0, .int 0, .int (-1), .int (-1), .int (-1), .int 0, .int 0, .int 0, .ref a7, .ref a8, .ref a9, .ref a10, .ref a11, .ref a12, .ref a13, .int 0])), (a1, .inl (k0, 7202, .inl (fun _ => 0)))] H := hP
  have hD : va_D A [(a0, .inr (11, [.ref a1, .int 0, .int 0, .int 0, .ref a2, .int 0, .ref a3, .ref a4, .ref a5, .ref a6, .int 0, .int 0, .int 0, .int 0, .int 0, .int 0, .int 0, .int (-1), .int (-1), .int (-1), .int 0, .int 0, .int 0, .ref a7, .ref a8, .ref a9, .ref a10, .ref a11, .ref a12, .ref a13, .int 0])), (a1, .inl (k0, 7202, .inl (fun _ => 0)))] := hD
  subst hw1
  refine W.eq (g2 := F0 m 5 ls [.int 2]) rfl ?_
  refine lv_istore_n (lv' := [(2, .int 2), (0, .ref a0), (1, .int v0)]) hx hb dX12_root_5 rfl hl (by decide) rfl (fun ls hl => ?_)
  refine lv_iload_n hx hb dX12_root_6 rfl (lv_at hl 0 rfl) ?_
  refine lv_if_le (tgt := 16) hx hb dX12_root_7 (by decide) (fun c2 => absurd c2 (by decide)) (fun c2 => ?_)
  refine lv_aload_n hx hb dX12_root_10 rfl (lv_at hl 1 rfl) ?_
  refine lv_iload_n hx hb dX12_root_11 rfl (lv_at hl 0 rfl) ?_
  refine cl_i (wc := [(a0, .inr (11, [.ref a1, .int 0, .int 0, .int 0, .ref a2, .int 0, .ref a3, .ref a4, .ref a5, .ref a6, .int 0, .int 0, .int 0, .int 0, .int 0, .int 0, .int 0, .int (-1), .int (-1), .int (-1), .int 0, .int 0, .int 0, .ref a7, .ref a8, .ref a9, .ref a10, .ref a11, .ref a12, .ref a13, .int 0]))]) (wr := [(a1, .inl (k0, 7202, .inl (fun _ => 0)))]) [0] [1] rfl rfl (by decide) (by decide) hK hP hD hS hA (va_runV (As := [.int 2]) (rest := []) ⟨hx, hb, hml, hown, noTs⟩ (c_X12_refuse_2 l dC dI H.size a0 a1 a2 a3 a4 a5 a6 a7 a8 a9 a10 a11 a12 a13) ⟨cbE 1 (wd_1498 hE) (wd_126 hE) (wd_1495 hE) rfl rfl (by decide +kernel) ⟨Nat.le_of_ble_eq_true rfl, Nat.le_of_ble_eq_true rfl⟩, (wd_1497 hE), (wd_54 hE)⟩ ⟨PcE.blind, va_recv hK hP (ci := 11) (q0 := 0) rfl rfl, (pre_E (av := [.ref a0, .int 2]) (wc := [(a0, .inr (11, [.ref a1, .int 0, .int 0, .int 0, .ref a2, .int 0, .ref a3, .ref a4, .ref a5, .ref a6, .int 0, .int 0, .int 0, .int 0, .int 0, .int 0, .int 0, .int (-1), .int (-1), .int (-1), .int 0, .int 0, .int 0, .ref a7, .ref a8, .ref a9, .ref a10, .ref a11, .ref a12, .ref a13, .int 0]))]) (tysc := []) [0] [] rfl (by decide) rfl rfl hK hP hD hE)⟩ rfl rfl hl.1 rfl (lv_room (Nat.le_of_ble_eq_true rfl)) dX12_root_12 ⟨Nat.le_of_ble_eq_true rfl, Nat.le_of_ble_eq_true rfl⟩) (fun r3 u3 H locs hw3 hK hP hD hS => ?_)
  have hK : va_K (dC, dI) vwCl [(k0, .int)] s := hK
  have hP : va_P (dC, dI) vwCl [(a1, .inl (k0, 7202, .inl (fun _ => 0))), (a0, .inr (11, [.ref a1, .int 2, .int 0, .int 0, .ref a2, .int 0, .ref a3, .ref a4, .ref a5, .ref a6, .int 0, .int 0, .int 0, .int 0, .int 0, .int 0, .int 0, .int (-1), .int (-1), .int (-1), .int 0, .int 0, .int 0, .ref a7, .ref a8, .ref a9, .ref a10, .ref a11, .ref a12, .ref a13, .int 0]))] H := hP
  have hD : va_D A [(a1, .inl (k0, 7202, .inl (fun _ => 0))), (a0, .inr (11, [.ref a1, .int 2, .int 0, .int 0, .ref a2, .int 0, .ref a3, .ref a4, .ref a5, .ref a6, .int 0, .int 0, .int 0, .int 0, .int 0, .int 0, .int 0, .int (-1), .int (-1), .int (-1), .int 0, .int 0, .int 0, .ref a7, .ref a8, .ref a9, .ref a10, .ref a11, .ref a12, .ref a13, .int 0]))] := hD
  subst hw3
  refine W.eq (g2 := F0 m 15 ls [.int (-1)]) rfl ?_
  have hP9 := hP.sub (ws' := []) [] rfl
  have hD9 := hD.sub (ws' := []) [] (by decide) rfl
  have hK9 := hK.sub (tys' := []) [] rfl
  refine W.widen (k := 0) (n := 0) (Nat.le_of_ble_eq_true rfl) (Nat.le_of_ble_eq_true rfl) ?_
  exact W.iret (v := -1) hx hb hr (fun t ht hW => ⟨⟨-1, (), rfl, rfl, by rw [ht]; exact hP9, va_K.moved hW.alike hK9, hD9⟩, hS.F ht⟩) hS.2.2 dX12_root_15

set_option maxHeartbeats 4000000 in
set_option maxRecDepth 100000 in
theorem c_X12_swaps (l : Launch) (dC : Nat → ClassId) (dI : Nat → Nat → Nat) (sz : Nat)  (a0 a1 a2 a3 a4 a5 a6 a7 a8 a9 a10 a11 a12 a13 : Nat) (k0 : ClassId) (v0 : Int32) (v1 : Int32)  : Met l yX12_swaps [.code yX12_swaps cX12_swaps 4 (some .int)] ({ frames := 3, cells := 0, slots := 0, locals := 120 }) (PcE [.ref a0, .int v0, .int v1] sz dC dI [(k0, .int)] [(a0, .inr (11, [.ref a1, .int 0, .int 0, .int 0, .ref a2, .int 0, .ref a3, .ref a4, .ref a5, .ref a6, .int 0, .int 0, .int 0, .int 0, .int 0, .int 0, .int 0, .int (-1), .int (-1), .int (-1), .int 0, .int 0, .int 0, .ref a7, .ref a8, .ref a9, .ref a10, .ref a11, .ref a12, .ref a13, .int 0])), (a1, .inl (k0, 7202, .inl (fun _ => 0)))]) (va_Qi (fun (r : Int32) (u : Unit) => r = -1) (Bw dC dI (va_A [(a0, .inr (11, [.ref a1, .int 0, .int 0, .int 0, .ref a2, .int 0, .ref a3, .ref a4, .ref a5, .ref a6, .int 0, .int 0, .int 0, .int 0, .int 0, .int 0, .int 0, .int (-1), .int (-1), .int (-1), .int 0, .int 0, .int 0, .ref a7, .ref a8, .ref a9, .ref a10, .ref a11, .ref a12, .ref a13, .int 0])), (a1, .inl (k0, 7202, .inl (fun _ => 0)))] sz) (fun (u : Unit) => []) (fun (u : Unit) => [])) (va_A [(a0, .inr (11, [.ref a1, .int 0, .int 0, .int 0, .ref a2, .int 0, .ref a3, .ref a4, .ref a5, .ref a6, .int 0, .int 0, .int 0, .int 0, .int 0, .int 0, .int 0, .int (-1), .int (-1), .int (-1), .int 0, .int 0, .int 0, .ref a7, .ref a8, .ref a9, .ref a10, .ref a11, .ref a12, .ref a13, .int 0])), (a1, .inl (k0, 7202, .inl (fun _ => 0)))] sz)) 0 0 (va_A [(a0, .inr (11, [.ref a1, .int 0, .int 0, .int 0, .ref a2, .int 0, .ref a3, .ref a4, .ref a5, .ref a6, .int 0, .int 0, .int 0, .int 0, .int 0, .int 0, .int 0, .int (-1), .int (-1), .int (-1), .int 0, .int 0, .int 0, .ref a7, .ref a8, .ref a9, .ref a10, .ref a11, .ref a12, .ref a13, .int 0])), (a1, .inl (k0, 7202, .inl (fun _ => 0)))] sz) := by
  refine Met.ofW (cc := cX12_swaps) (maxL := 4) (ret := (some .int)) (by decide) rfl ?_
  intro p e s m args below meth c s₁ B hml hv
  obtain ⟨rfl, hsz, hP, hK, hD0, hE⟩ := hv
  have hx := B.exec
  have hb := B.bytes
  have hr := B.returns
  have hown : s.vm.findClass RX12 = some m.cls := findClass_of_methodNamed B.named
  have hlocks := B.notSynchronized
  subst hsz
  have hD := hD0.self (sz := s.heap.size)
  generalize hAe : va_A [(a0, .inr (11, [.ref a1, .int 0, .int 0, .int 0, .ref a2, .int 0, .ref a3, .ref a4, .ref a5, .ref a6, .int 0, .int 0, .int 0, .int 0, .int 0, .int 0, .int 0, .int (-1), .int (-1), .int (-1), .int 0, .int 0, .int 0, .ref a7, .ref a8, .ref a9, .ref a10, .ref a11, .ref a12, .ref a13, .int 0])), (a1, .inl (k0, 7202, .inl (fun _ => 0)))] s.heap.size = A at hD ⊢
  have hA : ∀ q : Nat, s.heap.size ≤ q → A q := fun q h => by rw [← hAe]; exact Or.inr h
  have hS : va_S A s.heap s.heap [] := va_S.rf
  have hl := lv_entry ([.ref a0, .int v0, .int v1]) (n := 4) (Nat.le_of_ble_eq_true rfl)
  rw [lg_entry_eq]
  generalize (lg_sl ([.ref a0, .int v0, .int v1]) ++ List.replicate (4 - (lg_sl ([.ref a0, .int v0, .int v1])).length) Slot.unset).toArray = ls at hl ⊢
  have hl : lv_has ls 4 [(0, .ref a0), (1, .int v0), (2, .int v1)] := hl
  refine lv_aload_n hx hb dX12_swaps_0 rfl (lv_at hl 0 rfl) ?_
  refine lv_iload_n hx hb dX12_swaps_1 rfl (lv_at hl 1 rfl) ?_
  refine lv_iload_n hx hb dX12_swaps_2 rfl (lv_at hl 2 rfl) ?_
  refine cl_i (wc := [(a0, .inr (11, [.ref a1, .int 0, .int 0, .int 0, .ref a2, .int 0, .ref a3, .ref a4, .ref a5, .ref a6, .int 0, .int 0, .int 0, .int 0, .int 0, .int 0, .int 0, .int (-1), .int (-1), .int (-1), .int 0, .int 0, .int 0, .ref a7, .ref a8, .ref a9, .ref a10, .ref a11, .ref a12, .ref a13, .int 0])), (a1, .inl (k0, 7202, .inl (fun _ => 0)))]) (wr := []) [0, 1] [] rfl rfl (by decide) (by decide) hK hP hD hS hA (va_runV (As := [.int v0, .int v1]) (rest := []) ⟨hx, hb, hml, hown, noTs⟩ (c_X12_wrongLoops l dC dI s.heap.size a0 a1 a2 a3 a4 a5 a6 a7 a8 a9 a10 a11 a12 a13 k0 v0 v1) ⟨cbE 2 (wd_1800 hE) (wd_126 hE) (wd_1797 hE) rfl rfl (by decide +kernel) ⟨Nat.le_of_ble_eq_true rfl, Nat.le_of_ble_eq_true rfl⟩, (wd_1799 hE), (wd_97 hE)⟩ ⟨PcE.blind, va_recv hK hP (ci := 11) (q0 := 0) rfl rfl, (pre_E (av := [.ref a0, .int v0, .int v1]) (wc := [(a0, .inr (11, [.ref a1, .int 0, .int 0, .int 0, .ref a2, .int 0, .ref a3, .ref a4, .ref a5, .ref a6, .int 0, .int 0, .int 0, .int 0, .int 0, .int 0, .int 0, .int (-1), .int (-1), .int (-1), .int 0, .int 0, .int 0, .ref a7, .ref a8, .ref a9, .ref a10, .ref a11, .ref a12, .ref a13, .int 0])), (a1, .inl (k0, 7202, .inl (fun _ => 0)))]) (tysc := [(k0, .int)]) [0, 1] [0] rfl (by decide) rfl rfl hK hP hD hE)⟩ rfl rfl hl.1 rfl (lv_room (Nat.le_of_ble_eq_true rfl)) dX12_swaps_3 ⟨Nat.le_of_ble_eq_true rfl, Nat.le_of_ble_eq_true rfl⟩) (fun r1 u1 H locs hw1 hK hP hD hS => ?_)
  have hK : va_K (dC, dI) vwCl [(k0, .int)] s := hK
  have hP : va_P (dC, dI) vwCl [(a0, .inr (11, [.ref a1, .int 0, .int 0, .int 0, .ref a2, .int 0, .ref a3, .ref a4, .ref a5, .ref a6, .int 0, .int 0, .int 0, .int 0, .int 0, .int 0, .int 0, .int (-1), .int (-1), .int (-1), .int 0, .int 0, .int 0, .ref a7, .ref a8, .ref a9, .ref a10, .ref a11, .ref a12, .ref a13, .int 0])), (a1, .inl (k0, 7202, .inl (fun _ => 0)))] H := hP
  have hD : va_D A [(a0, .inr (11, [.ref a1, .int 0, .int 0, .int 0, .ref a2, .int 0, .ref a3, .ref a4, .ref a5, .ref a6, .int 0, .int 0, .int 0, .int 0, .int 0, .int 0, .int 0, .int (-1), .int (-1), .int (-1), .int 0, .int 0, .int 0, .ref a7, .ref a8, .ref a9, .ref a10, .ref a11, .ref a12, .ref a13, .int 0])), (a1, .inl (k0, 7202, .inl (fun _ => 0)))] := hD
  subst hw1
  refine W.eq (g2 := F0 m 6 ls [.int 2]) rfl ?_
  refine lv_istore_n (lv' := [(3, .int 2), (0, .ref a0), (1, .int v0), (2, .int v1)]) hx hb dX12_swaps_6 rfl hl (by decide) rfl (fun ls hl => ?_)
  refine lv_iload_n hx hb dX12_swaps_7 rfl (lv_at hl 0 rfl) ?_
  refine lv_if_le (tgt := 17) hx hb dX12_swaps_8 (by decide) (fun c2 => absurd c2 (by decide)) (fun c2 => ?_)
  refine lv_aload_n hx hb dX12_swaps_11 rfl (lv_at hl 1 rfl) ?_
  refine lv_iload_n hx hb dX12_swaps_12 rfl (lv_at hl 0 rfl) ?_
  refine cl_i (wc := [(a0, .inr (11, [.ref a1, .int 0, .int 0, .int 0, .ref a2, .int 0, .ref a3, .ref a4, .ref a5, .ref a6, .int 0, .int 0, .int 0, .int 0, .int 0, .int 0, .int 0, .int (-1), .int (-1), .int (-1), .int 0, .int 0, .int 0, .ref a7, .ref a8, .ref a9, .ref a10, .ref a11, .ref a12, .ref a13, .int 0]))]) (wr := [(a1, .inl (k0, 7202, .inl (fun _ => 0)))]) [0] [1] rfl rfl (by decide) (by decide) hK hP hD hS hA (va_runV (As := [.int 2]) (rest := []) ⟨hx, hb, hml, hown, noTs⟩ (c_X12_refuse_2 l dC dI H.size a0 a1 a2 a3 a4 a5 a6 a7 a8 a9 a10 a11 a12 a13) ⟨cbE 1 (wd_1498 hE) (wd_126 hE) (wd_1495 hE) rfl rfl (by decide +kernel) ⟨Nat.le_of_ble_eq_true rfl, Nat.le_of_ble_eq_true rfl⟩, (wd_1497 hE), (wd_54 hE)⟩ ⟨PcE.blind, va_recv hK hP (ci := 11) (q0 := 0) rfl rfl, (pre_E (av := [.ref a0, .int 2]) (wc := [(a0, .inr (11, [.ref a1, .int 0, .int 0, .int 0, .ref a2, .int 0, .ref a3, .ref a4, .ref a5, .ref a6, .int 0, .int 0, .int 0, .int 0, .int 0, .int 0, .int 0, .int (-1), .int (-1), .int (-1), .int 0, .int 0, .int 0, .ref a7, .ref a8, .ref a9, .ref a10, .ref a11, .ref a12, .ref a13, .int 0]))]) (tysc := []) [0] [] rfl (by decide) rfl rfl hK hP hD hE)⟩ rfl rfl hl.1 rfl (lv_room (Nat.le_of_ble_eq_true rfl)) dX12_swaps_13 ⟨Nat.le_of_ble_eq_true rfl, Nat.le_of_ble_eq_true rfl⟩) (fun r3 u3 H locs hw3 hK hP hD hS => ?_)
  have hK : va_K (dC, dI) vwCl [(k0, .int)] s := hK
  have hP : va_P (dC, dI) vwCl [(a1, .inl (k0, 7202, .inl (fun _ => 0))), (a0, .inr (11, [.ref a1, .int 2, .int 0, .int 0, .ref a2, .int 0, .ref a3, .ref a4, .ref a5, .ref a6, .int 0, .int 0, .int 0, .int 0, .int 0, .int 0, .int 0, .int (-1), .int (-1), .int (-1), .int 0, .int 0, .int 0, .ref a7, .ref a8, .ref a9, .ref a10, .ref a11, .ref a12, .ref a13, .int 0]))] H := hP
  have hD : va_D A [(a1, .inl (k0, 7202, .inl (fun _ => 0))), (a0, .inr (11, [.ref a1, .int 2, .int 0, .int 0, .ref a2, .int 0, .ref a3, .ref a4, .ref a5, .ref a6, .int 0, .int 0, .int 0, .int 0, .int 0, .int 0, .int 0, .int (-1), .int (-1), .int (-1), .int 0, .int 0, .int 0, .ref a7, .ref a8, .ref a9, .ref a10, .ref a11, .ref a12, .ref a13, .int 0]))] := hD
  subst hw3
  refine W.eq (g2 := F0 m 16 ls [.int (-1)]) rfl ?_
  have hP9 := hP.sub (ws' := []) [] rfl
  have hD9 := hD.sub (ws' := []) [] (by decide) rfl
  have hK9 := hK.sub (tys' := []) [] rfl
  refine W.widen (k := 0) (n := 0) (Nat.le_of_ble_eq_true rfl) (Nat.le_of_ble_eq_true rfl) ?_
  exact W.iret (v := -1) hx hb hr (fun t ht hW => ⟨⟨-1, (), rfl, rfl, by rw [ht]; exact hP9, va_K.moved hW.alike hK9, hD9⟩, hS.F ht⟩) hS.2.2 dX12_swaps_16

set_option maxHeartbeats 4000000 in
set_option maxRecDepth 100000 in
theorem c_X12_alikes (l : Launch) (dC : Nat → ClassId) (dI : Nat → Nat → Nat) (sz : Nat)  (a0 a1 a2 a3 a4 a5 a6 a7 a8 a9 a10 a11 a12 a13 : Nat) (k0 : ClassId) (v0 : Int32)  : Met l yX12_alikes [.code yX12_alikes cX12_alikes 4 (some .int)] ({ frames := 2, cells := 0, slots := 0, locals := 80 }) (PcE [.ref a0, .int v0] sz dC dI [(k0, .int)] [(a0, .inr (11, [.ref a1, .int 0, .int 0, .int 0, .ref a2, .int 0, .ref a3, .ref a4, .ref a5, .ref a6, .int 0, .int 0, .int 0, .int 0, .int 0, .int 0, .int 0, .int (-1), .int (-1), .int (-1), .int 0, .int 0, .int 0, .ref a7, .ref a8, .ref a9, .ref a10, .ref a11, .ref a12, .ref a13, .int 0])), (a1, .inl (k0, 7202, .inl (fun _ => 0)))]) (va_Qi (fun (r : Int32) (u : Unit) => r = -1) (Bw dC dI (va_A [(a0, .inr (11, [.ref a1, .int 0, .int 0, .int 0, .ref a2, .int 0, .ref a3, .ref a4, .ref a5, .ref a6, .int 0, .int 0, .int 0, .int 0, .int 0, .int 0, .int 0, .int (-1), .int (-1), .int (-1), .int 0, .int 0, .int 0, .ref a7, .ref a8, .ref a9, .ref a10, .ref a11, .ref a12, .ref a13, .int 0])), (a1, .inl (k0, 7202, .inl (fun _ => 0)))] sz) (fun (u : Unit) => []) (fun (u : Unit) => [])) (va_A [(a0, .inr (11, [.ref a1, .int 0, .int 0, .int 0, .ref a2, .int 0, .ref a3, .ref a4, .ref a5, .ref a6, .int 0, .int 0, .int 0, .int 0, .int 0, .int 0, .int 0, .int (-1), .int (-1), .int (-1), .int 0, .int 0, .int 0, .ref a7, .ref a8, .ref a9, .ref a10, .ref a11, .ref a12, .ref a13, .int 0])), (a1, .inl (k0, 7202, .inl (fun _ => 0)))] sz)) 0 0 (va_A [(a0, .inr (11, [.ref a1, .int 0, .int 0, .int 0, .ref a2, .int 0, .ref a3, .ref a4, .ref a5, .ref a6, .int 0, .int 0, .int 0, .int 0, .int 0, .int 0, .int 0, .int (-1), .int (-1), .int (-1), .int 0, .int 0, .int 0, .ref a7, .ref a8, .ref a9, .ref a10, .ref a11, .ref a12, .ref a13, .int 0])), (a1, .inl (k0, 7202, .inl (fun _ => 0)))] sz) := by
  refine Met.ofW (cc := cX12_alikes) (maxL := 4) (ret := (some .int)) (by decide) rfl ?_
  intro p e s m args below meth c s₁ B hml hv
  obtain ⟨rfl, hsz, hP, hK, hD0, hE⟩ := hv
  have hx := B.exec
  have hb := B.bytes
  have hr := B.returns
  have hown : s.vm.findClass RX12 = some m.cls := findClass_of_methodNamed B.named
  have hlocks := B.notSynchronized
  subst hsz
  have hD := hD0.self (sz := s.heap.size)
  generalize hAe : va_A [(a0, .inr (11, [.ref a1, .int 0, .int 0, .int 0, .ref a2, .int 0, .ref a3, .ref a4, .ref a5, .ref a6, .int 0, .int 0, .int 0, .int 0, .int 0, .int 0, .int 0, .int (-1), .int (-1), .int (-1), .int 0, .int 0, .int 0, .ref a7, .ref a8, .ref a9, .ref a10, .ref a11, .ref a12, .ref a13, .int 0])), (a1, .inl (k0, 7202, .inl (fun _ => 0)))] s.heap.size = A at hD ⊢
  have hA : ∀ q : Nat, s.heap.size ≤ q → A q := fun q h => by rw [← hAe]; exact Or.inr h
  have hS : va_S A s.heap s.heap [] := va_S.rf
  have hl := lv_entry ([.ref a0, .int v0]) (n := 4) (Nat.le_of_ble_eq_true rfl)
  rw [lg_entry_eq]
  generalize (lg_sl ([.ref a0, .int v0]) ++ List.replicate (4 - (lg_sl ([.ref a0, .int v0])).length) Slot.unset).toArray = ls at hl ⊢
  have hl : lv_has ls 4 [(0, .ref a0), (1, .int v0)] := hl
  refine lv_aload_n hx hb dX12_alikes_0 rfl (lv_at hl 0 rfl) ?_
  refine lv_iload_n hx hb dX12_alikes_1 rfl (lv_at hl 1 rfl) ?_
  refine cl_i (wc := [(a0, .inr (11, [.ref a1, .int 0, .int 0, .int 0, .ref a2, .int 0, .ref a3, .ref a4, .ref a5, .ref a6, .int 0, .int 0, .int 0, .int 0, .int 0, .int 0, .int 0, .int (-1), .int (-1), .int (-1), .int 0, .int 0, .int 0, .ref a7, .ref a8, .ref a9, .ref a10, .ref a11, .ref a12, .ref a13, .int 0])), (a1, .inl (k0, 7202, .inl (fun _ => 0)))]) (wr := []) [0, 1] [] rfl rfl (by decide) (by decide) hK hP hD hS hA (va_runV (As := [.int v0]) (rest := []) ⟨hx, hb, hml, hown, noTs⟩ (c_X12_isWord l dC dI s.heap.size a0 a1 a2 a3 a4 a5 a6 a7 a8 a9 a10 a11 a12 a13 k0 v0) ⟨cbE 1 (wd_1653 hE) (wd_126 hE) (wd_1650 hE) rfl rfl (by decide +kernel) ⟨Nat.le_of_ble_eq_true rfl, Nat.le_of_ble_eq_true rfl⟩, (wd_1652 hE), (wd_83 hE)⟩ ⟨PcE.blind, va_recv hK hP (ci := 11) (q0 := 0) rfl rfl, (pre_E (av := [.ref a0, .int v0]) (wc := [(a0, .inr (11, [.ref a1, .int 0, .int 0, .int 0, .ref a2, .int 0, .ref a3, .ref a4, .ref a5, .ref a6, .int 0, .int 0, .int 0, .int 0, .int 0, .int 0, .int 0, .int (-1), .int (-1), .int (-1), .int 0, .int 0, .int 0, .ref a7, .ref a8, .ref a9, .ref a10, .ref a11, .ref a12, .ref a13, .int 0])), (a1, .inl (k0, 7202, .inl (fun _ => 0)))]) (tysc := [(k0, .int)]) [0, 1] [0] rfl (by decide) rfl rfl hK hP hD hE)⟩ rfl rfl hl.1 rfl (lv_room (Nat.le_of_ble_eq_true rfl)) dX12_alikes_2 ⟨Nat.le_of_ble_eq_true rfl, Nat.le_of_ble_eq_true rfl⟩) (fun r1 u1 H locs hw1 hK hP hD hS => ?_)
  have hK : va_K (dC, dI) vwCl [(k0, .int)] s := hK
  have hP : va_P (dC, dI) vwCl [(a0, .inr (11, [.ref a1, .int 0, .int 0, .int 0, .ref a2, .int 0, .ref a3, .ref a4, .ref a5, .ref a6, .int 0, .int 0, .int 0, .int 0, .int 0, .int 0, .int 0, .int (-1), .int (-1), .int (-1), .int 0, .int 0, .int 0, .ref a7, .ref a8, .ref a9, .ref a10, .ref a11, .ref a12, .ref a13, .int 0])), (a1, .inl (k0, 7202, .inl (fun _ => 0)))] H := hP
  have hD : va_D A [(a0, .inr (11, [.ref a1, .int 0, .int 0, .int 0, .ref a2, .int 0, .ref a3, .ref a4, .ref a5, .ref a6, .int 0, .int 0, .int 0, .int 0, .int 0, .int 0, .int 0, .int (-1), .int (-1), .int (-1), .int 0, .int 0, .int 0, .ref a7, .ref a8, .ref a9, .ref a10, .ref a11, .ref a12, .ref a13, .int 0])), (a1, .inl (k0, 7202, .inl (fun _ => 0)))] := hD
  subst hw1
  refine W.eq (g2 := F0 m 5 ls [.int 0]) rfl ?_
  refine lv_if_ne (tgt := 14) hx hb dX12_alikes_5 (by decide) (fun c2 => absurd c2 (by decide)) (fun c2 => ?_)
  refine lv_aload_n hx hb dX12_alikes_8 rfl (lv_at hl 0 rfl) ?_
  refine lv_iconst (v := 2) hx hb dX12_alikes_9 (by decide) ?_
  refine cl_i (wc := [(a0, .inr (11, [.ref a1, .int 0, .int 0, .int 0, .ref a2, .int 0, .ref a3, .ref a4, .ref a5, .ref a6, .int 0, .int 0, .int 0, .int 0, .int 0, .int 0, .int 0, .int (-1), .int (-1), .int (-1), .int 0, .int 0, .int 0, .ref a7, .ref a8, .ref a9, .ref a10, .ref a11, .ref a12, .ref a13, .int 0]))]) (wr := [(a1, .inl (k0, 7202, .inl (fun _ => 0)))]) [0] [1] rfl rfl (by decide) (by decide) hK hP hD hS hA (va_runV (As := [.int 2]) (rest := []) ⟨hx, hb, hml, hown, noTs⟩ (c_X12_refuse_2 l dC dI H.size a0 a1 a2 a3 a4 a5 a6 a7 a8 a9 a10 a11 a12 a13) ⟨cbE 1 (wd_1498 hE) (wd_126 hE) (wd_1495 hE) rfl rfl (by decide +kernel) ⟨Nat.le_of_ble_eq_true rfl, Nat.le_of_ble_eq_true rfl⟩, (wd_1497 hE), (wd_54 hE)⟩ ⟨PcE.blind, va_recv hK hP (ci := 11) (q0 := 0) rfl rfl, (pre_E (av := [.ref a0, .int 2]) (wc := [(a0, .inr (11, [.ref a1, .int 0, .int 0, .int 0, .ref a2, .int 0, .ref a3, .ref a4, .ref a5, .ref a6, .int 0, .int 0, .int 0, .int 0, .int 0, .int 0, .int 0, .int (-1), .int (-1), .int (-1), .int 0, .int 0, .int 0, .ref a7, .ref a8, .ref a9, .ref a10, .ref a11, .ref a12, .ref a13, .int 0]))]) (tysc := []) [0] [] rfl (by decide) rfl rfl hK hP hD hE)⟩ rfl rfl hl.1 rfl (lv_room (Nat.le_of_ble_eq_true rfl)) dX12_alikes_10 ⟨Nat.le_of_ble_eq_true rfl, Nat.le_of_ble_eq_true rfl⟩) (fun r3 u3 H locs hw3 hK hP hD hS => ?_)
  have hK : va_K (dC, dI) vwCl [(k0, .int)] s := hK
  have hP : va_P (dC, dI) vwCl [(a1, .inl (k0, 7202, .inl (fun _ => 0))), (a0, .inr (11, [.ref a1, .int 2, .int 0, .int 0, .ref a2, .int 0, .ref a3, .ref a4, .ref a5, .ref a6, .int 0, .int 0, .int 0, .int 0, .int 0, .int 0, .int 0, .int (-1), .int (-1), .int (-1), .int 0, .int 0, .int 0, .ref a7, .ref a8, .ref a9, .ref a10, .ref a11, .ref a12, .ref a13, .int 0]))] H := hP
  have hD : va_D A [(a1, .inl (k0, 7202, .inl (fun _ => 0))), (a0, .inr (11, [.ref a1, .int 2, .int 0, .int 0, .ref a2, .int 0, .ref a3, .ref a4, .ref a5, .ref a6, .int 0, .int 0, .int 0, .int 0, .int 0, .int 0, .int 0, .int (-1), .int (-1), .int (-1), .int 0, .int 0, .int 0, .ref a7, .ref a8, .ref a9, .ref a10, .ref a11, .ref a12, .ref a13, .int 0]))] := hD
  subst hw3
  refine W.eq (g2 := F0 m 13 ls [.int (-1)]) rfl ?_
  have hP9 := hP.sub (ws' := []) [] rfl
  have hD9 := hD.sub (ws' := []) [] (by decide) rfl
  have hK9 := hK.sub (tys' := []) [] rfl
  refine W.widen (k := 0) (n := 0) (Nat.le_of_ble_eq_true rfl) (Nat.le_of_ble_eq_true rfl) ?_
  exact W.iret (v := -1) hx hb hr (fun t ht hW => ⟨⟨-1, (), rfl, rfl, by rw [ht]; exact hP9, va_K.moved hW.alike hK9, hD9⟩, hS.F ht⟩) hS.2.2 dX12_alikes_13

set_option maxHeartbeats 4000000 in
set_option maxRecDepth 100000 in
theorem c_X12_twin (l : Launch) (dC : Nat → ClassId) (dI : Nat → Nat → Nat) (sz : Nat)  (a0 a1 a2 a3 a4 a5 a6 a7 a8 a9 a10 a11 a12 a13 : Nat) (k0 : ClassId) (v0 : Int32)  : Met l yX12_twin [.code yX12_twin cX12_twin 3 (some .int)] ({ frames := 2, cells := 0, slots := 0, locals := 80 }) (PcE [.ref a0, .int v0] sz dC dI [(k0, .int)] [(a0, .inr (11, [.ref a1, .int 0, .int 0, .int 0, .ref a2, .int 0, .ref a3, .ref a4, .ref a5, .ref a6, .int 0, .int 0, .int 0, .int 0, .int 0, .int 0, .int 0, .int (-1), .int (-1), .int (-1), .int 0, .int 0, .int 0, .ref a7, .ref a8, .ref a9, .ref a10, .ref a11, .ref a12, .ref a13, .int 0])), (a1, .inl (k0, 7202, .inl (fun _ => 0)))]) (va_Qi (fun (r : Int32) (u : Unit) => r = -1) (Bw dC dI (va_A [(a0, .inr (11, [.ref a1, .int 0, .int 0, .int 0, .ref a2, .int 0, .ref a3, .ref a4, .ref a5, .ref a6, .int 0, .int 0, .int 0, .int 0, .int 0, .int 0, .int 0, .int (-1), .int (-1), .int (-1), .int 0, .int 0, .int 0, .ref a7, .ref a8, .ref a9, .ref a10, .ref a11, .ref a12, .ref a13, .int 0])), (a1, .inl (k0, 7202, .inl (fun _ => 0)))] sz) (fun (u : Unit) => []) (fun (u : Unit) => [])) (va_A [(a0, .inr (11, [.ref a1, .int 0, .int 0, .int 0, .ref a2, .int 0, .ref a3, .ref a4, .ref a5, .ref a6, .int 0, .int 0, .int 0, .int 0, .int 0, .int 0, .int 0, .int (-1), .int (-1), .int (-1), .int 0, .int 0, .int 0, .ref a7, .ref a8, .ref a9, .ref a10, .ref a11, .ref a12, .ref a13, .int 0])), (a1, .inl (k0, 7202, .inl (fun _ => 0)))] sz)) 0 0 (va_A [(a0, .inr (11, [.ref a1, .int 0, .int 0, .int 0, .ref a2, .int 0, .ref a3, .ref a4, .ref a5, .ref a6, .int 0, .int 0, .int 0, .int 0, .int 0, .int 0, .int 0, .int (-1), .int (-1), .int (-1), .int 0, .int 0, .int 0, .ref a7, .ref a8, .ref a9, .ref a10, .ref a11, .ref a12, .ref a13, .int 0])), (a1, .inl (k0, 7202, .inl (fun _ => 0)))] sz) := by
  refine Met.ofW (cc := cX12_twin) (maxL := 3) (ret := (some .int)) (by decide) rfl ?_
  intro p e s m args below meth c s₁ B hml hv
  obtain ⟨rfl, hsz, hP, hK, hD0, hE⟩ := hv
  have hx := B.exec
  have hb := B.bytes
  have hr := B.returns
  have hown : s.vm.findClass RX12 = some m.cls := findClass_of_methodNamed B.named
  have hlocks := B.notSynchronized
  subst hsz
  have hD := hD0.self (sz := s.heap.size)
  generalize hAe : va_A [(a0, .inr (11, [.ref a1, .int 0, .int 0, .int 0, .ref a2, .int 0, .ref a3, .ref a4, .ref a5, .ref a6, .int 0, .int 0, .int 0, .int 0, .int 0, .int 0, .int 0, .int (-1), .int (-1), .int (-1), .int 0, .int 0, .int 0, .ref a7, .ref a8, .ref a9, .ref a10, .ref a11, .ref a12, .ref a13, .int 0])), (a1, .inl (k0, 7202, .inl (fun _ => 0)))] s.heap.size = A at hD ⊢
  have hA : ∀ q : Nat, s.heap.size ≤ q → A q := fun q h => by rw [← hAe]; exact Or.inr h
  have hS : va_S A s.heap s.heap [] := va_S.rf
  have hl := lv_entry ([.ref a0, .int v0]) (n := 3) (Nat.le_of_ble_eq_true rfl)
  rw [lg_entry_eq]
  generalize (lg_sl ([.ref a0, .int v0]) ++ List.replicate (3 - (lg_sl ([.ref a0, .int v0])).length) Slot.unset).toArray = ls at hl ⊢
  have hl : lv_has ls 3 [(0, .ref a0), (1, .int v0)] := hl
  refine lv_aload_n hx hb dX12_twin_0 rfl (lv_at hl 0 rfl) ?_
  refine lv_iload_n hx hb dX12_twin_1 rfl (lv_at hl 1 rfl) ?_
  refine cl_i (wc := [(a0, .inr (11, [.ref a1, .int 0, .int 0, .int 0, .ref a2, .int 0, .ref a3, .ref a4, .ref a5, .ref a6, .int 0, .int 0, .int 0, .int 0, .int 0, .int 0, .int 0, .int (-1), .int (-1), .int (-1), .int 0, .int 0, .int 0, .ref a7, .ref a8, .ref a9, .ref a10, .ref a11, .ref a12, .ref a13, .int 0])), (a1, .inl (k0, 7202, .inl (fun _ => 0)))]) (wr := []) [0, 1] [] rfl rfl (by decide) (by decide) hK hP hD hS hA (va_runV (As := [.int v0]) (rest := []) ⟨hx, hb, hml, hown, noTs⟩ (c_X12_isWord l dC dI s.heap.size a0 a1 a2 a3 a4 a5 a6 a7 a8 a9 a10 a11 a12 a13 k0 v0) ⟨cbE 1 (wd_1653 hE) (wd_126 hE) (wd_1650 hE) rfl rfl (by decide +kernel) ⟨Nat.le_of_ble_eq_true rfl, Nat.le_of_ble_eq_true rfl⟩, (wd_1652 hE), (wd_83 hE)⟩ ⟨PcE.blind, va_recv hK hP (ci := 11) (q0 := 0) rfl rfl, (pre_E (av := [.ref a0, .int v0]) (wc := [(a0, .inr (11, [.ref a1, .int 0, .int 0, .int 0, .ref a2, .int 0, .ref a3, .ref a4, .ref a5, .ref a6, .int 0, .int 0, .int 0, .int 0, .int 0, .int 0, .int 0, .int (-1), .int (-1), .int (-1), .int 0, .int 0, .int 0, .ref a7, .ref a8, .ref a9, .ref a10, .ref a11, .ref a12, .ref a13, .int 0])), (a1, .inl (k0, 7202, .inl (fun _ => 0)))]) (tysc := [(k0, .int)]) [0, 1] [0] rfl (by decide) rfl rfl hK hP hD hE)⟩ rfl rfl hl.1 rfl (lv_room (Nat.le_of_ble_eq_true rfl)) dX12_twin_2 ⟨Nat.le_of_ble_eq_true rfl, Nat.le_of_ble_eq_true rfl⟩) (fun r1 u1 H locs hw1 hK hP hD hS => ?_)
  have hK : va_K (dC, dI) vwCl [(k0, .int)] s := hK
  have hP : va_P (dC, dI) vwCl [(a0, .inr (11, [.ref a1, .int 0, .int 0, .int 0, .ref a2, .int 0, .ref a3, .ref a4, .ref a5, .ref a6, .int 0, .int 0, .int 0, .int 0, .int 0, .int 0, .int 0, .int (-1), .int (-1), .int (-1), .int 0, .int 0, .int 0, .ref a7, .ref a8, .ref a9, .ref a10, .ref a11, .ref a12, .ref a13, .int 0])), (a1, .inl (k0, 7202, .inl (fun _ => 0)))] H := hP
  have hD : va_D A [(a0, .inr (11, [.ref a1, .int 0, .int 0, .int 0, .ref a2, .int 0, .ref a3, .ref a4, .ref a5, .ref a6, .int 0, .int 0, .int 0, .int 0, .int 0, .int 0, .int 0, .int (-1), .int (-1), .int (-1), .int 0, .int 0, .int 0, .ref a7, .ref a8, .ref a9, .ref a10, .ref a11, .ref a12, .ref a13, .int 0])), (a1, .inl (k0, 7202, .inl (fun _ => 0)))] := hD
  subst hw1
  refine W.eq (g2 := F0 m 5 ls [.int 0]) rfl ?_
  refine lv_if_ne (tgt := 14) hx hb dX12_twin_5 (by decide) (fun c2 => absurd c2 (by decide)) (fun c2 => ?_)
  refine lv_aload_n hx hb dX12_twin_8 rfl (lv_at hl 0 rfl) ?_
  refine lv_iconst (v := 2) hx hb dX12_twin_9 (by decide) ?_
  refine cl_i (wc := [(a0, .inr (11, [.ref a1, .int 0, .int 0, .int 0, .ref a2, .int 0, .ref a3, .ref a4, .ref a5, .ref a6, .int 0, .int 0, .int 0, .int 0, .int 0, .int 0, .int 0, .int (-1), .int (-1), .int (-1), .int 0, .int 0, .int 0, .ref a7, .ref a8, .ref a9, .ref a10, .ref a11, .ref a12, .ref a13, .int 0]))]) (wr := [(a1, .inl (k0, 7202, .inl (fun _ => 0)))]) [0] [1] rfl rfl (by decide) (by decide) hK hP hD hS hA (va_runV (As := [.int 2]) (rest := []) ⟨hx, hb, hml, hown, noTs⟩ (c_X12_refuse_2 l dC dI H.size a0 a1 a2 a3 a4 a5 a6 a7 a8 a9 a10 a11 a12 a13) ⟨cbE 1 (wd_1498 hE) (wd_126 hE) (wd_1495 hE) rfl rfl (by decide +kernel) ⟨Nat.le_of_ble_eq_true rfl, Nat.le_of_ble_eq_true rfl⟩, (wd_1497 hE), (wd_54 hE)⟩ ⟨PcE.blind, va_recv hK hP (ci := 11) (q0 := 0) rfl rfl, (pre_E (av := [.ref a0, .int 2]) (wc := [(a0, .inr (11, [.ref a1, .int 0, .int 0, .int 0, .ref a2, .int 0, .ref a3, .ref a4, .ref a5, .ref a6, .int 0, .int 0, .int 0, .int 0, .int 0, .int 0, .int 0, .int (-1), .int (-1), .int (-1), .int 0, .int 0, .int 0, .ref a7, .ref a8, .ref a9, .ref a10, .ref a11, .ref a12, .ref a13, .int 0]))]) (tysc := []) [0] [] rfl (by decide) rfl rfl hK hP hD hE)⟩ rfl rfl hl.1 rfl (lv_room (Nat.le_of_ble_eq_true rfl)) dX12_twin_10 ⟨Nat.le_of_ble_eq_true rfl, Nat.le_of_ble_eq_true rfl⟩) (fun r3 u3 H locs hw3 hK hP hD hS => ?_)
  have hK : va_K (dC, dI) vwCl [(k0, .int)] s := hK
  have hP : va_P (dC, dI) vwCl [(a1, .inl (k0, 7202, .inl (fun _ => 0))), (a0, .inr (11, [.ref a1, .int 2, .int 0, .int 0, .ref a2, .int 0, .ref a3, .ref a4, .ref a5, .ref a6, .int 0, .int 0, .int 0, .int 0, .int 0, .int 0, .int 0, .int (-1), .int (-1), .int (-1), .int 0, .int 0, .int 0, .ref a7, .ref a8, .ref a9, .ref a10, .ref a11, .ref a12, .ref a13, .int 0]))] H := hP
  have hD : va_D A [(a1, .inl (k0, 7202, .inl (fun _ => 0))), (a0, .inr (11, [.ref a1, .int 2, .int 0, .int 0, .ref a2, .int 0, .ref a3, .ref a4, .ref a5, .ref a6, .int 0, .int 0, .int 0, .int 0, .int 0, .int 0, .int 0, .int (-1), .int (-1), .int (-1), .int 0, .int 0, .int 0, .ref a7, .ref a8, .ref a9, .ref a10, .ref a11, .ref a12, .ref a13, .int 0]))] := hD
  subst hw3
  refine W.eq (g2 := F0 m 13 ls [.int (-1)]) rfl ?_
  have hP9 := hP.sub (ws' := []) [] rfl
  have hD9 := hD.sub (ws' := []) [] (by decide) rfl
  have hK9 := hK.sub (tys' := []) [] rfl
  refine W.widen (k := 0) (n := 0) (Nat.le_of_ble_eq_true rfl) (Nat.le_of_ble_eq_true rfl) ?_
  exact W.iret (v := -1) hx hb hr (fun t ht hW => ⟨⟨-1, (), rfl, rfl, by rw [ht]; exact hP9, va_K.moved hW.alike hK9, hD9⟩, hS.F ht⟩) hS.2.2 dX12_twin_13

set_option maxHeartbeats 4000000 in
set_option maxRecDepth 100000 in
theorem c_X12_wrongPair (l : Launch) (dC : Nat → ClassId) (dI : Nat → Nat → Nat) (sz : Nat)  (a0 a1 a2 a3 a4 a5 a6 a7 a8 a9 a10 a11 a12 a13 : Nat) (k0 : ClassId) (v0 : Int32) (v1 : Int32)  : Met l yX12_wrongPair [.code yX12_wrongPair cX12_wrongPair 3 (some .int)] ({ frames := 2, cells := 0, slots := 0, locals := 80 }) (PcE [.ref a0, .int v0, .int v1] sz dC dI [(k0, .int)] [(a0, .inr (11, [.ref a1, .int 0, .int 0, .int 0, .ref a2, .int 0, .ref a3, .ref a4, .ref a5, .ref a6, .int 0, .int 0, .int 0, .int 0, .int 0, .int 0, .int 0, .int (-1), .int (-1), .int (-1), .int 0, .int 0, .int 0, .ref a7, .ref a8, .ref a9, .ref a10, .ref a11, .ref a12, .ref a13, .int 0])), (a1, .inl (k0, 7202, .inl (fun _ => 0)))]) (va_Qi (fun (r : Int32) (u : Unit) => r = 2) (Bw dC dI (va_A [(a0, .inr (11, [.ref a1, .int 0, .int 0, .int 0, .ref a2, .int 0, .ref a3, .ref a4, .ref a5, .ref a6, .int 0, .int 0, .int 0, .int 0, .int 0, .int 0, .int 0, .int (-1), .int (-1), .int (-1), .int 0, .int 0, .int 0, .ref a7, .ref a8, .ref a9, .ref a10, .ref a11, .ref a12, .ref a13, .int 0])), (a1, .inl (k0, 7202, .inl (fun _ => 0)))] sz) (fun (u : Unit) => []) (fun (u : Unit) => [(a0, .inr (11, [.ref a1, .int 0, .int 0, .int 0, .ref a2, .int 0, .ref a3, .ref a4, .ref a5, .ref a6, .int 0, .int 0, .int 0, .int 0, .int 0, .int 0, .int 0, .int (-1), .int (-1), .int (-1), .int 0, .int 0, .int 0, .ref a7, .ref a8, .ref a9, .ref a10, .ref a11, .ref a12, .ref a13, .int 0])), (a1, .inl (k0, 7202, .inl (fun _ => 0)))])) (va_A [(a0, .inr (11, [.ref a1, .int 0, .int 0, .int 0, .ref a2, .int 0, .ref a3, .ref a4, .ref a5, .ref a6, .int 0, .int 0, .int 0, .int 0, .int 0, .int 0, .int 0, .int (-1), .int (-1), .int (-1), .int 0, .int 0, .int 0, .ref a7, .ref a8, .ref a9, .ref a10, .ref a11, .ref a12, .ref a13, .int 0])), (a1, .inl (k0, 7202, .inl (fun _ => 0)))] sz)) 0 0 (va_A [(a0, .inr (11, [.ref a1, .int 0, .int 0, .int 0, .ref a2, .int 0, .ref a3, .ref a4, .ref a5, .ref a6, .int 0, .int 0, .int 0, .int 0, .int 0, .int 0, .int 0, .int (-1), .int (-1), .int (-1), .int 0, .int 0, .int 0, .ref a7, .ref a8, .ref a9, .ref a10, .ref a11, .ref a12, .ref a13, .int 0])), (a1, .inl (k0, 7202, .inl (fun _ => 0)))] sz) := by
  refine Met.ofW (cc := cX12_wrongPair) (maxL := 3) (ret := (some .int)) (by decide) rfl ?_
  intro p e s m args below meth c s₁ B hml hv
  obtain ⟨rfl, hsz, hP, hK, hD0, hE⟩ := hv
  have hx := B.exec
  have hb := B.bytes
  have hr := B.returns
  have hown : s.vm.findClass RX12 = some m.cls := findClass_of_methodNamed B.named
  have hlocks := B.notSynchronized
  subst hsz
  have hD := hD0.self (sz := s.heap.size)
  generalize hAe : va_A [(a0, .inr (11, [.ref a1, .int 0, .int 0, .int 0, .ref a2, .int 0, .ref a3, .ref a4, .ref a5, .ref a6, .int 0, .int 0, .int 0, .int 0, .int 0, .int 0, .int 0, .int (-1), .int (-1), .int (-1), .int 0, .int 0, .int 0, .ref a7, .ref a8, .ref a9, .ref a10, .ref a11, .ref a12, .ref a13, .int 0])), (a1, .inl (k0, 7202, .inl (fun _ => 0)))] s.heap.size = A at hD ⊢
  have hA : ∀ q : Nat, s.heap.size ≤ q → A q := fun q h => by rw [← hAe]; exact Or.inr h
  have hS : va_S A s.heap s.heap [] := va_S.rf
  have hl := lv_entry ([.ref a0, .int v0, .int v1]) (n := 3) (Nat.le_of_ble_eq_true rfl)
  rw [lg_entry_eq]
  generalize (lg_sl ([.ref a0, .int v0, .int v1]) ++ List.replicate (3 - (lg_sl ([.ref a0, .int v0, .int v1])).length) Slot.unset).toArray = ls at hl ⊢
  have hl : lv_has ls 3 [(0, .ref a0), (1, .int v0), (2, .int v1)] := hl
  refine lv_aload_n hx hb dX12_wrongPair_0 rfl (lv_at hl 0 rfl) ?_
  refine lv_iload_n hx hb dX12_wrongPair_1 rfl (lv_at hl 1 rfl) ?_
  refine cl_i (wc := [(a0, .inr (11, [.ref a1, .int 0, .int 0, .int 0, .ref a2, .int 0, .ref a3, .ref a4, .ref a5, .ref a6, .int 0, .int 0, .int 0, .int 0, .int 0, .int 0, .int 0, .int (-1), .int (-1), .int (-1), .int 0, .int 0, .int 0, .ref a7, .ref a8, .ref a9, .ref a10, .ref a11, .ref a12, .ref a13, .int 0])), (a1, .inl (k0, 7202, .inl (fun _ => 0)))]) (wr := []) [0, 1] [] rfl rfl (by decide) (by decide) hK hP hD hS hA (va_runV (As := [.int v0]) (rest := []) ⟨hx, hb, hml, hown, noTs⟩ (c_X12_isWord l dC dI s.heap.size a0 a1 a2 a3 a4 a5 a6 a7 a8 a9 a10 a11 a12 a13 k0 v0) ⟨cbE 1 (wd_1653 hE) (wd_126 hE) (wd_1650 hE) rfl rfl (by decide +kernel) ⟨Nat.le_of_ble_eq_true rfl, Nat.le_of_ble_eq_true rfl⟩, (wd_1652 hE), (wd_83 hE)⟩ ⟨PcE.blind, va_recv hK hP (ci := 11) (q0 := 0) rfl rfl, (pre_E (av := [.ref a0, .int v0]) (wc := [(a0, .inr (11, [.ref a1, .int 0, .int 0, .int 0, .ref a2, .int 0, .ref a3, .ref a4, .ref a5, .ref a6, .int 0, .int 0, .int 0, .int 0, .int 0, .int 0, .int 0, .int (-1), .int (-1), .int (-1), .int 0, .int 0, .int 0, .ref a7, .ref a8, .ref a9, .ref a10, .ref a11, .ref a12, .ref a13, .int 0])), (a1, .inl (k0, 7202, .inl (fun _ => 0)))]) (tysc := [(k0, .int)]) [0, 1] [0] rfl (by decide) rfl rfl hK hP hD hE)⟩ rfl rfl hl.1 rfl (lv_room (Nat.le_of_ble_eq_true rfl)) dX12_wrongPair_2 ⟨Nat.le_of_ble_eq_true rfl, Nat.le_of_ble_eq_true rfl⟩) (fun r1 u1 H locs hw1 hK hP hD hS => ?_)
  have hK : va_K (dC, dI) vwCl [(k0, .int)] s := hK
  have hP : va_P (dC, dI) vwCl [(a0, .inr (11, [.ref a1, .int 0, .int 0, .int 0, .ref a2, .int 0, .ref a3, .ref a4, .ref a5, .ref a6, .int 0, .int 0, .int 0, .int 0, .int 0, .int 0, .int 0, .int (-1), .int (-1), .int (-1), .int 0, .int 0, .int 0, .ref a7, .ref a8, .ref a9, .ref a10, .ref a11, .ref a12, .ref a13, .int 0])), (a1, .inl (k0, 7202, .inl (fun _ => 0)))] H := hP
  have hD : va_D A [(a0, .inr (11, [.ref a1, .int 0, .int 0, .int 0, .ref a2, .int 0, .ref a3, .ref a4, .ref a5, .ref a6, .int 0, .int 0, .int 0, .int 0, .int 0, .int 0, .int 0, .int (-1), .int (-1), .int (-1), .int 0, .int 0, .int 0, .ref a7, .ref a8, .ref a9, .ref a10, .ref a11, .ref a12, .ref a13, .int 0])), (a1, .inl (k0, 7202, .inl (fun _ => 0)))] := hD
  subst hw1
  refine W.eq (g2 := F0 m 5 ls [.int 0]) rfl ?_
  refine lv_if_eq (tgt := 16) hx hb dX12_wrongPair_5 (by decide) (fun c2 => ?_) (fun c2 => absurd c2 (by decide))
  refine lv_iconst (v := 2) hx hb dX12_wrongPair_16 (by decide) ?_
  have hP9 := hP.sub (ws' := [(a0, .inr (11, [.ref a1, .int 0, .int 0, .int 0, .ref a2, .int 0, .ref a3, .ref a4, .ref a5, .ref a6, .int 0, .int 0, .int 0, .int 0, .int 0, .int 0, .int 0, .int (-1), .int (-1), .int (-1), .int 0, .int 0, .int 0, .ref a7, .ref a8, .ref a9, .ref a10, .ref a11, .ref a12, .ref a13, .int 0])), (a1, .inl (k0, 7202, .inl (fun _ => 0)))]) [0, 1] rfl
  have hD9 := hD.sub (ws' := [(a0, .inr (11, [.ref a1, .int 0, .int 0, .int 0, .ref a2, .int 0, .ref a3, .ref a4, .ref a5, .ref a6, .int 0, .int 0, .int 0, .int 0, .int 0, .int 0, .int 0, .int (-1), .int (-1), .int (-1), .int 0, .int 0, .int 0, .ref a7, .ref a8, .ref a9, .ref a10, .ref a11, .ref a12, .ref a13, .int 0])), (a1, .inl (k0, 7202, .inl (fun _ => 0)))]) [0, 1] (by decide) rfl
  have hK9 := hK.sub (tys' := []) [] rfl
  refine W.widen (k := 0) (n := 0) (Nat.le_of_ble_eq_true rfl) (Nat.le_of_ble_eq_true rfl) ?_
  exact W.iret (v := 2) hx hb hr (fun t ht hW => ⟨⟨2, (), rfl, rfl, by rw [ht]; exact hP9, va_K.moved hW.alike hK9, hD9⟩, hS.F ht⟩) hS.2.2 dX12_wrongPair_17

set_option maxHeartbeats 4000000 in
set_option maxRecDepth 100000 in
theorem c_X12_apart (l : Launch) (dC : Nat → ClassId) (dI : Nat → Nat → Nat) (sz : Nat)  (a0 a1 a2 a3 a4 a5 a6 a7 a8 a9 a10 a11 a12 a13 : Nat) (k0 : ClassId) (v0 : Int32) (v1 : Int32)  : Met l yX12_apart [.code yX12_apart cX12_apart 4 (some .int)] ({ frames := 3, cells := 0, slots := 0, locals := 120 }) (PcE [.ref a0, .int v0, .int v1] sz dC dI [(k0, .int)] [(a0, .inr (11, [.ref a1, .int 0, .int 0, .int 0, .ref a2, .int 0, .ref a3, .ref a4, .ref a5, .ref a6, .int 0, .int 0, .int 0, .int 0, .int 0, .int 0, .int 0, .int (-1), .int (-1), .int (-1), .int 0, .int 0, .int 0, .ref a7, .ref a8, .ref a9, .ref a10, .ref a11, .ref a12, .ref a13, .int 0])), (a1, .inl (k0, 7202, .inl (fun _ => 0)))]) (va_Qi (fun (r : Int32) (u : Unit) => r = -1) (Bw dC dI (va_A [(a0, .inr (11, [.ref a1, .int 0, .int 0, .int 0, .ref a2, .int 0, .ref a3, .ref a4, .ref a5, .ref a6, .int 0, .int 0, .int 0, .int 0, .int 0, .int 0, .int 0, .int (-1), .int (-1), .int (-1), .int 0, .int 0, .int 0, .ref a7, .ref a8, .ref a9, .ref a10, .ref a11, .ref a12, .ref a13, .int 0])), (a1, .inl (k0, 7202, .inl (fun _ => 0)))] sz) (fun (u : Unit) => []) (fun (u : Unit) => [])) (va_A [(a0, .inr (11, [.ref a1, .int 0, .int 0, .int 0, .ref a2, .int 0, .ref a3, .ref a4, .ref a5, .ref a6, .int 0, .int 0, .int 0, .int 0, .int 0, .int 0, .int 0, .int (-1), .int (-1), .int (-1), .int 0, .int 0, .int 0, .ref a7, .ref a8, .ref a9, .ref a10, .ref a11, .ref a12, .ref a13, .int 0])), (a1, .inl (k0, 7202, .inl (fun _ => 0)))] sz)) 0 0 (va_A [(a0, .inr (11, [.ref a1, .int 0, .int 0, .int 0, .ref a2, .int 0, .ref a3, .ref a4, .ref a5, .ref a6, .int 0, .int 0, .int 0, .int 0, .int 0, .int 0, .int 0, .int (-1), .int (-1), .int (-1), .int 0, .int 0, .int 0, .ref a7, .ref a8, .ref a9, .ref a10, .ref a11, .ref a12, .ref a13, .int 0])), (a1, .inl (k0, 7202, .inl (fun _ => 0)))] sz) := by
  refine Met.ofW (cc := cX12_apart) (maxL := 4) (ret := (some .int)) (by decide) rfl ?_
  intro p e s m args below meth c s₁ B hml hv
  obtain ⟨rfl, hsz, hP, hK, hD0, hE⟩ := hv
  have hx := B.exec
  have hb := B.bytes
  have hr := B.returns
  have hown : s.vm.findClass RX12 = some m.cls := findClass_of_methodNamed B.named
  have hlocks := B.notSynchronized
  subst hsz
  have hD := hD0.self (sz := s.heap.size)
  generalize hAe : va_A [(a0, .inr (11, [.ref a1, .int 0, .int 0, .int 0, .ref a2, .int 0, .ref a3, .ref a4, .ref a5, .ref a6, .int 0, .int 0, .int 0, .int 0, .int 0, .int 0, .int 0, .int (-1), .int (-1), .int (-1), .int 0, .int 0, .int 0, .ref a7, .ref a8, .ref a9, .ref a10, .ref a11, .ref a12, .ref a13, .int 0])), (a1, .inl (k0, 7202, .inl (fun _ => 0)))] s.heap.size = A at hD ⊢
  have hA : ∀ q : Nat, s.heap.size ≤ q → A q := fun q h => by rw [← hAe]; exact Or.inr h
  have hS : va_S A s.heap s.heap [] := va_S.rf
  have hl := lv_entry ([.ref a0, .int v0, .int v1]) (n := 4) (Nat.le_of_ble_eq_true rfl)
  rw [lg_entry_eq]
  generalize (lg_sl ([.ref a0, .int v0, .int v1]) ++ List.replicate (4 - (lg_sl ([.ref a0, .int v0, .int v1])).length) Slot.unset).toArray = ls at hl ⊢
  have hl : lv_has ls 4 [(0, .ref a0), (1, .int v0), (2, .int v1)] := hl
  refine lv_aload_n hx hb dX12_apart_0 rfl (lv_at hl 0 rfl) ?_
  refine lv_iload_n hx hb dX12_apart_1 rfl (lv_at hl 1 rfl) ?_
  refine lv_iload_n hx hb dX12_apart_2 rfl (lv_at hl 2 rfl) ?_
  refine cl_i (wc := [(a0, .inr (11, [.ref a1, .int 0, .int 0, .int 0, .ref a2, .int 0, .ref a3, .ref a4, .ref a5, .ref a6, .int 0, .int 0, .int 0, .int 0, .int 0, .int 0, .int 0, .int (-1), .int (-1), .int (-1), .int 0, .int 0, .int 0, .ref a7, .ref a8, .ref a9, .ref a10, .ref a11, .ref a12, .ref a13, .int 0])), (a1, .inl (k0, 7202, .inl (fun _ => 0)))]) (wr := []) [0, 1] [] rfl rfl (by decide) (by decide) hK hP hD hS hA (va_runV (As := [.int v0, .int v1]) (rest := []) ⟨hx, hb, hml, hown, noTs⟩ (c_X12_wrongPair l dC dI s.heap.size a0 a1 a2 a3 a4 a5 a6 a7 a8 a9 a10 a11 a12 a13 k0 v0 v1) ⟨cbE 2 (wd_1864 hE) (wd_126 hE) (wd_1861 hE) rfl rfl (by decide +kernel) ⟨Nat.le_of_ble_eq_true rfl, Nat.le_of_ble_eq_true rfl⟩, (wd_1863 hE), (wd_104 hE)⟩ ⟨PcE.blind, va_recv hK hP (ci := 11) (q0 := 0) rfl rfl, (pre_E (av := [.ref a0, .int v0, .int v1]) (wc := [(a0, .inr (11, [.ref a1, .int 0, .int 0, .int 0, .ref a2, .int 0, .ref a3, .ref a4, .ref a5, .ref a6, .int 0, .int 0, .int 0, .int 0, .int 0, .int 0, .int 0, .int (-1), .int (-1), .int (-1), .int 0, .int 0, .int 0, .ref a7, .ref a8, .ref a9, .ref a10, .ref a11, .ref a12, .ref a13, .int 0])), (a1, .inl (k0, 7202, .inl (fun _ => 0)))]) (tysc := [(k0, .int)]) [0, 1] [0] rfl (by decide) rfl rfl hK hP hD hE)⟩ rfl rfl hl.1 rfl (lv_room (Nat.le_of_ble_eq_true rfl)) dX12_apart_3 ⟨Nat.le_of_ble_eq_true rfl, Nat.le_of_ble_eq_true rfl⟩) (fun r1 u1 H locs hw1 hK hP hD hS => ?_)
  have hK : va_K (dC, dI) vwCl [(k0, .int)] s := hK
  have hP : va_P (dC, dI) vwCl [(a0, .inr (11, [.ref a1, .int 0, .int 0, .int 0, .ref a2, .int 0, .ref a3, .ref a4, .ref a5, .ref a6, .int 0, .int 0, .int 0, .int 0, .int 0, .int 0, .int 0, .int (-1), .int (-1), .int (-1), .int 0, .int 0, .int 0, .ref a7, .ref a8, .ref a9, .ref a10, .ref a11, .ref a12, .ref a13, .int 0])), (a1, .inl (k0, 7202, .inl (fun _ => 0)))] H := hP
  have hD : va_D A [(a0, .inr (11, [.ref a1, .int 0, .int 0, .int 0, .ref a2, .int 0, .ref a3, .ref a4, .ref a5, .ref a6, .int 0, .int 0, .int 0, .int 0, .int 0, .int 0, .int 0, .int (-1), .int (-1), .int (-1), .int 0, .int 0, .int 0, .ref a7, .ref a8, .ref a9, .ref a10, .ref a11, .ref a12, .ref a13, .int 0])), (a1, .inl (k0, 7202, .inl (fun _ => 0)))] := hD
  subst hw1
  refine W.eq (g2 := F0 m 6 ls [.int 2]) rfl ?_
  refine lv_istore_n (lv' := [(3, .int 2), (0, .ref a0), (1, .int v0), (2, .int v1)]) hx hb dX12_apart_6 rfl hl (by decide) rfl (fun ls hl => ?_)
  refine lv_iload_n hx hb dX12_apart_7 rfl (lv_at hl 0 rfl) ?_
  refine lv_if_le (tgt := 17) hx hb dX12_apart_8 (by decide) (fun c2 => absurd c2 (by decide)) (fun c2 => ?_)
  refine lv_aload_n hx hb dX12_apart_11 rfl (lv_at hl 1 rfl) ?_
  refine lv_iload_n hx hb dX12_apart_12 rfl (lv_at hl 0 rfl) ?_
  refine cl_i (wc := [(a0, .inr (11, [.ref a1, .int 0, .int 0, .int 0, .ref a2, .int 0, .ref a3, .ref a4, .ref a5, .ref a6, .int 0, .int 0, .int 0, .int 0, .int 0, .int 0, .int 0, .int (-1), .int (-1), .int (-1), .int 0, .int 0, .int 0, .ref a7, .ref a8, .ref a9, .ref a10, .ref a11, .ref a12, .ref a13, .int 0]))]) (wr := [(a1, .inl (k0, 7202, .inl (fun _ => 0)))]) [0] [1] rfl rfl (by decide) (by decide) hK hP hD hS hA (va_runV (As := [.int 2]) (rest := []) ⟨hx, hb, hml, hown, noTs⟩ (c_X12_refuse_2 l dC dI H.size a0 a1 a2 a3 a4 a5 a6 a7 a8 a9 a10 a11 a12 a13) ⟨cbE 1 (wd_1498 hE) (wd_126 hE) (wd_1495 hE) rfl rfl (by decide +kernel) ⟨Nat.le_of_ble_eq_true rfl, Nat.le_of_ble_eq_true rfl⟩, (wd_1497 hE), (wd_54 hE)⟩ ⟨PcE.blind, va_recv hK hP (ci := 11) (q0 := 0) rfl rfl, (pre_E (av := [.ref a0, .int 2]) (wc := [(a0, .inr (11, [.ref a1, .int 0, .int 0, .int 0, .ref a2, .int 0, .ref a3, .ref a4, .ref a5, .ref a6, .int 0, .int 0, .int 0, .int 0, .int 0, .int 0, .int 0, .int (-1), .int (-1), .int (-1), .int 0, .int 0, .int 0, .ref a7, .ref a8, .ref a9, .ref a10, .ref a11, .ref a12, .ref a13, .int 0]))]) (tysc := []) [0] [] rfl (by decide) rfl rfl hK hP hD hE)⟩ rfl rfl hl.1 rfl (lv_room (Nat.le_of_ble_eq_true rfl)) dX12_apart_13 ⟨Nat.le_of_ble_eq_true rfl, Nat.le_of_ble_eq_true rfl⟩) (fun r3 u3 H locs hw3 hK hP hD hS => ?_)
  have hK : va_K (dC, dI) vwCl [(k0, .int)] s := hK
  have hP : va_P (dC, dI) vwCl [(a1, .inl (k0, 7202, .inl (fun _ => 0))), (a0, .inr (11, [.ref a1, .int 2, .int 0, .int 0, .ref a2, .int 0, .ref a3, .ref a4, .ref a5, .ref a6, .int 0, .int 0, .int 0, .int 0, .int 0, .int 0, .int 0, .int (-1), .int (-1), .int (-1), .int 0, .int 0, .int 0, .ref a7, .ref a8, .ref a9, .ref a10, .ref a11, .ref a12, .ref a13, .int 0]))] H := hP
  have hD : va_D A [(a1, .inl (k0, 7202, .inl (fun _ => 0))), (a0, .inr (11, [.ref a1, .int 2, .int 0, .int 0, .ref a2, .int 0, .ref a3, .ref a4, .ref a5, .ref a6, .int 0, .int 0, .int 0, .int 0, .int 0, .int 0, .int 0, .int (-1), .int (-1), .int (-1), .int 0, .int 0, .int 0, .ref a7, .ref a8, .ref a9, .ref a10, .ref a11, .ref a12, .ref a13, .int 0]))] := hD
  subst hw3
  refine W.eq (g2 := F0 m 16 ls [.int (-1)]) rfl ?_
  have hP9 := hP.sub (ws' := []) [] rfl
  have hD9 := hD.sub (ws' := []) [] (by decide) rfl
  have hK9 := hK.sub (tys' := []) [] rfl
  refine W.widen (k := 0) (n := 0) (Nat.le_of_ble_eq_true rfl) (Nat.le_of_ble_eq_true rfl) ?_
  exact W.iret (v := -1) hx hb hr (fun t ht hW => ⟨⟨-1, (), rfl, rfl, by rw [ht]; exact hP9, va_K.moved hW.alike hK9, hD9⟩, hS.F ht⟩) hS.2.2 dX12_apart_16

set_option maxHeartbeats 4000000 in
set_option maxRecDepth 100000 in
theorem c_X12_moves (l : Launch) (dC : Nat → ClassId) (dI : Nat → Nat → Nat) (sz : Nat)  (a0 a1 a2 a3 a4 a5 a6 a7 a8 a9 a10 a11 a12 a13 : Nat) (k0 : ClassId) (v0 : Int32) (v1 : Int32)  : Met l yX12_moves [.code yX12_moves cX12_moves 4 (some .int)] ({ frames := 3, cells := 0, slots := 0, locals := 120 }) (PcE [.ref a0, .int v0, .int v1] sz dC dI [(k0, .int)] [(a0, .inr (11, [.ref a1, .int 0, .int 0, .int 0, .ref a2, .int 0, .ref a3, .ref a4, .ref a5, .ref a6, .int 0, .int 0, .int 0, .int 0, .int 0, .int 0, .int 0, .int (-1), .int (-1), .int (-1), .int 0, .int 0, .int 0, .ref a7, .ref a8, .ref a9, .ref a10, .ref a11, .ref a12, .ref a13, .int 0])), (a1, .inl (k0, 7202, .inl (fun _ => 0)))]) (va_Qi (fun (r : Int32) (u : Unit) => r = -1) (Bw dC dI (va_A [(a0, .inr (11, [.ref a1, .int 0, .int 0, .int 0, .ref a2, .int 0, .ref a3, .ref a4, .ref a5, .ref a6, .int 0, .int 0, .int 0, .int 0, .int 0, .int 0, .int 0, .int (-1), .int (-1), .int (-1), .int 0, .int 0, .int 0, .ref a7, .ref a8, .ref a9, .ref a10, .ref a11, .ref a12, .ref a13, .int 0])), (a1, .inl (k0, 7202, .inl (fun _ => 0)))] sz) (fun (u : Unit) => []) (fun (u : Unit) => [])) (va_A [(a0, .inr (11, [.ref a1, .int 0, .int 0, .int 0, .ref a2, .int 0, .ref a3, .ref a4, .ref a5, .ref a6, .int 0, .int 0, .int 0, .int 0, .int 0, .int 0, .int 0, .int (-1), .int (-1), .int (-1), .int 0, .int 0, .int 0, .ref a7, .ref a8, .ref a9, .ref a10, .ref a11, .ref a12, .ref a13, .int 0])), (a1, .inl (k0, 7202, .inl (fun _ => 0)))] sz)) 0 0 (va_A [(a0, .inr (11, [.ref a1, .int 0, .int 0, .int 0, .ref a2, .int 0, .ref a3, .ref a4, .ref a5, .ref a6, .int 0, .int 0, .int 0, .int 0, .int 0, .int 0, .int 0, .int (-1), .int (-1), .int (-1), .int 0, .int 0, .int 0, .ref a7, .ref a8, .ref a9, .ref a10, .ref a11, .ref a12, .ref a13, .int 0])), (a1, .inl (k0, 7202, .inl (fun _ => 0)))] sz) := by
  refine Met.ofW (cc := cX12_moves) (maxL := 4) (ret := (some .int)) (by decide) rfl ?_
  intro p e s m args below meth c s₁ B hml hv
  obtain ⟨rfl, hsz, hP, hK, hD0, hE⟩ := hv
  have hx := B.exec
  have hb := B.bytes
  have hr := B.returns
  have hown : s.vm.findClass RX12 = some m.cls := findClass_of_methodNamed B.named
  have hlocks := B.notSynchronized
  subst hsz
  have hD := hD0.self (sz := s.heap.size)
  generalize hAe : va_A [(a0, .inr (11, [.ref a1, .int 0, .int 0, .int 0, .ref a2, .int 0, .ref a3, .ref a4, .ref a5, .ref a6, .int 0, .int 0, .int 0, .int 0, .int 0, .int 0, .int 0, .int (-1), .int (-1), .int (-1), .int 0, .int 0, .int 0, .ref a7, .ref a8, .ref a9, .ref a10, .ref a11, .ref a12, .ref a13, .int 0])), (a1, .inl (k0, 7202, .inl (fun _ => 0)))] s.heap.size = A at hD ⊢
  have hA : ∀ q : Nat, s.heap.size ≤ q → A q := fun q h => by rw [← hAe]; exact Or.inr h
  have hS : va_S A s.heap s.heap [] := va_S.rf
  have hl := lv_entry ([.ref a0, .int v0, .int v1]) (n := 4) (Nat.le_of_ble_eq_true rfl)
  rw [lg_entry_eq]
  generalize (lg_sl ([.ref a0, .int v0, .int v1]) ++ List.replicate (4 - (lg_sl ([.ref a0, .int v0, .int v1])).length) Slot.unset).toArray = ls at hl ⊢
  have hl : lv_has ls 4 [(0, .ref a0), (1, .int v0), (2, .int v1)] := hl
  refine lv_aload_n hx hb dX12_moves_0 rfl (lv_at hl 0 rfl) ?_
  refine lv_iload_n hx hb dX12_moves_1 rfl (lv_at hl 1 rfl) ?_
  refine lv_iload_n hx hb dX12_moves_2 rfl (lv_at hl 2 rfl) ?_
  refine cl_i (wc := [(a0, .inr (11, [.ref a1, .int 0, .int 0, .int 0, .ref a2, .int 0, .ref a3, .ref a4, .ref a5, .ref a6, .int 0, .int 0, .int 0, .int 0, .int 0, .int 0, .int 0, .int (-1), .int (-1), .int (-1), .int 0, .int 0, .int 0, .ref a7, .ref a8, .ref a9, .ref a10, .ref a11, .ref a12, .ref a13, .int 0])), (a1, .inl (k0, 7202, .inl (fun _ => 0)))]) (wr := []) [0, 1] [] rfl rfl (by decide) (by decide) hK hP hD hS hA (va_runV (As := [.int v0, .int v1]) (rest := []) ⟨hx, hb, hml, hown, noTs⟩ (c_X12_wrongPair l dC dI s.heap.size a0 a1 a2 a3 a4 a5 a6 a7 a8 a9 a10 a11 a12 a13 k0 v0 v1) ⟨cbE 2 (wd_1864 hE) (wd_126 hE) (wd_1861 hE) rfl rfl (by decide +kernel) ⟨Nat.le_of_ble_eq_true rfl, Nat.le_of_ble_eq_true rfl⟩, (wd_1863 hE), (wd_104 hE)⟩ ⟨PcE.blind, va_recv hK hP (ci := 11) (q0 := 0) rfl rfl, (pre_E (av := [.ref a0, .int v0, .int v1]) (wc := [(a0, .inr (11, [.ref a1, .int 0, .int 0, .int 0, .ref a2, .int 0, .ref a3, .ref a4, .ref a5, .ref a6, .int 0, .int 0, .int 0, .int 0, .int 0, .int 0, .int 0, .int (-1), .int (-1), .int (-1), .int 0, .int 0, .int 0, .ref a7, .ref a8, .ref a9, .ref a10, .ref a11, .ref a12, .ref a13, .int 0])), (a1, .inl (k0, 7202, .inl (fun _ => 0)))]) (tysc := [(k0, .int)]) [0, 1] [0] rfl (by decide) rfl rfl hK hP hD hE)⟩ rfl rfl hl.1 rfl (lv_room (Nat.le_of_ble_eq_true rfl)) dX12_moves_3 ⟨Nat.le_of_ble_eq_true rfl, Nat.le_of_ble_eq_true rfl⟩) (fun r1 u1 H locs hw1 hK hP hD hS => ?_)
  have hK : va_K (dC, dI) vwCl [(k0, .int)] s := hK
  have hP : va_P (dC, dI) vwCl [(a0, .inr (11, [.ref a1, .int 0, .int 0, .int 0, .ref a2, .int 0, .ref a3, .ref a4, .ref a5, .ref a6, .int 0, .int 0, .int 0, .int 0, .int 0, .int 0, .int 0, .int (-1), .int (-1), .int (-1), .int 0, .int 0, .int 0, .ref a7, .ref a8, .ref a9, .ref a10, .ref a11, .ref a12, .ref a13, .int 0])), (a1, .inl (k0, 7202, .inl (fun _ => 0)))] H := hP
  have hD : va_D A [(a0, .inr (11, [.ref a1, .int 0, .int 0, .int 0, .ref a2, .int 0, .ref a3, .ref a4, .ref a5, .ref a6, .int 0, .int 0, .int 0, .int 0, .int 0, .int 0, .int 0, .int (-1), .int (-1), .int (-1), .int 0, .int 0, .int 0, .ref a7, .ref a8, .ref a9, .ref a10, .ref a11, .ref a12, .ref a13, .int 0])), (a1, .inl (k0, 7202, .inl (fun _ => 0)))] := hD
  subst hw1
  refine W.eq (g2 := F0 m 6 ls [.int 2]) rfl ?_
  refine lv_istore_n (lv' := [(3, .int 2), (0, .ref a0), (1, .int v0), (2, .int v1)]) hx hb dX12_moves_6 rfl hl (by decide) rfl (fun ls hl => ?_)
  refine lv_iload_n hx hb dX12_moves_7 rfl (lv_at hl 0 rfl) ?_
  refine lv_if_ne (tgt := 21) hx hb dX12_moves_8 (by decide) (fun c2 => ?_) (fun c2 => absurd c2 (by decide))
  refine lv_iload_n hx hb dX12_moves_21 rfl (lv_at hl 0 rfl) ?_
  refine lv_if_le (tgt := 31) hx hb dX12_moves_22 (by decide) (fun c3 => absurd c3 (by decide)) (fun c3 => ?_)
  refine lv_aload_n hx hb dX12_moves_25 rfl (lv_at hl 1 rfl) ?_
  refine lv_iload_n hx hb dX12_moves_26 rfl (lv_at hl 0 rfl) ?_
  refine cl_i (wc := [(a0, .inr (11, [.ref a1, .int 0, .int 0, .int 0, .ref a2, .int 0, .ref a3, .ref a4, .ref a5, .ref a6, .int 0, .int 0, .int 0, .int 0, .int 0, .int 0, .int 0, .int (-1), .int (-1), .int (-1), .int 0, .int 0, .int 0, .ref a7, .ref a8, .ref a9, .ref a10, .ref a11, .ref a12, .ref a13, .int 0]))]) (wr := [(a1, .inl (k0, 7202, .inl (fun _ => 0)))]) [0] [1] rfl rfl (by decide) (by decide) hK hP hD hS hA (va_runV (As := [.int 2]) (rest := []) ⟨hx, hb, hml, hown, noTs⟩ (c_X12_refuse_2 l dC dI H.size a0 a1 a2 a3 a4 a5 a6 a7 a8 a9 a10 a11 a12 a13) ⟨cbE 1 (wd_1498 hE) (wd_126 hE) (wd_1495 hE) rfl rfl (by decide +kernel) ⟨Nat.le_of_ble_eq_true rfl, Nat.le_of_ble_eq_true rfl⟩, (wd_1497 hE), (wd_54 hE)⟩ ⟨PcE.blind, va_recv hK hP (ci := 11) (q0 := 0) rfl rfl, (pre_E (av := [.ref a0, .int 2]) (wc := [(a0, .inr (11, [.ref a1, .int 0, .int 0, .int 0, .ref a2, .int 0, .ref a3, .ref a4, .ref a5, .ref a6, .int 0, .int 0, .int 0, .int 0, .int 0, .int 0, .int 0, .int (-1), .int (-1), .int (-1), .int 0, .int 0, .int 0, .ref a7, .ref a8, .ref a9, .ref a10, .ref a11, .ref a12, .ref a13, .int 0]))]) (tysc := []) [0] [] rfl (by decide) rfl rfl hK hP hD hE)⟩ rfl rfl hl.1 rfl (lv_room (Nat.le_of_ble_eq_true rfl)) dX12_moves_27 ⟨Nat.le_of_ble_eq_true rfl, Nat.le_of_ble_eq_true rfl⟩) (fun r4 u4 H locs hw4 hK hP hD hS => ?_)
  have hK : va_K (dC, dI) vwCl [(k0, .int)] s := hK
  have hP : va_P (dC, dI) vwCl [(a1, .inl (k0, 7202, .inl (fun _ => 0))), (a0, .inr (11, [.ref a1, .int 2, .int 0, .int 0, .ref a2, .int 0, .ref a3, .ref a4, .ref a5, .ref a6, .int 0, .int 0, .int 0, .int 0, .int 0, .int 0, .int 0, .int (-1), .int (-1), .int (-1), .int 0, .int 0, .int 0, .ref a7, .ref a8, .ref a9, .ref a10, .ref a11, .ref a12, .ref a13, .int 0]))] H := hP
  have hD : va_D A [(a1, .inl (k0, 7202, .inl (fun _ => 0))), (a0, .inr (11, [.ref a1, .int 2, .int 0, .int 0, .ref a2, .int 0, .ref a3, .ref a4, .ref a5, .ref a6, .int 0, .int 0, .int 0, .int 0, .int 0, .int 0, .int 0, .int (-1), .int (-1), .int (-1), .int 0, .int 0, .int 0, .ref a7, .ref a8, .ref a9, .ref a10, .ref a11, .ref a12, .ref a13, .int 0]))] := hD
  subst hw4
  refine W.eq (g2 := F0 m 30 ls [.int (-1)]) rfl ?_
  have hP9 := hP.sub (ws' := []) [] rfl
  have hD9 := hD.sub (ws' := []) [] (by decide) rfl
  have hK9 := hK.sub (tys' := []) [] rfl
  refine W.widen (k := 0) (n := 0) (Nat.le_of_ble_eq_true rfl) (Nat.le_of_ble_eq_true rfl) ?_
  exact W.iret (v := -1) hx hb hr (fun t ht hW => ⟨⟨-1, (), rfl, rfl, by rw [ht]; exact hP9, va_K.moved hW.alike hK9, hD9⟩, hS.F ht⟩) hS.2.2 dX12_moves_30

set_option maxHeartbeats 4000000 in
set_option maxRecDepth 100000 in
theorem c_X12_way (l : Launch) (dC : Nat → ClassId) (dI : Nat → Nat → Nat) (sz : Nat)  (a0 a1 a2 a3 a4 a5 a6 a7 a8 a9 a10 a11 a12 a13 : Nat) (k0 : ClassId) (v0 : Int32) (v1 : Int32) (v2 : Int32)  : Met l yX12_way [.code yX12_way cX12_way 5 (some .int)] ({ frames := 3, cells := 0, slots := 0, locals := 120 }) (PcE [.ref a0, .int v0, .int v1, .int v2] sz dC dI [(k0, .int)] [(a0, .inr (11, [.ref a1, .int 0, .int 0, .int 0, .ref a2, .int 0, .ref a3, .ref a4, .ref a5, .ref a6, .int 0, .int 0, .int 0, .int 0, .int 0, .int 0, .int 0, .int (-1), .int (-1), .int (-1), .int 0, .int 0, .int 0, .ref a7, .ref a8, .ref a9, .ref a10, .ref a11, .ref a12, .ref a13, .int 0])), (a1, .inl (k0, 7202, .inl (fun _ => 0)))]) (va_Qi (fun (r : Int32) (u : Unit) => r = -1) (Bw dC dI (va_A [(a0, .inr (11, [.ref a1, .int 0, .int 0, .int 0, .ref a2, .int 0, .ref a3, .ref a4, .ref a5, .ref a6, .int 0, .int 0, .int 0, .int 0, .int 0, .int 0, .int 0, .int (-1), .int (-1), .int (-1), .int 0, .int 0, .int 0, .ref a7, .ref a8, .ref a9, .ref a10, .ref a11, .ref a12, .ref a13, .int 0])), (a1, .inl (k0, 7202, .inl (fun _ => 0)))] sz) (fun (u : Unit) => []) (fun (u : Unit) => [])) (va_A [(a0, .inr (11, [.ref a1, .int 0, .int 0, .int 0, .ref a2, .int 0, .ref a3, .ref a4, .ref a5, .ref a6, .int 0, .int 0, .int 0, .int 0, .int 0, .int 0, .int 0, .int (-1), .int (-1), .int (-1), .int 0, .int 0, .int 0, .ref a7, .ref a8, .ref a9, .ref a10, .ref a11, .ref a12, .ref a13, .int 0])), (a1, .inl (k0, 7202, .inl (fun _ => 0)))] sz)) 0 0 (va_A [(a0, .inr (11, [.ref a1, .int 0, .int 0, .int 0, .ref a2, .int 0, .ref a3, .ref a4, .ref a5, .ref a6, .int 0, .int 0, .int 0, .int 0, .int 0, .int 0, .int 0, .int (-1), .int (-1), .int (-1), .int 0, .int 0, .int 0, .ref a7, .ref a8, .ref a9, .ref a10, .ref a11, .ref a12, .ref a13, .int 0])), (a1, .inl (k0, 7202, .inl (fun _ => 0)))] sz) := by
  refine Met.ofW (cc := cX12_way) (maxL := 5) (ret := (some .int)) (by decide) rfl ?_
  intro p e s m args below meth c s₁ B hml hv
  obtain ⟨rfl, hsz, hP, hK, hD0, hE⟩ := hv
  have hx := B.exec
  have hb := B.bytes
  have hr := B.returns
  have hown : s.vm.findClass RX12 = some m.cls := findClass_of_methodNamed B.named
  have hlocks := B.notSynchronized
  subst hsz
  have hD := hD0.self (sz := s.heap.size)
  generalize hAe : va_A [(a0, .inr (11, [.ref a1, .int 0, .int 0, .int 0, .ref a2, .int 0, .ref a3, .ref a4, .ref a5, .ref a6, .int 0, .int 0, .int 0, .int 0, .int 0, .int 0, .int 0, .int (-1), .int (-1), .int (-1), .int 0, .int 0, .int 0, .ref a7, .ref a8, .ref a9, .ref a10, .ref a11, .ref a12, .ref a13, .int 0])), (a1, .inl (k0, 7202, .inl (fun _ => 0)))] s.heap.size = A at hD ⊢
  have hA : ∀ q : Nat, s.heap.size ≤ q → A q := fun q h => by rw [← hAe]; exact Or.inr h
  have hS : va_S A s.heap s.heap [] := va_S.rf
  have hl := lv_entry ([.ref a0, .int v0, .int v1, .int v2]) (n := 5) (Nat.le_of_ble_eq_true rfl)
  rw [lg_entry_eq]
  generalize (lg_sl ([.ref a0, .int v0, .int v1, .int v2]) ++ List.replicate (5 - (lg_sl ([.ref a0, .int v0, .int v1, .int v2])).length) Slot.unset).toArray = ls at hl ⊢
  have hl : lv_has ls 5 [(0, .ref a0), (1, .int v0), (2, .int v1), (3, .int v2)] := hl
  refine lv_iload_n hx hb dX12_way_0 rfl (lv_at hl 3 rfl) ?_
  refine lv_if_ge (tgt := 8) hx hb dX12_way_1 (by decide) (fun c1 => ?_) (fun c1 => ?_)
  · refine lv_aload_n hx hb dX12_way_8 rfl (lv_at hl 0 rfl) ?_
    refine lv_iload_n hx hb dX12_way_9 rfl (lv_at hl 1 rfl) ?_
    refine lv_iload_n hx hb dX12_way_10 rfl (lv_at hl 2 rfl) ?_
    refine cl_i (wc := [(a0, .inr (11, [.ref a1, .int 0, .int 0, .int 0, .ref a2, .int 0, .ref a3, .ref a4, .ref a5, .ref a6, .int 0, .int 0, .int 0, .int 0, .int 0, .int 0, .int 0, .int (-1), .int (-1), .int (-1), .int 0, .int 0, .int 0, .ref a7, .ref a8, .ref a9, .ref a10, .ref a11, .ref a12, .ref a13, .int 0])), (a1, .inl (k0, 7202, .inl (fun _ => 0)))]) (wr := []) [0, 1] [] rfl rfl (by decide) (by decide) hK hP hD hS hA (va_runV (As := [.int v0, .int v1]) (rest := []) ⟨hx, hb, hml, hown, noTs⟩ (c_X12_wrongPair l dC dI s.heap.size a0 a1 a2 a3 a4 a5 a6 a7 a8 a9 a10 a11 a12 a13 k0 v0 v1) ⟨cbE 2 (wd_1864 hE) (wd_126 hE) (wd_1861 hE) rfl rfl (by decide +kernel) ⟨Nat.le_of_ble_eq_true rfl, Nat.le_of_ble_eq_true rfl⟩, (wd_1863 hE), (wd_104 hE)⟩ ⟨PcE.blind, va_recv hK hP (ci := 11) (q0 := 0) rfl rfl, (pre_E (av := [.ref a0, .int v0, .int v1]) (wc := [(a0, .inr (11, [.ref a1, .int 0, .int 0, .int 0, .ref a2, .int 0, .ref a3, .ref a4, .ref a5, .ref a6, .int 0, .int 0, .int 0, .int 0, .int 0, .int 0, .int 0, .int (-1), .int (-1), .int (-1), .int 0, .int 0, .int 0, .ref a7, .ref a8, .ref a9, .ref a10, .ref a11, .ref a12, .ref a13, .int 0])), (a1, .inl (k0, 7202, .inl (fun _ => 0)))]) (tysc := [(k0, .int)]) [0, 1] [0] rfl (by decide) rfl rfl hK hP hD hE)⟩ rfl rfl hl.1 rfl (lv_room (Nat.le_of_ble_eq_true rfl)) dX12_way_11 ⟨Nat.le_of_ble_eq_true rfl, Nat.le_of_ble_eq_true rfl⟩) (fun r2 u2 H locs hw2 hK hP hD hS => ?_)
    have hK : va_K (dC, dI) vwCl [(k0, .int)] s := hK
    have hP : va_P (dC, dI) vwCl [(a0, .inr (11, [.ref a1, .int 0, .int 0, .int 0, .ref a2, .int 0, .ref a3, .ref a4, .ref a5, .ref a6, .int 0, .int 0, .int 0, .int 0, .int 0, .int 0, .int 0, .int (-1), .int (-1), .int (-1), .int 0, .int 0, .int 0, .ref a7, .ref a8, .ref a9, .ref a10, .ref a11, .ref a12, .ref a13, .int 0])), (a1, .inl (k0, 7202, .inl (fun _ => 0)))] H := hP
    have hD : va_D A [(a0, .inr (11, [.ref a1, .int 0, .int 0, .int 0, .ref a2, .int 0, .ref a3, .ref a4, .ref a5, .ref a6, .int 0, .int 0, .int 0, .int 0, .int 0, .int 0, .int 0, .int (-1), .int (-1), .int (-1), .int 0, .int 0, .int 0, .ref a7, .ref a8, .ref a9, .ref a10, .ref a11, .ref a12, .ref a13, .int 0])), (a1, .inl (k0, 7202, .inl (fun _ => 0)))] := hD
    subst hw2
    refine W.eq (g2 := F0 m 14 ls [.int 2]) rfl ?_
    refine lv_istore (lv' := [(4, .int 2), (0, .ref a0), (1, .int v0), (2, .int v1), (3, .int v2)]) hx hb dX12_way_14 hl (by decide) rfl (fun ls hl => ?_)
    refine lv_iload hx hb dX12_way_16 (lv_at hl 0 rfl) ?_
    refine lv_if_le (tgt := 28) hx hb dX12_way_18 (by decide) (fun c3 => absurd c3 (by decide)) (fun c3 => ?_)
    refine lv_aload_n hx hb dX12_way_21 rfl (lv_at hl 1 rfl) ?_
    refine lv_iload hx hb dX12_way_22 (lv_at hl 0 rfl) ?_
    refine cl_i (wc := [(a0, .inr (11, [.ref a1, .int 0, .int 0, .int 0, .ref a2, .int 0, .ref a3, .ref a4, .ref a5, .ref a6, .int 0, .int 0, .int 0, .int 0, .int 0, .int 0, .int 0, .int (-1), .int (-1), .int (-1), .int 0, .int 0, .int 0, .ref a7, .ref a8, .ref a9, .ref a10, .ref a11, .ref a12, .ref a13, .int 0]))]) (wr := [(a1, .inl (k0, 7202, .inl (fun _ => 0)))]) [0] [1] rfl rfl (by decide) (by decide) hK hP hD hS hA (va_runV (As := [.int 2]) (rest := []) ⟨hx, hb, hml, hown, noTs⟩ (c_X12_refuse_2 l dC dI H.size a0 a1 a2 a3 a4 a5 a6 a7 a8 a9 a10 a11 a12 a13) ⟨cbE 1 (wd_1498 hE) (wd_126 hE) (wd_1495 hE) rfl rfl (by decide +kernel) ⟨Nat.le_of_ble_eq_true rfl, Nat.le_of_ble_eq_true rfl⟩, (wd_1497 hE), (wd_54 hE)⟩ ⟨PcE.blind, va_recv hK hP (ci := 11) (q0 := 0) rfl rfl, (pre_E (av := [.ref a0, .int 2]) (wc := [(a0, .inr (11, [.ref a1, .int 0, .int 0, .int 0, .ref a2, .int 0, .ref a3, .ref a4, .ref a5, .ref a6, .int 0, .int 0, .int 0, .int 0, .int 0, .int 0, .int 0, .int (-1), .int (-1), .int (-1), .int 0, .int 0, .int 0, .ref a7, .ref a8, .ref a9, .ref a10, .ref a11, .ref a12, .ref a13, .int 0]))]) (tysc := []) [0] [] rfl (by decide) rfl rfl hK hP hD hE)⟩ rfl rfl hl.1 rfl (lv_room (Nat.le_of_ble_eq_true rfl)) dX12_way_24 ⟨Nat.le_of_ble_eq_true rfl, Nat.le_of_ble_eq_true rfl⟩) (fun r4 u4 H locs hw4 hK hP hD hS => ?_)
    have hK : va_K (dC, dI) vwCl [(k0, .int)] s := hK
    have hP : va_P (dC, dI) vwCl [(a1, .inl (k0, 7202, .inl (fun _ => 0))), (a0, .inr (11, [.ref a1, .int 2, .int 0, .int 0, .ref a2, .int 0, .ref a3, .ref a4, .ref a5, .ref a6, .int 0, .int 0, .int 0, .int 0, .int 0, .int 0, .int 0, .int (-1), .int (-1), .int (-1), .int 0, .int 0, .int 0, .ref a7, .ref a8, .ref a9, .ref a10, .ref a11, .ref a12, .ref a13, .int 0]))] H := hP
    have hD : va_D A [(a1, .inl (k0, 7202, .inl (fun _ => 0))), (a0, .inr (11, [.ref a1, .int 2, .int 0, .int 0, .ref a2, .int 0, .ref a3, .ref a4, .ref a5, .ref a6, .int 0, .int 0, .int 0, .int 0, .int 0, .int 0, .int 0, .int (-1), .int (-1), .int (-1), .int 0, .int 0, .int 0, .ref a7, .ref a8, .ref a9, .ref a10, .ref a11, .ref a12, .ref a13, .int 0]))] := hD
    subst hw4
    refine W.eq (g2 := F0 m 27 ls [.int (-1)]) rfl ?_
    have hP9 := hP.sub (ws' := []) [] rfl
    have hD9 := hD.sub (ws' := []) [] (by decide) rfl
    have hK9 := hK.sub (tys' := []) [] rfl
    refine W.widen (k := 0) (n := 0) (Nat.le_of_ble_eq_true rfl) (Nat.le_of_ble_eq_true rfl) ?_
    exact W.iret (v := -1) hx hb hr (fun t ht hW => ⟨⟨-1, (), rfl, rfl, by rw [ht]; exact hP9, va_K.moved hW.alike hK9, hD9⟩, hS.F ht⟩) hS.2.2 dX12_way_27
  · refine lv_iconst (v := 1) hx hb dX12_way_4 (by decide) ?_
    refine lv_goto (tgt := 14) hx hb dX12_way_5 (by decide) ?_
    refine lv_istore (lv' := [(4, .int 1), (0, .ref a0), (1, .int v0), (2, .int v1), (3, .int v2)]) hx hb dX12_way_14 hl (by decide) rfl (fun ls hl => ?_)
    refine lv_iload hx hb dX12_way_16 (lv_at hl 0 rfl) ?_
    refine lv_if_le (tgt := 28) hx hb dX12_way_18 (by decide) (fun c5 => absurd c5 (by decide)) (fun c5 => ?_)
    refine lv_aload_n hx hb dX12_way_21 rfl (lv_at hl 1 rfl) ?_
    refine lv_iload hx hb dX12_way_22 (lv_at hl 0 rfl) ?_
    refine cl_i (wc := [(a0, .inr (11, [.ref a1, .int 0, .int 0, .int 0, .ref a2, .int 0, .ref a3, .ref a4, .ref a5, .ref a6, .int 0, .int 0, .int 0, .int 0, .int 0, .int 0, .int 0, .int (-1), .int (-1), .int (-1), .int 0, .int 0, .int 0, .ref a7, .ref a8, .ref a9, .ref a10, .ref a11, .ref a12, .ref a13, .int 0]))]) (wr := [(a1, .inl (k0, 7202, .inl (fun _ => 0)))]) [0] [1] rfl rfl (by decide) (by decide) hK hP hD hS hA (va_runV (As := [.int 1]) (rest := []) ⟨hx, hb, hml, hown, noTs⟩ (c_X12_refuse l dC dI s.heap.size a0 a1 a2 a3 a4 a5 a6 a7 a8 a9 a10 a11 a12 a13) ⟨cbE 1 (wd_1498 hE) (wd_126 hE) (wd_1495 hE) rfl rfl (by decide +kernel) ⟨Nat.le_of_ble_eq_true rfl, Nat.le_of_ble_eq_true rfl⟩, (wd_1497 hE), (wd_54 hE)⟩ ⟨PcE.blind, va_recv hK hP (ci := 11) (q0 := 0) rfl rfl, (pre_E (av := [.ref a0, .int 1]) (wc := [(a0, .inr (11, [.ref a1, .int 0, .int 0, .int 0, .ref a2, .int 0, .ref a3, .ref a4, .ref a5, .ref a6, .int 0, .int 0, .int 0, .int 0, .int 0, .int 0, .int 0, .int (-1), .int (-1), .int (-1), .int 0, .int 0, .int 0, .ref a7, .ref a8, .ref a9, .ref a10, .ref a11, .ref a12, .ref a13, .int 0]))]) (tysc := []) [0] [] rfl (by decide) rfl rfl hK hP hD hE)⟩ rfl rfl hl.1 rfl (lv_room (Nat.le_of_ble_eq_true rfl)) dX12_way_24 ⟨Nat.le_of_ble_eq_true rfl, Nat.le_of_ble_eq_true rfl⟩) (fun r6 u6 H locs hw6 hK hP hD hS => ?_)
    have hK : va_K (dC, dI) vwCl [(k0, .int)] s := hK
    have hP : va_P (dC, dI) vwCl [(a1, .inl (k0, 7202, .inl (fun _ => 0))), (a0, .inr (11, [.ref a1, .int 1, .int 0, .int 0, .ref a2, .int 0, .ref a3, .ref a4, .ref a5, .ref a6, .int 0, .int 0, .int 0, .int 0, .int 0, .int 0, .int 0, .int (-1), .int (-1), .int (-1), .int 0, .int 0, .int 0, .ref a7, .ref a8, .ref a9, .ref a10, .ref a11, .ref a12, .ref a13, .int 0]))] H := hP
    have hD : va_D A [(a1, .inl (k0, 7202, .inl (fun _ => 0))), (a0, .inr (11, [.ref a1, .int 1, .int 0, .int 0, .ref a2, .int 0, .ref a3, .ref a4, .ref a5, .ref a6, .int 0, .int 0, .int 0, .int 0, .int 0, .int 0, .int 0, .int (-1), .int (-1), .int (-1), .int 0, .int 0, .int 0, .ref a7, .ref a8, .ref a9, .ref a10, .ref a11, .ref a12, .ref a13, .int 0]))] := hD
    subst hw6
    refine W.eq (g2 := F0 m 27 ls [.int (-1)]) rfl ?_
    have hP9 := hP.sub (ws' := []) [] rfl
    have hD9 := hD.sub (ws' := []) [] (by decide) rfl
    have hK9 := hK.sub (tys' := []) [] rfl
    refine W.widen (k := 0) (n := 0) (Nat.le_of_ble_eq_true rfl) (Nat.le_of_ble_eq_true rfl) ?_
    exact W.iret (v := -1) hx hb hr (fun t ht hW => ⟨⟨-1, (), rfl, rfl, by rw [ht]; exact hP9, va_K.moved hW.alike hK9, hD9⟩, hS.F ht⟩) hS.2.2 dX12_way_27

set_option maxHeartbeats 4000000 in
set_option maxRecDepth 100000 in
theorem c_X12_holds (l : Launch) (dC : Nat → ClassId) (dI : Nat → Nat → Nat) (sz : Nat)  (a0 a1 a2 a3 a4 a5 a6 a7 a8 a9 a10 a11 a12 a13 : Nat) (k0 : ClassId) (v0 : Int32) (v1 : Int32)  : Met l yX12_holds [.code yX12_holds cX12_holds 4 (some .long)] ({ frames := 3, cells := 0, slots := 0, locals := 120 }) (PcE [.ref a0, .int v0, .int v1] sz dC dI [(k0, .int)] [(a0, .inr (11, [.ref a1, .int 0, .int 0, .int 0, .ref a2, .int 0, .ref a3, .ref a4, .ref a5, .ref a6, .int 0, .int 0, .int 0, .int 0, .int 0, .int 0, .int 0, .int (-1), .int (-1), .int (-1), .int 0, .int 0, .int 0, .ref a7, .ref a8, .ref a9, .ref a10, .ref a11, .ref a12, .ref a13, .int 0])), (a1, .inl (k0, 7202, .inl (fun _ => 0)))]) (va_Ql (fun (r : Int64) (u : Unit) => r = -1) (Bw dC dI (va_A [(a0, .inr (11, [.ref a1, .int 0, .int 0, .int 0, .ref a2, .int 0, .ref a3, .ref a4, .ref a5, .ref a6, .int 0, .int 0, .int 0, .int 0, .int 0, .int 0, .int 0, .int (-1), .int (-1), .int (-1), .int 0, .int 0, .int 0, .ref a7, .ref a8, .ref a9, .ref a10, .ref a11, .ref a12, .ref a13, .int 0])), (a1, .inl (k0, 7202, .inl (fun _ => 0)))] sz) (fun (u : Unit) => []) (fun (u : Unit) => [])) (va_A [(a0, .inr (11, [.ref a1, .int 0, .int 0, .int 0, .ref a2, .int 0, .ref a3, .ref a4, .ref a5, .ref a6, .int 0, .int 0, .int 0, .int 0, .int 0, .int 0, .int 0, .int (-1), .int (-1), .int (-1), .int 0, .int 0, .int 0, .ref a7, .ref a8, .ref a9, .ref a10, .ref a11, .ref a12, .ref a13, .int 0])), (a1, .inl (k0, 7202, .inl (fun _ => 0)))] sz)) 0 0 (va_A [(a0, .inr (11, [.ref a1, .int 0, .int 0, .int 0, .ref a2, .int 0, .ref a3, .ref a4, .ref a5, .ref a6, .int 0, .int 0, .int 0, .int 0, .int 0, .int 0, .int 0, .int (-1), .int (-1), .int (-1), .int 0, .int 0, .int 0, .ref a7, .ref a8, .ref a9, .ref a10, .ref a11, .ref a12, .ref a13, .int 0])), (a1, .inl (k0, 7202, .inl (fun _ => 0)))] sz) := by
  refine Met.ofW (cc := cX12_holds) (maxL := 4) (ret := (some .long)) (by decide) rfl ?_
  intro p e s m args below meth c s₁ B hml hv
  obtain ⟨rfl, hsz, hP, hK, hD0, hE⟩ := hv
  have hx := B.exec
  have hb := B.bytes
  have hr := B.returns
  have hown : s.vm.findClass RX12 = some m.cls := findClass_of_methodNamed B.named
  have hlocks := B.notSynchronized
  subst hsz
  have hD := hD0.self (sz := s.heap.size)
  generalize hAe : va_A [(a0, .inr (11, [.ref a1, .int 0, .int 0, .int 0, .ref a2, .int 0, .ref a3, .ref a4, .ref a5, .ref a6, .int 0, .int 0, .int 0, .int 0, .int 0, .int 0, .int 0, .int (-1), .int (-1), .int (-1), .int 0, .int 0, .int 0, .ref a7, .ref a8, .ref a9, .ref a10, .ref a11, .ref a12, .ref a13, .int 0])), (a1, .inl (k0, 7202, .inl (fun _ => 0)))] s.heap.size = A at hD ⊢
  have hA : ∀ q : Nat, s.heap.size ≤ q → A q := fun q h => by rw [← hAe]; exact Or.inr h
  have hS : va_S A s.heap s.heap [] := va_S.rf
  have hl := lv_entry ([.ref a0, .int v0, .int v1]) (n := 4) (Nat.le_of_ble_eq_true rfl)
  rw [lg_entry_eq]
  generalize (lg_sl ([.ref a0, .int v0, .int v1]) ++ List.replicate (4 - (lg_sl ([.ref a0, .int v0, .int v1])).length) Slot.unset).toArray = ls at hl ⊢
  have hl : lv_has ls 4 [(0, .ref a0), (1, .int v0), (2, .int v1)] := hl
  refine lv_iload_n hx hb dX12_holds_0 rfl (lv_at hl 2 rfl) ?_
  refine lv_iconst (v := 0) hx hb dX12_holds_1 (by decide) ?_
  refine lv_bipush (v := 12) hx hb dX12_holds_2 (by decide) ?_
  refine cl_i (wc := []) (wr := [(a0, .inr (11, [.ref a1, .int 0, .int 0, .int 0, .ref a2, .int 0, .ref a3, .ref a4, .ref a5, .ref a6, .int 0, .int 0, .int 0, .int 0, .int 0, .int 0, .int 0, .int (-1), .int (-1), .int (-1), .int 0, .int 0, .int 0, .ref a7, .ref a8, .ref a9, .ref a10, .ref a11, .ref a12, .ref a13, .int 0])), (a1, .inl (k0, 7202, .inl (fun _ => 0)))]) [] [0, 1] rfl rfl (by decide) (by decide) hK hP hD hS hA (va_runS (As := [.int v1, .int 0, .int 12]) (rest := []) ⟨hx, hb, hml, hown, noTs⟩ (c_isFrom_0_12 l dC dI s.heap.size v1) ⟨cbE 3 (wd_1494 hE) (wd_126 hE) (wd_1492 hE) rfl rfl (by decide +kernel) ⟨Nat.le_of_ble_eq_true rfl, Nat.le_of_ble_eq_true rfl⟩, (wd_1493 hE)⟩ ⟨PcE.blind, (pre_E (av := [.int v1, .int 0, .int 12]) (wc := []) (tysc := []) [] [] rfl (by decide) rfl rfl hK hP hD hE)⟩ rfl rfl hl.1 rfl (lv_room (Nat.le_of_ble_eq_true rfl)) dX12_holds_4 ⟨Nat.le_of_ble_eq_true rfl, Nat.le_of_ble_eq_true rfl⟩) (fun r1 u1 H locs hw1 hK hP hD hS => ?_)
  have hK : va_K (dC, dI) vwCl [(k0, .int)] s := hK
  have hP : va_P (dC, dI) vwCl [(a0, .inr (11, [.ref a1, .int 0, .int 0, .int 0, .ref a2, .int 0, .ref a3, .ref a4, .ref a5, .ref a6, .int 0, .int 0, .int 0, .int 0, .int 0, .int 0, .int 0, .int (-1), .int (-1), .int (-1), .int 0, .int 0, .int 0, .ref a7, .ref a8, .ref a9, .ref a10, .ref a11, .ref a12, .ref a13, .int 0])), (a1, .inl (k0, 7202, .inl (fun _ => 0)))] H := hP
  have hD : va_D A [(a0, .inr (11, [.ref a1, .int 0, .int 0, .int 0, .ref a2, .int 0, .ref a3, .ref a4, .ref a5, .ref a6, .int 0, .int 0, .int 0, .int 0, .int 0, .int 0, .int 0, .int (-1), .int (-1), .int (-1), .int 0, .int 0, .int 0, .ref a7, .ref a8, .ref a9, .ref a10, .ref a11, .ref a12, .ref a13, .int 0])), (a1, .inl (k0, 7202, .inl (fun _ => 0)))] := hD
  rcases hw1 with ⟨rfl, ha1, hb1⟩ | ⟨rfl, ha1⟩
  · refine W.eq (g2 := F0 m 7 ls [.int 1]) rfl ?_
    refine lv_if_ne (tgt := 17) hx hb dX12_holds_7 (by decide) (fun c2 => ?_) (fun c2 => absurd c2 (by decide))
    refine lv_aload_n hx hb dX12_holds_17 rfl (lv_at hl 0 rfl) ?_
    refine lv_iload_n hx hb dX12_holds_18 rfl (lv_at hl 1 rfl) ?_
    refine cl_i (wc := [(a0, .inr (11, [.ref a1, .int 0, .int 0, .int 0, .ref a2, .int 0, .ref a3, .ref a4, .ref a5, .ref a6, .int 0, .int 0, .int 0, .int 0, .int 0, .int 0, .int 0, .int (-1), .int (-1), .int (-1), .int 0, .int 0, .int 0, .ref a7, .ref a8, .ref a9, .ref a10, .ref a11, .ref a12, .ref a13, .int 0])), (a1, .inl (k0, 7202, .inl (fun _ => 0)))]) (wr := []) [0, 1] [] rfl rfl (by decide) (by decide) hK hP hD hS hA (va_runV (As := [.int v0]) (rest := []) ⟨hx, hb, hml, hown, noTs⟩ (c_X12_wrongLoop l dC dI H.size a0 a1 a2 a3 a4 a5 a6 a7 a8 a9 a10 a11 a12 a13 k0 v0) ⟨cbE 1 (wd_1781 hE) (wd_126 hE) (wd_1778 hE) rfl rfl (by decide +kernel) ⟨Nat.le_of_ble_eq_true rfl, Nat.le_of_ble_eq_true rfl⟩, (wd_1780 hE), (wd_95 hE)⟩ ⟨PcE.blind, va_recv hK hP (ci := 11) (q0 := 0) rfl rfl, (pre_E (av := [.ref a0, .int v0]) (wc := [(a0, .inr (11, [.ref a1, .int 0, .int 0, .int 0, .ref a2, .int 0, .ref a3, .ref a4, .ref a5, .ref a6, .int 0, .int 0, .int 0, .int 0, .int 0, .int 0, .int 0, .int (-1), .int (-1), .int (-1), .int 0, .int 0, .int 0, .ref a7, .ref a8, .ref a9, .ref a10, .ref a11, .ref a12, .ref a13, .int 0])), (a1, .inl (k0, 7202, .inl (fun _ => 0)))]) (tysc := [(k0, .int)]) [0, 1] [0] rfl (by decide) rfl rfl hK hP hD hE)⟩ rfl rfl hl.1 rfl (lv_room (Nat.le_of_ble_eq_true rfl)) dX12_holds_19 ⟨Nat.le_of_ble_eq_true rfl, Nat.le_of_ble_eq_true rfl⟩) (fun r3 u3 H locs hw3 hK hP hD hS => ?_)
    have hK : va_K (dC, dI) vwCl [(k0, .int)] s := hK
    have hP : va_P (dC, dI) vwCl [(a0, .inr (11, [.ref a1, .int 0, .int 0, .int 0, .ref a2, .int 0, .ref a3, .ref a4, .ref a5, .ref a6, .int 0, .int 0, .int 0, .int 0, .int 0, .int 0, .int 0, .int (-1), .int (-1), .int (-1), .int 0, .int 0, .int 0, .ref a7, .ref a8, .ref a9, .ref a10, .ref a11, .ref a12, .ref a13, .int 0])), (a1, .inl (k0, 7202, .inl (fun _ => 0)))] H := hP
    have hD : va_D A [(a0, .inr (11, [.ref a1, .int 0, .int 0, .int 0, .ref a2, .int 0, .ref a3, .ref a4, .ref a5, .ref a6, .int 0, .int 0, .int 0, .int 0, .int 0, .int 0, .int 0, .int (-1), .int (-1), .int (-1), .int 0, .int 0, .int 0, .ref a7, .ref a8, .ref a9, .ref a10, .ref a11, .ref a12, .ref a13, .int 0])), (a1, .inl (k0, 7202, .inl (fun _ => 0)))] := hD
    subst hw3
    refine W.eq (g2 := F0 m 22 ls [.int 2]) rfl ?_
    refine lv_istore_n (lv' := [(3, .int 2), (0, .ref a0), (1, .int v0), (2, .int v1)]) hx hb dX12_holds_22 rfl hl (by decide) rfl (fun ls hl => ?_)
    refine lv_iload_n hx hb dX12_holds_23 rfl (lv_at hl 0 rfl) ?_
    refine lv_if_le (tgt := 34) hx hb dX12_holds_24 (by decide) (fun c4 => absurd c4 (by decide)) (fun c4 => ?_)
    refine lv_aload_n hx hb dX12_holds_27 rfl (lv_at hl 1 rfl) ?_
    refine lv_iload_n hx hb dX12_holds_28 rfl (lv_at hl 0 rfl) ?_
    refine cl_i (wc := [(a0, .inr (11, [.ref a1, .int 0, .int 0, .int 0, .ref a2, .int 0, .ref a3, .ref a4, .ref a5, .ref a6, .int 0, .int 0, .int 0, .int 0, .int 0, .int 0, .int 0, .int (-1), .int (-1), .int (-1), .int 0, .int 0, .int 0, .ref a7, .ref a8, .ref a9, .ref a10, .ref a11, .ref a12, .ref a13, .int 0]))]) (wr := [(a1, .inl (k0, 7202, .inl (fun _ => 0)))]) [0] [1] rfl rfl (by decide) (by decide) hK hP hD hS hA (va_runV (As := [.int 2]) (rest := []) ⟨hx, hb, hml, hown, noTs⟩ (c_X12_refuse_2 l dC dI H.size a0 a1 a2 a3 a4 a5 a6 a7 a8 a9 a10 a11 a12 a13) ⟨cbE 1 (wd_1498 hE) (wd_126 hE) (wd_1495 hE) rfl rfl (by decide +kernel) ⟨Nat.le_of_ble_eq_true rfl, Nat.le_of_ble_eq_true rfl⟩, (wd_1497 hE), (wd_54 hE)⟩ ⟨PcE.blind, va_recv hK hP (ci := 11) (q0 := 0) rfl rfl, (pre_E (av := [.ref a0, .int 2]) (wc := [(a0, .inr (11, [.ref a1, .int 0, .int 0, .int 0, .ref a2, .int 0, .ref a3, .ref a4, .ref a5, .ref a6, .int 0, .int 0, .int 0, .int 0, .int 0, .int 0, .int 0, .int (-1), .int (-1), .int (-1), .int 0, .int 0, .int 0, .ref a7, .ref a8, .ref a9, .ref a10, .ref a11, .ref a12, .ref a13, .int 0]))]) (tysc := []) [0] [] rfl (by decide) rfl rfl hK hP hD hE)⟩ rfl rfl hl.1 rfl (lv_room (Nat.le_of_ble_eq_true rfl)) dX12_holds_29 ⟨Nat.le_of_ble_eq_true rfl, Nat.le_of_ble_eq_true rfl⟩) (fun r5 u5 H locs hw5 hK hP hD hS => ?_)
    have hK : va_K (dC, dI) vwCl [(k0, .int)] s := hK
    have hP : va_P (dC, dI) vwCl [(a1, .inl (k0, 7202, .inl (fun _ => 0))), (a0, .inr (11, [.ref a1, .int 2, .int 0, .int 0, .ref a2, .int 0, .ref a3, .ref a4, .ref a5, .ref a6, .int 0, .int 0, .int 0, .int 0, .int 0, .int 0, .int 0, .int (-1), .int (-1), .int (-1), .int 0, .int 0, .int 0, .ref a7, .ref a8, .ref a9, .ref a10, .ref a11, .ref a12, .ref a13, .int 0]))] H := hP
    have hD : va_D A [(a1, .inl (k0, 7202, .inl (fun _ => 0))), (a0, .inr (11, [.ref a1, .int 2, .int 0, .int 0, .ref a2, .int 0, .ref a3, .ref a4, .ref a5, .ref a6, .int 0, .int 0, .int 0, .int 0, .int 0, .int 0, .int 0, .int (-1), .int (-1), .int (-1), .int 0, .int 0, .int 0, .ref a7, .ref a8, .ref a9, .ref a10, .ref a11, .ref a12, .ref a13, .int 0]))] := hD
    subst hw5
    refine W.eq (g2 := F0 m 32 ls [.int (-1)]) rfl ?_
    refine lv_i2l (v := -1) hx hb dX12_holds_32 (by decide) ?_
    have hP9 := hP.sub (ws' := []) [] rfl
    have hD9 := hD.sub (ws' := []) [] (by decide) rfl
    have hK9 := hK.sub (tys' := []) [] rfl
    refine W.widen (k := 0) (n := 0) (Nat.le_of_ble_eq_true rfl) (Nat.le_of_ble_eq_true rfl) ?_
    exact W.lret (v := -1) hx hb hr (fun t ht hW => ⟨⟨-1, (), rfl, rfl, by rw [ht]; exact hP9, va_K.moved hW.alike hK9, hD9⟩, hS.F ht⟩) hS.2.2 dX12_holds_33
  · refine W.eq (g2 := F0 m 7 ls [.int 0]) rfl ?_
    refine lv_if_ne (tgt := 17) hx hb dX12_holds_7 (by decide) (fun c6 => absurd c6 (by decide)) (fun c6 => ?_)
    refine lv_aload_n hx hb dX12_holds_10 rfl (lv_at hl 0 rfl) ?_
    refine lv_iconst (v := 1) hx hb dX12_holds_11 (by decide) ?_
    refine cl_i (wc := [(a0, .inr (11, [.ref a1, .int 0, .int 0, .int 0, .ref a2, .int 0, .ref a3, .ref a4, .ref a5, .ref a6, .int 0, .int 0, .int 0, .int 0, .int 0, .int 0, .int 0, .int (-1), .int (-1), .int (-1), .int 0, .int 0, .int 0, .ref a7, .ref a8, .ref a9, .ref a10, .ref a11, .ref a12, .ref a13, .int 0]))]) (wr := [(a1, .inl (k0, 7202, .inl (fun _ => 0)))]) [0] [1] rfl rfl (by decide) (by decide) hK hP hD hS hA (va_runV (As := [.int 1]) (rest := []) ⟨hx, hb, hml, hown, noTs⟩ (c_X12_refuse l dC dI H.size a0 a1 a2 a3 a4 a5 a6 a7 a8 a9 a10 a11 a12 a13) ⟨cbE 1 (wd_1498 hE) (wd_126 hE) (wd_1495 hE) rfl rfl (by decide +kernel) ⟨Nat.le_of_ble_eq_true rfl, Nat.le_of_ble_eq_true rfl⟩, (wd_1497 hE), (wd_54 hE)⟩ ⟨PcE.blind, va_recv hK hP (ci := 11) (q0 := 0) rfl rfl, (pre_E (av := [.ref a0, .int 1]) (wc := [(a0, .inr (11, [.ref a1, .int 0, .int 0, .int 0, .ref a2, .int 0, .ref a3, .ref a4, .ref a5, .ref a6, .int 0, .int 0, .int 0, .int 0, .int 0, .int 0, .int 0, .int (-1), .int (-1), .int (-1), .int 0, .int 0, .int 0, .ref a7, .ref a8, .ref a9, .ref a10, .ref a11, .ref a12, .ref a13, .int 0]))]) (tysc := []) [0] [] rfl (by decide) rfl rfl hK hP hD hE)⟩ rfl rfl hl.1 rfl (lv_room (Nat.le_of_ble_eq_true rfl)) dX12_holds_12 ⟨Nat.le_of_ble_eq_true rfl, Nat.le_of_ble_eq_true rfl⟩) (fun r7 u7 H locs hw7 hK hP hD hS => ?_)
    have hK : va_K (dC, dI) vwCl [(k0, .int)] s := hK
    have hP : va_P (dC, dI) vwCl [(a1, .inl (k0, 7202, .inl (fun _ => 0))), (a0, .inr (11, [.ref a1, .int 1, .int 0, .int 0, .ref a2, .int 0, .ref a3, .ref a4, .ref a5, .ref a6, .int 0, .int 0, .int 0, .int 0, .int 0, .int 0, .int 0, .int (-1), .int (-1), .int (-1), .int 0, .int 0, .int 0, .ref a7, .ref a8, .ref a9, .ref a10, .ref a11, .ref a12, .ref a13, .int 0]))] H := hP
    have hD : va_D A [(a1, .inl (k0, 7202, .inl (fun _ => 0))), (a0, .inr (11, [.ref a1, .int 1, .int 0, .int 0, .ref a2, .int 0, .ref a3, .ref a4, .ref a5, .ref a6, .int 0, .int 0, .int 0, .int 0, .int 0, .int 0, .int 0, .int (-1), .int (-1), .int (-1), .int 0, .int 0, .int 0, .ref a7, .ref a8, .ref a9, .ref a10, .ref a11, .ref a12, .ref a13, .int 0]))] := hD
    subst hw7
    refine W.eq (g2 := F0 m 15 ls [.int (-1)]) rfl ?_
    refine lv_i2l (v := -1) hx hb dX12_holds_15 (by decide) ?_
    have hP9 := hP.sub (ws' := []) [] rfl
    have hD9 := hD.sub (ws' := []) [] (by decide) rfl
    have hK9 := hK.sub (tys' := []) [] rfl
    refine W.widen (k := 0) (n := 0) (Nat.le_of_ble_eq_true rfl) (Nat.le_of_ble_eq_true rfl) ?_
    exact W.lret (v := -1) hx hb hr (fun t ht hW => ⟨⟨-1, (), rfl, rfl, by rw [ht]; exact hP9, va_K.moved hW.alike hK9, hD9⟩, hS.F ht⟩) hS.2.2 dX12_holds_16

set_option maxHeartbeats 4000000 in
set_option maxRecDepth 100000 in
theorem c_X12_axis (l : Launch) (dC : Nat → ClassId) (dI : Nat → Nat → Nat) (sz : Nat)  (a0 a1 a2 a3 a4 a5 a6 a7 a8 a9 a10 a11 a12 a13 : Nat) (k0 : ClassId) (v0 : Int32) (v1 : Int32)  : Met l yX12_axis [.code yX12_axis cX12_axis 4 (some .int)] ({ frames := 3, cells := 0, slots := 0, locals := 120 }) (PcE [.ref a0, .int v0, .int v1] sz dC dI [(k0, .int)] [(a0, .inr (11, [.ref a1, .int 0, .int 0, .int 0, .ref a2, .int 0, .ref a3, .ref a4, .ref a5, .ref a6, .int 0, .int 0, .int 0, .int 0, .int 0, .int 0, .int 0, .int (-1), .int (-1), .int (-1), .int 0, .int 0, .int 0, .ref a7, .ref a8, .ref a9, .ref a10, .ref a11, .ref a12, .ref a13, .int 0])), (a1, .inl (k0, 7202, .inl (fun _ => 0)))]) (va_Qi (fun (r : Int32) (u : Unit) => r = -1) (Bw dC dI (va_A [(a0, .inr (11, [.ref a1, .int 0, .int 0, .int 0, .ref a2, .int 0, .ref a3, .ref a4, .ref a5, .ref a6, .int 0, .int 0, .int 0, .int 0, .int 0, .int 0, .int 0, .int (-1), .int (-1), .int (-1), .int 0, .int 0, .int 0, .ref a7, .ref a8, .ref a9, .ref a10, .ref a11, .ref a12, .ref a13, .int 0])), (a1, .inl (k0, 7202, .inl (fun _ => 0)))] sz) (fun (u : Unit) => []) (fun (u : Unit) => [])) (va_A [(a0, .inr (11, [.ref a1, .int 0, .int 0, .int 0, .ref a2, .int 0, .ref a3, .ref a4, .ref a5, .ref a6, .int 0, .int 0, .int 0, .int 0, .int 0, .int 0, .int 0, .int (-1), .int (-1), .int (-1), .int 0, .int 0, .int 0, .ref a7, .ref a8, .ref a9, .ref a10, .ref a11, .ref a12, .ref a13, .int 0])), (a1, .inl (k0, 7202, .inl (fun _ => 0)))] sz)) 0 0 (va_A [(a0, .inr (11, [.ref a1, .int 0, .int 0, .int 0, .ref a2, .int 0, .ref a3, .ref a4, .ref a5, .ref a6, .int 0, .int 0, .int 0, .int 0, .int 0, .int 0, .int 0, .int (-1), .int (-1), .int (-1), .int 0, .int 0, .int 0, .ref a7, .ref a8, .ref a9, .ref a10, .ref a11, .ref a12, .ref a13, .int 0])), (a1, .inl (k0, 7202, .inl (fun _ => 0)))] sz) := by
  refine Met.ofW (cc := cX12_axis) (maxL := 4) (ret := (some .int)) (by decide) rfl ?_
  intro p e s m args below meth c s₁ B hml hv
  obtain ⟨rfl, hsz, hP, hK, hD0, hE⟩ := hv
  have hx := B.exec
  have hb := B.bytes
  have hr := B.returns
  have hown : s.vm.findClass RX12 = some m.cls := findClass_of_methodNamed B.named
  have hlocks := B.notSynchronized
  subst hsz
  have hD := hD0.self (sz := s.heap.size)
  generalize hAe : va_A [(a0, .inr (11, [.ref a1, .int 0, .int 0, .int 0, .ref a2, .int 0, .ref a3, .ref a4, .ref a5, .ref a6, .int 0, .int 0, .int 0, .int 0, .int 0, .int 0, .int 0, .int (-1), .int (-1), .int (-1), .int 0, .int 0, .int 0, .ref a7, .ref a8, .ref a9, .ref a10, .ref a11, .ref a12, .ref a13, .int 0])), (a1, .inl (k0, 7202, .inl (fun _ => 0)))] s.heap.size = A at hD ⊢
  have hA : ∀ q : Nat, s.heap.size ≤ q → A q := fun q h => by rw [← hAe]; exact Or.inr h
  have hS : va_S A s.heap s.heap [] := va_S.rf
  have hl := lv_entry ([.ref a0, .int v0, .int v1]) (n := 4) (Nat.le_of_ble_eq_true rfl)
  rw [lg_entry_eq]
  generalize (lg_sl ([.ref a0, .int v0, .int v1]) ++ List.replicate (4 - (lg_sl ([.ref a0, .int v0, .int v1])).length) Slot.unset).toArray = ls at hl ⊢
  have hl : lv_has ls 4 [(0, .ref a0), (1, .int v0), (2, .int v1)] := hl
  refine lv_iload_n hx hb dX12_axis_0 rfl (lv_at hl 2 rfl) ?_
  refine lv_if_ge (tgt := 10) hx hb dX12_axis_1 (by decide) (fun c1 => ?_) (fun c1 => ?_)
  · refine lv_aload_n hx hb dX12_axis_10 rfl (lv_at hl 0 rfl) ?_
    refine lv_iload_n hx hb dX12_axis_11 rfl (lv_at hl 1 rfl) ?_
    refine cl_i (wc := [(a0, .inr (11, [.ref a1, .int 0, .int 0, .int 0, .ref a2, .int 0, .ref a3, .ref a4, .ref a5, .ref a6, .int 0, .int 0, .int 0, .int 0, .int 0, .int 0, .int 0, .int (-1), .int (-1), .int (-1), .int 0, .int 0, .int 0, .ref a7, .ref a8, .ref a9, .ref a10, .ref a11, .ref a12, .ref a13, .int 0])), (a1, .inl (k0, 7202, .inl (fun _ => 0)))]) (wr := []) [0, 1] [] rfl rfl (by decide) (by decide) hK hP hD hS hA (va_runV (As := [.int v0]) (rest := []) ⟨hx, hb, hml, hown, noTs⟩ (c_X12_wrongLoop l dC dI s.heap.size a0 a1 a2 a3 a4 a5 a6 a7 a8 a9 a10 a11 a12 a13 k0 v0) ⟨cbE 1 (wd_1781 hE) (wd_126 hE) (wd_1778 hE) rfl rfl (by decide +kernel) ⟨Nat.le_of_ble_eq_true rfl, Nat.le_of_ble_eq_true rfl⟩, (wd_1780 hE), (wd_95 hE)⟩ ⟨PcE.blind, va_recv hK hP (ci := 11) (q0 := 0) rfl rfl, (pre_E (av := [.ref a0, .int v0]) (wc := [(a0, .inr (11, [.ref a1, .int 0, .int 0, .int 0, .ref a2, .int 0, .ref a3, .ref a4, .ref a5, .ref a6, .int 0, .int 0, .int 0, .int 0, .int 0, .int 0, .int 0, .int (-1), .int (-1), .int (-1), .int 0, .int 0, .int 0, .ref a7, .ref a8, .ref a9, .ref a10, .ref a11, .ref a12, .ref a13, .int 0])), (a1, .inl (k0, 7202, .inl (fun _ => 0)))]) (tysc := [(k0, .int)]) [0, 1] [0] rfl (by decide) rfl rfl hK hP hD hE)⟩ rfl rfl hl.1 rfl (lv_room (Nat.le_of_ble_eq_true rfl)) dX12_axis_12 ⟨Nat.le_of_ble_eq_true rfl, Nat.le_of_ble_eq_true rfl⟩) (fun r2 u2 H locs hw2 hK hP hD hS => ?_)
    have hK : va_K (dC, dI) vwCl [(k0, .int)] s := hK
    have hP : va_P (dC, dI) vwCl [(a0, .inr (11, [.ref a1, .int 0, .int 0, .int 0, .ref a2, .int 0, .ref a3, .ref a4, .ref a5, .ref a6, .int 0, .int 0, .int 0, .int 0, .int 0, .int 0, .int 0, .int (-1), .int (-1), .int (-1), .int 0, .int 0, .int 0, .ref a7, .ref a8, .ref a9, .ref a10, .ref a11, .ref a12, .ref a13, .int 0])), (a1, .inl (k0, 7202, .inl (fun _ => 0)))] H := hP
    have hD : va_D A [(a0, .inr (11, [.ref a1, .int 0, .int 0, .int 0, .ref a2, .int 0, .ref a3, .ref a4, .ref a5, .ref a6, .int 0, .int 0, .int 0, .int 0, .int 0, .int 0, .int 0, .int (-1), .int (-1), .int (-1), .int 0, .int 0, .int 0, .ref a7, .ref a8, .ref a9, .ref a10, .ref a11, .ref a12, .ref a13, .int 0])), (a1, .inl (k0, 7202, .inl (fun _ => 0)))] := hD
    subst hw2
    refine W.eq (g2 := F0 m 15 ls [.int 2]) rfl ?_
    refine lv_istore_n (lv' := [(3, .int 2), (0, .ref a0), (1, .int v0), (2, .int v1)]) hx hb dX12_axis_15 rfl hl (by decide) rfl (fun ls hl => ?_)
    refine lv_iload_n hx hb dX12_axis_16 rfl (lv_at hl 0 rfl) ?_
    refine lv_if_le (tgt := 26) hx hb dX12_axis_17 (by decide) (fun c3 => absurd c3 (by decide)) (fun c3 => ?_)
    refine lv_aload_n hx hb dX12_axis_20 rfl (lv_at hl 1 rfl) ?_
    refine lv_iload_n hx hb dX12_axis_21 rfl (lv_at hl 0 rfl) ?_
    refine cl_i (wc := [(a0, .inr (11, [.ref a1, .int 0, .int 0, .int 0, .ref a2, .int 0, .ref a3, .ref a4, .ref a5, .ref a6, .int 0, .int 0, .int 0, .int 0, .int 0, .int 0, .int 0, .int (-1), .int (-1), .int (-1), .int 0, .int 0, .int 0, .ref a7, .ref a8, .ref a9, .ref a10, .ref a11, .ref a12, .ref a13, .int 0]))]) (wr := [(a1, .inl (k0, 7202, .inl (fun _ => 0)))]) [0] [1] rfl rfl (by decide) (by decide) hK hP hD hS hA (va_runV (As := [.int 2]) (rest := []) ⟨hx, hb, hml, hown, noTs⟩ (c_X12_refuse_2 l dC dI H.size a0 a1 a2 a3 a4 a5 a6 a7 a8 a9 a10 a11 a12 a13) ⟨cbE 1 (wd_1498 hE) (wd_126 hE) (wd_1495 hE) rfl rfl (by decide +kernel) ⟨Nat.le_of_ble_eq_true rfl, Nat.le_of_ble_eq_true rfl⟩, (wd_1497 hE), (wd_54 hE)⟩ ⟨PcE.blind, va_recv hK hP (ci := 11) (q0 := 0) rfl rfl, (pre_E (av := [.ref a0, .int 2]) (wc := [(a0, .inr (11, [.ref a1, .int 0, .int 0, .int 0, .ref a2, .int 0, .ref a3, .ref a4, .ref a5, .ref a6, .int 0, .int 0, .int 0, .int 0, .int 0, .int 0, .int 0, .int (-1), .int (-1), .int (-1), .int 0, .int 0, .int 0, .ref a7, .ref a8, .ref a9, .ref a10, .ref a11, .ref a12, .ref a13, .int 0]))]) (tysc := []) [0] [] rfl (by decide) rfl rfl hK hP hD hE)⟩ rfl rfl hl.1 rfl (lv_room (Nat.le_of_ble_eq_true rfl)) dX12_axis_22 ⟨Nat.le_of_ble_eq_true rfl, Nat.le_of_ble_eq_true rfl⟩) (fun r4 u4 H locs hw4 hK hP hD hS => ?_)
    have hK : va_K (dC, dI) vwCl [(k0, .int)] s := hK
    have hP : va_P (dC, dI) vwCl [(a1, .inl (k0, 7202, .inl (fun _ => 0))), (a0, .inr (11, [.ref a1, .int 2, .int 0, .int 0, .ref a2, .int 0, .ref a3, .ref a4, .ref a5, .ref a6, .int 0, .int 0, .int 0, .int 0, .int 0, .int 0, .int 0, .int (-1), .int (-1), .int (-1), .int 0, .int 0, .int 0, .ref a7, .ref a8, .ref a9, .ref a10, .ref a11, .ref a12, .ref a13, .int 0]))] H := hP
    have hD : va_D A [(a1, .inl (k0, 7202, .inl (fun _ => 0))), (a0, .inr (11, [.ref a1, .int 2, .int 0, .int 0, .ref a2, .int 0, .ref a3, .ref a4, .ref a5, .ref a6, .int 0, .int 0, .int 0, .int 0, .int 0, .int 0, .int 0, .int (-1), .int (-1), .int (-1), .int 0, .int 0, .int 0, .ref a7, .ref a8, .ref a9, .ref a10, .ref a11, .ref a12, .ref a13, .int 0]))] := hD
    subst hw4
    refine W.eq (g2 := F0 m 25 ls [.int (-1)]) rfl ?_
    have hP9 := hP.sub (ws' := []) [] rfl
    have hD9 := hD.sub (ws' := []) [] (by decide) rfl
    have hK9 := hK.sub (tys' := []) [] rfl
    refine W.widen (k := 0) (n := 0) (Nat.le_of_ble_eq_true rfl) (Nat.le_of_ble_eq_true rfl) ?_
    exact W.iret (v := -1) hx hb hr (fun t ht hW => ⟨⟨-1, (), rfl, rfl, by rw [ht]; exact hP9, va_K.moved hW.alike hK9, hD9⟩, hS.F ht⟩) hS.2.2 dX12_axis_25
  · refine lv_aload_n hx hb dX12_axis_4 rfl (lv_at hl 0 rfl) ?_
    refine lv_iconst (v := 1) hx hb dX12_axis_5 (by decide) ?_
    refine cl_i (wc := [(a0, .inr (11, [.ref a1, .int 0, .int 0, .int 0, .ref a2, .int 0, .ref a3, .ref a4, .ref a5, .ref a6, .int 0, .int 0, .int 0, .int 0, .int 0, .int 0, .int 0, .int (-1), .int (-1), .int (-1), .int 0, .int 0, .int 0, .ref a7, .ref a8, .ref a9, .ref a10, .ref a11, .ref a12, .ref a13, .int 0]))]) (wr := [(a1, .inl (k0, 7202, .inl (fun _ => 0)))]) [0] [1] rfl rfl (by decide) (by decide) hK hP hD hS hA (va_runV (As := [.int 1]) (rest := []) ⟨hx, hb, hml, hown, noTs⟩ (c_X12_refuse l dC dI s.heap.size a0 a1 a2 a3 a4 a5 a6 a7 a8 a9 a10 a11 a12 a13) ⟨cbE 1 (wd_1498 hE) (wd_126 hE) (wd_1495 hE) rfl rfl (by decide +kernel) ⟨Nat.le_of_ble_eq_true rfl, Nat.le_of_ble_eq_true rfl⟩, (wd_1497 hE), (wd_54 hE)⟩ ⟨PcE.blind, va_recv hK hP (ci := 11) (q0 := 0) rfl rfl, (pre_E (av := [.ref a0, .int 1]) (wc := [(a0, .inr (11, [.ref a1, .int 0, .int 0, .int 0, .ref a2, .int 0, .ref a3, .ref a4, .ref a5, .ref a6, .int 0, .int 0, .int 0, .int 0, .int 0, .int 0, .int 0, .int (-1), .int (-1), .int (-1), .int 0, .int 0, .int 0, .ref a7, .ref a8, .ref a9, .ref a10, .ref a11, .ref a12, .ref a13, .int 0]))]) (tysc := []) [0] [] rfl (by decide) rfl rfl hK hP hD hE)⟩ rfl rfl hl.1 rfl (lv_room (Nat.le_of_ble_eq_true rfl)) dX12_axis_6 ⟨Nat.le_of_ble_eq_true rfl, Nat.le_of_ble_eq_true rfl⟩) (fun r5 u5 H locs hw5 hK hP hD hS => ?_)
    have hK : va_K (dC, dI) vwCl [(k0, .int)] s := hK
    have hP : va_P (dC, dI) vwCl [(a1, .inl (k0, 7202, .inl (fun _ => 0))), (a0, .inr (11, [.ref a1, .int 1, .int 0, .int 0, .ref a2, .int 0, .ref a3, .ref a4, .ref a5, .ref a6, .int 0, .int 0, .int 0, .int 0, .int 0, .int 0, .int 0, .int (-1), .int (-1), .int (-1), .int 0, .int 0, .int 0, .ref a7, .ref a8, .ref a9, .ref a10, .ref a11, .ref a12, .ref a13, .int 0]))] H := hP
    have hD : va_D A [(a1, .inl (k0, 7202, .inl (fun _ => 0))), (a0, .inr (11, [.ref a1, .int 1, .int 0, .int 0, .ref a2, .int 0, .ref a3, .ref a4, .ref a5, .ref a6, .int 0, .int 0, .int 0, .int 0, .int 0, .int 0, .int 0, .int (-1), .int (-1), .int (-1), .int 0, .int 0, .int 0, .ref a7, .ref a8, .ref a9, .ref a10, .ref a11, .ref a12, .ref a13, .int 0]))] := hD
    subst hw5
    refine W.eq (g2 := F0 m 9 ls [.int (-1)]) rfl ?_
    have hP9 := hP.sub (ws' := []) [] rfl
    have hD9 := hD.sub (ws' := []) [] (by decide) rfl
    have hK9 := hK.sub (tys' := []) [] rfl
    refine W.widen (k := 0) (n := 0) (Nat.le_of_ble_eq_true rfl) (Nat.le_of_ble_eq_true rfl) ?_
    exact W.iret (v := -1) hx hb hr (fun t ht hW => ⟨⟨-1, (), rfl, rfl, by rw [ht]; exact hP9, va_K.moved hW.alike hK9, hD9⟩, hS.F ht⟩) hS.2.2 dX12_axis_9

set_option maxHeartbeats 4000000 in
set_option maxRecDepth 100000 in
theorem c_X12_ball (l : Launch) (dC : Nat → ClassId) (dI : Nat → Nat → Nat) (sz : Nat)  (a0 a1 a2 a3 a4 a5 a6 a7 a8 a9 a10 a11 a12 a13 : Nat) (k0 : ClassId) (v0 : Int32) (v1 : Int32)  : Met l yX12_ball [.code yX12_ball cX12_ball 3 (some .long)] ({ frames := 2, cells := 0, slots := 0, locals := 80 }) (PcE [.ref a0, .int v0, .int v1] sz dC dI [(k0, .int)] [(a0, .inr (11, [.ref a1, .int 0, .int 0, .int 0, .ref a2, .int 0, .ref a3, .ref a4, .ref a5, .ref a6, .int 0, .int 0, .int 0, .int 0, .int 0, .int 0, .int 0, .int (-1), .int (-1), .int (-1), .int 0, .int 0, .int 0, .ref a7, .ref a8, .ref a9, .ref a10, .ref a11, .ref a12, .ref a13, .int 0])), (a1, .inl (k0, 7202, .inl (fun _ => 0)))]) (va_Ql (fun (r : Int64) (u : Unit) => r = -1) (Bw dC dI (va_A [(a0, .inr (11, [.ref a1, .int 0, .int 0, .int 0, .ref a2, .int 0, .ref a3, .ref a4, .ref a5, .ref a6, .int 0, .int 0, .int 0, .int 0, .int 0, .int 0, .int 0, .int (-1), .int (-1), .int (-1), .int 0, .int 0, .int 0, .ref a7, .ref a8, .ref a9, .ref a10, .ref a11, .ref a12, .ref a13, .int 0])), (a1, .inl (k0, 7202, .inl (fun _ => 0)))] sz) (fun (u : Unit) => []) (fun (u : Unit) => [])) (va_A [(a0, .inr (11, [.ref a1, .int 0, .int 0, .int 0, .ref a2, .int 0, .ref a3, .ref a4, .ref a5, .ref a6, .int 0, .int 0, .int 0, .int 0, .int 0, .int 0, .int 0, .int (-1), .int (-1), .int (-1), .int 0, .int 0, .int 0, .ref a7, .ref a8, .ref a9, .ref a10, .ref a11, .ref a12, .ref a13, .int 0])), (a1, .inl (k0, 7202, .inl (fun _ => 0)))] sz)) 0 0 (va_A [(a0, .inr (11, [.ref a1, .int 0, .int 0, .int 0, .ref a2, .int 0, .ref a3, .ref a4, .ref a5, .ref a6, .int 0, .int 0, .int 0, .int 0, .int 0, .int 0, .int 0, .int (-1), .int (-1), .int (-1), .int 0, .int 0, .int 0, .ref a7, .ref a8, .ref a9, .ref a10, .ref a11, .ref a12, .ref a13, .int 0])), (a1, .inl (k0, 7202, .inl (fun _ => 0)))] sz) := by
  refine Met.ofW (cc := cX12_ball) (maxL := 3) (ret := (some .long)) (by decide) rfl ?_
  intro p e s m args below meth c s₁ B hml hv
  obtain ⟨rfl, hsz, hP, hK, hD0, hE⟩ := hv
  have hx := B.exec
  have hb := B.bytes
  have hr := B.returns
  have hown : s.vm.findClass RX12 = some m.cls := findClass_of_methodNamed B.named
  have hlocks := B.notSynchronized
  subst hsz
  have hD := hD0.self (sz := s.heap.size)
  generalize hAe : va_A [(a0, .inr (11, [.ref a1, .int 0, .int 0, .int 0, .ref a2, .int 0, .ref a3, .ref a4, .ref a5, .ref a6, .int 0, .int 0, .int 0, .int 0, .int 0, .int 0, .int 0, .int (-1), .int (-1), .int (-1), .int 0, .int 0, .int 0, .ref a7, .ref a8, .ref a9, .ref a10, .ref a11, .ref a12, .ref a13, .int 0])), (a1, .inl (k0, 7202, .inl (fun _ => 0)))] s.heap.size = A at hD ⊢
  have hA : ∀ q : Nat, s.heap.size ≤ q → A q := fun q h => by rw [← hAe]; exact Or.inr h
  have hS : va_S A s.heap s.heap [] := va_S.rf
  have hl := lv_entry ([.ref a0, .int v0, .int v1]) (n := 3) (Nat.le_of_ble_eq_true rfl)
  rw [lg_entry_eq]
  generalize (lg_sl ([.ref a0, .int v0, .int v1]) ++ List.replicate (3 - (lg_sl ([.ref a0, .int v0, .int v1])).length) Slot.unset).toArray = ls at hl ⊢
  have hl : lv_has ls 3 [(0, .ref a0), (1, .int v0), (2, .int v1)] := hl
  refine lv_iload_n hx hb dX12_ball_0 rfl (lv_at hl 2 rfl) ?_
  refine lv_iconst (v := 0) hx hb dX12_ball_1 (by decide) ?_
  refine lv_bipush (v := 12) hx hb dX12_ball_2 (by decide) ?_
  refine cl_i (wc := []) (wr := [(a0, .inr (11, [.ref a1, .int 0, .int 0, .int 0, .ref a2, .int 0, .ref a3, .ref a4, .ref a5, .ref a6, .int 0, .int 0, .int 0, .int 0, .int 0, .int 0, .int 0, .int (-1), .int (-1), .int (-1), .int 0, .int 0, .int 0, .ref a7, .ref a8, .ref a9, .ref a10, .ref a11, .ref a12, .ref a13, .int 0])), (a1, .inl (k0, 7202, .inl (fun _ => 0)))]) [] [0, 1] rfl rfl (by decide) (by decide) hK hP hD hS hA (va_runS (As := [.int v1, .int 0, .int 12]) (rest := []) ⟨hx, hb, hml, hown, noTs⟩ (c_isFrom_0_12 l dC dI s.heap.size v1) ⟨cbE 3 (wd_1494 hE) (wd_126 hE) (wd_1492 hE) rfl rfl (by decide +kernel) ⟨Nat.le_of_ble_eq_true rfl, Nat.le_of_ble_eq_true rfl⟩, (wd_1493 hE)⟩ ⟨PcE.blind, (pre_E (av := [.int v1, .int 0, .int 12]) (wc := []) (tysc := []) [] [] rfl (by decide) rfl rfl hK hP hD hE)⟩ rfl rfl hl.1 rfl (lv_room (Nat.le_of_ble_eq_true rfl)) dX12_ball_4 ⟨Nat.le_of_ble_eq_true rfl, Nat.le_of_ble_eq_true rfl⟩) (fun r1 u1 H locs hw1 hK hP hD hS => ?_)
  have hK : va_K (dC, dI) vwCl [(k0, .int)] s := hK
  have hP : va_P (dC, dI) vwCl [(a0, .inr (11, [.ref a1, .int 0, .int 0, .int 0, .ref a2, .int 0, .ref a3, .ref a4, .ref a5, .ref a6, .int 0, .int 0, .int 0, .int 0, .int 0, .int 0, .int 0, .int (-1), .int (-1), .int (-1), .int 0, .int 0, .int 0, .ref a7, .ref a8, .ref a9, .ref a10, .ref a11, .ref a12, .ref a13, .int 0])), (a1, .inl (k0, 7202, .inl (fun _ => 0)))] H := hP
  have hD : va_D A [(a0, .inr (11, [.ref a1, .int 0, .int 0, .int 0, .ref a2, .int 0, .ref a3, .ref a4, .ref a5, .ref a6, .int 0, .int 0, .int 0, .int 0, .int 0, .int 0, .int 0, .int (-1), .int (-1), .int (-1), .int 0, .int 0, .int 0, .ref a7, .ref a8, .ref a9, .ref a10, .ref a11, .ref a12, .ref a13, .int 0])), (a1, .inl (k0, 7202, .inl (fun _ => 0)))] := hD
  rcases hw1 with ⟨rfl, ha1, hb1⟩ | ⟨rfl, ha1⟩
  · refine W.eq (g2 := F0 m 7 ls [.int 1]) rfl ?_
    refine lv_if_ne (tgt := 17) hx hb dX12_ball_7 (by decide) (fun c2 => ?_) (fun c2 => absurd c2 (by decide))
    refine lv_aload_n hx hb dX12_ball_17 rfl (lv_at hl 0 rfl) ?_
    refine lv_iload_n hx hb dX12_ball_18 rfl (lv_at hl 1 rfl) ?_
    refine cl_i (wc := [(a0, .inr (11, [.ref a1, .int 0, .int 0, .int 0, .ref a2, .int 0, .ref a3, .ref a4, .ref a5, .ref a6, .int 0, .int 0, .int 0, .int 0, .int 0, .int 0, .int 0, .int (-1), .int (-1), .int (-1), .int 0, .int 0, .int 0, .ref a7, .ref a8, .ref a9, .ref a10, .ref a11, .ref a12, .ref a13, .int 0])), (a1, .inl (k0, 7202, .inl (fun _ => 0)))]) (wr := []) [0, 1] [] rfl rfl (by decide) (by decide) hK hP hD hS hA (va_runV (As := [.int v0]) (rest := []) ⟨hx, hb, hml, hown, noTs⟩ (c_X12_isVertex l dC dI H.size a0 a1 a2 a3 a4 a5 a6 a7 a8 a9 a10 a11 a12 a13 k0 v0) ⟨cbE 1 (wd_1560 hE) (wd_126 hE) (wd_1557 hE) rfl rfl (by decide +kernel) ⟨Nat.le_of_ble_eq_true rfl, Nat.le_of_ble_eq_true rfl⟩, (wd_1559 hE), (wd_67 hE)⟩ ⟨PcE.blind, va_recv hK hP (ci := 11) (q0 := 0) rfl rfl, (pre_E (av := [.ref a0, .int v0]) (wc := [(a0, .inr (11, [.ref a1, .int 0, .int 0, .int 0, .ref a2, .int 0, .ref a3, .ref a4, .ref a5, .ref a6, .int 0, .int 0, .int 0, .int 0, .int 0, .int 0, .int 0, .int (-1), .int (-1), .int (-1), .int 0, .int 0, .int 0, .ref a7, .ref a8, .ref a9, .ref a10, .ref a11, .ref a12, .ref a13, .int 0])), (a1, .inl (k0, 7202, .inl (fun _ => 0)))]) (tysc := [(k0, .int)]) [0, 1] [0] rfl (by decide) rfl rfl hK hP hD hE)⟩ rfl rfl hl.1 rfl (lv_room (Nat.le_of_ble_eq_true rfl)) dX12_ball_19 ⟨Nat.le_of_ble_eq_true rfl, Nat.le_of_ble_eq_true rfl⟩) (fun r3 u3 H locs hw3 hK hP hD hS => ?_)
    have hK : va_K (dC, dI) vwCl [(k0, .int)] s := hK
    have hP : va_P (dC, dI) vwCl [(a0, .inr (11, [.ref a1, .int 0, .int 0, .int 0, .ref a2, .int 0, .ref a3, .ref a4, .ref a5, .ref a6, .int 0, .int 0, .int 0, .int 0, .int 0, .int 0, .int 0, .int (-1), .int (-1), .int (-1), .int 0, .int 0, .int 0, .ref a7, .ref a8, .ref a9, .ref a10, .ref a11, .ref a12, .ref a13, .int 0])), (a1, .inl (k0, 7202, .inl (fun _ => 0)))] H := hP
    have hD : va_D A [(a0, .inr (11, [.ref a1, .int 0, .int 0, .int 0, .ref a2, .int 0, .ref a3, .ref a4, .ref a5, .ref a6, .int 0, .int 0, .int 0, .int 0, .int 0, .int 0, .int 0, .int (-1), .int (-1), .int (-1), .int 0, .int 0, .int 0, .ref a7, .ref a8, .ref a9, .ref a10, .ref a11, .ref a12, .ref a13, .int 0])), (a1, .inl (k0, 7202, .inl (fun _ => 0)))] := hD
    subst hw3
    refine W.eq (g2 := F0 m 22 ls [.int 0]) rfl ?_
    refine lv_if_eq (tgt := 39) hx hb dX12_ball_22 (by decide) (fun c4 => ?_) (fun c4 => absurd c4 (by decide))
    refine lv_aload_n hx hb dX12_ball_39 rfl (lv_at hl 0 rfl) ?_
    refine lv_iconst (v := 2) hx hb dX12_ball_40 (by decide) ?_
    refine cl_i (wc := [(a0, .inr (11, [.ref a1, .int 0, .int 0, .int 0, .ref a2, .int 0, .ref a3, .ref a4, .ref a5, .ref a6, .int 0, .int 0, .int 0, .int 0, .int 0, .int 0, .int 0, .int (-1), .int (-1), .int (-1), .int 0, .int 0, .int 0, .ref a7, .ref a8, .ref a9, .ref a10, .ref a11, .ref a12, .ref a13, .int 0]))]) (wr := [(a1, .inl (k0, 7202, .inl (fun _ => 0)))]) [0] [1] rfl rfl (by decide) (by decide) hK hP hD hS hA (va_runV (As := [.int 2]) (rest := []) ⟨hx, hb, hml, hown, noTs⟩ (c_X12_refuse_2 l dC dI H.size a0 a1 a2 a3 a4 a5 a6 a7 a8 a9 a10 a11 a12 a13) ⟨cbE 1 (wd_1498 hE) (wd_126 hE) (wd_1495 hE) rfl rfl (by decide +kernel) ⟨Nat.le_of_ble_eq_true rfl, Nat.le_of_ble_eq_true rfl⟩, (wd_1497 hE), (wd_54 hE)⟩ ⟨PcE.blind, va_recv hK hP (ci := 11) (q0 := 0) rfl rfl, (pre_E (av := [.ref a0, .int 2]) (wc := [(a0, .inr (11, [.ref a1, .int 0, .int 0, .int 0, .ref a2, .int 0, .ref a3, .ref a4, .ref a5, .ref a6, .int 0, .int 0, .int 0, .int 0, .int 0, .int 0, .int 0, .int (-1), .int (-1), .int (-1), .int 0, .int 0, .int 0, .ref a7, .ref a8, .ref a9, .ref a10, .ref a11, .ref a12, .ref a13, .int 0]))]) (tysc := []) [0] [] rfl (by decide) rfl rfl hK hP hD hE)⟩ rfl rfl hl.1 rfl (lv_room (Nat.le_of_ble_eq_true rfl)) dX12_ball_41 ⟨Nat.le_of_ble_eq_true rfl, Nat.le_of_ble_eq_true rfl⟩) (fun r5 u5 H locs hw5 hK hP hD hS => ?_)
    have hK : va_K (dC, dI) vwCl [(k0, .int)] s := hK
    have hP : va_P (dC, dI) vwCl [(a1, .inl (k0, 7202, .inl (fun _ => 0))), (a0, .inr (11, [.ref a1, .int 2, .int 0, .int 0, .ref a2, .int 0, .ref a3, .ref a4, .ref a5, .ref a6, .int 0, .int 0, .int 0, .int 0, .int 0, .int 0, .int 0, .int (-1), .int (-1), .int (-1), .int 0, .int 0, .int 0, .ref a7, .ref a8, .ref a9, .ref a10, .ref a11, .ref a12, .ref a13, .int 0]))] H := hP
    have hD : va_D A [(a1, .inl (k0, 7202, .inl (fun _ => 0))), (a0, .inr (11, [.ref a1, .int 2, .int 0, .int 0, .ref a2, .int 0, .ref a3, .ref a4, .ref a5, .ref a6, .int 0, .int 0, .int 0, .int 0, .int 0, .int 0, .int 0, .int (-1), .int (-1), .int (-1), .int 0, .int 0, .int 0, .ref a7, .ref a8, .ref a9, .ref a10, .ref a11, .ref a12, .ref a13, .int 0]))] := hD
    subst hw5
    refine W.eq (g2 := F0 m 44 ls [.int (-1)]) rfl ?_
    refine lv_i2l (v := -1) hx hb dX12_ball_44 (by decide) ?_
    have hP9 := hP.sub (ws' := []) [] rfl
    have hD9 := hD.sub (ws' := []) [] (by decide) rfl
    have hK9 := hK.sub (tys' := []) [] rfl
    refine W.widen (k := 0) (n := 0) (Nat.le_of_ble_eq_true rfl) (Nat.le_of_ble_eq_true rfl) ?_
    exact W.lret (v := -1) hx hb hr (fun t ht hW => ⟨⟨-1, (), rfl, rfl, by rw [ht]; exact hP9, va_K.moved hW.alike hK9, hD9⟩, hS.F ht⟩) hS.2.2 dX12_ball_45
  · refine W.eq (g2 := F0 m 7 ls [.int 0]) rfl ?_
    refine lv_if_ne (tgt := 17) hx hb dX12_ball_7 (by decide) (fun c6 => absurd c6 (by decide)) (fun c6 => ?_)
    refine lv_aload_n hx hb dX12_ball_10 rfl (lv_at hl 0 rfl) ?_
    refine lv_iconst (v := 1) hx hb dX12_ball_11 (by decide) ?_
    refine cl_i (wc := [(a0, .inr (11, [.ref a1, .int 0, .int 0, .int 0, .ref a2, .int 0, .ref a3, .ref a4, .ref a5, .ref a6, .int 0, .int 0, .int 0, .int 0, .int 0, .int 0, .int 0, .int (-1), .int (-1), .int (-1), .int 0, .int 0, .int 0, .ref a7, .ref a8, .ref a9, .ref a10, .ref a11, .ref a12, .ref a13, .int 0]))]) (wr := [(a1, .inl (k0, 7202, .inl (fun _ => 0)))]) [0] [1] rfl rfl (by decide) (by decide) hK hP hD hS hA (va_runV (As := [.int 1]) (rest := []) ⟨hx, hb, hml, hown, noTs⟩ (c_X12_refuse l dC dI H.size a0 a1 a2 a3 a4 a5 a6 a7 a8 a9 a10 a11 a12 a13) ⟨cbE 1 (wd_1498 hE) (wd_126 hE) (wd_1495 hE) rfl rfl (by decide +kernel) ⟨Nat.le_of_ble_eq_true rfl, Nat.le_of_ble_eq_true rfl⟩, (wd_1497 hE), (wd_54 hE)⟩ ⟨PcE.blind, va_recv hK hP (ci := 11) (q0 := 0) rfl rfl, (pre_E (av := [.ref a0, .int 1]) (wc := [(a0, .inr (11, [.ref a1, .int 0, .int 0, .int 0, .ref a2, .int 0, .ref a3, .ref a4, .ref a5, .ref a6, .int 0, .int 0, .int 0, .int 0, .int 0, .int 0, .int 0, .int (-1), .int (-1), .int (-1), .int 0, .int 0, .int 0, .ref a7, .ref a8, .ref a9, .ref a10, .ref a11, .ref a12, .ref a13, .int 0]))]) (tysc := []) [0] [] rfl (by decide) rfl rfl hK hP hD hE)⟩ rfl rfl hl.1 rfl (lv_room (Nat.le_of_ble_eq_true rfl)) dX12_ball_12 ⟨Nat.le_of_ble_eq_true rfl, Nat.le_of_ble_eq_true rfl⟩) (fun r7 u7 H locs hw7 hK hP hD hS => ?_)
    have hK : va_K (dC, dI) vwCl [(k0, .int)] s := hK
    have hP : va_P (dC, dI) vwCl [(a1, .inl (k0, 7202, .inl (fun _ => 0))), (a0, .inr (11, [.ref a1, .int 1, .int 0, .int 0, .ref a2, .int 0, .ref a3, .ref a4, .ref a5, .ref a6, .int 0, .int 0, .int 0, .int 0, .int 0, .int 0, .int 0, .int (-1), .int (-1), .int (-1), .int 0, .int 0, .int 0, .ref a7, .ref a8, .ref a9, .ref a10, .ref a11, .ref a12, .ref a13, .int 0]))] H := hP
    have hD : va_D A [(a1, .inl (k0, 7202, .inl (fun _ => 0))), (a0, .inr (11, [.ref a1, .int 1, .int 0, .int 0, .ref a2, .int 0, .ref a3, .ref a4, .ref a5, .ref a6, .int 0, .int 0, .int 0, .int 0, .int 0, .int 0, .int 0, .int (-1), .int (-1), .int (-1), .int 0, .int 0, .int 0, .ref a7, .ref a8, .ref a9, .ref a10, .ref a11, .ref a12, .ref a13, .int 0]))] := hD
    subst hw7
    refine W.eq (g2 := F0 m 15 ls [.int (-1)]) rfl ?_
    refine lv_i2l (v := -1) hx hb dX12_ball_15 (by decide) ?_
    have hP9 := hP.sub (ws' := []) [] rfl
    have hD9 := hD.sub (ws' := []) [] (by decide) rfl
    have hK9 := hK.sub (tys' := []) [] rfl
    refine W.widen (k := 0) (n := 0) (Nat.le_of_ble_eq_true rfl) (Nat.le_of_ble_eq_true rfl) ?_
    exact W.lret (v := -1) hx hb hr (fun t ht hW => ⟨⟨-1, (), rfl, rfl, by rw [ht]; exact hP9, va_K.moved hW.alike hK9, hD9⟩, hS.F ht⟩) hS.2.2 dX12_ball_16

set_option maxHeartbeats 4000000 in
set_option maxRecDepth 100000 in
theorem c_X12_sphere (l : Launch) (dC : Nat → ClassId) (dI : Nat → Nat → Nat) (sz : Nat)  (a0 a1 a2 a3 a4 a5 a6 a7 a8 a9 a10 a11 a12 a13 : Nat) (k0 : ClassId) (v0 : Int32) (v1 : Int32)  : Met l yX12_sphere [.code yX12_sphere cX12_sphere 3 (some .long)] ({ frames := 2, cells := 0, slots := 0, locals := 80 }) (PcE [.ref a0, .int v0, .int v1] sz dC dI [(k0, .int)] [(a0, .inr (11, [.ref a1, .int 0, .int 0, .int 0, .ref a2, .int 0, .ref a3, .ref a4, .ref a5, .ref a6, .int 0, .int 0, .int 0, .int 0, .int 0, .int 0, .int 0, .int (-1), .int (-1), .int (-1), .int 0, .int 0, .int 0, .ref a7, .ref a8, .ref a9, .ref a10, .ref a11, .ref a12, .ref a13, .int 0])), (a1, .inl (k0, 7202, .inl (fun _ => 0)))]) (va_Ql (fun (r : Int64) (u : Unit) => r = -1) (Bw dC dI (va_A [(a0, .inr (11, [.ref a1, .int 0, .int 0, .int 0, .ref a2, .int 0, .ref a3, .ref a4, .ref a5, .ref a6, .int 0, .int 0, .int 0, .int 0, .int 0, .int 0, .int 0, .int (-1), .int (-1), .int (-1), .int 0, .int 0, .int 0, .ref a7, .ref a8, .ref a9, .ref a10, .ref a11, .ref a12, .ref a13, .int 0])), (a1, .inl (k0, 7202, .inl (fun _ => 0)))] sz) (fun (u : Unit) => []) (fun (u : Unit) => [])) (va_A [(a0, .inr (11, [.ref a1, .int 0, .int 0, .int 0, .ref a2, .int 0, .ref a3, .ref a4, .ref a5, .ref a6, .int 0, .int 0, .int 0, .int 0, .int 0, .int 0, .int 0, .int (-1), .int (-1), .int (-1), .int 0, .int 0, .int 0, .ref a7, .ref a8, .ref a9, .ref a10, .ref a11, .ref a12, .ref a13, .int 0])), (a1, .inl (k0, 7202, .inl (fun _ => 0)))] sz)) 0 0 (va_A [(a0, .inr (11, [.ref a1, .int 0, .int 0, .int 0, .ref a2, .int 0, .ref a3, .ref a4, .ref a5, .ref a6, .int 0, .int 0, .int 0, .int 0, .int 0, .int 0, .int 0, .int (-1), .int (-1), .int (-1), .int 0, .int 0, .int 0, .ref a7, .ref a8, .ref a9, .ref a10, .ref a11, .ref a12, .ref a13, .int 0])), (a1, .inl (k0, 7202, .inl (fun _ => 0)))] sz) := by
  refine Met.ofW (cc := cX12_sphere) (maxL := 3) (ret := (some .long)) (by decide) rfl ?_
  intro p e s m args below meth c s₁ B hml hv
  obtain ⟨rfl, hsz, hP, hK, hD0, hE⟩ := hv
  have hx := B.exec
  have hb := B.bytes
  have hr := B.returns
  have hown : s.vm.findClass RX12 = some m.cls := findClass_of_methodNamed B.named
  have hlocks := B.notSynchronized
  subst hsz
  have hD := hD0.self (sz := s.heap.size)
  generalize hAe : va_A [(a0, .inr (11, [.ref a1, .int 0, .int 0, .int 0, .ref a2, .int 0, .ref a3, .ref a4, .ref a5, .ref a6, .int 0, .int 0, .int 0, .int 0, .int 0, .int 0, .int 0, .int (-1), .int (-1), .int (-1), .int 0, .int 0, .int 0, .ref a7, .ref a8, .ref a9, .ref a10, .ref a11, .ref a12, .ref a13, .int 0])), (a1, .inl (k0, 7202, .inl (fun _ => 0)))] s.heap.size = A at hD ⊢
  have hA : ∀ q : Nat, s.heap.size ≤ q → A q := fun q h => by rw [← hAe]; exact Or.inr h
  have hS : va_S A s.heap s.heap [] := va_S.rf
  have hl := lv_entry ([.ref a0, .int v0, .int v1]) (n := 3) (Nat.le_of_ble_eq_true rfl)
  rw [lg_entry_eq]
  generalize (lg_sl ([.ref a0, .int v0, .int v1]) ++ List.replicate (3 - (lg_sl ([.ref a0, .int v0, .int v1])).length) Slot.unset).toArray = ls at hl ⊢
  have hl : lv_has ls 3 [(0, .ref a0), (1, .int v0), (2, .int v1)] := hl
  refine lv_iload_n hx hb dX12_sphere_0 rfl (lv_at hl 2 rfl) ?_
  refine lv_iconst (v := 0) hx hb dX12_sphere_1 (by decide) ?_
  refine lv_bipush (v := 12) hx hb dX12_sphere_2 (by decide) ?_
  refine cl_i (wc := []) (wr := [(a0, .inr (11, [.ref a1, .int 0, .int 0, .int 0, .ref a2, .int 0, .ref a3, .ref a4, .ref a5, .ref a6, .int 0, .int 0, .int 0, .int 0, .int 0, .int 0, .int 0, .int (-1), .int (-1), .int (-1), .int 0, .int 0, .int 0, .ref a7, .ref a8, .ref a9, .ref a10, .ref a11, .ref a12, .ref a13, .int 0])), (a1, .inl (k0, 7202, .inl (fun _ => 0)))]) [] [0, 1] rfl rfl (by decide) (by decide) hK hP hD hS hA (va_runS (As := [.int v1, .int 0, .int 12]) (rest := []) ⟨hx, hb, hml, hown, noTs⟩ (c_isFrom_0_12 l dC dI s.heap.size v1) ⟨cbE 3 (wd_1494 hE) (wd_126 hE) (wd_1492 hE) rfl rfl (by decide +kernel) ⟨Nat.le_of_ble_eq_true rfl, Nat.le_of_ble_eq_true rfl⟩, (wd_1493 hE)⟩ ⟨PcE.blind, (pre_E (av := [.int v1, .int 0, .int 12]) (wc := []) (tysc := []) [] [] rfl (by decide) rfl rfl hK hP hD hE)⟩ rfl rfl hl.1 rfl (lv_room (Nat.le_of_ble_eq_true rfl)) dX12_sphere_4 ⟨Nat.le_of_ble_eq_true rfl, Nat.le_of_ble_eq_true rfl⟩) (fun r1 u1 H locs hw1 hK hP hD hS => ?_)
  have hK : va_K (dC, dI) vwCl [(k0, .int)] s := hK
  have hP : va_P (dC, dI) vwCl [(a0, .inr (11, [.ref a1, .int 0, .int 0, .int 0, .ref a2, .int 0, .ref a3, .ref a4, .ref a5, .ref a6, .int 0, .int 0, .int 0, .int 0, .int 0, .int 0, .int 0, .int (-1), .int (-1), .int (-1), .int 0, .int 0, .int 0, .ref a7, .ref a8, .ref a9, .ref a10, .ref a11, .ref a12, .ref a13, .int 0])), (a1, .inl (k0, 7202, .inl (fun _ => 0)))] H := hP
  have hD : va_D A [(a0, .inr (11, [.ref a1, .int 0, .int 0, .int 0, .ref a2, .int 0, .ref a3, .ref a4, .ref a5, .ref a6, .int 0, .int 0, .int 0, .int 0, .int 0, .int 0, .int 0, .int (-1), .int (-1), .int (-1), .int 0, .int 0, .int 0, .ref a7, .ref a8, .ref a9, .ref a10, .ref a11, .ref a12, .ref a13, .int 0])), (a1, .inl (k0, 7202, .inl (fun _ => 0)))] := hD
  rcases hw1 with ⟨rfl, ha1, hb1⟩ | ⟨rfl, ha1⟩
  · refine W.eq (g2 := F0 m 7 ls [.int 1]) rfl ?_
    refine lv_if_ne (tgt := 17) hx hb dX12_sphere_7 (by decide) (fun c2 => ?_) (fun c2 => absurd c2 (by decide))
    refine lv_aload_n hx hb dX12_sphere_17 rfl (lv_at hl 0 rfl) ?_
    refine lv_iload_n hx hb dX12_sphere_18 rfl (lv_at hl 1 rfl) ?_
    refine cl_i (wc := [(a0, .inr (11, [.ref a1, .int 0, .int 0, .int 0, .ref a2, .int 0, .ref a3, .ref a4, .ref a5, .ref a6, .int 0, .int 0, .int 0, .int 0, .int 0, .int 0, .int 0, .int (-1), .int (-1), .int (-1), .int 0, .int 0, .int 0, .ref a7, .ref a8, .ref a9, .ref a10, .ref a11, .ref a12, .ref a13, .int 0])), (a1, .inl (k0, 7202, .inl (fun _ => 0)))]) (wr := []) [0, 1] [] rfl rfl (by decide) (by decide) hK hP hD hS hA (va_runV (As := [.int v0]) (rest := []) ⟨hx, hb, hml, hown, noTs⟩ (c_X12_isVertex l dC dI H.size a0 a1 a2 a3 a4 a5 a6 a7 a8 a9 a10 a11 a12 a13 k0 v0) ⟨cbE 1 (wd_1560 hE) (wd_126 hE) (wd_1557 hE) rfl rfl (by decide +kernel) ⟨Nat.le_of_ble_eq_true rfl, Nat.le_of_ble_eq_true rfl⟩, (wd_1559 hE), (wd_67 hE)⟩ ⟨PcE.blind, va_recv hK hP (ci := 11) (q0 := 0) rfl rfl, (pre_E (av := [.ref a0, .int v0]) (wc := [(a0, .inr (11, [.ref a1, .int 0, .int 0, .int 0, .ref a2, .int 0, .ref a3, .ref a4, .ref a5, .ref a6, .int 0, .int 0, .int 0, .int 0, .int 0, .int 0, .int 0, .int (-1), .int (-1), .int (-1), .int 0, .int 0, .int 0, .ref a7, .ref a8, .ref a9, .ref a10, .ref a11, .ref a12, .ref a13, .int 0])), (a1, .inl (k0, 7202, .inl (fun _ => 0)))]) (tysc := [(k0, .int)]) [0, 1] [0] rfl (by decide) rfl rfl hK hP hD hE)⟩ rfl rfl hl.1 rfl (lv_room (Nat.le_of_ble_eq_true rfl)) dX12_sphere_19 ⟨Nat.le_of_ble_eq_true rfl, Nat.le_of_ble_eq_true rfl⟩) (fun r3 u3 H locs hw3 hK hP hD hS => ?_)
    have hK : va_K (dC, dI) vwCl [(k0, .int)] s := hK
    have hP : va_P (dC, dI) vwCl [(a0, .inr (11, [.ref a1, .int 0, .int 0, .int 0, .ref a2, .int 0, .ref a3, .ref a4, .ref a5, .ref a6, .int 0, .int 0, .int 0, .int 0, .int 0, .int 0, .int 0, .int (-1), .int (-1), .int (-1), .int 0, .int 0, .int 0, .ref a7, .ref a8, .ref a9, .ref a10, .ref a11, .ref a12, .ref a13, .int 0])), (a1, .inl (k0, 7202, .inl (fun _ => 0)))] H := hP
    have hD : va_D A [(a0, .inr (11, [.ref a1, .int 0, .int 0, .int 0, .ref a2, .int 0, .ref a3, .ref a4, .ref a5, .ref a6, .int 0, .int 0, .int 0, .int 0, .int 0, .int 0, .int 0, .int (-1), .int (-1), .int (-1), .int 0, .int 0, .int 0, .ref a7, .ref a8, .ref a9, .ref a10, .ref a11, .ref a12, .ref a13, .int 0])), (a1, .inl (k0, 7202, .inl (fun _ => 0)))] := hD
    subst hw3
    refine W.eq (g2 := F0 m 22 ls [.int 0]) rfl ?_
    refine lv_if_ne (tgt := 32) hx hb dX12_sphere_22 (by decide) (fun c4 => absurd c4 (by decide)) (fun c4 => ?_)
    refine lv_aload_n hx hb dX12_sphere_25 rfl (lv_at hl 0 rfl) ?_
    refine lv_iconst (v := 2) hx hb dX12_sphere_26 (by decide) ?_
    refine cl_i (wc := [(a0, .inr (11, [.ref a1, .int 0, .int 0, .int 0, .ref a2, .int 0, .ref a3, .ref a4, .ref a5, .ref a6, .int 0, .int 0, .int 0, .int 0, .int 0, .int 0, .int 0, .int (-1), .int (-1), .int (-1), .int 0, .int 0, .int 0, .ref a7, .ref a8, .ref a9, .ref a10, .ref a11, .ref a12, .ref a13, .int 0]))]) (wr := [(a1, .inl (k0, 7202, .inl (fun _ => 0)))]) [0] [1] rfl rfl (by decide) (by decide) hK hP hD hS hA (va_runV (As := [.int 2]) (rest := []) ⟨hx, hb, hml, hown, noTs⟩ (c_X12_refuse_2 l dC dI H.size a0 a1 a2 a3 a4 a5 a6 a7 a8 a9 a10 a11 a12 a13) ⟨cbE 1 (wd_1498 hE) (wd_126 hE) (wd_1495 hE) rfl rfl (by decide +kernel) ⟨Nat.le_of_ble_eq_true rfl, Nat.le_of_ble_eq_true rfl⟩, (wd_1497 hE), (wd_54 hE)⟩ ⟨PcE.blind, va_recv hK hP (ci := 11) (q0 := 0) rfl rfl, (pre_E (av := [.ref a0, .int 2]) (wc := [(a0, .inr (11, [.ref a1, .int 0, .int 0, .int 0, .ref a2, .int 0, .ref a3, .ref a4, .ref a5, .ref a6, .int 0, .int 0, .int 0, .int 0, .int 0, .int 0, .int 0, .int (-1), .int (-1), .int (-1), .int 0, .int 0, .int 0, .ref a7, .ref a8, .ref a9, .ref a10, .ref a11, .ref a12, .ref a13, .int 0]))]) (tysc := []) [0] [] rfl (by decide) rfl rfl hK hP hD hE)⟩ rfl rfl hl.1 rfl (lv_room (Nat.le_of_ble_eq_true rfl)) dX12_sphere_27 ⟨Nat.le_of_ble_eq_true rfl, Nat.le_of_ble_eq_true rfl⟩) (fun r5 u5 H locs hw5 hK hP hD hS => ?_)
    have hK : va_K (dC, dI) vwCl [(k0, .int)] s := hK
    have hP : va_P (dC, dI) vwCl [(a1, .inl (k0, 7202, .inl (fun _ => 0))), (a0, .inr (11, [.ref a1, .int 2, .int 0, .int 0, .ref a2, .int 0, .ref a3, .ref a4, .ref a5, .ref a6, .int 0, .int 0, .int 0, .int 0, .int 0, .int 0, .int 0, .int (-1), .int (-1), .int (-1), .int 0, .int 0, .int 0, .ref a7, .ref a8, .ref a9, .ref a10, .ref a11, .ref a12, .ref a13, .int 0]))] H := hP
    have hD : va_D A [(a1, .inl (k0, 7202, .inl (fun _ => 0))), (a0, .inr (11, [.ref a1, .int 2, .int 0, .int 0, .ref a2, .int 0, .ref a3, .ref a4, .ref a5, .ref a6, .int 0, .int 0, .int 0, .int 0, .int 0, .int 0, .int 0, .int (-1), .int (-1), .int (-1), .int 0, .int 0, .int 0, .ref a7, .ref a8, .ref a9, .ref a10, .ref a11, .ref a12, .ref a13, .int 0]))] := hD
    subst hw5
    refine W.eq (g2 := F0 m 30 ls [.int (-1)]) rfl ?_
    refine lv_i2l (v := -1) hx hb dX12_sphere_30 (by decide) ?_
    have hP9 := hP.sub (ws' := []) [] rfl
    have hD9 := hD.sub (ws' := []) [] (by decide) rfl
    have hK9 := hK.sub (tys' := []) [] rfl
    refine W.widen (k := 0) (n := 0) (Nat.le_of_ble_eq_true rfl) (Nat.le_of_ble_eq_true rfl) ?_
    exact W.lret (v := -1) hx hb hr (fun t ht hW => ⟨⟨-1, (), rfl, rfl, by rw [ht]; exact hP9, va_K.moved hW.alike hK9, hD9⟩, hS.F ht⟩) hS.2.2 dX12_sphere_31
  · refine W.eq (g2 := F0 m 7 ls [.int 0]) rfl ?_
    refine lv_if_ne (tgt := 17) hx hb dX12_sphere_7 (by decide) (fun c6 => absurd c6 (by decide)) (fun c6 => ?_)
    refine lv_aload_n hx hb dX12_sphere_10 rfl (lv_at hl 0 rfl) ?_
    refine lv_iconst (v := 1) hx hb dX12_sphere_11 (by decide) ?_
    refine cl_i (wc := [(a0, .inr (11, [.ref a1, .int 0, .int 0, .int 0, .ref a2, .int 0, .ref a3, .ref a4, .ref a5, .ref a6, .int 0, .int 0, .int 0, .int 0, .int 0, .int 0, .int 0, .int (-1), .int (-1), .int (-1), .int 0, .int 0, .int 0, .ref a7, .ref a8, .ref a9, .ref a10, .ref a11, .ref a12, .ref a13, .int 0]))]) (wr := [(a1, .inl (k0, 7202, .inl (fun _ => 0)))]) [0] [1] rfl rfl (by decide) (by decide) hK hP hD hS hA (va_runV (As := [.int 1]) (rest := []) ⟨hx, hb, hml, hown, noTs⟩ (c_X12_refuse l dC dI H.size a0 a1 a2 a3 a4 a5 a6 a7 a8 a9 a10 a11 a12 a13) ⟨cbE 1 (wd_1498 hE) (wd_126 hE) (wd_1495 hE) rfl rfl (by decide +kernel) ⟨Nat.le_of_ble_eq_true rfl, Nat.le_of_ble_eq_true rfl⟩, (wd_1497 hE), (wd_54 hE)⟩ ⟨PcE.blind, va_recv hK hP (ci := 11) (q0 := 0) rfl rfl, (pre_E (av := [.ref a0, .int 1]) (wc := [(a0, .inr (11, [.ref a1, .int 0, .int 0, .int 0, .ref a2, .int 0, .ref a3, .ref a4, .ref a5, .ref a6, .int 0, .int 0, .int 0, .int 0, .int 0, .int 0, .int 0, .int (-1), .int (-1), .int (-1), .int 0, .int 0, .int 0, .ref a7, .ref a8, .ref a9, .ref a10, .ref a11, .ref a12, .ref a13, .int 0]))]) (tysc := []) [0] [] rfl (by decide) rfl rfl hK hP hD hE)⟩ rfl rfl hl.1 rfl (lv_room (Nat.le_of_ble_eq_true rfl)) dX12_sphere_12 ⟨Nat.le_of_ble_eq_true rfl, Nat.le_of_ble_eq_true rfl⟩) (fun r7 u7 H locs hw7 hK hP hD hS => ?_)
    have hK : va_K (dC, dI) vwCl [(k0, .int)] s := hK
    have hP : va_P (dC, dI) vwCl [(a1, .inl (k0, 7202, .inl (fun _ => 0))), (a0, .inr (11, [.ref a1, .int 1, .int 0, .int 0, .ref a2, .int 0, .ref a3, .ref a4, .ref a5, .ref a6, .int 0, .int 0, .int 0, .int 0, .int 0, .int 0, .int 0, .int (-1), .int (-1), .int (-1), .int 0, .int 0, .int 0, .ref a7, .ref a8, .ref a9, .ref a10, .ref a11, .ref a12, .ref a13, .int 0]))] H := hP
    have hD : va_D A [(a1, .inl (k0, 7202, .inl (fun _ => 0))), (a0, .inr (11, [.ref a1, .int 1, .int 0, .int 0, .ref a2, .int 0, .ref a3, .ref a4, .ref a5, .ref a6, .int 0, .int 0, .int 0, .int 0, .int 0, .int 0, .int 0, .int (-1), .int (-1), .int (-1), .int 0, .int 0, .int 0, .ref a7, .ref a8, .ref a9, .ref a10, .ref a11, .ref a12, .ref a13, .int 0]))] := hD
    subst hw7
    refine W.eq (g2 := F0 m 15 ls [.int (-1)]) rfl ?_
    refine lv_i2l (v := -1) hx hb dX12_sphere_15 (by decide) ?_
    have hP9 := hP.sub (ws' := []) [] rfl
    have hD9 := hD.sub (ws' := []) [] (by decide) rfl
    have hK9 := hK.sub (tys' := []) [] rfl
    refine W.widen (k := 0) (n := 0) (Nat.le_of_ble_eq_true rfl) (Nat.le_of_ble_eq_true rfl) ?_
    exact W.lret (v := -1) hx hb hr (fun t ht hW => ⟨⟨-1, (), rfl, rfl, by rw [ht]; exact hP9, va_K.moved hW.alike hK9, hD9⟩, hS.F ht⟩) hS.2.2 dX12_sphere_16

set_option maxHeartbeats 4000000 in
set_option maxRecDepth 100000 in
theorem c_X12_listed (l : Launch) (dC : Nat → ClassId) (dI : Nat → Nat → Nat) (sz : Nat)  (a0 a1 a2 a3 a4 a5 a6 a7 a8 a9 a10 a11 a12 a13 : Nat) (k0 : ClassId) (v0 : Int32)  : Met l yX12_listed [.code yX12_listed cX12_listed 12 (some .long)] ({ frames := 3, cells := 0, slots := 0, locals := 120 }) (PcE [.ref a0, .int v0] sz dC dI [(k0, .int)] [(a0, .inr (11, [.ref a1, .int 0, .int 0, .int 0, .ref a2, .int 0, .ref a3, .ref a4, .ref a5, .ref a6, .int 0, .int 0, .int 0, .int 0, .int 0, .int 0, .int 0, .int (-1), .int (-1), .int (-1), .int 0, .int 0, .int 0, .ref a7, .ref a8, .ref a9, .ref a10, .ref a11, .ref a12, .ref a13, .int 0])), (a1, .inl (k0, 7202, .inl (fun _ => 0)))]) (va_Ql (fun (r : Int64) (u : Unit) => r = -1) (Bw dC dI (va_A [(a0, .inr (11, [.ref a1, .int 0, .int 0, .int 0, .ref a2, .int 0, .ref a3, .ref a4, .ref a5, .ref a6, .int 0, .int 0, .int 0, .int 0, .int 0, .int 0, .int 0, .int (-1), .int (-1), .int (-1), .int 0, .int 0, .int 0, .ref a7, .ref a8, .ref a9, .ref a10, .ref a11, .ref a12, .ref a13, .int 0])), (a1, .inl (k0, 7202, .inl (fun _ => 0)))] sz) (fun (u : Unit) => []) (fun (u : Unit) => [])) (va_A [(a0, .inr (11, [.ref a1, .int 0, .int 0, .int 0, .ref a2, .int 0, .ref a3, .ref a4, .ref a5, .ref a6, .int 0, .int 0, .int 0, .int 0, .int 0, .int 0, .int 0, .int (-1), .int (-1), .int (-1), .int 0, .int 0, .int 0, .ref a7, .ref a8, .ref a9, .ref a10, .ref a11, .ref a12, .ref a13, .int 0])), (a1, .inl (k0, 7202, .inl (fun _ => 0)))] sz)) 0 0 (va_A [(a0, .inr (11, [.ref a1, .int 0, .int 0, .int 0, .ref a2, .int 0, .ref a3, .ref a4, .ref a5, .ref a6, .int 0, .int 0, .int 0, .int 0, .int 0, .int 0, .int 0, .int (-1), .int (-1), .int (-1), .int 0, .int 0, .int 0, .ref a7, .ref a8, .ref a9, .ref a10, .ref a11, .ref a12, .ref a13, .int 0])), (a1, .inl (k0, 7202, .inl (fun _ => 0)))] sz) := by
  refine Met.ofW (cc := cX12_listed) (maxL := 12) (ret := (some .long)) (by decide) rfl ?_
  intro p e s m args below meth c s₁ B hml hv
  obtain ⟨rfl, hsz, hP, hK, hD0, hE⟩ := hv
  have hx := B.exec
  have hb := B.bytes
  have hr := B.returns
  have hown : s.vm.findClass RX12 = some m.cls := findClass_of_methodNamed B.named
  have hlocks := B.notSynchronized
  subst hsz
  have hD := hD0.self (sz := s.heap.size)
  generalize hAe : va_A [(a0, .inr (11, [.ref a1, .int 0, .int 0, .int 0, .ref a2, .int 0, .ref a3, .ref a4, .ref a5, .ref a6, .int 0, .int 0, .int 0, .int 0, .int 0, .int 0, .int 0, .int (-1), .int (-1), .int (-1), .int 0, .int 0, .int 0, .ref a7, .ref a8, .ref a9, .ref a10, .ref a11, .ref a12, .ref a13, .int 0])), (a1, .inl (k0, 7202, .inl (fun _ => 0)))] s.heap.size = A at hD ⊢
  have hA : ∀ q : Nat, s.heap.size ≤ q → A q := fun q h => by rw [← hAe]; exact Or.inr h
  have hS : va_S A s.heap s.heap [] := va_S.rf
  have hl := lv_entry ([.ref a0, .int v0]) (n := 12) (Nat.le_of_ble_eq_true rfl)
  rw [lg_entry_eq]
  generalize (lg_sl ([.ref a0, .int v0]) ++ List.replicate (12 - (lg_sl ([.ref a0, .int v0])).length) Slot.unset).toArray = ls at hl ⊢
  have hl : lv_has ls 12 [(0, .ref a0), (1, .int v0)] := hl
  refine lv_aload_n hx hb dX12_listed_0 rfl (lv_at hl 0 rfl) ?_
  refine lv_iload_n hx hb dX12_listed_1 rfl (lv_at hl 1 rfl) ?_
  refine cl_i (wc := [(a0, .inr (11, [.ref a1, .int 0, .int 0, .int 0, .ref a2, .int 0, .ref a3, .ref a4, .ref a5, .ref a6, .int 0, .int 0, .int 0, .int 0, .int 0, .int 0, .int 0, .int (-1), .int (-1), .int (-1), .int 0, .int 0, .int 0, .ref a7, .ref a8, .ref a9, .ref a10, .ref a11, .ref a12, .ref a13, .int 0])), (a1, .inl (k0, 7202, .inl (fun _ => 0)))]) (wr := []) [0, 1] [] rfl rfl (by decide) (by decide) hK hP hD hS hA (va_runV (As := [.int v0]) (rest := []) ⟨hx, hb, hml, hown, noTs⟩ (c_X12_wrongLoop l dC dI s.heap.size a0 a1 a2 a3 a4 a5 a6 a7 a8 a9 a10 a11 a12 a13 k0 v0) ⟨cbE 1 (wd_1781 hE) (wd_126 hE) (wd_1778 hE) rfl rfl (by decide +kernel) ⟨Nat.le_of_ble_eq_true rfl, Nat.le_of_ble_eq_true rfl⟩, (wd_1780 hE), (wd_95 hE)⟩ ⟨PcE.blind, va_recv hK hP (ci := 11) (q0 := 0) rfl rfl, (pre_E (av := [.ref a0, .int v0]) (wc := [(a0, .inr (11, [.ref a1, .int 0, .int 0, .int 0, .ref a2, .int 0, .ref a3, .ref a4, .ref a5, .ref a6, .int 0, .int 0, .int 0, .int 0, .int 0, .int 0, .int 0, .int (-1), .int (-1), .int (-1), .int 0, .int 0, .int 0, .ref a7, .ref a8, .ref a9, .ref a10, .ref a11, .ref a12, .ref a13, .int 0])), (a1, .inl (k0, 7202, .inl (fun _ => 0)))]) (tysc := [(k0, .int)]) [0, 1] [0] rfl (by decide) rfl rfl hK hP hD hE)⟩ rfl rfl hl.1 rfl (lv_room (Nat.le_of_ble_eq_true rfl)) dX12_listed_2 ⟨Nat.le_of_ble_eq_true rfl, Nat.le_of_ble_eq_true rfl⟩) (fun r1 u1 H locs hw1 hK hP hD hS => ?_)
  have hK : va_K (dC, dI) vwCl [(k0, .int)] s := hK
  have hP : va_P (dC, dI) vwCl [(a0, .inr (11, [.ref a1, .int 0, .int 0, .int 0, .ref a2, .int 0, .ref a3, .ref a4, .ref a5, .ref a6, .int 0, .int 0, .int 0, .int 0, .int 0, .int 0, .int 0, .int (-1), .int (-1), .int (-1), .int 0, .int 0, .int 0, .ref a7, .ref a8, .ref a9, .ref a10, .ref a11, .ref a12, .ref a13, .int 0])), (a1, .inl (k0, 7202, .inl (fun _ => 0)))] H := hP
  have hD : va_D A [(a0, .inr (11, [.ref a1, .int 0, .int 0, .int 0, .ref a2, .int 0, .ref a3, .ref a4, .ref a5, .ref a6, .int 0, .int 0, .int 0, .int 0, .int 0, .int 0, .int 0, .int (-1), .int (-1), .int (-1), .int 0, .int 0, .int 0, .ref a7, .ref a8, .ref a9, .ref a10, .ref a11, .ref a12, .ref a13, .int 0])), (a1, .inl (k0, 7202, .inl (fun _ => 0)))] := hD
  subst hw1
  refine W.eq (g2 := F0 m 5 ls [.int 2]) rfl ?_
  refine lv_istore_n (lv' := [(2, .int 2), (0, .ref a0), (1, .int v0)]) hx hb dX12_listed_5 rfl hl (by decide) rfl (fun ls hl => ?_)
  refine lv_iload_n hx hb dX12_listed_6 rfl (lv_at hl 0 rfl) ?_
  refine lv_if_le (tgt := 17) hx hb dX12_listed_7 (by decide) (fun c2 => absurd c2 (by decide)) (fun c2 => ?_)
  refine lv_aload_n hx hb dX12_listed_10 rfl (lv_at hl 1 rfl) ?_
  refine lv_iload_n hx hb dX12_listed_11 rfl (lv_at hl 0 rfl) ?_
  refine cl_i (wc := [(a0, .inr (11, [.ref a1, .int 0, .int 0, .int 0, .ref a2, .int 0, .ref a3, .ref a4, .ref a5, .ref a6, .int 0, .int 0, .int 0, .int 0, .int 0, .int 0, .int 0, .int (-1), .int (-1), .int (-1), .int 0, .int 0, .int 0, .ref a7, .ref a8, .ref a9, .ref a10, .ref a11, .ref a12, .ref a13, .int 0]))]) (wr := [(a1, .inl (k0, 7202, .inl (fun _ => 0)))]) [0] [1] rfl rfl (by decide) (by decide) hK hP hD hS hA (va_runV (As := [.int 2]) (rest := []) ⟨hx, hb, hml, hown, noTs⟩ (c_X12_refuse_2 l dC dI H.size a0 a1 a2 a3 a4 a5 a6 a7 a8 a9 a10 a11 a12 a13) ⟨cbE 1 (wd_1498 hE) (wd_126 hE) (wd_1495 hE) rfl rfl (by decide +kernel) ⟨Nat.le_of_ble_eq_true rfl, Nat.le_of_ble_eq_true rfl⟩, (wd_1497 hE), (wd_54 hE)⟩ ⟨PcE.blind, va_recv hK hP (ci := 11) (q0 := 0) rfl rfl, (pre_E (av := [.ref a0, .int 2]) (wc := [(a0, .inr (11, [.ref a1, .int 0, .int 0, .int 0, .ref a2, .int 0, .ref a3, .ref a4, .ref a5, .ref a6, .int 0, .int 0, .int 0, .int 0, .int 0, .int 0, .int 0, .int (-1), .int (-1), .int (-1), .int 0, .int 0, .int 0, .ref a7, .ref a8, .ref a9, .ref a10, .ref a11, .ref a12, .ref a13, .int 0]))]) (tysc := []) [0] [] rfl (by decide) rfl rfl hK hP hD hE)⟩ rfl rfl hl.1 rfl (lv_room (Nat.le_of_ble_eq_true rfl)) dX12_listed_12 ⟨Nat.le_of_ble_eq_true rfl, Nat.le_of_ble_eq_true rfl⟩) (fun r3 u3 H locs hw3 hK hP hD hS => ?_)
  have hK : va_K (dC, dI) vwCl [(k0, .int)] s := hK
  have hP : va_P (dC, dI) vwCl [(a1, .inl (k0, 7202, .inl (fun _ => 0))), (a0, .inr (11, [.ref a1, .int 2, .int 0, .int 0, .ref a2, .int 0, .ref a3, .ref a4, .ref a5, .ref a6, .int 0, .int 0, .int 0, .int 0, .int 0, .int 0, .int 0, .int (-1), .int (-1), .int (-1), .int 0, .int 0, .int 0, .ref a7, .ref a8, .ref a9, .ref a10, .ref a11, .ref a12, .ref a13, .int 0]))] H := hP
  have hD : va_D A [(a1, .inl (k0, 7202, .inl (fun _ => 0))), (a0, .inr (11, [.ref a1, .int 2, .int 0, .int 0, .ref a2, .int 0, .ref a3, .ref a4, .ref a5, .ref a6, .int 0, .int 0, .int 0, .int 0, .int 0, .int 0, .int 0, .int (-1), .int (-1), .int (-1), .int 0, .int 0, .int 0, .ref a7, .ref a8, .ref a9, .ref a10, .ref a11, .ref a12, .ref a13, .int 0]))] := hD
  subst hw3
  refine W.eq (g2 := F0 m 15 ls [.int (-1)]) rfl ?_
  refine lv_i2l (v := -1) hx hb dX12_listed_15 (by decide) ?_
  have hP9 := hP.sub (ws' := []) [] rfl
  have hD9 := hD.sub (ws' := []) [] (by decide) rfl
  have hK9 := hK.sub (tys' := []) [] rfl
  refine W.widen (k := 0) (n := 0) (Nat.le_of_ble_eq_true rfl) (Nat.le_of_ble_eq_true rfl) ?_
  exact W.lret (v := -1) hx hb hr (fun t ht hW => ⟨⟨-1, (), rfl, rfl, by rw [ht]; exact hP9, va_K.moved hW.alike hK9, hD9⟩, hS.F ht⟩) hS.2.2 dX12_listed_16

set_option maxHeartbeats 4000000 in
set_option maxRecDepth 100000 in
theorem c_isFrom_0_99 (l : Launch) (dC : Nat → ClassId) (dI : Nat → Nat → Nat) (sz : Nat)  (v0 : Int32)  : Met l yX12_isFrom [.code yX12_isFrom cX12_isFrom 3 (some .boolean)] ({ frames := 0, cells := 0, slots := 0, locals := 0 }) (PcE [.int v0, .int 0, .int 99] sz dC dI [] []) (va_Qi (fun (r : Int32) (u : Unit) => (r = 1 ∧ 0 ≤ v0 ∧ v0 ≤ 99) ∨ (r = 0 ∧ ¬ (0 ≤ v0 ∧ v0 ≤ 99))) (Bw dC dI (va_A [] sz) (fun (u : Unit) => []) (fun (u : Unit) => [])) (va_A [] sz)) 0 0 (va_A [] sz) := by
  refine Met.ofW (cc := cX12_isFrom) (maxL := 3) (ret := (some .boolean)) (by decide) rfl ?_
  intro p e s m args below meth c s₁ B hml hv
  obtain ⟨rfl, hsz, hP, hK, hD0, hE⟩ := hv
  have hx := B.exec
  have hb := B.bytes
  have hr := B.returns
  have hown : s.vm.findClass RX12 = some m.cls := findClass_of_methodNamed B.named
  have hlocks := B.notSynchronized
  subst hsz
  have hD := hD0.self (sz := s.heap.size)
  generalize hAe : va_A [] s.heap.size = A at hD ⊢
  have hA : ∀ q : Nat, s.heap.size ≤ q → A q := fun q h => by rw [← hAe]; exact Or.inr h
  have hS : va_S A s.heap s.heap [] := va_S.rf
  have hl := lv_entry ([.int v0, .int 0, .int 99]) (n := 3) (Nat.le_of_ble_eq_true rfl)
  rw [lg_entry_eq]
  generalize (lg_sl ([.int v0, .int 0, .int 99]) ++ List.replicate (3 - (lg_sl ([.int v0, .int 0, .int 99])).length) Slot.unset).toArray = ls at hl ⊢
  have hl : lv_has ls 3 [(0, .int v0), (1, .int 0), (2, .int 99)] := hl
  refine lv_iload_n hx hb dX12_isFrom_0 rfl (lv_at hl 0 rfl) ?_
  refine lv_iload_n hx hb dX12_isFrom_1 rfl (lv_at hl 1 rfl) ?_
  refine lv_icmp_lt (tgt := 14) hx hb dX12_isFrom_2 (by decide) (fun c1 => ?_) (fun c1 => ?_)
  · refine lv_iconst (v := 0) hx hb dX12_isFrom_14 (by decide) ?_
    have hP9 := hP.sub (ws' := []) [] rfl
    have hD9 := hD.sub (ws' := []) [] (by decide) rfl
    have hK9 := hK.sub (tys' := []) [] rfl
    refine W.widen (k := 0) (n := 0) (Nat.le_of_ble_eq_true rfl) (Nat.le_of_ble_eq_true rfl) ?_
    exact W.zret (v := 0) hx hb hr rfl (fun t ht hW => ⟨⟨0, (), rfl, Or.inr ⟨rfl, (by simp only [i_lt, i_le, i_eq, ti_m9, ti_m1, ti_0, ti_1, ti_2, ti_3, ti_4, ti_5, ti_6, ti_7, ti_9, ti_12, ti_20, ti_99, ti_700] at c1 ⊢; omega)⟩, by rw [ht]; exact hP9, va_K.moved hW.alike hK9, hD9⟩, hS.F ht⟩) hS.2.2 dX12_isFrom_15
  · refine lv_iload_n hx hb dX12_isFrom_5 rfl (lv_at hl 0 rfl) ?_
    refine lv_iload_n hx hb dX12_isFrom_6 rfl (lv_at hl 2 rfl) ?_
    refine lv_icmp_gt (tgt := 14) hx hb dX12_isFrom_7 (by decide) (fun c2 => ?_) (fun c2 => ?_)
    · refine lv_iconst (v := 0) hx hb dX12_isFrom_14 (by decide) ?_
      have hP9 := hP.sub (ws' := []) [] rfl
      have hD9 := hD.sub (ws' := []) [] (by decide) rfl
      have hK9 := hK.sub (tys' := []) [] rfl
      refine W.widen (k := 0) (n := 0) (Nat.le_of_ble_eq_true rfl) (Nat.le_of_ble_eq_true rfl) ?_
      exact W.zret (v := 0) hx hb hr rfl (fun t ht hW => ⟨⟨0, (), rfl, Or.inr ⟨rfl, (by simp only [i_lt, i_le, i_eq, ti_m9, ti_m1, ti_0, ti_1, ti_2, ti_3, ti_4, ti_5, ti_6, ti_7, ti_9, ti_12, ti_20, ti_99, ti_700] at c1 c2 ⊢; omega)⟩, by rw [ht]; exact hP9, va_K.moved hW.alike hK9, hD9⟩, hS.F ht⟩) hS.2.2 dX12_isFrom_15
    · refine lv_iconst (v := 1) hx hb dX12_isFrom_10 (by decide) ?_
      refine lv_goto (tgt := 15) hx hb dX12_isFrom_11 (by decide) ?_
      have hP9 := hP.sub (ws' := []) [] rfl
      have hD9 := hD.sub (ws' := []) [] (by decide) rfl
      have hK9 := hK.sub (tys' := []) [] rfl
      refine W.widen (k := 0) (n := 0) (Nat.le_of_ble_eq_true rfl) (Nat.le_of_ble_eq_true rfl) ?_
      exact W.zret (v := 1) hx hb hr rfl (fun t ht hW => ⟨⟨1, (), rfl, Or.inl ⟨rfl, (by simp only [i_lt, i_le, i_eq, ti_m9, ti_m1, ti_0, ti_1, ti_2, ti_3, ti_4, ti_5, ti_6, ti_7, ti_9, ti_12, ti_20, ti_99, ti_700] at c1 c2 ⊢; omega), (by simp only [i_lt, i_le, i_eq, ti_m9, ti_m1, ti_0, ti_1, ti_2, ti_3, ti_4, ti_5, ti_6, ti_7, ti_9, ti_12, ti_20, ti_99, ti_700] at c1 c2 ⊢; omega)⟩, by rw [ht]; exact hP9, va_K.moved hW.alike hK9, hD9⟩, hS.F ht⟩) hS.2.2 dX12_isFrom_15

set_option maxHeartbeats 4000000 in
set_option maxRecDepth 100000 in
theorem c_X12_near (l : Launch) (dC : Nat → ClassId) (dI : Nat → Nat → Nat) (sz : Nat)  (a0 a1 a2 a3 a4 a5 a6 a7 a8 a9 a10 a11 a12 a13 : Nat) (k0 : ClassId) (v0 : Int32) (v1 : Int32)  : Met l yX12_near [.code yX12_near cX12_near 5 (some .int)] ({ frames := 2, cells := 0, slots := 0, locals := 80 }) (PcE [.ref a0, .int v0, .int v1] sz dC dI [(k0, .int)] [(a0, .inr (11, [.ref a1, .int 0, .int 0, .int 0, .ref a2, .int 0, .ref a3, .ref a4, .ref a5, .ref a6, .int 0, .int 0, .int 0, .int 0, .int 0, .int 0, .int 0, .int (-1), .int (-1), .int (-1), .int 0, .int 0, .int 0, .ref a7, .ref a8, .ref a9, .ref a10, .ref a11, .ref a12, .ref a13, .int 0])), (a1, .inl (k0, 7202, .inl (fun _ => 0)))]) (va_Qi (fun (r : Int32) (u : Unit) => r = -1) (Bw dC dI (va_A [(a0, .inr (11, [.ref a1, .int 0, .int 0, .int 0, .ref a2, .int 0, .ref a3, .ref a4, .ref a5, .ref a6, .int 0, .int 0, .int 0, .int 0, .int 0, .int 0, .int 0, .int (-1), .int (-1), .int (-1), .int 0, .int 0, .int 0, .ref a7, .ref a8, .ref a9, .ref a10, .ref a11, .ref a12, .ref a13, .int 0])), (a1, .inl (k0, 7202, .inl (fun _ => 0)))] sz) (fun (u : Unit) => []) (fun (u : Unit) => [])) (va_A [(a0, .inr (11, [.ref a1, .int 0, .int 0, .int 0, .ref a2, .int 0, .ref a3, .ref a4, .ref a5, .ref a6, .int 0, .int 0, .int 0, .int 0, .int 0, .int 0, .int 0, .int (-1), .int (-1), .int (-1), .int 0, .int 0, .int 0, .ref a7, .ref a8, .ref a9, .ref a10, .ref a11, .ref a12, .ref a13, .int 0])), (a1, .inl (k0, 7202, .inl (fun _ => 0)))] sz)) 0 0 (va_A [(a0, .inr (11, [.ref a1, .int 0, .int 0, .int 0, .ref a2, .int 0, .ref a3, .ref a4, .ref a5, .ref a6, .int 0, .int 0, .int 0, .int 0, .int 0, .int 0, .int 0, .int (-1), .int (-1), .int (-1), .int 0, .int 0, .int 0, .ref a7, .ref a8, .ref a9, .ref a10, .ref a11, .ref a12, .ref a13, .int 0])), (a1, .inl (k0, 7202, .inl (fun _ => 0)))] sz) := by
  refine Met.ofW (cc := cX12_near) (maxL := 5) (ret := (some .int)) (by decide) rfl ?_
  intro p e s m args below meth c s₁ B hml hv
  obtain ⟨rfl, hsz, hP, hK, hD0, hE⟩ := hv
  have hx := B.exec
  have hb := B.bytes
  have hr := B.returns
  have hown : s.vm.findClass RX12 = some m.cls := findClass_of_methodNamed B.named
  have hlocks := B.notSynchronized
  subst hsz
  have hD := hD0.self (sz := s.heap.size)
  generalize hAe : va_A [(a0, .inr (11, [.ref a1, .int 0, .int 0, .int 0, .ref a2, .int 0, .ref a3, .ref a4, .ref a5, .ref a6, .int 0, .int 0, .int 0, .int 0, .int 0, .int 0, .int 0, .int (-1), .int (-1), .int (-1), .int 0, .int 0, .int 0, .ref a7, .ref a8, .ref a9, .ref a10, .ref a11, .ref a12, .ref a13, .int 0])), (a1, .inl (k0, 7202, .inl (fun _ => 0)))] s.heap.size = A at hD ⊢
  have hA : ∀ q : Nat, s.heap.size ≤ q → A q := fun q h => by rw [← hAe]; exact Or.inr h
  have hS : va_S A s.heap s.heap [] := va_S.rf
  have hl := lv_entry ([.ref a0, .int v0, .int v1]) (n := 5) (Nat.le_of_ble_eq_true rfl)
  rw [lg_entry_eq]
  generalize (lg_sl ([.ref a0, .int v0, .int v1]) ++ List.replicate (5 - (lg_sl ([.ref a0, .int v0, .int v1])).length) Slot.unset).toArray = ls at hl ⊢
  have hl : lv_has ls 5 [(0, .ref a0), (1, .int v0), (2, .int v1)] := hl
  refine lv_iload_n hx hb dX12_near_0 rfl (lv_at hl 2 rfl) ?_
  refine lv_iconst (v := 0) hx hb dX12_near_1 (by decide) ?_
  refine lv_bipush (v := 99) hx hb dX12_near_2 (by decide) ?_
  refine cl_i (wc := []) (wr := [(a0, .inr (11, [.ref a1, .int 0, .int 0, .int 0, .ref a2, .int 0, .ref a3, .ref a4, .ref a5, .ref a6, .int 0, .int 0, .int 0, .int 0, .int 0, .int 0, .int 0, .int (-1), .int (-1), .int (-1), .int 0, .int 0, .int 0, .ref a7, .ref a8, .ref a9, .ref a10, .ref a11, .ref a12, .ref a13, .int 0])), (a1, .inl (k0, 7202, .inl (fun _ => 0)))]) [] [0, 1] rfl rfl (by decide) (by decide) hK hP hD hS hA (va_runS (As := [.int v1, .int 0, .int 99]) (rest := []) ⟨hx, hb, hml, hown, noTs⟩ (c_isFrom_0_99 l dC dI s.heap.size v1) ⟨cbE 3 (wd_1494 hE) (wd_126 hE) (wd_1492 hE) rfl rfl (by decide +kernel) ⟨Nat.le_of_ble_eq_true rfl, Nat.le_of_ble_eq_true rfl⟩, (wd_1493 hE)⟩ ⟨PcE.blind, (pre_E (av := [.int v1, .int 0, .int 99]) (wc := []) (tysc := []) [] [] rfl (by decide) rfl rfl hK hP hD hE)⟩ rfl rfl hl.1 rfl (lv_room (Nat.le_of_ble_eq_true rfl)) dX12_near_4 ⟨Nat.le_of_ble_eq_true rfl, Nat.le_of_ble_eq_true rfl⟩) (fun r1 u1 H locs hw1 hK hP hD hS => ?_)
  have hK : va_K (dC, dI) vwCl [(k0, .int)] s := hK
  have hP : va_P (dC, dI) vwCl [(a0, .inr (11, [.ref a1, .int 0, .int 0, .int 0, .ref a2, .int 0, .ref a3, .ref a4, .ref a5, .ref a6, .int 0, .int 0, .int 0, .int 0, .int 0, .int 0, .int 0, .int (-1), .int (-1), .int (-1), .int 0, .int 0, .int 0, .ref a7, .ref a8, .ref a9, .ref a10, .ref a11, .ref a12, .ref a13, .int 0])), (a1, .inl (k0, 7202, .inl (fun _ => 0)))] H := hP
  have hD : va_D A [(a0, .inr (11, [.ref a1, .int 0, .int 0, .int 0, .ref a2, .int 0, .ref a3, .ref a4, .ref a5, .ref a6, .int 0, .int 0, .int 0, .int 0, .int 0, .int 0, .int 0, .int (-1), .int (-1), .int (-1), .int 0, .int 0, .int 0, .ref a7, .ref a8, .ref a9, .ref a10, .ref a11, .ref a12, .ref a13, .int 0])), (a1, .inl (k0, 7202, .inl (fun _ => 0)))] := hD
  rcases hw1 with ⟨rfl, ha1, hb1⟩ | ⟨rfl, ha1⟩
  · refine W.eq (g2 := F0 m 7 ls [.int 1]) rfl ?_
    refine lv_if_ne (tgt := 16) hx hb dX12_near_7 (by decide) (fun c2 => ?_) (fun c2 => absurd c2 (by decide))
    refine lv_aload_n hx hb dX12_near_16 rfl (lv_at hl 0 rfl) ?_
    refine lv_iload_n hx hb dX12_near_17 rfl (lv_at hl 1 rfl) ?_
    refine cl_i (wc := [(a0, .inr (11, [.ref a1, .int 0, .int 0, .int 0, .ref a2, .int 0, .ref a3, .ref a4, .ref a5, .ref a6, .int 0, .int 0, .int 0, .int 0, .int 0, .int 0, .int 0, .int (-1), .int (-1), .int (-1), .int 0, .int 0, .int 0, .ref a7, .ref a8, .ref a9, .ref a10, .ref a11, .ref a12, .ref a13, .int 0])), (a1, .inl (k0, 7202, .inl (fun _ => 0)))]) (wr := []) [0, 1] [] rfl rfl (by decide) (by decide) hK hP hD hS hA (va_runV (As := [.int v0]) (rest := []) ⟨hx, hb, hml, hown, noTs⟩ (c_X12_isWord l dC dI H.size a0 a1 a2 a3 a4 a5 a6 a7 a8 a9 a10 a11 a12 a13 k0 v0) ⟨cbE 1 (wd_1653 hE) (wd_126 hE) (wd_1650 hE) rfl rfl (by decide +kernel) ⟨Nat.le_of_ble_eq_true rfl, Nat.le_of_ble_eq_true rfl⟩, (wd_1652 hE), (wd_83 hE)⟩ ⟨PcE.blind, va_recv hK hP (ci := 11) (q0 := 0) rfl rfl, (pre_E (av := [.ref a0, .int v0]) (wc := [(a0, .inr (11, [.ref a1, .int 0, .int 0, .int 0, .ref a2, .int 0, .ref a3, .ref a4, .ref a5, .ref a6, .int 0, .int 0, .int 0, .int 0, .int 0, .int 0, .int 0, .int (-1), .int (-1), .int (-1), .int 0, .int 0, .int 0, .ref a7, .ref a8, .ref a9, .ref a10, .ref a11, .ref a12, .ref a13, .int 0])), (a1, .inl (k0, 7202, .inl (fun _ => 0)))]) (tysc := [(k0, .int)]) [0, 1] [0] rfl (by decide) rfl rfl hK hP hD hE)⟩ rfl rfl hl.1 rfl (lv_room (Nat.le_of_ble_eq_true rfl)) dX12_near_18 ⟨Nat.le_of_ble_eq_true rfl, Nat.le_of_ble_eq_true rfl⟩) (fun r3 u3 H locs hw3 hK hP hD hS => ?_)
    have hK : va_K (dC, dI) vwCl [(k0, .int)] s := hK
    have hP : va_P (dC, dI) vwCl [(a0, .inr (11, [.ref a1, .int 0, .int 0, .int 0, .ref a2, .int 0, .ref a3, .ref a4, .ref a5, .ref a6, .int 0, .int 0, .int 0, .int 0, .int 0, .int 0, .int 0, .int (-1), .int (-1), .int (-1), .int 0, .int 0, .int 0, .ref a7, .ref a8, .ref a9, .ref a10, .ref a11, .ref a12, .ref a13, .int 0])), (a1, .inl (k0, 7202, .inl (fun _ => 0)))] H := hP
    have hD : va_D A [(a0, .inr (11, [.ref a1, .int 0, .int 0, .int 0, .ref a2, .int 0, .ref a3, .ref a4, .ref a5, .ref a6, .int 0, .int 0, .int 0, .int 0, .int 0, .int 0, .int 0, .int (-1), .int (-1), .int (-1), .int 0, .int 0, .int 0, .ref a7, .ref a8, .ref a9, .ref a10, .ref a11, .ref a12, .ref a13, .int 0])), (a1, .inl (k0, 7202, .inl (fun _ => 0)))] := hD
    subst hw3
    refine W.eq (g2 := F0 m 21 ls [.int 0]) rfl ?_
    refine lv_if_ne (tgt := 30) hx hb dX12_near_21 (by decide) (fun c4 => absurd c4 (by decide)) (fun c4 => ?_)
    refine lv_aload_n hx hb dX12_near_24 rfl (lv_at hl 0 rfl) ?_
    refine lv_iconst (v := 2) hx hb dX12_near_25 (by decide) ?_
    refine cl_i (wc := [(a0, .inr (11, [.ref a1, .int 0, .int 0, .int 0, .ref a2, .int 0, .ref a3, .ref a4, .ref a5, .ref a6, .int 0, .int 0, .int 0, .int 0, .int 0, .int 0, .int 0, .int (-1), .int (-1), .int (-1), .int 0, .int 0, .int 0, .ref a7, .ref a8, .ref a9, .ref a10, .ref a11, .ref a12, .ref a13, .int 0]))]) (wr := [(a1, .inl (k0, 7202, .inl (fun _ => 0)))]) [0] [1] rfl rfl (by decide) (by decide) hK hP hD hS hA (va_runV (As := [.int 2]) (rest := []) ⟨hx, hb, hml, hown, noTs⟩ (c_X12_refuse_2 l dC dI H.size a0 a1 a2 a3 a4 a5 a6 a7 a8 a9 a10 a11 a12 a13) ⟨cbE 1 (wd_1498 hE) (wd_126 hE) (wd_1495 hE) rfl rfl (by decide +kernel) ⟨Nat.le_of_ble_eq_true rfl, Nat.le_of_ble_eq_true rfl⟩, (wd_1497 hE), (wd_54 hE)⟩ ⟨PcE.blind, va_recv hK hP (ci := 11) (q0 := 0) rfl rfl, (pre_E (av := [.ref a0, .int 2]) (wc := [(a0, .inr (11, [.ref a1, .int 0, .int 0, .int 0, .ref a2, .int 0, .ref a3, .ref a4, .ref a5, .ref a6, .int 0, .int 0, .int 0, .int 0, .int 0, .int 0, .int 0, .int (-1), .int (-1), .int (-1), .int 0, .int 0, .int 0, .ref a7, .ref a8, .ref a9, .ref a10, .ref a11, .ref a12, .ref a13, .int 0]))]) (tysc := []) [0] [] rfl (by decide) rfl rfl hK hP hD hE)⟩ rfl rfl hl.1 rfl (lv_room (Nat.le_of_ble_eq_true rfl)) dX12_near_26 ⟨Nat.le_of_ble_eq_true rfl, Nat.le_of_ble_eq_true rfl⟩) (fun r5 u5 H locs hw5 hK hP hD hS => ?_)
    have hK : va_K (dC, dI) vwCl [(k0, .int)] s := hK
    have hP : va_P (dC, dI) vwCl [(a1, .inl (k0, 7202, .inl (fun _ => 0))), (a0, .inr (11, [.ref a1, .int 2, .int 0, .int 0, .ref a2, .int 0, .ref a3, .ref a4, .ref a5, .ref a6, .int 0, .int 0, .int 0, .int 0, .int 0, .int 0, .int 0, .int (-1), .int (-1), .int (-1), .int 0, .int 0, .int 0, .ref a7, .ref a8, .ref a9, .ref a10, .ref a11, .ref a12, .ref a13, .int 0]))] H := hP
    have hD : va_D A [(a1, .inl (k0, 7202, .inl (fun _ => 0))), (a0, .inr (11, [.ref a1, .int 2, .int 0, .int 0, .ref a2, .int 0, .ref a3, .ref a4, .ref a5, .ref a6, .int 0, .int 0, .int 0, .int 0, .int 0, .int 0, .int 0, .int (-1), .int (-1), .int (-1), .int 0, .int 0, .int 0, .ref a7, .ref a8, .ref a9, .ref a10, .ref a11, .ref a12, .ref a13, .int 0]))] := hD
    subst hw5
    refine W.eq (g2 := F0 m 29 ls [.int (-1)]) rfl ?_
    have hP9 := hP.sub (ws' := []) [] rfl
    have hD9 := hD.sub (ws' := []) [] (by decide) rfl
    have hK9 := hK.sub (tys' := []) [] rfl
    refine W.widen (k := 0) (n := 0) (Nat.le_of_ble_eq_true rfl) (Nat.le_of_ble_eq_true rfl) ?_
    exact W.iret (v := -1) hx hb hr (fun t ht hW => ⟨⟨-1, (), rfl, rfl, by rw [ht]; exact hP9, va_K.moved hW.alike hK9, hD9⟩, hS.F ht⟩) hS.2.2 dX12_near_29
  · refine W.eq (g2 := F0 m 7 ls [.int 0]) rfl ?_
    refine lv_if_ne (tgt := 16) hx hb dX12_near_7 (by decide) (fun c6 => absurd c6 (by decide)) (fun c6 => ?_)
    refine lv_aload_n hx hb dX12_near_10 rfl (lv_at hl 0 rfl) ?_
    refine lv_iconst (v := 1) hx hb dX12_near_11 (by decide) ?_
    refine cl_i (wc := [(a0, .inr (11, [.ref a1, .int 0, .int 0, .int 0, .ref a2, .int 0, .ref a3, .ref a4, .ref a5, .ref a6, .int 0, .int 0, .int 0, .int 0, .int 0, .int 0, .int 0, .int (-1), .int (-1), .int (-1), .int 0, .int 0, .int 0, .ref a7, .ref a8, .ref a9, .ref a10, .ref a11, .ref a12, .ref a13, .int 0]))]) (wr := [(a1, .inl (k0, 7202, .inl (fun _ => 0)))]) [0] [1] rfl rfl (by decide) (by decide) hK hP hD hS hA (va_runV (As := [.int 1]) (rest := []) ⟨hx, hb, hml, hown, noTs⟩ (c_X12_refuse l dC dI H.size a0 a1 a2 a3 a4 a5 a6 a7 a8 a9 a10 a11 a12 a13) ⟨cbE 1 (wd_1498 hE) (wd_126 hE) (wd_1495 hE) rfl rfl (by decide +kernel) ⟨Nat.le_of_ble_eq_true rfl, Nat.le_of_ble_eq_true rfl⟩, (wd_1497 hE), (wd_54 hE)⟩ ⟨PcE.blind, va_recv hK hP (ci := 11) (q0 := 0) rfl rfl, (pre_E (av := [.ref a0, .int 1]) (wc := [(a0, .inr (11, [.ref a1, .int 0, .int 0, .int 0, .ref a2, .int 0, .ref a3, .ref a4, .ref a5, .ref a6, .int 0, .int 0, .int 0, .int 0, .int 0, .int 0, .int 0, .int (-1), .int (-1), .int (-1), .int 0, .int 0, .int 0, .ref a7, .ref a8, .ref a9, .ref a10, .ref a11, .ref a12, .ref a13, .int 0]))]) (tysc := []) [0] [] rfl (by decide) rfl rfl hK hP hD hE)⟩ rfl rfl hl.1 rfl (lv_room (Nat.le_of_ble_eq_true rfl)) dX12_near_12 ⟨Nat.le_of_ble_eq_true rfl, Nat.le_of_ble_eq_true rfl⟩) (fun r7 u7 H locs hw7 hK hP hD hS => ?_)
    have hK : va_K (dC, dI) vwCl [(k0, .int)] s := hK
    have hP : va_P (dC, dI) vwCl [(a1, .inl (k0, 7202, .inl (fun _ => 0))), (a0, .inr (11, [.ref a1, .int 1, .int 0, .int 0, .ref a2, .int 0, .ref a3, .ref a4, .ref a5, .ref a6, .int 0, .int 0, .int 0, .int 0, .int 0, .int 0, .int 0, .int (-1), .int (-1), .int (-1), .int 0, .int 0, .int 0, .ref a7, .ref a8, .ref a9, .ref a10, .ref a11, .ref a12, .ref a13, .int 0]))] H := hP
    have hD : va_D A [(a1, .inl (k0, 7202, .inl (fun _ => 0))), (a0, .inr (11, [.ref a1, .int 1, .int 0, .int 0, .ref a2, .int 0, .ref a3, .ref a4, .ref a5, .ref a6, .int 0, .int 0, .int 0, .int 0, .int 0, .int 0, .int 0, .int (-1), .int (-1), .int (-1), .int 0, .int 0, .int 0, .ref a7, .ref a8, .ref a9, .ref a10, .ref a11, .ref a12, .ref a13, .int 0]))] := hD
    subst hw7
    refine W.eq (g2 := F0 m 15 ls [.int (-1)]) rfl ?_
    have hP9 := hP.sub (ws' := []) [] rfl
    have hD9 := hD.sub (ws' := []) [] (by decide) rfl
    have hK9 := hK.sub (tys' := []) [] rfl
    refine W.widen (k := 0) (n := 0) (Nat.le_of_ble_eq_true rfl) (Nat.le_of_ble_eq_true rfl) ?_
    exact W.iret (v := -1) hx hb hr (fun t ht hW => ⟨⟨-1, (), rfl, rfl, by rw [ht]; exact hP9, va_K.moved hW.alike hK9, hD9⟩, hS.F ht⟩) hS.2.2 dX12_near_15

set_option maxHeartbeats 4000000 in
set_option maxRecDepth 100000 in
theorem c_X12_meet (l : Launch) (dC : Nat → ClassId) (dI : Nat → Nat → Nat) (sz : Nat)  (a0 a1 a2 a3 a4 a5 a6 a7 a8 a9 a10 a11 a12 a13 : Nat) (k0 : ClassId) (v0 : Int32)  : Met l yX12_meet [.code yX12_meet cX12_meet 4 (some .int)] ({ frames := 2, cells := 0, slots := 0, locals := 80 }) (PcE [.ref a0, .int v0] sz dC dI [(k0, .int)] [(a0, .inr (11, [.ref a1, .int 0, .int 0, .int 0, .ref a2, .int 0, .ref a3, .ref a4, .ref a5, .ref a6, .int 0, .int 0, .int 0, .int 0, .int 0, .int 0, .int 0, .int (-1), .int (-1), .int (-1), .int 0, .int 0, .int 0, .ref a7, .ref a8, .ref a9, .ref a10, .ref a11, .ref a12, .ref a13, .int 0])), (a1, .inl (k0, 7202, .inl (fun _ => 0)))]) (va_Qi (fun (r : Int32) (u : Unit) => r = -1) (Bw dC dI (va_A [(a0, .inr (11, [.ref a1, .int 0, .int 0, .int 0, .ref a2, .int 0, .ref a3, .ref a4, .ref a5, .ref a6, .int 0, .int 0, .int 0, .int 0, .int 0, .int 0, .int 0, .int (-1), .int (-1), .int (-1), .int 0, .int 0, .int 0, .ref a7, .ref a8, .ref a9, .ref a10, .ref a11, .ref a12, .ref a13, .int 0])), (a1, .inl (k0, 7202, .inl (fun _ => 0)))] sz) (fun (u : Unit) => []) (fun (u : Unit) => [])) (va_A [(a0, .inr (11, [.ref a1, .int 0, .int 0, .int 0, .ref a2, .int 0, .ref a3, .ref a4, .ref a5, .ref a6, .int 0, .int 0, .int 0, .int 0, .int 0, .int 0, .int 0, .int (-1), .int (-1), .int (-1), .int 0, .int 0, .int 0, .ref a7, .ref a8, .ref a9, .ref a10, .ref a11, .ref a12, .ref a13, .int 0])), (a1, .inl (k0, 7202, .inl (fun _ => 0)))] sz)) 0 0 (va_A [(a0, .inr (11, [.ref a1, .int 0, .int 0, .int 0, .ref a2, .int 0, .ref a3, .ref a4, .ref a5, .ref a6, .int 0, .int 0, .int 0, .int 0, .int 0, .int 0, .int 0, .int (-1), .int (-1), .int (-1), .int 0, .int 0, .int 0, .ref a7, .ref a8, .ref a9, .ref a10, .ref a11, .ref a12, .ref a13, .int 0])), (a1, .inl (k0, 7202, .inl (fun _ => 0)))] sz) := by
  refine Met.ofW (cc := cX12_meet) (maxL := 4) (ret := (some .int)) (by decide) rfl ?_
  intro p e s m args below meth c s₁ B hml hv
  obtain ⟨rfl, hsz, hP, hK, hD0, hE⟩ := hv
  have hx := B.exec
  have hb := B.bytes
  have hr := B.returns
  have hown : s.vm.findClass RX12 = some m.cls := findClass_of_methodNamed B.named
  have hlocks := B.notSynchronized
  subst hsz
  have hD := hD0.self (sz := s.heap.size)
  generalize hAe : va_A [(a0, .inr (11, [.ref a1, .int 0, .int 0, .int 0, .ref a2, .int 0, .ref a3, .ref a4, .ref a5, .ref a6, .int 0, .int 0, .int 0, .int 0, .int 0, .int 0, .int 0, .int (-1), .int (-1), .int (-1), .int 0, .int 0, .int 0, .ref a7, .ref a8, .ref a9, .ref a10, .ref a11, .ref a12, .ref a13, .int 0])), (a1, .inl (k0, 7202, .inl (fun _ => 0)))] s.heap.size = A at hD ⊢
  have hA : ∀ q : Nat, s.heap.size ≤ q → A q := fun q h => by rw [← hAe]; exact Or.inr h
  have hS : va_S A s.heap s.heap [] := va_S.rf
  have hl := lv_entry ([.ref a0, .int v0]) (n := 4) (Nat.le_of_ble_eq_true rfl)
  rw [lg_entry_eq]
  generalize (lg_sl ([.ref a0, .int v0]) ++ List.replicate (4 - (lg_sl ([.ref a0, .int v0])).length) Slot.unset).toArray = ls at hl ⊢
  have hl : lv_has ls 4 [(0, .ref a0), (1, .int v0)] := hl
  refine lv_aload_n hx hb dX12_meet_0 rfl (lv_at hl 0 rfl) ?_
  refine lv_iload_n hx hb dX12_meet_1 rfl (lv_at hl 1 rfl) ?_
  refine cl_i (wc := [(a0, .inr (11, [.ref a1, .int 0, .int 0, .int 0, .ref a2, .int 0, .ref a3, .ref a4, .ref a5, .ref a6, .int 0, .int 0, .int 0, .int 0, .int 0, .int 0, .int 0, .int (-1), .int (-1), .int (-1), .int 0, .int 0, .int 0, .ref a7, .ref a8, .ref a9, .ref a10, .ref a11, .ref a12, .ref a13, .int 0])), (a1, .inl (k0, 7202, .inl (fun _ => 0)))]) (wr := []) [0, 1] [] rfl rfl (by decide) (by decide) hK hP hD hS hA (va_runV (As := [.int v0]) (rest := []) ⟨hx, hb, hml, hown, noTs⟩ (c_X12_isVertex l dC dI s.heap.size a0 a1 a2 a3 a4 a5 a6 a7 a8 a9 a10 a11 a12 a13 k0 v0) ⟨cbE 1 (wd_1560 hE) (wd_126 hE) (wd_1557 hE) rfl rfl (by decide +kernel) ⟨Nat.le_of_ble_eq_true rfl, Nat.le_of_ble_eq_true rfl⟩, (wd_1559 hE), (wd_67 hE)⟩ ⟨PcE.blind, va_recv hK hP (ci := 11) (q0 := 0) rfl rfl, (pre_E (av := [.ref a0, .int v0]) (wc := [(a0, .inr (11, [.ref a1, .int 0, .int 0, .int 0, .ref a2, .int 0, .ref a3, .ref a4, .ref a5, .ref a6, .int 0, .int 0, .int 0, .int 0, .int 0, .int 0, .int 0, .int (-1), .int (-1), .int (-1), .int 0, .int 0, .int 0, .ref a7, .ref a8, .ref a9, .ref a10, .ref a11, .ref a12, .ref a13, .int 0])), (a1, .inl (k0, 7202, .inl (fun _ => 0)))]) (tysc := [(k0, .int)]) [0, 1] [0] rfl (by decide) rfl rfl hK hP hD hE)⟩ rfl rfl hl.1 rfl (lv_room (Nat.le_of_ble_eq_true rfl)) dX12_meet_2 ⟨Nat.le_of_ble_eq_true rfl, Nat.le_of_ble_eq_true rfl⟩) (fun r1 u1 H locs hw1 hK hP hD hS => ?_)
  have hK : va_K (dC, dI) vwCl [(k0, .int)] s := hK
  have hP : va_P (dC, dI) vwCl [(a0, .inr (11, [.ref a1, .int 0, .int 0, .int 0, .ref a2, .int 0, .ref a3, .ref a4, .ref a5, .ref a6, .int 0, .int 0, .int 0, .int 0, .int 0, .int 0, .int 0, .int (-1), .int (-1), .int (-1), .int 0, .int 0, .int 0, .ref a7, .ref a8, .ref a9, .ref a10, .ref a11, .ref a12, .ref a13, .int 0])), (a1, .inl (k0, 7202, .inl (fun _ => 0)))] H := hP
  have hD : va_D A [(a0, .inr (11, [.ref a1, .int 0, .int 0, .int 0, .ref a2, .int 0, .ref a3, .ref a4, .ref a5, .ref a6, .int 0, .int 0, .int 0, .int 0, .int 0, .int 0, .int 0, .int (-1), .int (-1), .int (-1), .int 0, .int 0, .int 0, .ref a7, .ref a8, .ref a9, .ref a10, .ref a11, .ref a12, .ref a13, .int 0])), (a1, .inl (k0, 7202, .inl (fun _ => 0)))] := hD
  subst hw1
  refine W.eq (g2 := F0 m 5 ls [.int 0]) rfl ?_
  refine lv_if_ne (tgt := 14) hx hb dX12_meet_5 (by decide) (fun c2 => absurd c2 (by decide)) (fun c2 => ?_)
  refine lv_aload_n hx hb dX12_meet_8 rfl (lv_at hl 0 rfl) ?_
  refine lv_iconst (v := 2) hx hb dX12_meet_9 (by decide) ?_
  refine cl_i (wc := [(a0, .inr (11, [.ref a1, .int 0, .int 0, .int 0, .ref a2, .int 0, .ref a3, .ref a4, .ref a5, .ref a6, .int 0, .int 0, .int 0, .int 0, .int 0, .int 0, .int 0, .int (-1), .int (-1), .int (-1), .int 0, .int 0, .int 0, .ref a7, .ref a8, .ref a9, .ref a10, .ref a11, .ref a12, .ref a13, .int 0]))]) (wr := [(a1, .inl (k0, 7202, .inl (fun _ => 0)))]) [0] [1] rfl rfl (by decide) (by decide) hK hP hD hS hA (va_runV (As := [.int 2]) (rest := []) ⟨hx, hb, hml, hown, noTs⟩ (c_X12_refuse_2 l dC dI H.size a0 a1 a2 a3 a4 a5 a6 a7 a8 a9 a10 a11 a12 a13) ⟨cbE 1 (wd_1498 hE) (wd_126 hE) (wd_1495 hE) rfl rfl (by decide +kernel) ⟨Nat.le_of_ble_eq_true rfl, Nat.le_of_ble_eq_true rfl⟩, (wd_1497 hE), (wd_54 hE)⟩ ⟨PcE.blind, va_recv hK hP (ci := 11) (q0 := 0) rfl rfl, (pre_E (av := [.ref a0, .int 2]) (wc := [(a0, .inr (11, [.ref a1, .int 0, .int 0, .int 0, .ref a2, .int 0, .ref a3, .ref a4, .ref a5, .ref a6, .int 0, .int 0, .int 0, .int 0, .int 0, .int 0, .int 0, .int (-1), .int (-1), .int (-1), .int 0, .int 0, .int 0, .ref a7, .ref a8, .ref a9, .ref a10, .ref a11, .ref a12, .ref a13, .int 0]))]) (tysc := []) [0] [] rfl (by decide) rfl rfl hK hP hD hE)⟩ rfl rfl hl.1 rfl (lv_room (Nat.le_of_ble_eq_true rfl)) dX12_meet_10 ⟨Nat.le_of_ble_eq_true rfl, Nat.le_of_ble_eq_true rfl⟩) (fun r3 u3 H locs hw3 hK hP hD hS => ?_)
  have hK : va_K (dC, dI) vwCl [(k0, .int)] s := hK
  have hP : va_P (dC, dI) vwCl [(a1, .inl (k0, 7202, .inl (fun _ => 0))), (a0, .inr (11, [.ref a1, .int 2, .int 0, .int 0, .ref a2, .int 0, .ref a3, .ref a4, .ref a5, .ref a6, .int 0, .int 0, .int 0, .int 0, .int 0, .int 0, .int 0, .int (-1), .int (-1), .int (-1), .int 0, .int 0, .int 0, .ref a7, .ref a8, .ref a9, .ref a10, .ref a11, .ref a12, .ref a13, .int 0]))] H := hP
  have hD : va_D A [(a1, .inl (k0, 7202, .inl (fun _ => 0))), (a0, .inr (11, [.ref a1, .int 2, .int 0, .int 0, .ref a2, .int 0, .ref a3, .ref a4, .ref a5, .ref a6, .int 0, .int 0, .int 0, .int 0, .int 0, .int 0, .int 0, .int (-1), .int (-1), .int (-1), .int 0, .int 0, .int 0, .ref a7, .ref a8, .ref a9, .ref a10, .ref a11, .ref a12, .ref a13, .int 0]))] := hD
  subst hw3
  refine W.eq (g2 := F0 m 13 ls [.int (-1)]) rfl ?_
  have hP9 := hP.sub (ws' := []) [] rfl
  have hD9 := hD.sub (ws' := []) [] (by decide) rfl
  have hK9 := hK.sub (tys' := []) [] rfl
  refine W.widen (k := 0) (n := 0) (Nat.le_of_ble_eq_true rfl) (Nat.le_of_ble_eq_true rfl) ?_
  exact W.iret (v := -1) hx hb hr (fun t ht hW => ⟨⟨-1, (), rfl, rfl, by rw [ht]; exact hP9, va_K.moved hW.alike hK9, hD9⟩, hS.F ht⟩) hS.2.2 dX12_meet_13

set_option maxHeartbeats 4000000 in
set_option maxRecDepth 100000 in
theorem c_X12_tell (l : Launch) (dC : Nat → ClassId) (dI : Nat → Nat → Nat) (sz : Nat)  (a0 a1 a2 a3 a4 a5 a6 a7 a8 a9 a10 a11 a12 a13 : Nat) (k0 : ClassId) (v0 : Int32)  : Met l yX12_tell [.code yX12_tell cX12_tell 3 (some .int)] ({ frames := 2, cells := 0, slots := 0, locals := 80 }) (PcE [.ref a0, .int v0] sz dC dI [(k0, .int)] [(a0, .inr (11, [.ref a1, .int 0, .int 0, .int 0, .ref a2, .int 0, .ref a3, .ref a4, .ref a5, .ref a6, .int 0, .int 0, .int 0, .int 0, .int 0, .int 0, .int 0, .int (-1), .int (-1), .int (-1), .int 0, .int 0, .int 0, .ref a7, .ref a8, .ref a9, .ref a10, .ref a11, .ref a12, .ref a13, .int 0])), (a1, .inl (k0, 7202, .inl (fun _ => 0)))]) (va_Qi (fun (r : Int32) (u : Unit) => r = -1) (Bw dC dI (va_A [(a0, .inr (11, [.ref a1, .int 0, .int 0, .int 0, .ref a2, .int 0, .ref a3, .ref a4, .ref a5, .ref a6, .int 0, .int 0, .int 0, .int 0, .int 0, .int 0, .int 0, .int (-1), .int (-1), .int (-1), .int 0, .int 0, .int 0, .ref a7, .ref a8, .ref a9, .ref a10, .ref a11, .ref a12, .ref a13, .int 0])), (a1, .inl (k0, 7202, .inl (fun _ => 0)))] sz) (fun (u : Unit) => []) (fun (u : Unit) => [])) (va_A [(a0, .inr (11, [.ref a1, .int 0, .int 0, .int 0, .ref a2, .int 0, .ref a3, .ref a4, .ref a5, .ref a6, .int 0, .int 0, .int 0, .int 0, .int 0, .int 0, .int 0, .int (-1), .int (-1), .int (-1), .int 0, .int 0, .int 0, .ref a7, .ref a8, .ref a9, .ref a10, .ref a11, .ref a12, .ref a13, .int 0])), (a1, .inl (k0, 7202, .inl (fun _ => 0)))] sz)) 0 0 (va_A [(a0, .inr (11, [.ref a1, .int 0, .int 0, .int 0, .ref a2, .int 0, .ref a3, .ref a4, .ref a5, .ref a6, .int 0, .int 0, .int 0, .int 0, .int 0, .int 0, .int 0, .int (-1), .int (-1), .int (-1), .int 0, .int 0, .int 0, .ref a7, .ref a8, .ref a9, .ref a10, .ref a11, .ref a12, .ref a13, .int 0])), (a1, .inl (k0, 7202, .inl (fun _ => 0)))] sz) := by
  refine Met.ofW (cc := cX12_tell) (maxL := 3) (ret := (some .int)) (by decide) rfl ?_
  intro p e s m args below meth c s₁ B hml hv
  obtain ⟨rfl, hsz, hP, hK, hD0, hE⟩ := hv
  have hx := B.exec
  have hb := B.bytes
  have hr := B.returns
  have hown : s.vm.findClass RX12 = some m.cls := findClass_of_methodNamed B.named
  have hlocks := B.notSynchronized
  subst hsz
  have hD := hD0.self (sz := s.heap.size)
  generalize hAe : va_A [(a0, .inr (11, [.ref a1, .int 0, .int 0, .int 0, .ref a2, .int 0, .ref a3, .ref a4, .ref a5, .ref a6, .int 0, .int 0, .int 0, .int 0, .int 0, .int 0, .int 0, .int (-1), .int (-1), .int (-1), .int 0, .int 0, .int 0, .ref a7, .ref a8, .ref a9, .ref a10, .ref a11, .ref a12, .ref a13, .int 0])), (a1, .inl (k0, 7202, .inl (fun _ => 0)))] s.heap.size = A at hD ⊢
  have hA : ∀ q : Nat, s.heap.size ≤ q → A q := fun q h => by rw [← hAe]; exact Or.inr h
  have hS : va_S A s.heap s.heap [] := va_S.rf
  have hl := lv_entry ([.ref a0, .int v0]) (n := 3) (Nat.le_of_ble_eq_true rfl)
  rw [lg_entry_eq]
  generalize (lg_sl ([.ref a0, .int v0]) ++ List.replicate (3 - (lg_sl ([.ref a0, .int v0])).length) Slot.unset).toArray = ls at hl ⊢
  have hl : lv_has ls 3 [(0, .ref a0), (1, .int v0)] := hl
  refine lv_aload_n hx hb dX12_tell_0 rfl (lv_at hl 0 rfl) ?_
  refine lv_iload_n hx hb dX12_tell_1 rfl (lv_at hl 1 rfl) ?_
  refine cl_i (wc := [(a0, .inr (11, [.ref a1, .int 0, .int 0, .int 0, .ref a2, .int 0, .ref a3, .ref a4, .ref a5, .ref a6, .int 0, .int 0, .int 0, .int 0, .int 0, .int 0, .int 0, .int (-1), .int (-1), .int (-1), .int 0, .int 0, .int 0, .ref a7, .ref a8, .ref a9, .ref a10, .ref a11, .ref a12, .ref a13, .int 0])), (a1, .inl (k0, 7202, .inl (fun _ => 0)))]) (wr := []) [0, 1] [] rfl rfl (by decide) (by decide) hK hP hD hS hA (va_runV (As := [.int v0]) (rest := []) ⟨hx, hb, hml, hown, noTs⟩ (c_X12_isWord l dC dI s.heap.size a0 a1 a2 a3 a4 a5 a6 a7 a8 a9 a10 a11 a12 a13 k0 v0) ⟨cbE 1 (wd_1653 hE) (wd_126 hE) (wd_1650 hE) rfl rfl (by decide +kernel) ⟨Nat.le_of_ble_eq_true rfl, Nat.le_of_ble_eq_true rfl⟩, (wd_1652 hE), (wd_83 hE)⟩ ⟨PcE.blind, va_recv hK hP (ci := 11) (q0 := 0) rfl rfl, (pre_E (av := [.ref a0, .int v0]) (wc := [(a0, .inr (11, [.ref a1, .int 0, .int 0, .int 0, .ref a2, .int 0, .ref a3, .ref a4, .ref a5, .ref a6, .int 0, .int 0, .int 0, .int 0, .int 0, .int 0, .int 0, .int (-1), .int (-1), .int (-1), .int 0, .int 0, .int 0, .ref a7, .ref a8, .ref a9, .ref a10, .ref a11, .ref a12, .ref a13, .int 0])), (a1, .inl (k0, 7202, .inl (fun _ => 0)))]) (tysc := [(k0, .int)]) [0, 1] [0] rfl (by decide) rfl rfl hK hP hD hE)⟩ rfl rfl hl.1 rfl (lv_room (Nat.le_of_ble_eq_true rfl)) dX12_tell_2 ⟨Nat.le_of_ble_eq_true rfl, Nat.le_of_ble_eq_true rfl⟩) (fun r1 u1 H locs hw1 hK hP hD hS => ?_)
  have hK : va_K (dC, dI) vwCl [(k0, .int)] s := hK
  have hP : va_P (dC, dI) vwCl [(a0, .inr (11, [.ref a1, .int 0, .int 0, .int 0, .ref a2, .int 0, .ref a3, .ref a4, .ref a5, .ref a6, .int 0, .int 0, .int 0, .int 0, .int 0, .int 0, .int 0, .int (-1), .int (-1), .int (-1), .int 0, .int 0, .int 0, .ref a7, .ref a8, .ref a9, .ref a10, .ref a11, .ref a12, .ref a13, .int 0])), (a1, .inl (k0, 7202, .inl (fun _ => 0)))] H := hP
  have hD : va_D A [(a0, .inr (11, [.ref a1, .int 0, .int 0, .int 0, .ref a2, .int 0, .ref a3, .ref a4, .ref a5, .ref a6, .int 0, .int 0, .int 0, .int 0, .int 0, .int 0, .int 0, .int (-1), .int (-1), .int (-1), .int 0, .int 0, .int 0, .ref a7, .ref a8, .ref a9, .ref a10, .ref a11, .ref a12, .ref a13, .int 0])), (a1, .inl (k0, 7202, .inl (fun _ => 0)))] := hD
  subst hw1
  refine W.eq (g2 := F0 m 5 ls [.int 0]) rfl ?_
  refine lv_if_ne (tgt := 14) hx hb dX12_tell_5 (by decide) (fun c2 => absurd c2 (by decide)) (fun c2 => ?_)
  refine lv_aload_n hx hb dX12_tell_8 rfl (lv_at hl 0 rfl) ?_
  refine lv_iconst (v := 2) hx hb dX12_tell_9 (by decide) ?_
  refine cl_i (wc := [(a0, .inr (11, [.ref a1, .int 0, .int 0, .int 0, .ref a2, .int 0, .ref a3, .ref a4, .ref a5, .ref a6, .int 0, .int 0, .int 0, .int 0, .int 0, .int 0, .int 0, .int (-1), .int (-1), .int (-1), .int 0, .int 0, .int 0, .ref a7, .ref a8, .ref a9, .ref a10, .ref a11, .ref a12, .ref a13, .int 0]))]) (wr := [(a1, .inl (k0, 7202, .inl (fun _ => 0)))]) [0] [1] rfl rfl (by decide) (by decide) hK hP hD hS hA (va_runV (As := [.int 2]) (rest := []) ⟨hx, hb, hml, hown, noTs⟩ (c_X12_refuse_2 l dC dI H.size a0 a1 a2 a3 a4 a5 a6 a7 a8 a9 a10 a11 a12 a13) ⟨cbE 1 (wd_1498 hE) (wd_126 hE) (wd_1495 hE) rfl rfl (by decide +kernel) ⟨Nat.le_of_ble_eq_true rfl, Nat.le_of_ble_eq_true rfl⟩, (wd_1497 hE), (wd_54 hE)⟩ ⟨PcE.blind, va_recv hK hP (ci := 11) (q0 := 0) rfl rfl, (pre_E (av := [.ref a0, .int 2]) (wc := [(a0, .inr (11, [.ref a1, .int 0, .int 0, .int 0, .ref a2, .int 0, .ref a3, .ref a4, .ref a5, .ref a6, .int 0, .int 0, .int 0, .int 0, .int 0, .int 0, .int 0, .int (-1), .int (-1), .int (-1), .int 0, .int 0, .int 0, .ref a7, .ref a8, .ref a9, .ref a10, .ref a11, .ref a12, .ref a13, .int 0]))]) (tysc := []) [0] [] rfl (by decide) rfl rfl hK hP hD hE)⟩ rfl rfl hl.1 rfl (lv_room (Nat.le_of_ble_eq_true rfl)) dX12_tell_10 ⟨Nat.le_of_ble_eq_true rfl, Nat.le_of_ble_eq_true rfl⟩) (fun r3 u3 H locs hw3 hK hP hD hS => ?_)
  have hK : va_K (dC, dI) vwCl [(k0, .int)] s := hK
  have hP : va_P (dC, dI) vwCl [(a1, .inl (k0, 7202, .inl (fun _ => 0))), (a0, .inr (11, [.ref a1, .int 2, .int 0, .int 0, .ref a2, .int 0, .ref a3, .ref a4, .ref a5, .ref a6, .int 0, .int 0, .int 0, .int 0, .int 0, .int 0, .int 0, .int (-1), .int (-1), .int (-1), .int 0, .int 0, .int 0, .ref a7, .ref a8, .ref a9, .ref a10, .ref a11, .ref a12, .ref a13, .int 0]))] H := hP
  have hD : va_D A [(a1, .inl (k0, 7202, .inl (fun _ => 0))), (a0, .inr (11, [.ref a1, .int 2, .int 0, .int 0, .ref a2, .int 0, .ref a3, .ref a4, .ref a5, .ref a6, .int 0, .int 0, .int 0, .int 0, .int 0, .int 0, .int 0, .int (-1), .int (-1), .int (-1), .int 0, .int 0, .int 0, .ref a7, .ref a8, .ref a9, .ref a10, .ref a11, .ref a12, .ref a13, .int 0]))] := hD
  subst hw3
  refine W.eq (g2 := F0 m 13 ls [.int (-1)]) rfl ?_
  have hP9 := hP.sub (ws' := []) [] rfl
  have hD9 := hD.sub (ws' := []) [] (by decide) rfl
  have hK9 := hK.sub (tys' := []) [] rfl
  refine W.widen (k := 0) (n := 0) (Nat.le_of_ble_eq_true rfl) (Nat.le_of_ble_eq_true rfl) ?_
  exact W.iret (v := -1) hx hb hr (fun t ht hW => ⟨⟨-1, (), rfl, rfl, by rw [ht]; exact hP9, va_K.moved hW.alike hK9, hD9⟩, hS.F ht⟩) hS.2.2 dX12_tell_13

set_option maxHeartbeats 4000000 in
set_option maxRecDepth 100000 in
theorem c_X12_out (l : Launch) (dC : Nat → ClassId) (dI : Nat → Nat → Nat) (sz : Nat)  (a0 a1 a2 a3 a4 a5 a6 a7 a8 a9 a10 a11 a12 a13 : Nat) (v0 : Int32)  : Met l yX12_out [.code yX12_out cX12_out 2 (some .int)] ({ frames := 1, cells := 0, slots := 0, locals := 40 }) (PcE [.ref a0, .int v0] sz dC dI [] [(a0, .inr (11, [.ref a1, .int 0, .int 0, .int 0, .ref a2, .int 0, .ref a3, .ref a4, .ref a5, .ref a6, .int 0, .int 0, .int 0, .int 0, .int 0, .int 0, .int 0, .int (-1), .int (-1), .int (-1), .int 0, .int 0, .int 0, .ref a7, .ref a8, .ref a9, .ref a10, .ref a11, .ref a12, .ref a13, .int 0]))]) (va_Qi (fun (r : Int32) (u : Unit) => r = -1) (Bw dC dI (va_A [(a0, .inr (11, [.ref a1, .int 0, .int 0, .int 0, .ref a2, .int 0, .ref a3, .ref a4, .ref a5, .ref a6, .int 0, .int 0, .int 0, .int 0, .int 0, .int 0, .int 0, .int (-1), .int (-1), .int (-1), .int 0, .int 0, .int 0, .ref a7, .ref a8, .ref a9, .ref a10, .ref a11, .ref a12, .ref a13, .int 0]))] sz) (fun (u : Unit) => []) (fun (u : Unit) => [])) (va_A [(a0, .inr (11, [.ref a1, .int 0, .int 0, .int 0, .ref a2, .int 0, .ref a3, .ref a4, .ref a5, .ref a6, .int 0, .int 0, .int 0, .int 0, .int 0, .int 0, .int 0, .int (-1), .int (-1), .int (-1), .int 0, .int 0, .int 0, .ref a7, .ref a8, .ref a9, .ref a10, .ref a11, .ref a12, .ref a13, .int 0]))] sz)) 0 0 (va_A [(a0, .inr (11, [.ref a1, .int 0, .int 0, .int 0, .ref a2, .int 0, .ref a3, .ref a4, .ref a5, .ref a6, .int 0, .int 0, .int 0, .int 0, .int 0, .int 0, .int 0, .int (-1), .int (-1), .int (-1), .int 0, .int 0, .int 0, .ref a7, .ref a8, .ref a9, .ref a10, .ref a11, .ref a12, .ref a13, .int 0]))] sz) := by
  refine Met.ofW (cc := cX12_out) (maxL := 2) (ret := (some .int)) (by decide) rfl ?_
  intro p e s m args below meth c s₁ B hml hv
  obtain ⟨rfl, hsz, hP, hK, hD0, hE⟩ := hv
  have hx := B.exec
  have hb := B.bytes
  have hr := B.returns
  have hown : s.vm.findClass RX12 = some m.cls := findClass_of_methodNamed B.named
  have hlocks := B.notSynchronized
  subst hsz
  have hD := hD0.self (sz := s.heap.size)
  generalize hAe : va_A [(a0, .inr (11, [.ref a1, .int 0, .int 0, .int 0, .ref a2, .int 0, .ref a3, .ref a4, .ref a5, .ref a6, .int 0, .int 0, .int 0, .int 0, .int 0, .int 0, .int 0, .int (-1), .int (-1), .int (-1), .int 0, .int 0, .int 0, .ref a7, .ref a8, .ref a9, .ref a10, .ref a11, .ref a12, .ref a13, .int 0]))] s.heap.size = A at hD ⊢
  have hA : ∀ q : Nat, s.heap.size ≤ q → A q := fun q h => by rw [← hAe]; exact Or.inr h
  have hS : va_S A s.heap s.heap [] := va_S.rf
  have hl := lv_entry ([.ref a0, .int v0]) (n := 2) (Nat.le_of_ble_eq_true rfl)
  rw [lg_entry_eq]
  generalize (lg_sl ([.ref a0, .int v0]) ++ List.replicate (2 - (lg_sl ([.ref a0, .int v0])).length) Slot.unset).toArray = ls at hl ⊢
  have hl : lv_has ls 2 [(0, .ref a0), (1, .int v0)] := hl
  refine lv_iload_n hx hb dX12_out_0 rfl (lv_at hl 1 rfl) ?_
  refine lv_if_ge (tgt := 10) hx hb dX12_out_1 (by decide) (fun c1 => ?_) (fun c1 => ?_)
  · refine lv_iload_n hx hb dX12_out_10 rfl (lv_at hl 1 rfl) ?_
    refine lv_aload_n hx hb dX12_out_11 rfl (lv_at hl 0 rfl) ?_
    refine va_get (D := (dC, dI)) (ci := 11) (v := .int 0) (C := RX12) (T := TX12) (N := 31) hx hb (ly_X12 hE) (fun _ h9 => h9) hown hK hP 0 rfl rfl 30 (by decide) (wd_1411 hE) (fun _ h9 => h9) rfl dX12_out_12 ?_
    refine lv_icmp_ge (tgt := 31) hx hb dX12_out_15 (by decide) (fun c2 => ?_) (fun c2 => False.elim (by simp only [i_lt, i_le, i_eq, ti_m9, ti_m1, ti_0, ti_1, ti_2, ti_3, ti_4, ti_5, ti_6, ti_7, ti_9, ti_12, ti_20, ti_99, ti_700] at c1 c2; omega))
    refine lv_aload_n hx hb dX12_out_31 rfl (lv_at hl 0 rfl) ?_
    refine lv_iconst (v := 5) hx hb dX12_out_32 (by decide) ?_
    refine cl_i (wc := [(a0, .inr (11, [.ref a1, .int 0, .int 0, .int 0, .ref a2, .int 0, .ref a3, .ref a4, .ref a5, .ref a6, .int 0, .int 0, .int 0, .int 0, .int 0, .int 0, .int 0, .int (-1), .int (-1), .int (-1), .int 0, .int 0, .int 0, .ref a7, .ref a8, .ref a9, .ref a10, .ref a11, .ref a12, .ref a13, .int 0]))]) (wr := []) [0] [] rfl rfl (by decide) (by decide) hK hP hD hS hA (va_runV (As := [.int 5]) (rest := []) ⟨hx, hb, hml, hown, noTs⟩ (c_X12_refuse_3 l dC dI s.heap.size a0 a1 a2 a3 a4 a5 a6 a7 a8 a9 a10 a11 a12 a13) ⟨cbE 1 (wd_1498 hE) (wd_126 hE) (wd_1495 hE) rfl rfl (by decide +kernel) ⟨Nat.le_of_ble_eq_true rfl, Nat.le_of_ble_eq_true rfl⟩, (wd_1497 hE), (wd_54 hE)⟩ ⟨PcE.blind, va_recv hK hP (ci := 11) (q0 := 0) rfl rfl, (pre_E (av := [.ref a0, .int 5]) (wc := [(a0, .inr (11, [.ref a1, .int 0, .int 0, .int 0, .ref a2, .int 0, .ref a3, .ref a4, .ref a5, .ref a6, .int 0, .int 0, .int 0, .int 0, .int 0, .int 0, .int 0, .int (-1), .int (-1), .int (-1), .int 0, .int 0, .int 0, .ref a7, .ref a8, .ref a9, .ref a10, .ref a11, .ref a12, .ref a13, .int 0]))]) (tysc := []) [0] [] rfl (by decide) rfl rfl hK hP hD hE)⟩ rfl rfl hl.1 rfl (lv_room (Nat.le_of_ble_eq_true rfl)) dX12_out_33 ⟨Nat.le_of_ble_eq_true rfl, Nat.le_of_ble_eq_true rfl⟩) (fun r3 u3 H locs hw3 hK hP hD hS => ?_)
    have hK : va_K (dC, dI) vwCl [] s := hK
    have hP : va_P (dC, dI) vwCl [(a0, .inr (11, [.ref a1, .int 5, .int 0, .int 0, .ref a2, .int 0, .ref a3, .ref a4, .ref a5, .ref a6, .int 0, .int 0, .int 0, .int 0, .int 0, .int 0, .int 0, .int (-1), .int (-1), .int (-1), .int 0, .int 0, .int 0, .ref a7, .ref a8, .ref a9, .ref a10, .ref a11, .ref a12, .ref a13, .int 0]))] H := hP
    have hD : va_D A [(a0, .inr (11, [.ref a1, .int 5, .int 0, .int 0, .ref a2, .int 0, .ref a3, .ref a4, .ref a5, .ref a6, .int 0, .int 0, .int 0, .int 0, .int 0, .int 0, .int 0, .int (-1), .int (-1), .int (-1), .int 0, .int 0, .int 0, .ref a7, .ref a8, .ref a9, .ref a10, .ref a11, .ref a12, .ref a13, .int 0]))] := hD
    subst hw3
    refine W.eq (g2 := F0 m 36 ls [.int (-1)]) rfl ?_
    have hP9 := hP.sub (ws' := []) [] rfl
    have hD9 := hD.sub (ws' := []) [] (by decide) rfl
    have hK9 := hK.sub (tys' := []) [] rfl
    refine W.widen (k := 0) (n := 0) (Nat.le_of_ble_eq_true rfl) (Nat.le_of_ble_eq_true rfl) ?_
    exact W.iret (v := -1) hx hb hr (fun t ht hW => ⟨⟨-1, (), rfl, rfl, by rw [ht]; exact hP9, va_K.moved hW.alike hK9, hD9⟩, hS.F ht⟩) hS.2.2 dX12_out_36
  · refine lv_aload_n hx hb dX12_out_4 rfl (lv_at hl 0 rfl) ?_
    refine lv_iconst (v := 1) hx hb dX12_out_5 (by decide) ?_
    refine cl_i (wc := [(a0, .inr (11, [.ref a1, .int 0, .int 0, .int 0, .ref a2, .int 0, .ref a3, .ref a4, .ref a5, .ref a6, .int 0, .int 0, .int 0, .int 0, .int 0, .int 0, .int 0, .int (-1), .int (-1), .int (-1), .int 0, .int 0, .int 0, .ref a7, .ref a8, .ref a9, .ref a10, .ref a11, .ref a12, .ref a13, .int 0]))]) (wr := []) [0] [] rfl rfl (by decide) (by decide) hK hP hD hS hA (va_runV (As := [.int 1]) (rest := []) ⟨hx, hb, hml, hown, noTs⟩ (c_X12_refuse l dC dI s.heap.size a0 a1 a2 a3 a4 a5 a6 a7 a8 a9 a10 a11 a12 a13) ⟨cbE 1 (wd_1498 hE) (wd_126 hE) (wd_1495 hE) rfl rfl (by decide +kernel) ⟨Nat.le_of_ble_eq_true rfl, Nat.le_of_ble_eq_true rfl⟩, (wd_1497 hE), (wd_54 hE)⟩ ⟨PcE.blind, va_recv hK hP (ci := 11) (q0 := 0) rfl rfl, (pre_E (av := [.ref a0, .int 1]) (wc := [(a0, .inr (11, [.ref a1, .int 0, .int 0, .int 0, .ref a2, .int 0, .ref a3, .ref a4, .ref a5, .ref a6, .int 0, .int 0, .int 0, .int 0, .int 0, .int 0, .int 0, .int (-1), .int (-1), .int (-1), .int 0, .int 0, .int 0, .ref a7, .ref a8, .ref a9, .ref a10, .ref a11, .ref a12, .ref a13, .int 0]))]) (tysc := []) [0] [] rfl (by decide) rfl rfl hK hP hD hE)⟩ rfl rfl hl.1 rfl (lv_room (Nat.le_of_ble_eq_true rfl)) dX12_out_6 ⟨Nat.le_of_ble_eq_true rfl, Nat.le_of_ble_eq_true rfl⟩) (fun r4 u4 H locs hw4 hK hP hD hS => ?_)
    have hK : va_K (dC, dI) vwCl [] s := hK
    have hP : va_P (dC, dI) vwCl [(a0, .inr (11, [.ref a1, .int 1, .int 0, .int 0, .ref a2, .int 0, .ref a3, .ref a4, .ref a5, .ref a6, .int 0, .int 0, .int 0, .int 0, .int 0, .int 0, .int 0, .int (-1), .int (-1), .int (-1), .int 0, .int 0, .int 0, .ref a7, .ref a8, .ref a9, .ref a10, .ref a11, .ref a12, .ref a13, .int 0]))] H := hP
    have hD : va_D A [(a0, .inr (11, [.ref a1, .int 1, .int 0, .int 0, .ref a2, .int 0, .ref a3, .ref a4, .ref a5, .ref a6, .int 0, .int 0, .int 0, .int 0, .int 0, .int 0, .int 0, .int (-1), .int (-1), .int (-1), .int 0, .int 0, .int 0, .ref a7, .ref a8, .ref a9, .ref a10, .ref a11, .ref a12, .ref a13, .int 0]))] := hD
    subst hw4
    refine W.eq (g2 := F0 m 9 ls [.int (-1)]) rfl ?_
    have hP9 := hP.sub (ws' := []) [] rfl
    have hD9 := hD.sub (ws' := []) [] (by decide) rfl
    have hK9 := hK.sub (tys' := []) [] rfl
    refine W.widen (k := 0) (n := 0) (Nat.le_of_ble_eq_true rfl) (Nat.le_of_ble_eq_true rfl) ?_
    exact W.iret (v := -1) hx hb hr (fun t ht hW => ⟨⟨-1, (), rfl, rfl, by rw [ht]; exact hP9, va_K.moved hW.alike hK9, hD9⟩, hS.F ht⟩) hS.2.2 dX12_out_9

set_option maxHeartbeats 4000000 in
set_option maxRecDepth 100000 in
theorem c_X12_gives_4 (l : Launch) (dC : Nat → ClassId) (dI : Nat → Nat → Nat) (sz : Nat)  (a0 a1 a2 a3 a4 a5 a6 a7 a8 a9 a10 a11 a12 a13 : Nat)  : Met l yX12_gives [.code yX12_gives cX12_gives 2 (some .int)] ({ frames := 0, cells := 0, slots := 0, locals := 0 }) (PcE [.ref a0, .int 1] sz dC dI [] [(a0, .inr (11, [.ref a1, .int 0, .int 0, .int 0, .ref a2, .int 0, .ref a3, .ref a4, .ref a5, .ref a6, .int 0, .int 0, .int 0, .int 0, .int 0, .int 0, .int 0, .int (-1), .int (-1), .int (-1), .int 0, .int 0, .int 0, .ref a7, .ref a8, .ref a9, .ref a10, .ref a11, .ref a12, .ref a13, .int 0]))]) (va_Qi (fun (r : Int32) (u : Unit) => r = 1) (Bw dC dI (va_A [(a0, .inr (11, [.ref a1, .int 0, .int 0, .int 0, .ref a2, .int 0, .ref a3, .ref a4, .ref a5, .ref a6, .int 0, .int 0, .int 0, .int 0, .int 0, .int 0, .int 0, .int (-1), .int (-1), .int (-1), .int 0, .int 0, .int 0, .ref a7, .ref a8, .ref a9, .ref a10, .ref a11, .ref a12, .ref a13, .int 0]))] sz) (fun (u : Unit) => []) (fun (u : Unit) => [(a0, .inr (11, [.ref a1, .int 0, .int 0, .int 0, .ref a2, .int 0, .ref a3, .ref a4, .ref a5, .ref a6, .int 0, .int 0, .int 0, .int 0, .int 0, .int 0, .int 0, .int (-1), .int (-1), .int (-1), .int 0, .int 0, .int 0, .ref a7, .ref a8, .ref a9, .ref a10, .ref a11, .ref a12, .ref a13, .int 0]))])) (va_A [(a0, .inr (11, [.ref a1, .int 0, .int 0, .int 0, .ref a2, .int 0, .ref a3, .ref a4, .ref a5, .ref a6, .int 0, .int 0, .int 0, .int 0, .int 0, .int 0, .int 0, .int (-1), .int (-1), .int (-1), .int 0, .int 0, .int 0, .ref a7, .ref a8, .ref a9, .ref a10, .ref a11, .ref a12, .ref a13, .int 0]))] sz)) 0 0 (va_A [(a0, .inr (11, [.ref a1, .int 0, .int 0, .int 0, .ref a2, .int 0, .ref a3, .ref a4, .ref a5, .ref a6, .int 0, .int 0, .int 0, .int 0, .int 0, .int 0, .int 0, .int (-1), .int (-1), .int (-1), .int 0, .int 0, .int 0, .ref a7, .ref a8, .ref a9, .ref a10, .ref a11, .ref a12, .ref a13, .int 0]))] sz) := by
  refine Met.ofW (cc := cX12_gives) (maxL := 2) (ret := (some .int)) (by decide) rfl ?_
  intro p e s m args below meth c s₁ B hml hv
  obtain ⟨rfl, hsz, hP, hK, hD0, hE⟩ := hv
  have hx := B.exec
  have hb := B.bytes
  have hr := B.returns
  have hown : s.vm.findClass RX12 = some m.cls := findClass_of_methodNamed B.named
  have hlocks := B.notSynchronized
  subst hsz
  have hD := hD0.self (sz := s.heap.size)
  generalize hAe : va_A [(a0, .inr (11, [.ref a1, .int 0, .int 0, .int 0, .ref a2, .int 0, .ref a3, .ref a4, .ref a5, .ref a6, .int 0, .int 0, .int 0, .int 0, .int 0, .int 0, .int 0, .int (-1), .int (-1), .int (-1), .int 0, .int 0, .int 0, .ref a7, .ref a8, .ref a9, .ref a10, .ref a11, .ref a12, .ref a13, .int 0]))] s.heap.size = A at hD ⊢
  have hA : ∀ q : Nat, s.heap.size ≤ q → A q := fun q h => by rw [← hAe]; exact Or.inr h
  have hS : va_S A s.heap s.heap [] := va_S.rf
  have hl := lv_entry ([.ref a0, .int 1]) (n := 2) (Nat.le_of_ble_eq_true rfl)
  rw [lg_entry_eq]
  generalize (lg_sl ([.ref a0, .int 1]) ++ List.replicate (2 - (lg_sl ([.ref a0, .int 1])).length) Slot.unset).toArray = ls at hl ⊢
  have hl : lv_has ls 2 [(0, .ref a0), (1, .int 1)] := hl
  refine lv_aload_n hx hb dX12_gives_0 rfl (lv_at hl 0 rfl) ?_
  refine lv_iconst (v := 0) hx hb dX12_gives_1 (by decide) ?_
  refine va_put (D := (dC, dI)) (ci := 11) (v := .int 0) (ty := .int) (C := RX12) (T := TX12) (N := 31) hx hb (ly_X12 hE) (fun _ h9 => h9) tyX12 tyX12_ok nmX12 hown hK hP hD hS 0 rfl rfl 1 (by decide) (wd_1382 hE) (fun _ h9 => h9) rfl (by decide +kernel) rfl rfl (Nat.le_of_ble_eq_true rfl) dX12_gives_2 (fun H locs hP hD hS => ?_)
  have hP : va_P (dC, dI) vwCl [(a0, .inr (11, [.ref a1, .int 0, .int 0, .int 0, .ref a2, .int 0, .ref a3, .ref a4, .ref a5, .ref a6, .int 0, .int 0, .int 0, .int 0, .int 0, .int 0, .int 0, .int (-1), .int (-1), .int (-1), .int 0, .int 0, .int 0, .ref a7, .ref a8, .ref a9, .ref a10, .ref a11, .ref a12, .ref a13, .int 0]))] H := hP
  have hD : va_D A [(a0, .inr (11, [.ref a1, .int 0, .int 0, .int 0, .ref a2, .int 0, .ref a3, .ref a4, .ref a5, .ref a6, .int 0, .int 0, .int 0, .int 0, .int 0, .int 0, .int 0, .int (-1), .int (-1), .int (-1), .int 0, .int 0, .int 0, .ref a7, .ref a8, .ref a9, .ref a10, .ref a11, .ref a12, .ref a13, .int 0]))] := hD
  refine lv_iload_n hx hb dX12_gives_5 rfl (lv_at hl 1 rfl) ?_
  have hP9 := hP.sub (ws' := [(a0, .inr (11, [.ref a1, .int 0, .int 0, .int 0, .ref a2, .int 0, .ref a3, .ref a4, .ref a5, .ref a6, .int 0, .int 0, .int 0, .int 0, .int 0, .int 0, .int 0, .int (-1), .int (-1), .int (-1), .int 0, .int 0, .int 0, .ref a7, .ref a8, .ref a9, .ref a10, .ref a11, .ref a12, .ref a13, .int 0]))]) [0] rfl
  have hD9 := hD.sub (ws' := [(a0, .inr (11, [.ref a1, .int 0, .int 0, .int 0, .ref a2, .int 0, .ref a3, .ref a4, .ref a5, .ref a6, .int 0, .int 0, .int 0, .int 0, .int 0, .int 0, .int 0, .int (-1), .int (-1), .int (-1), .int 0, .int 0, .int 0, .ref a7, .ref a8, .ref a9, .ref a10, .ref a11, .ref a12, .ref a13, .int 0]))]) [0] (by decide) rfl
  have hK9 := hK.sub (tys' := []) [] rfl
  refine W.widen (k := 0) (n := 0) (Nat.le_of_ble_eq_true rfl) (Nat.le_of_ble_eq_true rfl) ?_
  exact W.iret (v := 1) hx hb hr (fun t ht hW => ⟨⟨1, (), rfl, rfl, by rw [ht]; exact hP9, va_K.moved hW.alike hK9, hD9⟩, hS.F ht⟩) hS.2.2 dX12_gives_6

set_option maxHeartbeats 4000000 in
set_option maxRecDepth 100000 in
theorem c_X12_chi (l : Launch) (dC : Nat → ClassId) (dI : Nat → Nat → Nat) (sz : Nat)  (a0 a1 a2 a3 a4 a5 a6 a7 a8 a9 a10 a11 a12 a13 : Nat) (k0 : ClassId) (v0 : Int32)  : Met l yX12_chi [.code yX12_chi cX12_chi 12 (some .int)] ({ frames := 1, cells := 0, slots := 0, locals := 40 }) (PcE [.ref a0, .int v0] sz dC dI [(k0, .int)] [(a0, .inr (11, [.ref a1, .int 0, .int 0, .int 0, .ref a2, .int 0, .ref a3, .ref a4, .ref a5, .ref a6, .int 0, .int 0, .int 0, .int 0, .int 0, .int 0, .int 0, .int (-1), .int (-1), .int (-1), .int 0, .int 0, .int 0, .ref a7, .ref a8, .ref a9, .ref a10, .ref a11, .ref a12, .ref a13, .int 0])), (a1, .inl (k0, 7202, .inl (fun _ => 0)))]) (va_Qi (fun (r : Int32) (u : Unit) => r = if v0 = 0 then 0 else if v0 = 1 then 1 else -1) (Bw dC dI (va_A [(a0, .inr (11, [.ref a1, .int 0, .int 0, .int 0, .ref a2, .int 0, .ref a3, .ref a4, .ref a5, .ref a6, .int 0, .int 0, .int 0, .int 0, .int 0, .int 0, .int 0, .int (-1), .int (-1), .int (-1), .int 0, .int 0, .int 0, .ref a7, .ref a8, .ref a9, .ref a10, .ref a11, .ref a12, .ref a13, .int 0])), (a1, .inl (k0, 7202, .inl (fun _ => 0)))] sz) (fun (u : Unit) => []) (fun (u : Unit) => [])) (va_A [(a0, .inr (11, [.ref a1, .int 0, .int 0, .int 0, .ref a2, .int 0, .ref a3, .ref a4, .ref a5, .ref a6, .int 0, .int 0, .int 0, .int 0, .int 0, .int 0, .int 0, .int (-1), .int (-1), .int (-1), .int 0, .int 0, .int 0, .ref a7, .ref a8, .ref a9, .ref a10, .ref a11, .ref a12, .ref a13, .int 0])), (a1, .inl (k0, 7202, .inl (fun _ => 0)))] sz)) 0 0 (va_A [(a0, .inr (11, [.ref a1, .int 0, .int 0, .int 0, .ref a2, .int 0, .ref a3, .ref a4, .ref a5, .ref a6, .int 0, .int 0, .int 0, .int 0, .int 0, .int 0, .int 0, .int (-1), .int (-1), .int (-1), .int 0, .int 0, .int 0, .ref a7, .ref a8, .ref a9, .ref a10, .ref a11, .ref a12, .ref a13, .int 0])), (a1, .inl (k0, 7202, .inl (fun _ => 0)))] sz) := by
  refine Met.ofW (cc := cX12_chi) (maxL := 12) (ret := (some .int)) (by decide) rfl ?_
  intro p e s m args below meth c s₁ B hml hv
  obtain ⟨rfl, hsz, hP, hK, hD0, hE⟩ := hv
  have hx := B.exec
  have hb := B.bytes
  have hr := B.returns
  have hown : s.vm.findClass RX12 = some m.cls := findClass_of_methodNamed B.named
  have hlocks := B.notSynchronized
  subst hsz
  have hD := hD0.self (sz := s.heap.size)
  generalize hAe : va_A [(a0, .inr (11, [.ref a1, .int 0, .int 0, .int 0, .ref a2, .int 0, .ref a3, .ref a4, .ref a5, .ref a6, .int 0, .int 0, .int 0, .int 0, .int 0, .int 0, .int 0, .int (-1), .int (-1), .int (-1), .int 0, .int 0, .int 0, .ref a7, .ref a8, .ref a9, .ref a10, .ref a11, .ref a12, .ref a13, .int 0])), (a1, .inl (k0, 7202, .inl (fun _ => 0)))] s.heap.size = A at hD ⊢
  have hA : ∀ q : Nat, s.heap.size ≤ q → A q := fun q h => by rw [← hAe]; exact Or.inr h
  have hS : va_S A s.heap s.heap [] := va_S.rf
  have hl := lv_entry ([.ref a0, .int v0]) (n := 12) (Nat.le_of_ble_eq_true rfl)
  rw [lg_entry_eq]
  generalize (lg_sl ([.ref a0, .int v0]) ++ List.replicate (12 - (lg_sl ([.ref a0, .int v0])).length) Slot.unset).toArray = ls at hl ⊢
  have hl : lv_has ls 12 [(0, .ref a0), (1, .int v0)] := hl
  refine lv_iload_n hx hb dX12_chi_0 rfl (lv_at hl 1 rfl) ?_
  refine lv_iconst (v := 0) hx hb dX12_chi_1 (by decide) ?_
  refine lv_iconst (v := 1) hx hb dX12_chi_2 (by decide) ?_
  refine cl_i (wc := []) (wr := [(a0, .inr (11, [.ref a1, .int 0, .int 0, .int 0, .ref a2, .int 0, .ref a3, .ref a4, .ref a5, .ref a6, .int 0, .int 0, .int 0, .int 0, .int 0, .int 0, .int 0, .int (-1), .int (-1), .int (-1), .int 0, .int 0, .int 0, .ref a7, .ref a8, .ref a9, .ref a10, .ref a11, .ref a12, .ref a13, .int 0])), (a1, .inl (k0, 7202, .inl (fun _ => 0)))]) [] [0, 1] rfl rfl (by decide) (by decide) hK hP hD hS hA (va_runS (As := [.int v0, .int 0, .int 1]) (rest := []) ⟨hx, hb, hml, hown, noTs⟩ (c_isFrom_0_1 l dC dI s.heap.size v0) ⟨cbE 3 (wd_1494 hE) (wd_126 hE) (wd_1492 hE) rfl rfl (by decide +kernel) ⟨Nat.le_of_ble_eq_true rfl, Nat.le_of_ble_eq_true rfl⟩, (wd_1493 hE)⟩ ⟨PcE.blind, (pre_E (av := [.int v0, .int 0, .int 1]) (wc := []) (tysc := []) [] [] rfl (by decide) rfl rfl hK hP hD hE)⟩ rfl rfl hl.1 rfl (lv_room (Nat.le_of_ble_eq_true rfl)) dX12_chi_3 ⟨Nat.le_of_ble_eq_true rfl, Nat.le_of_ble_eq_true rfl⟩) (fun r1 u1 H locs hw1 hK hP hD hS => ?_)
  have hK : va_K (dC, dI) vwCl [(k0, .int)] s := hK
  have hP : va_P (dC, dI) vwCl [(a0, .inr (11, [.ref a1, .int 0, .int 0, .int 0, .ref a2, .int 0, .ref a3, .ref a4, .ref a5, .ref a6, .int 0, .int 0, .int 0, .int 0, .int 0, .int 0, .int 0, .int (-1), .int (-1), .int (-1), .int 0, .int 0, .int 0, .ref a7, .ref a8, .ref a9, .ref a10, .ref a11, .ref a12, .ref a13, .int 0])), (a1, .inl (k0, 7202, .inl (fun _ => 0)))] H := hP
  have hD : va_D A [(a0, .inr (11, [.ref a1, .int 0, .int 0, .int 0, .ref a2, .int 0, .ref a3, .ref a4, .ref a5, .ref a6, .int 0, .int 0, .int 0, .int 0, .int 0, .int 0, .int 0, .int (-1), .int (-1), .int (-1), .int 0, .int 0, .int 0, .ref a7, .ref a8, .ref a9, .ref a10, .ref a11, .ref a12, .ref a13, .int 0])), (a1, .inl (k0, 7202, .inl (fun _ => 0)))] := hD
  rcases hw1 with ⟨rfl, ha1, hb1⟩ | ⟨rfl, ha1⟩
  · refine W.eq (g2 := F0 m 6 ls [.int 1]) rfl ?_
    refine lv_if_ne (tgt := 15) hx hb dX12_chi_6 (by decide) (fun c2 => ?_) (fun c2 => absurd c2 (by decide))
    refine lv_lconst (v := 0) hx hb dX12_chi_15 (by decide) ?_
    refine lv_lstore_n (lv' := [(2, .long 0), (0, .ref a0), (1, .int v0)]) hx hb dX12_chi_16 rfl hl (by decide) rfl (fun ls hl => ?_)
    refine lv_lconst (v := 1) hx hb dX12_chi_17 (by decide) ?_
    refine lv_lstore (lv' := [(4, .long 1), (2, .long 0), (0, .ref a0), (1, .int v0)]) hx hb dX12_chi_18 hl (by decide) rfl (fun ls hl => ?_)
    refine lv_iconst (v := 0) hx hb dX12_chi_20 (by decide) ?_
    refine lv_istore (lv' := [(6, .int 0), (4, .long 1), (2, .long 0), (0, .ref a0), (1, .int v0)]) hx hb dX12_chi_21 hl (by decide) rfl (fun ls hl => ?_)
    refine lv_iload hx hb dX12_chi_23 (lv_at hl 0 rfl) ?_
    refine lv_aload_n hx hb dX12_chi_25 rfl (lv_at hl 3 rfl) ?_
    refine lv_iconst (v := 0) hx hb dX12_chi_26 (by decide) ?_
    refine cl_i (wc := [(a0, .inr (11, [.ref a1, .int 0, .int 0, .int 0, .ref a2, .int 0, .ref a3, .ref a4, .ref a5, .ref a6, .int 0, .int 0, .int 0, .int 0, .int 0, .int 0, .int 0, .int (-1), .int (-1), .int (-1), .int 0, .int 0, .int 0, .ref a7, .ref a8, .ref a9, .ref a10, .ref a11, .ref a12, .ref a13, .int 0])), (a1, .inl (k0, 7202, .inl (fun _ => 0)))]) (wr := []) [0, 1] [] rfl rfl (by decide) (by decide) hK hP hD hS hA (va_runV (As := [.int 0]) (rest := [.int 0]) ⟨hx, hb, hml, hown, noTs⟩ (c_X12_of_2 l dC dI H.size a0 a1 a2 a3 a4 a5 a6 a7 a8 a9 a10 a11 a12 a13 k0) ⟨cbE 1 (wd_1536 hE) (wd_126 hE) (wd_1533 hE) rfl rfl (by decide +kernel) ⟨Nat.le_of_ble_eq_true rfl, Nat.le_of_ble_eq_true rfl⟩, (wd_1535 hE), (wd_61 hE)⟩ ⟨PcE.blind, va_recv hK hP (ci := 11) (q0 := 0) rfl rfl, (pre_E (av := [.ref a0, .int 0]) (wc := [(a0, .inr (11, [.ref a1, .int 0, .int 0, .int 0, .ref a2, .int 0, .ref a3, .ref a4, .ref a5, .ref a6, .int 0, .int 0, .int 0, .int 0, .int 0, .int 0, .int 0, .int (-1), .int (-1), .int (-1), .int 0, .int 0, .int 0, .ref a7, .ref a8, .ref a9, .ref a10, .ref a11, .ref a12, .ref a13, .int 0])), (a1, .inl (k0, 7202, .inl (fun _ => 0)))]) (tysc := [(k0, .int)]) [0, 1] [0] rfl (by decide) rfl rfl hK hP hD hE)⟩ rfl rfl hl.1 rfl (lv_room (Nat.le_of_ble_eq_true rfl)) dX12_chi_27 ⟨Nat.le_of_ble_eq_true rfl, Nat.le_of_ble_eq_true rfl⟩) (fun r3 u3 H locs hw3 hK hP hD hS => ?_)
    have hK : va_K (dC, dI) vwCl [(k0, .int)] s := hK
    have hP : va_P (dC, dI) vwCl [(a0, .inr (11, [.ref a1, .int 0, .int 0, .int 0, .ref a2, .int 0, .ref a3, .ref a4, .ref a5, .ref a6, .int 0, .int 0, .int 0, .int 0, .int 0, .int 0, .int 0, .int (-1), .int (-1), .int (-1), .int 0, .int 0, .int 0, .ref a7, .ref a8, .ref a9, .ref a10, .ref a11, .ref a12, .ref a13, .int 0])), (a1, .inl (k0, 7202, .inl (fun _ => 0)))] H := hP
    have hD : va_D A [(a0, .inr (11, [.ref a1, .int 0, .int 0, .int 0, .ref a2, .int 0, .ref a3, .ref a4, .ref a5, .ref a6, .int 0, .int 0, .int 0, .int 0, .int 0, .int 0, .int 0, .int (-1), .int (-1), .int (-1), .int 0, .int 0, .int 0, .ref a7, .ref a8, .ref a9, .ref a10, .ref a11, .ref a12, .ref a13, .int 0])), (a1, .inl (k0, 7202, .inl (fun _ => 0)))] := hD
    subst hw3
    refine W.eq (g2 := F0 m 30 ls [.int 0, .int 0]) rfl ?_
    refine lv_aload_n hx hb dX12_chi_30 rfl (lv_at hl 3 rfl) ?_
    refine lv_iconst (v := 1) hx hb dX12_chi_31 (by decide) ?_
    refine cl_i (wc := [(a0, .inr (11, [.ref a1, .int 0, .int 0, .int 0, .ref a2, .int 0, .ref a3, .ref a4, .ref a5, .ref a6, .int 0, .int 0, .int 0, .int 0, .int 0, .int 0, .int 0, .int (-1), .int (-1), .int (-1), .int 0, .int 0, .int 0, .ref a7, .ref a8, .ref a9, .ref a10, .ref a11, .ref a12, .ref a13, .int 0])), (a1, .inl (k0, 7202, .inl (fun _ => 0)))]) (wr := []) [0, 1] [] rfl rfl (by decide) (by decide) hK hP hD hS hA (va_runV (As := [.int 1]) (rest := [.int 0, .int 0]) ⟨hx, hb, hml, hown, noTs⟩ (c_X12_of_3 l dC dI H.size a0 a1 a2 a3 a4 a5 a6 a7 a8 a9 a10 a11 a12 a13 k0) ⟨cbE 1 (wd_1536 hE) (wd_126 hE) (wd_1533 hE) rfl rfl (by decide +kernel) ⟨Nat.le_of_ble_eq_true rfl, Nat.le_of_ble_eq_true rfl⟩, (wd_1535 hE), (wd_61 hE)⟩ ⟨PcE.blind, va_recv hK hP (ci := 11) (q0 := 0) rfl rfl, (pre_E (av := [.ref a0, .int 1]) (wc := [(a0, .inr (11, [.ref a1, .int 0, .int 0, .int 0, .ref a2, .int 0, .ref a3, .ref a4, .ref a5, .ref a6, .int 0, .int 0, .int 0, .int 0, .int 0, .int 0, .int 0, .int (-1), .int (-1), .int (-1), .int 0, .int 0, .int 0, .ref a7, .ref a8, .ref a9, .ref a10, .ref a11, .ref a12, .ref a13, .int 0])), (a1, .inl (k0, 7202, .inl (fun _ => 0)))]) (tysc := [(k0, .int)]) [0, 1] [0] rfl (by decide) rfl rfl hK hP hD hE)⟩ rfl rfl hl.1 rfl (lv_room (Nat.le_of_ble_eq_true rfl)) dX12_chi_32 ⟨Nat.le_of_ble_eq_true rfl, Nat.le_of_ble_eq_true rfl⟩) (fun r4 u4 H locs hw4 hK hP hD hS => ?_)
    have hK : va_K (dC, dI) vwCl [(k0, .int)] s := hK
    have hP : va_P (dC, dI) vwCl [(a0, .inr (11, [.ref a1, .int 0, .int 0, .int 0, .ref a2, .int 0, .ref a3, .ref a4, .ref a5, .ref a6, .int 0, .int 0, .int 0, .int 0, .int 0, .int 0, .int 0, .int (-1), .int (-1), .int (-1), .int 0, .int 0, .int 0, .ref a7, .ref a8, .ref a9, .ref a10, .ref a11, .ref a12, .ref a13, .int 0])), (a1, .inl (k0, 7202, .inl (fun _ => 0)))] H := hP
    have hD : va_D A [(a0, .inr (11, [.ref a1, .int 0, .int 0, .int 0, .ref a2, .int 0, .ref a3, .ref a4, .ref a5, .ref a6, .int 0, .int 0, .int 0, .int 0, .int 0, .int 0, .int 0, .int (-1), .int (-1), .int (-1), .int 0, .int 0, .int 0, .ref a7, .ref a8, .ref a9, .ref a10, .ref a11, .ref a12, .ref a13, .int 0])), (a1, .inl (k0, 7202, .inl (fun _ => 0)))] := hD
    subst hw4
    refine W.eq (g2 := F0 m 35 ls [.int 0, .int 0, .int 0]) rfl ?_
    refine lv_iadd hx hb dX12_chi_35 ?_
    refine W.eq (g2 := F0 m 36 ls [.int 0, .int 0]) rfl ?_
    refine lv_icmp_ge (tgt := 138) hx hb dX12_chi_36 (by decide) (fun c5 => ?_) (fun c5 => absurd c5 (by decide))
    refine lv_aload_n hx hb dX12_chi_138 rfl (lv_at hl 3 rfl) ?_
    refine lv_iload_n hx hb dX12_chi_139 rfl (lv_at hl 4 rfl) ?_
    refine lv_if_ne (tgt := 147) hx hb dX12_chi_140 (by decide) (fun c6 => ?_) (fun c6 => ?_)
    · obtain rfl : v0 = 1 := by simp only [i_lt, i_le, i_eq, ti_m9, ti_m1, ti_0, ti_1, ti_2, ti_3, ti_4, ti_5, ti_6, ti_7, ti_9, ti_12, ti_20, ti_99, ti_700] at ha1 hb1 c6 ⊢; omega
      refine lv_lload hx hb dX12_chi_147 (lv_at hl 1 rfl) ?_
      refine lv_l2i (v := 1) hx hb dX12_chi_149 (by decide) ?_
      refine cl_i (wc := [(a0, .inr (11, [.ref a1, .int 0, .int 0, .int 0, .ref a2, .int 0, .ref a3, .ref a4, .ref a5, .ref a6, .int 0, .int 0, .int 0, .int 0, .int 0, .int 0, .int 0, .int (-1), .int (-1), .int (-1), .int 0, .int 0, .int 0, .ref a7, .ref a8, .ref a9, .ref a10, .ref a11, .ref a12, .ref a13, .int 0]))]) (wr := [(a1, .inl (k0, 7202, .inl (fun _ => 0)))]) [0] [1] rfl rfl (by decide) (by decide) hK hP hD hS hA (va_runV (As := [.int 1]) (rest := []) ⟨hx, hb, hml, hown, noTs⟩ (c_X12_gives_4 l dC dI H.size a0 a1 a2 a3 a4 a5 a6 a7 a8 a9 a10 a11 a12 a13) ⟨cbE 1 (wd_1621 hE) (wd_126 hE) (wd_1618 hE) rfl rfl (by decide +kernel) ⟨Nat.le_of_ble_eq_true rfl, Nat.le_of_ble_eq_true rfl⟩, (wd_1620 hE), (wd_80 hE)⟩ ⟨PcE.blind, va_recv hK hP (ci := 11) (q0 := 0) rfl rfl, (pre_E (av := [.ref a0, .int 1]) (wc := [(a0, .inr (11, [.ref a1, .int 0, .int 0, .int 0, .ref a2, .int 0, .ref a3, .ref a4, .ref a5, .ref a6, .int 0, .int 0, .int 0, .int 0, .int 0, .int 0, .int 0, .int (-1), .int (-1), .int (-1), .int 0, .int 0, .int 0, .ref a7, .ref a8, .ref a9, .ref a10, .ref a11, .ref a12, .ref a13, .int 0]))]) (tysc := []) [0] [] rfl (by decide) rfl rfl hK hP hD hE)⟩ rfl rfl hl.1 rfl (lv_room (Nat.le_of_ble_eq_true rfl)) dX12_chi_150 ⟨Nat.le_of_ble_eq_true rfl, Nat.le_of_ble_eq_true rfl⟩) (fun r7 u7 H locs hw7 hK hP hD hS => ?_)
      have hK : va_K (dC, dI) vwCl [(k0, .int)] s := hK
      have hP : va_P (dC, dI) vwCl [(a1, .inl (k0, 7202, .inl (fun _ => 0))), (a0, .inr (11, [.ref a1, .int 0, .int 0, .int 0, .ref a2, .int 0, .ref a3, .ref a4, .ref a5, .ref a6, .int 0, .int 0, .int 0, .int 0, .int 0, .int 0, .int 0, .int (-1), .int (-1), .int (-1), .int 0, .int 0, .int 0, .ref a7, .ref a8, .ref a9, .ref a10, .ref a11, .ref a12, .ref a13, .int 0]))] H := hP
      have hD : va_D A [(a1, .inl (k0, 7202, .inl (fun _ => 0))), (a0, .inr (11, [.ref a1, .int 0, .int 0, .int 0, .ref a2, .int 0, .ref a3, .ref a4, .ref a5, .ref a6, .int 0, .int 0, .int 0, .int 0, .int 0, .int 0, .int 0, .int (-1), .int (-1), .int (-1), .int 0, .int 0, .int 0, .ref a7, .ref a8, .ref a9, .ref a10, .ref a11, .ref a12, .ref a13, .int 0]))] := hD
      subst hw7
      refine W.eq (g2 := F0 m 153 ls [.int 1]) rfl ?_
      have hP9 := hP.sub (ws' := []) [] rfl
      have hD9 := hD.sub (ws' := []) [] (by decide) rfl
      have hK9 := hK.sub (tys' := []) [] rfl
      refine W.widen (k := 0) (n := 0) (Nat.le_of_ble_eq_true rfl) (Nat.le_of_ble_eq_true rfl) ?_
      exact W.iret (v := 1) hx hb hr (fun t ht hW => ⟨⟨1, (), rfl, (by decide), by rw [ht]; exact hP9, va_K.moved hW.alike hK9, hD9⟩, hS.F ht⟩) hS.2.2 dX12_chi_153
    · obtain rfl : v0 = 0 := by simp only [i_lt, i_le, i_eq, ti_m9, ti_m1, ti_0, ti_1, ti_2, ti_3, ti_4, ti_5, ti_6, ti_7, ti_9, ti_12, ti_20, ti_99, ti_700] at ha1 hb1 c6 ⊢; omega
      refine lv_lload_n hx hb dX12_chi_143 rfl (lv_at hl 2 rfl) ?_
      refine lv_goto (tgt := 149) hx hb dX12_chi_144 (by decide) ?_
      refine lv_l2i (v := 0) hx hb dX12_chi_149 (by decide) ?_
      refine cl_i (wc := [(a0, .inr (11, [.ref a1, .int 0, .int 0, .int 0, .ref a2, .int 0, .ref a3, .ref a4, .ref a5, .ref a6, .int 0, .int 0, .int 0, .int 0, .int 0, .int 0, .int 0, .int (-1), .int (-1), .int (-1), .int 0, .int 0, .int 0, .ref a7, .ref a8, .ref a9, .ref a10, .ref a11, .ref a12, .ref a13, .int 0]))]) (wr := [(a1, .inl (k0, 7202, .inl (fun _ => 0)))]) [0] [1] rfl rfl (by decide) (by decide) hK hP hD hS hA (va_runV (As := [.int 0]) (rest := []) ⟨hx, hb, hml, hown, noTs⟩ (c_X12_gives_2 l dC dI H.size a0 a1 a2 a3 a4 a5 a6 a7 a8 a9 a10 a11 a12 a13) ⟨cbE 1 (wd_1621 hE) (wd_126 hE) (wd_1618 hE) rfl rfl (by decide +kernel) ⟨Nat.le_of_ble_eq_true rfl, Nat.le_of_ble_eq_true rfl⟩, (wd_1620 hE), (wd_80 hE)⟩ ⟨PcE.blind, va_recv hK hP (ci := 11) (q0 := 0) rfl rfl, (pre_E (av := [.ref a0, .int 0]) (wc := [(a0, .inr (11, [.ref a1, .int 0, .int 0, .int 0, .ref a2, .int 0, .ref a3, .ref a4, .ref a5, .ref a6, .int 0, .int 0, .int 0, .int 0, .int 0, .int 0, .int 0, .int (-1), .int (-1), .int (-1), .int 0, .int 0, .int 0, .ref a7, .ref a8, .ref a9, .ref a10, .ref a11, .ref a12, .ref a13, .int 0]))]) (tysc := []) [0] [] rfl (by decide) rfl rfl hK hP hD hE)⟩ rfl rfl hl.1 rfl (lv_room (Nat.le_of_ble_eq_true rfl)) dX12_chi_150 ⟨Nat.le_of_ble_eq_true rfl, Nat.le_of_ble_eq_true rfl⟩) (fun r8 u8 H locs hw8 hK hP hD hS => ?_)
      have hK : va_K (dC, dI) vwCl [(k0, .int)] s := hK
      have hP : va_P (dC, dI) vwCl [(a1, .inl (k0, 7202, .inl (fun _ => 0))), (a0, .inr (11, [.ref a1, .int 0, .int 0, .int 0, .ref a2, .int 0, .ref a3, .ref a4, .ref a5, .ref a6, .int 0, .int 0, .int 0, .int 0, .int 0, .int 0, .int 0, .int (-1), .int (-1), .int (-1), .int 0, .int 0, .int 0, .ref a7, .ref a8, .ref a9, .ref a10, .ref a11, .ref a12, .ref a13, .int 0]))] H := hP
      have hD : va_D A [(a1, .inl (k0, 7202, .inl (fun _ => 0))), (a0, .inr (11, [.ref a1, .int 0, .int 0, .int 0, .ref a2, .int 0, .ref a3, .ref a4, .ref a5, .ref a6, .int 0, .int 0, .int 0, .int 0, .int 0, .int 0, .int 0, .int (-1), .int (-1), .int (-1), .int 0, .int 0, .int 0, .ref a7, .ref a8, .ref a9, .ref a10, .ref a11, .ref a12, .ref a13, .int 0]))] := hD
      subst hw8
      refine W.eq (g2 := F0 m 153 ls [.int 0]) rfl ?_
      have hP9 := hP.sub (ws' := []) [] rfl
      have hD9 := hD.sub (ws' := []) [] (by decide) rfl
      have hK9 := hK.sub (tys' := []) [] rfl
      refine W.widen (k := 0) (n := 0) (Nat.le_of_ble_eq_true rfl) (Nat.le_of_ble_eq_true rfl) ?_
      exact W.iret (v := 0) hx hb hr (fun t ht hW => ⟨⟨0, (), rfl, (by decide), by rw [ht]; exact hP9, va_K.moved hW.alike hK9, hD9⟩, hS.F ht⟩) hS.2.2 dX12_chi_153
  · refine W.eq (g2 := F0 m 6 ls [.int 0]) rfl ?_
    refine lv_if_ne (tgt := 15) hx hb dX12_chi_6 (by decide) (fun c9 => absurd c9 (by decide)) (fun c9 => ?_)
    refine lv_aload_n hx hb dX12_chi_9 rfl (lv_at hl 0 rfl) ?_
    refine lv_iconst (v := 1) hx hb dX12_chi_10 (by decide) ?_
    refine cl_i (wc := [(a0, .inr (11, [.ref a1, .int 0, .int 0, .int 0, .ref a2, .int 0, .ref a3, .ref a4, .ref a5, .ref a6, .int 0, .int 0, .int 0, .int 0, .int 0, .int 0, .int 0, .int (-1), .int (-1), .int (-1), .int 0, .int 0, .int 0, .ref a7, .ref a8, .ref a9, .ref a10, .ref a11, .ref a12, .ref a13, .int 0]))]) (wr := [(a1, .inl (k0, 7202, .inl (fun _ => 0)))]) [0] [1] rfl rfl (by decide) (by decide) hK hP hD hS hA (va_runV (As := [.int 1]) (rest := []) ⟨hx, hb, hml, hown, noTs⟩ (c_X12_refuse l dC dI H.size a0 a1 a2 a3 a4 a5 a6 a7 a8 a9 a10 a11 a12 a13) ⟨cbE 1 (wd_1498 hE) (wd_126 hE) (wd_1495 hE) rfl rfl (by decide +kernel) ⟨Nat.le_of_ble_eq_true rfl, Nat.le_of_ble_eq_true rfl⟩, (wd_1497 hE), (wd_54 hE)⟩ ⟨PcE.blind, va_recv hK hP (ci := 11) (q0 := 0) rfl rfl, (pre_E (av := [.ref a0, .int 1]) (wc := [(a0, .inr (11, [.ref a1, .int 0, .int 0, .int 0, .ref a2, .int 0, .ref a3, .ref a4, .ref a5, .ref a6, .int 0, .int 0, .int 0, .int 0, .int 0, .int 0, .int 0, .int (-1), .int (-1), .int (-1), .int 0, .int 0, .int 0, .ref a7, .ref a8, .ref a9, .ref a10, .ref a11, .ref a12, .ref a13, .int 0]))]) (tysc := []) [0] [] rfl (by decide) rfl rfl hK hP hD hE)⟩ rfl rfl hl.1 rfl (lv_room (Nat.le_of_ble_eq_true rfl)) dX12_chi_11 ⟨Nat.le_of_ble_eq_true rfl, Nat.le_of_ble_eq_true rfl⟩) (fun r10 u10 H locs hw10 hK hP hD hS => ?_)
    have hK : va_K (dC, dI) vwCl [(k0, .int)] s := hK
    have hP : va_P (dC, dI) vwCl [(a1, .inl (k0, 7202, .inl (fun _ => 0))), (a0, .inr (11, [.ref a1, .int 1, .int 0, .int 0, .ref a2, .int 0, .ref a3, .ref a4, .ref a5, .ref a6, .int 0, .int 0, .int 0, .int 0, .int 0, .int 0, .int 0, .int (-1), .int (-1), .int (-1), .int 0, .int 0, .int 0, .ref a7, .ref a8, .ref a9, .ref a10, .ref a11, .ref a12, .ref a13, .int 0]))] H := hP
    have hD : va_D A [(a1, .inl (k0, 7202, .inl (fun _ => 0))), (a0, .inr (11, [.ref a1, .int 1, .int 0, .int 0, .ref a2, .int 0, .ref a3, .ref a4, .ref a5, .ref a6, .int 0, .int 0, .int 0, .int 0, .int 0, .int 0, .int 0, .int (-1), .int (-1), .int (-1), .int 0, .int 0, .int 0, .ref a7, .ref a8, .ref a9, .ref a10, .ref a11, .ref a12, .ref a13, .int 0]))] := hD
    subst hw10
    refine W.eq (g2 := F0 m 14 ls [.int (-1)]) rfl ?_
    have hP9 := hP.sub (ws' := []) [] rfl
    have hD9 := hD.sub (ws' := []) [] (by decide) rfl
    have hK9 := hK.sub (tys' := []) [] rfl
    refine W.widen (k := 0) (n := 0) (Nat.le_of_ble_eq_true rfl) (Nat.le_of_ble_eq_true rfl) ?_
    exact W.iret (v := -1) hx hb hr (fun t ht hW => ⟨⟨-1, (), rfl, (by rw [if_neg (by simp only [i_lt, i_le, i_eq, ti_m9, ti_m1, ti_0, ti_1, ti_2, ti_3, ti_4, ti_5, ti_6, ti_7, ti_9, ti_12, ti_20, ti_99, ti_700] at ha1 ⊢; omega), if_neg (by simp only [i_lt, i_le, i_eq, ti_m9, ti_m1, ti_0, ti_1, ti_2, ti_3, ti_4, ti_5, ti_6, ti_7, ti_9, ti_12, ti_20, ti_99, ti_700] at ha1 ⊢; omega)]), by rw [ht]; exact hP9, va_K.moved hW.alike hK9, hD9⟩, hS.F ht⟩) hS.2.2 dX12_chi_14
