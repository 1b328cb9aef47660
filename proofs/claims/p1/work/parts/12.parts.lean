set_option maxHeartbeats 4000000 in
set_option maxRecDepth 100000 in
theorem c_X9_init (l : Launch) (dC : Nat → ClassId) (dI : Nat → Nat → Nat) (sz : Nat)  (a0 : Nat)  : Met l yX9_init [.code yX9_init cX9_init 1 none] ({ frames := 1, cells := 4, slots := 2103, locals := 40 }) (PcE [.ref a0] sz dC dI [] [(a0, .inr (8, [.null, .null, .null, .int 0, .null, .int 0]))]) (va_Qv (fun (u : (Nat → Nat) × (Nat → ClassId)) => True) (Bw dC dI (va_A [(a0, .inr (8, [.null, .null, .null, .int 0, .null, .int 0]))] sz) (fun (u : (Nat → Nat) × (Nat → ClassId)) => []) (fun (u : (Nat → Nat) × (Nat → ClassId)) => [(a0, .inr (8, [.ref (u.1 0), .ref (u.1 1), .ref (u.1 2), .int 0, .ref (u.1 3), .int 0]))])) (va_A [(a0, .inr (8, [.null, .null, .null, .int 0, .null, .int 0]))] sz)) 4 2103 (va_A [(a0, .inr (8, [.null, .null, .null, .int 0, .null, .int 0]))] sz) := by
  refine Met.ofW (cc := cX9_init) (maxL := 1) (ret := none) (by decide) rfl ?_
  intro p e s m args below meth c s₁ B hml hv
  obtain ⟨rfl, hsz, hP, hK, hD0, hE⟩ := hv
  have hx := B.exec
  have hb := B.bytes
  have hr := B.returns
  have hown : s.vm.findClass RX9 = some m.cls := findClass_of_methodNamed B.named
  have hlocks := B.notSynchronized
  have hin : meth.name = "<init>" := (name_of_methodNamed B.named B.method).1
  subst hsz
  have hD := hD0.self (sz := s.heap.size)
  generalize hAe : va_A [(a0, .inr (8, [.null, .null, .null, .int 0, .null, .int 0]))] s.heap.size = A at hD ⊢
  have hA : ∀ q : Nat, s.heap.size ≤ q → A q := fun q h => by rw [← hAe]; exact Or.inr h
  have hS : va_S A s.heap s.heap [] := va_S.rf
  have hl := lv_entry ([.ref a0]) (n := 1) (Nat.le_of_ble_eq_true rfl)
  rw [lg_entry_eq]
  generalize (lg_sl ([.ref a0]) ++ List.replicate (1 - (lg_sl ([.ref a0])).length) Slot.unset).toArray = ls at hl ⊢
  have hl : lv_has ls 1 [(0, .ref a0)] := hl
  refine lv_aload_n hx hb dX9_init_0 rfl (lv_at hl 0 rfl) ?_
  refine W.objInit hx hb hown (wd_185 hE) (wd_141 hE) (wd_142 hE) rfl (by rw [hml]; exact hl.1) rfl dX9_init_1 (Nat.le_of_ble_eq_true rfl) (Nat.le_of_ble_eq_true rfl) ?_
  refine W.eq (g2 := F0 m 4 ls []) rfl ?_
  refine lv_aload_n hx hb dX9_init_4 rfl (lv_at hl 0 rfl) ?_
  refine lv_sipush (v := 701) hx hb dX9_init_5 (by decide) ?_
  refine va_newa (atype := .int) (ty := .int) (N' := 701) (a0 := (701, .inl (fun _ => 0))) hx hb (wd_153 hE) rfl hK hP hD hS hA (fun _ => rfl) (by decide) (by decide) (Nat.le_of_ble_eq_true rfl) (Nat.le_of_ble_eq_true rfl) (Nat.le_of_ble_eq_true rfl) dX9_init_8 (fun q1 k1 H hK hP hD hS => ?_)
  have hK : va_K (dC, dI) vwCl [(k1, .int)] s := hK
  have hP : va_P (dC, dI) vwCl [(a0, .inr (8, [.null, .null, .null, .int 0, .null, .int 0])), (q1, .inl (k1, 701, .inl (fun _ => 0)))] H := hP
  have hD : va_D A [(a0, .inr (8, [.null, .null, .null, .int 0, .null, .int 0])), (q1, .inl (k1, 701, .inl (fun _ => 0)))] := hD
  refine W.widen (k := 1) (n := 701) (Nat.le_of_ble_eq_true rfl) (Nat.le_of_ble_eq_true rfl) ?_
  refine va_putF (D := (dC, dI)) (ci := 8) (v := .ref q1) (ty := .array .int) (C := RX9) (T := TX9) (N := 6) hx hb (ly_X9 hE) (fun _ h9 => h9) tyX9 tyX9_ok nmX9 hown hK hP hD hS 0 rfl rfl 0 (by decide) (wd_186 hE) (fun _ h9 => h9) rfl hin rfl (by decide +kernel) rfl rfl (Nat.le_of_ble_eq_true rfl) dX9_init_10 (fun H locs hP hD hS => ?_)
  have hP : va_P (dC, dI) vwCl [(a0, .inr (8, [.ref q1, .null, .null, .int 0, .null, .int 0])), (q1, .inl (k1, 701, .inl (fun _ => 0)))] H := hP
  have hD : va_D A [(a0, .inr (8, [.ref q1, .null, .null, .int 0, .null, .int 0])), (q1, .inl (k1, 701, .inl (fun _ => 0)))] := hD
  refine lv_aload_n hx hb dX9_init_13 rfl (lv_at hl 0 rfl) ?_
  refine lv_sipush (v := 701) hx hb dX9_init_14 (by decide) ?_
  refine va_newa (atype := .int) (ty := .int) (N' := 701) (a0 := (701, .inl (fun _ => 0))) hx hb (wd_153 hE) rfl hK hP hD hS hA (fun _ => rfl) (by decide) (by decide) (Nat.le_of_ble_eq_true rfl) (Nat.le_of_ble_eq_true rfl) (Nat.le_of_ble_eq_true rfl) dX9_init_17 (fun q2 k2 H hK hP hD hS => ?_)
  have hK : va_K (dC, dI) vwCl [(k1, .int), (k2, .int)] s := hK
  have hP : va_P (dC, dI) vwCl [(a0, .inr (8, [.ref q1, .null, .null, .int 0, .null, .int 0])), (q1, .inl (k1, 701, .inl (fun _ => 0))), (q2, .inl (k2, 701, .inl (fun _ => 0)))] H := hP
  have hD : va_D A [(a0, .inr (8, [.ref q1, .null, .null, .int 0, .null, .int 0])), (q1, .inl (k1, 701, .inl (fun _ => 0))), (q2, .inl (k2, 701, .inl (fun _ => 0)))] := hD
  refine W.widen (k := 2) (n := 1402) (Nat.le_of_ble_eq_true rfl) (Nat.le_of_ble_eq_true rfl) ?_
  refine va_putF (D := (dC, dI)) (ci := 8) (v := .ref q2) (ty := .array .int) (C := RX9) (T := TX9) (N := 6) hx hb (ly_X9 hE) (fun _ h9 => h9) tyX9 tyX9_ok nmX9 hown hK hP hD hS 0 rfl rfl 1 (by decide) (wd_187 hE) (fun _ h9 => h9) rfl hin rfl (by decide +kernel) rfl rfl (Nat.le_of_ble_eq_true rfl) dX9_init_19 (fun H locs hP hD hS => ?_)
  have hP : va_P (dC, dI) vwCl [(a0, .inr (8, [.ref q1, .ref q2, .null, .int 0, .null, .int 0])), (q1, .inl (k1, 701, .inl (fun _ => 0))), (q2, .inl (k2, 701, .inl (fun _ => 0)))] H := hP
  have hD : va_D A [(a0, .inr (8, [.ref q1, .ref q2, .null, .int 0, .null, .int 0])), (q1, .inl (k1, 701, .inl (fun _ => 0))), (q2, .inl (k2, 701, .inl (fun _ => 0)))] := hD
  refine lv_aload_n hx hb dX9_init_22 rfl (lv_at hl 0 rfl) ?_
  refine lv_sipush (v := 701) hx hb dX9_init_23 (by decide) ?_
  refine va_newa (atype := .int) (ty := .int) (N' := 701) (a0 := (701, .inl (fun _ => 0))) hx hb (wd_153 hE) rfl hK hP hD hS hA (fun _ => rfl) (by decide) (by decide) (Nat.le_of_ble_eq_true rfl) (Nat.le_of_ble_eq_true rfl) (Nat.le_of_ble_eq_true rfl) dX9_init_26 (fun q3 k3 H hK hP hD hS => ?_)
  have hK : va_K (dC, dI) vwCl [(k1, .int), (k2, .int), (k3, .int)] s := hK
  have hP : va_P (dC, dI) vwCl [(a0, .inr (8, [.ref q1, .ref q2, .null, .int 0, .null, .int 0])), (q1, .inl (k1, 701, .inl (fun _ => 0))), (q2, .inl (k2, 701, .inl (fun _ => 0))), (q3, .inl (k3, 701, .inl (fun _ => 0)))] H := hP
  have hD : va_D A [(a0, .inr (8, [.ref q1, .ref q2, .null, .int 0, .null, .int 0])), (q1, .inl (k1, 701, .inl (fun _ => 0))), (q2, .inl (k2, 701, .inl (fun _ => 0))), (q3, .inl (k3, 701, .inl (fun _ => 0)))] := hD
  refine W.widen (k := 3) (n := 2103) (Nat.le_of_ble_eq_true rfl) (Nat.le_of_ble_eq_true rfl) ?_
  refine va_putF (D := (dC, dI)) (ci := 8) (v := .ref q3) (ty := .array .int) (C := RX9) (T := TX9) (N := 6) hx hb (ly_X9 hE) (fun _ h9 => h9) tyX9 tyX9_ok nmX9 hown hK hP hD hS 0 rfl rfl 2 (by decide) (wd_188 hE) (fun _ h9 => h9) rfl hin rfl (by decide +kernel) rfl rfl (Nat.le_of_ble_eq_true rfl) dX9_init_28 (fun H locs hP hD hS => ?_)
  have hP : va_P (dC, dI) vwCl [(a0, .inr (8, [.ref q1, .ref q2, .ref q3, .int 0, .null, .int 0])), (q1, .inl (k1, 701, .inl (fun _ => 0))), (q2, .inl (k2, 701, .inl (fun _ => 0))), (q3, .inl (k3, 701, .inl (fun _ => 0)))] H := hP
  have hD : va_D A [(a0, .inr (8, [.ref q1, .ref q2, .ref q3, .int 0, .null, .int 0])), (q1, .inl (k1, 701, .inl (fun _ => 0))), (q2, .inl (k2, 701, .inl (fun _ => 0))), (q3, .inl (k3, 701, .inl (fun _ => 0)))] := hD
  refine lv_aload_n hx hb dX9_init_31 rfl (lv_at hl 0 rfl) ?_
  refine lv_iconst (v := 0) hx hb dX9_init_32 (by decide) ?_
  refine va_put (D := (dC, dI)) (ci := 8) (v := .int 0) (ty := .int) (C := RX9) (T := TX9) (N := 6) hx hb (ly_X9 hE) (fun _ h9 => h9) tyX9 tyX9_ok nmX9 hown hK hP hD hS 0 rfl rfl 3 (by decide) (wd_189 hE) (fun _ h9 => h9) rfl (by decide +kernel) rfl rfl (Nat.le_of_ble_eq_true rfl) dX9_init_33 (fun H locs hP hD hS => ?_)
  have hP : va_P (dC, dI) vwCl [(a0, .inr (8, [.ref q1, .ref q2, .ref q3, .int 0, .null, .int 0])), (q1, .inl (k1, 701, .inl (fun _ => 0))), (q2, .inl (k2, 701, .inl (fun _ => 0))), (q3, .inl (k3, 701, .inl (fun _ => 0)))] H := hP
  have hD : va_D A [(a0, .inr (8, [.ref q1, .ref q2, .ref q3, .int 0, .null, .int 0])), (q1, .inl (k1, 701, .inl (fun _ => 0))), (q2, .inl (k2, 701, .inl (fun _ => 0))), (q3, .inl (k3, 701, .inl (fun _ => 0)))] := hD
  refine lv_aload_n hx hb dX9_init_36 rfl (lv_at hl 0 rfl) ?_
  refine lv_iconst (v := 0) hx hb dX9_init_37 (by decide) ?_
  refine va_newa (atype := .byte) (ty := .byte) (N' := 0) (a0 := (0, .inl (fun _ => 0))) hx hb (wd_205 hE) rfl hK hP hD hS hA (fun _ => rfl) (by decide) (by decide) (Nat.le_of_ble_eq_true rfl) (Nat.le_of_ble_eq_true rfl) (Nat.le_of_ble_eq_true rfl) dX9_init_38 (fun q4 k4 H hK hP hD hS => ?_)
  have hK : va_K (dC, dI) vwCl [(k1, .int), (k2, .int), (k3, .int), (k4, .byte)] s := hK
  have hP : va_P (dC, dI) vwCl [(a0, .inr (8, [.ref q1, .ref q2, .ref q3, .int 0, .null, .int 0])), (q1, .inl (k1, 701, .inl (fun _ => 0))), (q2, .inl (k2, 701, .inl (fun _ => 0))), (q3, .inl (k3, 701, .inl (fun _ => 0))), (q4, .inl (k4, 0, .inl (fun _ => 0)))] H := hP
  have hD : va_D A [(a0, .inr (8, [.ref q1, .ref q2, .ref q3, .int 0, .null, .int 0])), (q1, .inl (k1, 701, .inl (fun _ => 0))), (q2, .inl (k2, 701, .inl (fun _ => 0))), (q3, .inl (k3, 701, .inl (fun _ => 0))), (q4, .inl (k4, 0, .inl (fun _ => 0)))] := hD
  refine W.widen (k := 4) (n := 2103) (Nat.le_of_ble_eq_true rfl) (Nat.le_of_ble_eq_true rfl) ?_
  refine va_put (D := (dC, dI)) (ci := 8) (v := .ref q4) (ty := .array .byte) (C := RX9) (T := TX9) (N := 6) hx hb (ly_X9 hE) (fun _ h9 => h9) tyX9 tyX9_ok nmX9 hown hK hP hD hS 0 rfl rfl 4 (by decide) (wd_190 hE) (fun _ h9 => h9) rfl (by decide +kernel) rfl rfl (Nat.le_of_ble_eq_true rfl) dX9_init_40 (fun H locs hP hD hS => ?_)
  have hP : va_P (dC, dI) vwCl [(a0, .inr (8, [.ref q1, .ref q2, .ref q3, .int 0, .ref q4, .int 0])), (q1, .inl (k1, 701, .inl (fun _ => 0))), (q2, .inl (k2, 701, .inl (fun _ => 0))), (q3, .inl (k3, 701, .inl (fun _ => 0))), (q4, .inl (k4, 0, .inl (fun _ => 0)))] H := hP
  have hD : va_D A [(a0, .inr (8, [.ref q1, .ref q2, .ref q3, .int 0, .ref q4, .int 0])), (q1, .inl (k1, 701, .inl (fun _ => 0))), (q2, .inl (k2, 701, .inl (fun _ => 0))), (q3, .inl (k3, 701, .inl (fun _ => 0))), (q4, .inl (k4, 0, .inl (fun _ => 0)))] := hD
  refine lv_aload_n hx hb dX9_init_43 rfl (lv_at hl 0 rfl) ?_
  refine lv_iconst (v := 0) hx hb dX9_init_44 (by decide) ?_
  refine va_put (D := (dC, dI)) (ci := 8) (v := .int 0) (ty := .int) (C := RX9) (T := TX9) (N := 6) hx hb (ly_X9 hE) (fun _ h9 => h9) tyX9 tyX9_ok nmX9 hown hK hP hD hS 0 rfl rfl 5 (by decide) (wd_191 hE) (fun _ h9 => h9) rfl (by decide +kernel) rfl rfl (Nat.le_of_ble_eq_true rfl) dX9_init_45 (fun H locs hP hD hS => ?_)
  have hP : va_P (dC, dI) vwCl [(a0, .inr (8, [.ref q1, .ref q2, .ref q3, .int 0, .ref q4, .int 0])), (q1, .inl (k1, 701, .inl (fun _ => 0))), (q2, .inl (k2, 701, .inl (fun _ => 0))), (q3, .inl (k3, 701, .inl (fun _ => 0))), (q4, .inl (k4, 0, .inl (fun _ => 0)))] H := hP
  have hD : va_D A [(a0, .inr (8, [.ref q1, .ref q2, .ref q3, .int 0, .ref q4, .int 0])), (q1, .inl (k1, 701, .inl (fun _ => 0))), (q2, .inl (k2, 701, .inl (fun _ => 0))), (q3, .inl (k3, 701, .inl (fun _ => 0))), (q4, .inl (k4, 0, .inl (fun _ => 0)))] := hD
  have hP9 := hP.sub (ws' := [(a0, .inr (8, [.ref q1, .ref q2, .ref q3, .int 0, .ref q4, .int 0]))]) [0] rfl
  have hD9 := hD.sub (ws' := [(a0, .inr (8, [.ref q1, .ref q2, .ref q3, .int 0, .ref q4, .int 0]))]) [0] (by decide) rfl
  have hK9 := hK.sub (tys' := []) [] rfl
  refine W.widen (k := 4) (n := 2103) (Nat.le_of_ble_eq_true rfl) (Nat.le_of_ble_eq_true rfl) ?_
  exact W.vret hx hb hr (fun t ht hW => ⟨⟨(fun i => [q1, q2, q3, q4].getD i 0, fun i => [].getD i 0), rfl, trivial, by rw [ht]; exact hP9, va_K.moved hW.alike hK9, hD9⟩, hS.F ht⟩) hS.2.2 dX9_init_48

set_option maxHeartbeats 4000000 in
set_option maxRecDepth 100000 in
theorem c_X8_init (l : Launch) (dC : Nat → ClassId) (dI : Nat → Nat → Nat) (sz : Nat)  (a0 : Nat)  : Met l yX8_init [.code yX8_init cX8_init 1 none] ({ frames := 1, cells := 1, slots := 178, locals := 40 }) (PcE [.ref a0] sz dC dI [] [(a0, .inr (7, [.null, .int 0]))]) (va_Qv (fun (u : (Nat → Nat) × (Nat → ClassId)) => True) (Bw dC dI (va_A [(a0, .inr (7, [.null, .int 0]))] sz) (fun (u : (Nat → Nat) × (Nat → ClassId)) => []) (fun (u : (Nat → Nat) × (Nat → ClassId)) => [(a0, .inr (7, [.ref (u.1 0), .int 0]))])) (va_A [(a0, .inr (7, [.null, .int 0]))] sz)) 1 178 (va_A [(a0, .inr (7, [.null, .int 0]))] sz) := by
  refine Met.ofW (cc := cX8_init) (maxL := 1) (ret := none) (by decide) rfl ?_
  intro p e s m args below meth c s₁ B hml hv
  obtain ⟨rfl, hsz, hP, hK, hD0, hE⟩ := hv
  have hx := B.exec
  have hb := B.bytes
  have hr := B.returns
  have hown : s.vm.findClass RX8 = some m.cls := findClass_of_methodNamed B.named
  have hlocks := B.notSynchronized
  have hin : meth.name = "<init>" := (name_of_methodNamed B.named B.method).1
  subst hsz
  have hD := hD0.self (sz := s.heap.size)
  generalize hAe : va_A [(a0, .inr (7, [.null, .int 0]))] s.heap.size = A at hD ⊢
  have hA : ∀ q : Nat, s.heap.size ≤ q → A q := fun q h => by rw [← hAe]; exact Or.inr h
  have hS : va_S A s.heap s.heap [] := va_S.rf
  have hl := lv_entry ([.ref a0]) (n := 1) (Nat.le_of_ble_eq_true rfl)
  rw [lg_entry_eq]
  generalize (lg_sl ([.ref a0]) ++ List.replicate (1 - (lg_sl ([.ref a0])).length) Slot.unset).toArray = ls at hl ⊢
  have hl : lv_has ls 1 [(0, .ref a0)] := hl
  refine lv_aload_n hx hb dX8_init_0 rfl (lv_at hl 0 rfl) ?_
  refine W.objInit hx hb hown (wd_263 hE) (wd_141 hE) (wd_142 hE) rfl (by rw [hml]; exact hl.1) rfl dX8_init_1 (Nat.le_of_ble_eq_true rfl) (Nat.le_of_ble_eq_true rfl) ?_
  refine W.eq (g2 := F0 m 4 ls []) rfl ?_
  refine lv_aload_n hx hb dX8_init_4 rfl (lv_at hl 0 rfl) ?_
  refine lv_sipush (v := 178) hx hb dX8_init_5 (by decide) ?_
  refine va_newa (atype := .byte) (ty := .byte) (N' := 178) (a0 := (178, .inl (fun _ => 0))) hx hb (wd_205 hE) rfl hK hP hD hS hA (fun _ => rfl) (by decide) (by decide) (Nat.le_of_ble_eq_true rfl) (Nat.le_of_ble_eq_true rfl) (Nat.le_of_ble_eq_true rfl) dX8_init_8 (fun q1 k1 H hK hP hD hS => ?_)
  have hK : va_K (dC, dI) vwCl [(k1, .byte)] s := hK
  have hP : va_P (dC, dI) vwCl [(a0, .inr (7, [.null, .int 0])), (q1, .inl (k1, 178, .inl (fun _ => 0)))] H := hP
  have hD : va_D A [(a0, .inr (7, [.null, .int 0])), (q1, .inl (k1, 178, .inl (fun _ => 0)))] := hD
  refine W.widen (k := 1) (n := 178) (Nat.le_of_ble_eq_true rfl) (Nat.le_of_ble_eq_true rfl) ?_
  refine va_putF (D := (dC, dI)) (ci := 7) (v := .ref q1) (ty := .array .byte) (C := RX8) (T := TX8) (N := 2) hx hb (ly_X8 hE) (fun _ h9 => h9) tyX8 tyX8_ok nmX8 hown hK hP hD hS 0 rfl rfl 0 (by decide) (wd_264 hE) (fun _ h9 => h9) rfl hin rfl (by decide +kernel) rfl rfl (Nat.le_of_ble_eq_true rfl) dX8_init_10 (fun H locs hP hD hS => ?_)
  have hP : va_P (dC, dI) vwCl [(a0, .inr (7, [.ref q1, .int 0])), (q1, .inl (k1, 178, .inl (fun _ => 0)))] H := hP
  have hD : va_D A [(a0, .inr (7, [.ref q1, .int 0])), (q1, .inl (k1, 178, .inl (fun _ => 0)))] := hD
  refine lv_aload_n hx hb dX8_init_13 rfl (lv_at hl 0 rfl) ?_
  refine lv_iconst (v := 0) hx hb dX8_init_14 (by decide) ?_
  refine va_put (D := (dC, dI)) (ci := 7) (v := .int 0) (ty := .int) (C := RX8) (T := TX8) (N := 2) hx hb (ly_X8 hE) (fun _ h9 => h9) tyX8 tyX8_ok nmX8 hown hK hP hD hS 0 rfl rfl 1 (by decide) (wd_265 hE) (fun _ h9 => h9) rfl (by decide +kernel) rfl rfl (Nat.le_of_ble_eq_true rfl) dX8_init_15 (fun H locs hP hD hS => ?_)
  have hP : va_P (dC, dI) vwCl [(a0, .inr (7, [.ref q1, .int 0])), (q1, .inl (k1, 178, .inl (fun _ => 0)))] H := hP
  have hD : va_D A [(a0, .inr (7, [.ref q1, .int 0])), (q1, .inl (k1, 178, .inl (fun _ => 0)))] := hD
  have hP9 := hP.sub (ws' := [(a0, .inr (7, [.ref q1, .int 0]))]) [0] rfl
  have hD9 := hD.sub (ws' := [(a0, .inr (7, [.ref q1, .int 0]))]) [0] (by decide) rfl
  have hK9 := hK.sub (tys' := []) [] rfl
  refine W.widen (k := 1) (n := 178) (Nat.le_of_ble_eq_true rfl) (Nat.le_of_ble_eq_true rfl) ?_
  exact W.vret hx hb hr (fun t ht hW => ⟨⟨(fun i => [q1].getD i 0, fun i => [].getD i 0), rfl, trivial, by rw [ht]; exact hP9, va_K.moved hW.alike hK9, hD9⟩, hS.F ht⟩) hS.2.2 dX8_init_18

set_option maxHeartbeats 4000000 in
set_option maxRecDepth 100000 in
theorem c_X0_init (l : Launch) (dC : Nat → ClassId) (dI : Nat → Nat → Nat) (sz : Nat)  (a0 : Nat)  : Met l yX0_init [.code yX0_init cX0_init 1 none] ({ frames := 2, cells := 6, slots := 221, locals := 80 }) (PcE [.ref a0] sz dC dI [] [(a0, .inr (0, [.null, .null, .null, .null, .null]))]) (va_Qv (fun (u : (Nat → Nat) × (Nat → ClassId)) => True) (Bw dC dI (va_A [(a0, .inr (0, [.null, .null, .null, .null, .null]))] sz) (fun (u : (Nat → Nat) × (Nat → ClassId)) => []) (fun (u : (Nat → Nat) × (Nat → ClassId)) => [(a0, .inr (0, [.ref (u.1 0), .ref (u.1 1), .ref (u.1 2), .ref (u.1 3), .ref (u.1 3)]))])) (va_A [(a0, .inr (0, [.null, .null, .null, .null, .null]))] sz)) 6 221 (va_A [(a0, .inr (0, [.null, .null, .null, .null, .null]))] sz) := by
  refine Met.ofW (cc := cX0_init) (maxL := 1) (ret := none) (by decide) rfl ?_
  intro p e s m args below meth c s₁ B hml hv
  obtain ⟨rfl, hsz, hP, hK, hD0, hE⟩ := hv
  have hx := B.exec
  have hb := B.bytes
  have hr := B.returns
  have hown : s.vm.findClass RX0 = some m.cls := findClass_of_methodNamed B.named
  have hlocks := B.notSynchronized
  have hin : meth.name = "<init>" := (name_of_methodNamed B.named B.method).1
  subst hsz
  have hD := hD0.self (sz := s.heap.size)
  generalize hAe : va_A [(a0, .inr (0, [.null, .null, .null, .null, .null]))] s.heap.size = A at hD ⊢
  have hA : ∀ q : Nat, s.heap.size ≤ q → A q := fun q h => by rw [← hAe]; exact Or.inr h
  have hS : va_S A s.heap s.heap [] := va_S.rf
  have hl := lv_entry ([.ref a0]) (n := 1) (Nat.le_of_ble_eq_true rfl)
  rw [lg_entry_eq]
  generalize (lg_sl ([.ref a0]) ++ List.replicate (1 - (lg_sl ([.ref a0])).length) Slot.unset).toArray = ls at hl ⊢
  have hl : lv_has ls 1 [(0, .ref a0)] := hl
  refine lv_aload_n hx hb dX0_init_0 rfl (lv_at hl 0 rfl) ?_
  refine W.objInit hx hb hown (wd_286 hE) (wd_141 hE) (wd_142 hE) rfl (by rw [hml]; exact hl.1) rfl dX0_init_1 (Nat.le_of_ble_eq_true rfl) (Nat.le_of_ble_eq_true rfl) ?_
  refine W.eq (g2 := F0 m 4 ls []) rfl ?_
  refine lv_aload_n hx hb dX0_init_4 rfl (lv_at hl 0 rfl) ?_
  refine lv_bipush (v := 24) hx hb dX0_init_5 (by decide) ?_
  refine va_newa (atype := .int) (ty := .int) (N' := 24) (a0 := (24, .inl (fun _ => 0))) hx hb (wd_153 hE) rfl hK hP hD hS hA (fun _ => rfl) (by decide) (by decide) (Nat.le_of_ble_eq_true rfl) (Nat.le_of_ble_eq_true rfl) (Nat.le_of_ble_eq_true rfl) dX0_init_7 (fun q1 k1 H hK hP hD hS => ?_)
  have hK : va_K (dC, dI) vwCl [(k1, .int)] s := hK
  have hP : va_P (dC, dI) vwCl [(a0, .inr (0, [.null, .null, .null, .null, .null])), (q1, .inl (k1, 24, .inl (fun _ => 0)))] H := hP
  have hD : va_D A [(a0, .inr (0, [.null, .null, .null, .null, .null])), (q1, .inl (k1, 24, .inl (fun _ => 0)))] := hD
  refine W.widen (k := 1) (n := 24) (Nat.le_of_ble_eq_true rfl) (Nat.le_of_ble_eq_true rfl) ?_
  refine va_putF (D := (dC, dI)) (ci := 0) (v := .ref q1) (ty := .array .int) (C := RX0) (T := TX0) (N := 5) hx hb (ly_X0 hE) (fun _ h9 => h9) tyX0 tyX0_ok nmX0 hown hK hP hD hS 0 rfl rfl 0 (by decide) (wd_289 hE) (fun _ h9 => h9) rfl hin rfl (by decide +kernel) rfl rfl (Nat.le_of_ble_eq_true rfl) dX0_init_9 (fun H locs hP hD hS => ?_)
  have hP : va_P (dC, dI) vwCl [(a0, .inr (0, [.ref q1, .null, .null, .null, .null])), (q1, .inl (k1, 24, .inl (fun _ => 0)))] H := hP
  have hD : va_D A [(a0, .inr (0, [.ref q1, .null, .null, .null, .null])), (q1, .inl (k1, 24, .inl (fun _ => 0)))] := hD
  refine lv_aload_n hx hb dX0_init_12 rfl (lv_at hl 0 rfl) ?_
  refine lv_bipush (v := 24) hx hb dX0_init_13 (by decide) ?_
  refine va_newa (atype := .int) (ty := .int) (N' := 24) (a0 := (24, .inl (fun _ => 0))) hx hb (wd_153 hE) rfl hK hP hD hS hA (fun _ => rfl) (by decide) (by decide) (Nat.le_of_ble_eq_true rfl) (Nat.le_of_ble_eq_true rfl) (Nat.le_of_ble_eq_true rfl) dX0_init_15 (fun q2 k2 H hK hP hD hS => ?_)
  have hK : va_K (dC, dI) vwCl [(k1, .int), (k2, .int)] s := hK
  have hP : va_P (dC, dI) vwCl [(a0, .inr (0, [.ref q1, .null, .null, .null, .null])), (q1, .inl (k1, 24, .inl (fun _ => 0))), (q2, .inl (k2, 24, .inl (fun _ => 0)))] H := hP
  have hD : va_D A [(a0, .inr (0, [.ref q1, .null, .null, .null, .null])), (q1, .inl (k1, 24, .inl (fun _ => 0))), (q2, .inl (k2, 24, .inl (fun _ => 0)))] := hD
  refine W.widen (k := 2) (n := 48) (Nat.le_of_ble_eq_true rfl) (Nat.le_of_ble_eq_true rfl) ?_
  refine va_putF (D := (dC, dI)) (ci := 0) (v := .ref q2) (ty := .array .int) (C := RX0) (T := TX0) (N := 5) hx hb (ly_X0 hE) (fun _ h9 => h9) tyX0 tyX0_ok nmX0 hown hK hP hD hS 0 rfl rfl 1 (by decide) (wd_290 hE) (fun _ h9 => h9) rfl hin rfl (by decide +kernel) rfl rfl (Nat.le_of_ble_eq_true rfl) dX0_init_17 (fun H locs hP hD hS => ?_)
  have hP : va_P (dC, dI) vwCl [(a0, .inr (0, [.ref q1, .ref q2, .null, .null, .null])), (q1, .inl (k1, 24, .inl (fun _ => 0))), (q2, .inl (k2, 24, .inl (fun _ => 0)))] H := hP
  have hD : va_D A [(a0, .inr (0, [.ref q1, .ref q2, .null, .null, .null])), (q1, .inl (k1, 24, .inl (fun _ => 0))), (q2, .inl (k2, 24, .inl (fun _ => 0)))] := hD
  refine lv_aload_n hx hb dX0_init_20 rfl (lv_at hl 0 rfl) ?_
  refine lv_bipush (v := 24) hx hb dX0_init_21 (by decide) ?_
  refine va_newa (atype := .int) (ty := .int) (N' := 24) (a0 := (24, .inl (fun _ => 0))) hx hb (wd_153 hE) rfl hK hP hD hS hA (fun _ => rfl) (by decide) (by decide) (Nat.le_of_ble_eq_true rfl) (Nat.le_of_ble_eq_true rfl) (Nat.le_of_ble_eq_true rfl) dX0_init_23 (fun q3 k3 H hK hP hD hS => ?_)
  have hK : va_K (dC, dI) vwCl [(k1, .int), (k2, .int), (k3, .int)] s := hK
  have hP : va_P (dC, dI) vwCl [(a0, .inr (0, [.ref q1, .ref q2, .null, .null, .null])), (q1, .inl (k1, 24, .inl (fun _ => 0))), (q2, .inl (k2, 24, .inl (fun _ => 0))), (q3, .inl (k3, 24, .inl (fun _ => 0)))] H := hP
  have hD : va_D A [(a0, .inr (0, [.ref q1, .ref q2, .null, .null, .null])), (q1, .inl (k1, 24, .inl (fun _ => 0))), (q2, .inl (k2, 24, .inl (fun _ => 0))), (q3, .inl (k3, 24, .inl (fun _ => 0)))] := hD
  refine W.widen (k := 3) (n := 72) (Nat.le_of_ble_eq_true rfl) (Nat.le_of_ble_eq_true rfl) ?_
  refine va_putF (D := (dC, dI)) (ci := 0) (v := .ref q3) (ty := .array .int) (C := RX0) (T := TX0) (N := 5) hx hb (ly_X0 hE) (fun _ h9 => h9) tyX0 tyX0_ok nmX0 hown hK hP hD hS 0 rfl rfl 2 (by decide) (wd_291 hE) (fun _ h9 => h9) rfl hin rfl (by decide +kernel) rfl rfl (Nat.le_of_ble_eq_true rfl) dX0_init_25 (fun H locs hP hD hS => ?_)
  have hP : va_P (dC, dI) vwCl [(a0, .inr (0, [.ref q1, .ref q2, .ref q3, .null, .null])), (q1, .inl (k1, 24, .inl (fun _ => 0))), (q2, .inl (k2, 24, .inl (fun _ => 0))), (q3, .inl (k3, 24, .inl (fun _ => 0)))] H := hP
  have hD : va_D A [(a0, .inr (0, [.ref q1, .ref q2, .ref q3, .null, .null])), (q1, .inl (k1, 24, .inl (fun _ => 0))), (q2, .inl (k2, 24, .inl (fun _ => 0))), (q3, .inl (k3, 24, .inl (fun _ => 0)))] := hD
  refine lv_aload_n hx hb dX0_init_28 rfl (lv_at hl 0 rfl) ?_
  refine va_new (ci := 9) (fs := [.null, .null, .int 0, .int 0]) (C := RX10) (T := TX10) (N := 4) hx hb (ly_X10 hE) (fun _ h9 => h9) tyX10 tyX10_ok hown (wd_287 hE) (wd_209 hE) (wd_120 hE) hK hP hD hS hA rfl (by decide +kernel) (Nat.le_of_ble_eq_true rfl) (Nat.le_of_ble_eq_true rfl) dX0_init_29 (fun q4 H hP hD hS => ?_)
  have hP : va_P (dC, dI) vwCl [(a0, .inr (0, [.ref q1, .ref q2, .ref q3, .null, .null])), (q1, .inl (k1, 24, .inl (fun _ => 0))), (q2, .inl (k2, 24, .inl (fun _ => 0))), (q3, .inl (k3, 24, .inl (fun _ => 0))), (q4, .inr (9, [.null, .null, .int 0, .int 0]))] H := hP
  have hD : va_D A [(a0, .inr (0, [.ref q1, .ref q2, .ref q3, .null, .null])), (q1, .inl (k1, 24, .inl (fun _ => 0))), (q2, .inl (k2, 24, .inl (fun _ => 0))), (q3, .inl (k3, 24, .inl (fun _ => 0))), (q4, .inr (9, [.null, .null, .int 0, .int 0]))] := hD
  refine W.widen (k := 4) (n := 76) (Nat.le_of_ble_eq_true rfl) (Nat.le_of_ble_eq_true rfl) ?_
  refine lv_dup hx hb dX0_init_32 rfl ?_
  refine cl_v (wc := [(q4, .inr (9, [.null, .null, .int 0, .int 0]))]) (wr := [(a0, .inr (0, [.ref q1, .ref q2, .ref q3, .null, .null])), (q1, .inl (k1, 24, .inl (fun _ => 0))), (q2, .inl (k2, 24, .inl (fun _ => 0))), (q3, .inl (k3, 24, .inl (fun _ => 0)))]) [4] [0, 1, 2, 3] rfl rfl (by decide) (by decide) hK hP hD hS hA (va_runIN (As := []) (rest := [.ref q4, .ref a0]) ⟨hx, hb, hml, hown, noTs⟩ (c_X10_init l dC dI H.size q4) ⟨cnE 0 (wd_212 hE) (wd_120 hE) (wd_288 hE) rfl rfl (by decide +kernel) ⟨Nat.le_of_ble_eq_true rfl, Nat.le_of_ble_eq_true rfl⟩, rfl, (wd_211 hE)⟩ ⟨PcE.blind, (pre_E (av := [.ref q4]) (wc := [(q4, .inr (9, [.null, .null, .int 0, .int 0]))]) (tysc := []) [4] [] rfl (by decide) rfl rfl hK hP hD hE)⟩ rfl rfl hl.1 rfl (lv_room (Nat.le_of_ble_eq_true rfl)) dX0_init_33 ⟨Nat.le_of_ble_eq_true rfl, Nat.le_of_ble_eq_true rfl⟩) (fun u5 H locs hw5 hK hP hD hS => ?_)
  have hK : va_K (dC, dI) vwCl [(k1, .int), (k2, .int), (k3, .int)] s := hK
  have hP : va_P (dC, dI) vwCl [(a0, .inr (0, [.ref q1, .ref q2, .ref q3, .null, .null])), (q1, .inl (k1, 24, .inl (fun _ => 0))), (q2, .inl (k2, 24, .inl (fun _ => 0))), (q3, .inl (k3, 24, .inl (fun _ => 0))), (q4, .inr (9, [.ref (u5.1 0), .ref (u5.1 1), .int 0, .int 0]))] H := hP
  have hD : va_D A [(a0, .inr (0, [.ref q1, .ref q2, .ref q3, .null, .null])), (q1, .inl (k1, 24, .inl (fun _ => 0))), (q2, .inl (k2, 24, .inl (fun _ => 0))), (q3, .inl (k3, 24, .inl (fun _ => 0))), (q4, .inr (9, [.ref (u5.1 0), .ref (u5.1 1), .int 0, .int 0]))] := hD
  refine W.widen (k := 6) (n := 221) (Nat.le_of_ble_eq_true rfl) (Nat.le_of_ble_eq_true rfl) ?_
  refine va_putF (D := (dC, dI)) (ci := 0) (v := .ref q4) (ty := .object "GluedWords$Walk") (C := RX0) (T := TX0) (N := 5) hx hb (ly_X0 hE) (fun _ h9 => h9) tyX0 tyX0_ok nmX0 hown hK hP hD hS 0 rfl rfl 3 (by decide) (wd_292 hE) (fun _ h9 => h9) rfl hin rfl (by decide +kernel) rfl rfl (Nat.le_of_ble_eq_true rfl) dX0_init_36 (fun H locs hP hD hS => ?_)
  have hP : va_P (dC, dI) vwCl [(a0, .inr (0, [.ref q1, .ref q2, .ref q3, .ref q4, .null])), (q1, .inl (k1, 24, .inl (fun _ => 0))), (q2, .inl (k2, 24, .inl (fun _ => 0))), (q3, .inl (k3, 24, .inl (fun _ => 0))), (q4, .inr (9, [.ref (u5.1 0), .ref (u5.1 1), .int 0, .int 0]))] H := hP
  have hD : va_D A [(a0, .inr (0, [.ref q1, .ref q2, .ref q3, .ref q4, .null])), (q1, .inl (k1, 24, .inl (fun _ => 0))), (q2, .inl (k2, 24, .inl (fun _ => 0))), (q3, .inl (k3, 24, .inl (fun _ => 0))), (q4, .inr (9, [.ref (u5.1 0), .ref (u5.1 1), .int 0, .int 0]))] := hD
  refine lv_aload_n hx hb dX0_init_39 rfl (lv_at hl 0 rfl) ?_
  refine lv_aload_n hx hb dX0_init_40 rfl (lv_at hl 0 rfl) ?_
  refine va_get (D := (dC, dI)) (ci := 0) (v := .ref q4) (C := RX0) (T := TX0) (N := 5) hx hb (ly_X0 hE) (fun _ h9 => h9) hown hK hP 0 rfl rfl 3 (by decide) (wd_292 hE) (fun _ h9 => h9) rfl dX0_init_41 ?_
  refine va_put (D := (dC, dI)) (ci := 0) (v := .ref q4) (ty := .object "GluedWords$Walk") (C := RX0) (T := TX0) (N := 5) hx hb (ly_X0 hE) (fun _ h9 => h9) tyX0 tyX0_ok nmX0 hown hK hP hD hS 0 rfl rfl 4 (by decide) (wd_293 hE) (fun _ h9 => h9) rfl (by decide +kernel) rfl rfl (Nat.le_of_ble_eq_true rfl) dX0_init_44 (fun H locs hP hD hS => ?_)
  have hP : va_P (dC, dI) vwCl [(a0, .inr (0, [.ref q1, .ref q2, .ref q3, .ref q4, .ref q4])), (q1, .inl (k1, 24, .inl (fun _ => 0))), (q2, .inl (k2, 24, .inl (fun _ => 0))), (q3, .inl (k3, 24, .inl (fun _ => 0))), (q4, .inr (9, [.ref (u5.1 0), .ref (u5.1 1), .int 0, .int 0]))] H := hP
  have hD : va_D A [(a0, .inr (0, [.ref q1, .ref q2, .ref q3, .ref q4, .ref q4])), (q1, .inl (k1, 24, .inl (fun _ => 0))), (q2, .inl (k2, 24, .inl (fun _ => 0))), (q3, .inl (k3, 24, .inl (fun _ => 0))), (q4, .inr (9, [.ref (u5.1 0), .ref (u5.1 1), .int 0, .int 0]))] := hD
  have hP9 := hP.sub (ws' := [(a0, .inr (0, [.ref q1, .ref q2, .ref q3, .ref q4, .ref q4]))]) [0] rfl
  have hD9 := hD.sub (ws' := [(a0, .inr (0, [.ref q1, .ref q2, .ref q3, .ref q4, .ref q4]))]) [0] (by decide) rfl
  have hK9 := hK.sub (tys' := []) [] rfl
  refine W.widen (k := 6) (n := 221) (Nat.le_of_ble_eq_true rfl) (Nat.le_of_ble_eq_true rfl) ?_
  exact W.vret hx hb hr (fun t ht hW => ⟨⟨(fun i => [q1, q2, q3, q4].getD i 0, fun i => [].getD i 0), rfl, trivial, by rw [ht]; exact hP9, va_K.moved hW.alike hK9, hD9⟩, hS.F ht⟩) hS.2.2 dX0_init_47

set_option maxHeartbeats 4000000 in
set_option maxRecDepth 100000 in
theorem c_X4_init (l : Launch) (dC : Nat → ClassId) (dI : Nat → Nat → Nat) (sz : Nat)  (a0 : Nat)  : Met l yX4_init [.code yX4_init cX4_init 1 none] ({ frames := 3, cells := 20, slots := 828, locals := 120 }) (PcE [.ref a0] sz dC dI [] [(a0, .inr (3, [.null, .null, .null, .null, .null, .null, .int 0, .int 0]))]) (va_Qv (fun (u : (Nat → Nat) × (Nat → ClassId)) => True) (Bw dC dI (va_A [(a0, .inr (3, [.null, .null, .null, .null, .null, .null, .int 0, .int 0]))] sz) (fun (u : (Nat → Nat) × (Nat → ClassId)) => []) (fun (u : (Nat → Nat) × (Nat → ClassId)) => [(a0, .inr (3, [.ref (u.1 0), .ref (u.1 1), .ref (u.1 2), .ref (u.1 3), .ref (u.1 4), .ref (u.1 5), .int 0, .int 0]))])) (va_A [(a0, .inr (3, [.null, .null, .null, .null, .null, .null, .int 0, .int 0]))] sz)) 20 828 (va_A [(a0, .inr (3, [.null, .null, .null, .null, .null, .null, .int 0, .int 0]))] sz) := by
  refine Met.ofW (cc := cX4_init) (maxL := 1) (ret := none) (by decide) rfl ?_
  intro p e s m args below meth c s₁ B hml hv
  obtain ⟨rfl, hsz, hP, hK, hD0, hE⟩ := hv
  have hx := B.exec
  have hb := B.bytes
  have hr := B.returns
  have hown : s.vm.findClass RX4 = some m.cls := findClass_of_methodNamed B.named
  have hlocks := B.notSynchronized
  have hin : meth.name = "<init>" := (name_of_methodNamed B.named B.method).1
  subst hsz
  have hD := hD0.self (sz := s.heap.size)
  generalize hAe : va_A [(a0, .inr (3, [.null, .null, .null, .null, .null, .null, .int 0, .int 0]))] s.heap.size = A at hD ⊢
  have hA : ∀ q : Nat, s.heap.size ≤ q → A q := fun q h => by rw [← hAe]; exact Or.inr h
  have hS : va_S A s.heap s.heap [] := va_S.rf
  have hl := lv_entry ([.ref a0]) (n := 1) (Nat.le_of_ble_eq_true rfl)
  rw [lg_entry_eq]
  generalize (lg_sl ([.ref a0]) ++ List.replicate (1 - (lg_sl ([.ref a0])).length) Slot.unset).toArray = ls at hl ⊢
  have hl : lv_has ls 1 [(0, .ref a0)] := hl
  refine lv_aload_n hx hb dX4_init_0 rfl (lv_at hl 0 rfl) ?_
  refine W.objInit hx hb hown (wd_278 hE) (wd_141 hE) (wd_142 hE) rfl (by rw [hml]; exact hl.1) rfl dX4_init_1 (Nat.le_of_ble_eq_true rfl) (Nat.le_of_ble_eq_true rfl) ?_
  refine W.eq (g2 := F0 m 4 ls []) rfl ?_
  refine lv_aload_n hx hb dX4_init_4 rfl (lv_at hl 0 rfl) ?_
  refine va_new (ci := 9) (fs := [.null, .null, .int 0, .int 0]) (C := RX10) (T := TX10) (N := 4) hx hb (ly_X10 hE) (fun _ h9 => h9) tyX10 tyX10_ok hown (wd_279 hE) (wd_209 hE) (wd_120 hE) hK hP hD hS hA rfl (by decide +kernel) (Nat.le_of_ble_eq_true rfl) (Nat.le_of_ble_eq_true rfl) dX4_init_5 (fun q1 H hP hD hS => ?_)
  have hP : va_P (dC, dI) vwCl [(a0, .inr (3, [.null, .null, .null, .null, .null, .null, .int 0, .int 0])), (q1, .inr (9, [.null, .null, .int 0, .int 0]))] H := hP
  have hD : va_D A [(a0, .inr (3, [.null, .null, .null, .null, .null, .null, .int 0, .int 0])), (q1, .inr (9, [.null, .null, .int 0, .int 0]))] := hD
  refine W.widen (k := 1) (n := 4) (Nat.le_of_ble_eq_true rfl) (Nat.le_of_ble_eq_true rfl) ?_
  refine lv_dup hx hb dX4_init_8 rfl ?_
  refine cl_v (wc := [(q1, .inr (9, [.null, .null, .int 0, .int 0]))]) (wr := [(a0, .inr (3, [.null, .null, .null, .null, .null, .null, .int 0, .int 0]))]) [1] [0] rfl rfl (by decide) (by decide) hK hP hD hS hA (va_runIN (As := []) (rest := [.ref q1, .ref a0]) ⟨hx, hb, hml, hown, noTs⟩ (c_X10_init l dC dI H.size q1) ⟨cnE 0 (wd_212 hE) (wd_120 hE) (wd_280 hE) rfl rfl (by decide +kernel) ⟨Nat.le_of_ble_eq_true rfl, Nat.le_of_ble_eq_true rfl⟩, rfl, (wd_211 hE)⟩ ⟨PcE.blind, (pre_E (av := [.ref q1]) (wc := [(q1, .inr (9, [.null, .null, .int 0, .int 0]))]) (tysc := []) [1] [] rfl (by decide) rfl rfl hK hP hD hE)⟩ rfl rfl hl.1 rfl (lv_room (Nat.le_of_ble_eq_true rfl)) dX4_init_9 ⟨Nat.le_of_ble_eq_true rfl, Nat.le_of_ble_eq_true rfl⟩) (fun u2 H locs hw2 hK hP hD hS => ?_)
  have hK : va_K (dC, dI) vwCl [] s := hK
  have hP : va_P (dC, dI) vwCl [(a0, .inr (3, [.null, .null, .null, .null, .null, .null, .int 0, .int 0])), (q1, .inr (9, [.ref (u2.1 0), .ref (u2.1 1), .int 0, .int 0]))] H := hP
  have hD : va_D A [(a0, .inr (3, [.null, .null, .null, .null, .null, .null, .int 0, .int 0])), (q1, .inr (9, [.ref (u2.1 0), .ref (u2.1 1), .int 0, .int 0]))] := hD
  refine W.widen (k := 3) (n := 149) (Nat.le_of_ble_eq_true rfl) (Nat.le_of_ble_eq_true rfl) ?_
  refine va_putF (D := (dC, dI)) (ci := 3) (v := .ref q1) (ty := .object "GluedWords$Walk") (C := RX4) (T := TX4) (N := 8) hx hb (ly_X4 hE) (fun _ h9 => h9) tyX4 tyX4_ok nmX4 hown hK hP hD hS 0 rfl rfl 0 (by decide) (wd_305 hE) (fun _ h9 => h9) rfl hin rfl (by decide +kernel) rfl rfl (Nat.le_of_ble_eq_true rfl) dX4_init_12 (fun H locs hP hD hS => ?_)
  have hP : va_P (dC, dI) vwCl [(a0, .inr (3, [.ref q1, .null, .null, .null, .null, .null, .int 0, .int 0])), (q1, .inr (9, [.ref (u2.1 0), .ref (u2.1 1), .int 0, .int 0]))] H := hP
  have hD : va_D A [(a0, .inr (3, [.ref q1, .null, .null, .null, .null, .null, .int 0, .int 0])), (q1, .inr (9, [.ref (u2.1 0), .ref (u2.1 1), .int 0, .int 0]))] := hD
  refine lv_aload_n hx hb dX4_init_15 rfl (lv_at hl 0 rfl) ?_
  refine va_new (ci := 9) (fs := [.null, .null, .int 0, .int 0]) (C := RX10) (T := TX10) (N := 4) hx hb (ly_X10 hE) (fun _ h9 => h9) tyX10 tyX10_ok hown (wd_279 hE) (wd_209 hE) (wd_120 hE) hK hP hD hS hA rfl (by decide +kernel) (Nat.le_of_ble_eq_true rfl) (Nat.le_of_ble_eq_true rfl) dX4_init_16 (fun q3 H hP hD hS => ?_)
  have hP : va_P (dC, dI) vwCl [(a0, .inr (3, [.ref q1, .null, .null, .null, .null, .null, .int 0, .int 0])), (q1, .inr (9, [.ref (u2.1 0), .ref (u2.1 1), .int 0, .int 0])), (q3, .inr (9, [.null, .null, .int 0, .int 0]))] H := hP
  have hD : va_D A [(a0, .inr (3, [.ref q1, .null, .null, .null, .null, .null, .int 0, .int 0])), (q1, .inr (9, [.ref (u2.1 0), .ref (u2.1 1), .int 0, .int 0])), (q3, .inr (9, [.null, .null, .int 0, .int 0]))] := hD
  refine W.widen (k := 4) (n := 153) (Nat.le_of_ble_eq_true rfl) (Nat.le_of_ble_eq_true rfl) ?_
  refine lv_dup hx hb dX4_init_19 rfl ?_
  refine cl_v (wc := [(q3, .inr (9, [.null, .null, .int 0, .int 0]))]) (wr := [(a0, .inr (3, [.ref q1, .null, .null, .null, .null, .null, .int 0, .int 0])), (q1, .inr (9, [.ref (u2.1 0), .ref (u2.1 1), .int 0, .int 0]))]) [2] [0, 1] rfl rfl (by decide) (by decide) hK hP hD hS hA (va_runIN (As := []) (rest := [.ref q3, .ref a0]) ⟨hx, hb, hml, hown, noTs⟩ (c_X10_init l dC dI H.size q3) ⟨cnE 0 (wd_212 hE) (wd_120 hE) (wd_280 hE) rfl rfl (by decide +kernel) ⟨Nat.le_of_ble_eq_true rfl, Nat.le_of_ble_eq_true rfl⟩, rfl, (wd_211 hE)⟩ ⟨PcE.blind, (pre_E (av := [.ref q3]) (wc := [(q3, .inr (9, [.null, .null, .int 0, .int 0]))]) (tysc := []) [2] [] rfl (by decide) rfl rfl hK hP hD hE)⟩ rfl rfl hl.1 rfl (lv_room (Nat.le_of_ble_eq_true rfl)) dX4_init_20 ⟨Nat.le_of_ble_eq_true rfl, Nat.le_of_ble_eq_true rfl⟩) (fun u4 H locs hw4 hK hP hD hS => ?_)
  have hK : va_K (dC, dI) vwCl [] s := hK
  have hP : va_P (dC, dI) vwCl [(a0, .inr (3, [.ref q1, .null, .null, .null, .null, .null, .int 0, .int 0])), (q1, .inr (9, [.ref (u2.1 0), .ref (u2.1 1), .int 0, .int 0])), (q3, .inr (9, [.ref (u4.1 0), .ref (u4.1 1), .int 0, .int 0]))] H := hP
  have hD : va_D A [(a0, .inr (3, [.ref q1, .null, .null, .null, .null, .null, .int 0, .int 0])), (q1, .inr (9, [.ref (u2.1 0), .ref (u2.1 1), .int 0, .int 0])), (q3, .inr (9, [.ref (u4.1 0), .ref (u4.1 1), .int 0, .int 0]))] := hD
  refine W.widen (k := 6) (n := 298) (Nat.le_of_ble_eq_true rfl) (Nat.le_of_ble_eq_true rfl) ?_
  refine va_putF (D := (dC, dI)) (ci := 3) (v := .ref q3) (ty := .object "GluedWords$Walk") (C := RX4) (T := TX4) (N := 8) hx hb (ly_X4 hE) (fun _ h9 => h9) tyX4 tyX4_ok nmX4 hown hK hP hD hS 0 rfl rfl 1 (by decide) (wd_306 hE) (fun _ h9 => h9) rfl hin rfl (by decide +kernel) rfl rfl (Nat.le_of_ble_eq_true rfl) dX4_init_23 (fun H locs hP hD hS => ?_)
  have hP : va_P (dC, dI) vwCl [(a0, .inr (3, [.ref q1, .ref q3, .null, .null, .null, .null, .int 0, .int 0])), (q1, .inr (9, [.ref (u2.1 0), .ref (u2.1 1), .int 0, .int 0])), (q3, .inr (9, [.ref (u4.1 0), .ref (u4.1 1), .int 0, .int 0]))] H := hP
  have hD : va_D A [(a0, .inr (3, [.ref q1, .ref q3, .null, .null, .null, .null, .int 0, .int 0])), (q1, .inr (9, [.ref (u2.1 0), .ref (u2.1 1), .int 0, .int 0])), (q3, .inr (9, [.ref (u4.1 0), .ref (u4.1 1), .int 0, .int 0]))] := hD
  refine lv_aload_n hx hb dX4_init_26 rfl (lv_at hl 0 rfl) ?_
  refine va_new (ci := 9) (fs := [.null, .null, .int 0, .int 0]) (C := RX10) (T := TX10) (N := 4) hx hb (ly_X10 hE) (fun _ h9 => h9) tyX10 tyX10_ok hown (wd_279 hE) (wd_209 hE) (wd_120 hE) hK hP hD hS hA rfl (by decide +kernel) (Nat.le_of_ble_eq_true rfl) (Nat.le_of_ble_eq_true rfl) dX4_init_27 (fun q5 H hP hD hS => ?_)
  have hP : va_P (dC, dI) vwCl [(a0, .inr (3, [.ref q1, .ref q3, .null, .null, .null, .null, .int 0, .int 0])), (q1, .inr (9, [.ref (u2.1 0), .ref (u2.1 1), .int 0, .int 0])), (q3, .inr (9, [.ref (u4.1 0), .ref (u4.1 1), .int 0, .int 0])), (q5, .inr (9, [.null, .null, .int 0, .int 0]))] H := hP
  have hD : va_D A [(a0, .inr (3, [.ref q1, .ref q3, .null, .null, .null, .null, .int 0, .int 0])), (q1, .inr (9, [.ref (u2.1 0), .ref (u2.1 1), .int 0, .int 0])), (q3, .inr (9, [.ref (u4.1 0), .ref (u4.1 1), .int 0, .int 0])), (q5, .inr (9, [.null, .null, .int 0, .int 0]))] := hD
  refine W.widen (k := 7) (n := 302) (Nat.le_of_ble_eq_true rfl) (Nat.le_of_ble_eq_true rfl) ?_
  refine lv_dup hx hb dX4_init_30 rfl ?_
  refine cl_v (wc := [(q5, .inr (9, [.null, .null, .int 0, .int 0]))]) (wr := [(a0, .inr (3, [.ref q1, .ref q3, .null, .null, .null, .null, .int 0, .int 0])), (q1, .inr (9, [.ref (u2.1 0), .ref (u2.1 1), .int 0, .int 0])), (q3, .inr (9, [.ref (u4.1 0), .ref (u4.1 1), .int 0, .int 0]))]) [3] [0, 1, 2] rfl rfl (by decide) (by decide) hK hP hD hS hA (va_runIN (As := []) (rest := [.ref q5, .ref a0]) ⟨hx, hb, hml, hown, noTs⟩ (c_X10_init l dC dI H.size q5) ⟨cnE 0 (wd_212 hE) (wd_120 hE) (wd_280 hE) rfl rfl (by decide +kernel) ⟨Nat.le_of_ble_eq_true rfl, Nat.le_of_ble_eq_true rfl⟩, rfl, (wd_211 hE)⟩ ⟨PcE.blind, (pre_E (av := [.ref q5]) (wc := [(q5, .inr (9, [.null, .null, .int 0, .int 0]))]) (tysc := []) [3] [] rfl (by decide) rfl rfl hK hP hD hE)⟩ rfl rfl hl.1 rfl (lv_room (Nat.le_of_ble_eq_true rfl)) dX4_init_31 ⟨Nat.le_of_ble_eq_true rfl, Nat.le_of_ble_eq_true rfl⟩) (fun u6 H locs hw6 hK hP hD hS => ?_)
  have hK : va_K (dC, dI) vwCl [] s := hK
  have hP : va_P (dC, dI) vwCl [(a0, .inr (3, [.ref q1, .ref q3, .null, .null, .null, .null, .int 0, .int 0])), (q1, .inr (9, [.ref (u2.1 0), .ref (u2.1 1), .int 0, .int 0])), (q3, .inr (9, [.ref (u4.1 0), .ref (u4.1 1), .int 0, .int 0])), (q5, .inr (9, [.ref (u6.1 0), .ref (u6.1 1), .int 0, .int 0]))] H := hP
  have hD : va_D A [(a0, .inr (3, [.ref q1, .ref q3, .null, .null, .null, .null, .int 0, .int 0])), (q1, .inr (9, [.ref (u2.1 0), .ref (u2.1 1), .int 0, .int 0])), (q3, .inr (9, [.ref (u4.1 0), .ref (u4.1 1), .int 0, .int 0])), (q5, .inr (9, [.ref (u6.1 0), .ref (u6.1 1), .int 0, .int 0]))] := hD
  refine W.widen (k := 9) (n := 447) (Nat.le_of_ble_eq_true rfl) (Nat.le_of_ble_eq_true rfl) ?_
  refine va_putF (D := (dC, dI)) (ci := 3) (v := .ref q5) (ty := .object "GluedWords$Walk") (C := RX4) (T := TX4) (N := 8) hx hb (ly_X4 hE) (fun _ h9 => h9) tyX4 tyX4_ok nmX4 hown hK hP hD hS 0 rfl rfl 2 (by decide) (wd_307 hE) (fun _ h9 => h9) rfl hin rfl (by decide +kernel) rfl rfl (Nat.le_of_ble_eq_true rfl) dX4_init_34 (fun H locs hP hD hS => ?_)
  have hP : va_P (dC, dI) vwCl [(a0, .inr (3, [.ref q1, .ref q3, .ref q5, .null, .null, .null, .int 0, .int 0])), (q1, .inr (9, [.ref (u2.1 0), .ref (u2.1 1), .int 0, .int 0])), (q3, .inr (9, [.ref (u4.1 0), .ref (u4.1 1), .int 0, .int 0])), (q5, .inr (9, [.ref (u6.1 0), .ref (u6.1 1), .int 0, .int 0]))] H := hP
  have hD : va_D A [(a0, .inr (3, [.ref q1, .ref q3, .ref q5, .null, .null, .null, .int 0, .int 0])), (q1, .inr (9, [.ref (u2.1 0), .ref (u2.1 1), .int 0, .int 0])), (q3, .inr (9, [.ref (u4.1 0), .ref (u4.1 1), .int 0, .int 0])), (q5, .inr (9, [.ref (u6.1 0), .ref (u6.1 1), .int 0, .int 0]))] := hD
  refine lv_aload_n hx hb dX4_init_37 rfl (lv_at hl 0 rfl) ?_
  refine va_new (ci := 9) (fs := [.null, .null, .int 0, .int 0]) (C := RX10) (T := TX10) (N := 4) hx hb (ly_X10 hE) (fun _ h9 => h9) tyX10 tyX10_ok hown (wd_279 hE) (wd_209 hE) (wd_120 hE) hK hP hD hS hA rfl (by decide +kernel) (Nat.le_of_ble_eq_true rfl) (Nat.le_of_ble_eq_true rfl) dX4_init_38 (fun q7 H hP hD hS => ?_)
  have hP : va_P (dC, dI) vwCl [(a0, .inr (3, [.ref q1, .ref q3, .ref q5, .null, .null, .null, .int 0, .int 0])), (q1, .inr (9, [.ref (u2.1 0), .ref (u2.1 1), .int 0, .int 0])), (q3, .inr (9, [.ref (u4.1 0), .ref (u4.1 1), .int 0, .int 0])), (q5, .inr (9, [.ref (u6.1 0), .ref (u6.1 1), .int 0, .int 0])), (q7, .inr (9, [.null, .null, .int 0, .int 0]))] H := hP
  have hD : va_D A [(a0, .inr (3, [.ref q1, .ref q3, .ref q5, .null, .null, .null, .int 0, .int 0])), (q1, .inr (9, [.ref (u2.1 0), .ref (u2.1 1), .int 0, .int 0])), (q3, .inr (9, [.ref (u4.1 0), .ref (u4.1 1), .int 0, .int 0])), (q5, .inr (9, [.ref (u6.1 0), .ref (u6.1 1), .int 0, .int 0])), (q7, .inr (9, [.null, .null, .int 0, .int 0]))] := hD
  refine W.widen (k := 10) (n := 451) (Nat.le_of_ble_eq_true rfl) (Nat.le_of_ble_eq_true rfl) ?_
  refine lv_dup hx hb dX4_init_41 rfl ?_
  refine cl_v (wc := [(q7, .inr (9, [.null, .null, .int 0, .int 0]))]) (wr := [(a0, .inr (3, [.ref q1, .ref q3, .ref q5, .null, .null, .null, .int 0, .int 0])), (q1, .inr (9, [.ref (u2.1 0), .ref (u2.1 1), .int 0, .int 0])), (q3, .inr (9, [.ref (u4.1 0), .ref (u4.1 1), .int 0, .int 0])), (q5, .inr (9, [.ref (u6.1 0), .ref (u6.1 1), .int 0, .int 0]))]) [4] [0, 1, 2, 3] rfl rfl (by decide) (by decide) hK hP hD hS hA (va_runIN (As := []) (rest := [.ref q7, .ref a0]) ⟨hx, hb, hml, hown, noTs⟩ (c_X10_init l dC dI H.size q7) ⟨cnE 0 (wd_212 hE) (wd_120 hE) (wd_280 hE) rfl rfl (by decide +kernel) ⟨Nat.le_of_ble_eq_true rfl, Nat.le_of_ble_eq_true rfl⟩, rfl, (wd_211 hE)⟩ ⟨PcE.blind, (pre_E (av := [.ref q7]) (wc := [(q7, .inr (9, [.null, .null, .int 0, .int 0]))]) (tysc := []) [4] [] rfl (by decide) rfl rfl hK hP hD hE)⟩ rfl rfl hl.1 rfl (lv_room (Nat.le_of_ble_eq_true rfl)) dX4_init_42 ⟨Nat.le_of_ble_eq_true rfl, Nat.le_of_ble_eq_true rfl⟩) (fun u8 H locs hw8 hK hP hD hS => ?_)
  have hK : va_K (dC, dI) vwCl [] s := hK
  have hP : va_P (dC, dI) vwCl [(a0, .inr (3, [.ref q1, .ref q3, .ref q5, .null, .null, .null, .int 0, .int 0])), (q1, .inr (9, [.ref (u2.1 0), .ref (u2.1 1), .int 0, .int 0])), (q3, .inr (9, [.ref (u4.1 0), .ref (u4.1 1), .int 0, .int 0])), (q5, .inr (9, [.ref (u6.1 0), .ref (u6.1 1), .int 0, .int 0])), (q7, .inr (9, [.ref (u8.1 0), .ref (u8.1 1), .int 0, .int 0]))] H := hP
  have hD : va_D A [(a0, .inr (3, [.ref q1, .ref q3, .ref q5, .null, .null, .null, .int 0, .int 0])), (q1, .inr (9, [.ref (u2.1 0), .ref (u2.1 1), .int 0, .int 0])), (q3, .inr (9, [.ref (u4.1 0), .ref (u4.1 1), .int 0, .int 0])), (q5, .inr (9, [.ref (u6.1 0), .ref (u6.1 1), .int 0, .int 0])), (q7, .inr (9, [.ref (u8.1 0), .ref (u8.1 1), .int 0, .int 0]))] := hD
  refine W.widen (k := 12) (n := 596) (Nat.le_of_ble_eq_true rfl) (Nat.le_of_ble_eq_true rfl) ?_
  refine va_putF (D := (dC, dI)) (ci := 3) (v := .ref q7) (ty := .object "GluedWords$Walk") (C := RX4) (T := TX4) (N := 8) hx hb (ly_X4 hE) (fun _ h9 => h9) tyX4 tyX4_ok nmX4 hown hK hP hD hS 0 rfl rfl 3 (by decide) (wd_308 hE) (fun _ h9 => h9) rfl hin rfl (by decide +kernel) rfl rfl (Nat.le_of_ble_eq_true rfl) dX4_init_45 (fun H locs hP hD hS => ?_)
  have hP : va_P (dC, dI) vwCl [(a0, .inr (3, [.ref q1, .ref q3, .ref q5, .ref q7, .null, .null, .int 0, .int 0])), (q1, .inr (9, [.ref (u2.1 0), .ref (u2.1 1), .int 0, .int 0])), (q3, .inr (9, [.ref (u4.1 0), .ref (u4.1 1), .int 0, .int 0])), (q5, .inr (9, [.ref (u6.1 0), .ref (u6.1 1), .int 0, .int 0])), (q7, .inr (9, [.ref (u8.1 0), .ref (u8.1 1), .int 0, .int 0]))] H := hP
  have hD : va_D A [(a0, .inr (3, [.ref q1, .ref q3, .ref q5, .ref q7, .null, .null, .int 0, .int 0])), (q1, .inr (9, [.ref (u2.1 0), .ref (u2.1 1), .int 0, .int 0])), (q3, .inr (9, [.ref (u4.1 0), .ref (u4.1 1), .int 0, .int 0])), (q5, .inr (9, [.ref (u6.1 0), .ref (u6.1 1), .int 0, .int 0])), (q7, .inr (9, [.ref (u8.1 0), .ref (u8.1 1), .int 0, .int 0]))] := hD
  refine lv_aload_n hx hb dX4_init_48 rfl (lv_at hl 0 rfl) ?_
  refine va_new (ci := 0) (fs := [.null, .null, .null, .null, .null]) (C := RX0) (T := TX0) (N := 5) hx hb (ly_X0 hE) (fun _ h9 => h9) tyX0 tyX0_ok hown (wd_281 hE) (wd_282 hE) (wd_123 hE) hK hP hD hS hA rfl (by decide +kernel) (Nat.le_of_ble_eq_true rfl) (Nat.le_of_ble_eq_true rfl) dX4_init_49 (fun q9 H hP hD hS => ?_)
  have hP : va_P (dC, dI) vwCl [(a0, .inr (3, [.ref q1, .ref q3, .ref q5, .ref q7, .null, .null, .int 0, .int 0])), (q1, .inr (9, [.ref (u2.1 0), .ref (u2.1 1), .int 0, .int 0])), (q3, .inr (9, [.ref (u4.1 0), .ref (u4.1 1), .int 0, .int 0])), (q5, .inr (9, [.ref (u6.1 0), .ref (u6.1 1), .int 0, .int 0])), (q7, .inr (9, [.ref (u8.1 0), .ref (u8.1 1), .int 0, .int 0])), (q9, .inr (0, [.null, .null, .null, .null, .null]))] H := hP
  have hD : va_D A [(a0, .inr (3, [.ref q1, .ref q3, .ref q5, .ref q7, .null, .null, .int 0, .int 0])), (q1, .inr (9, [.ref (u2.1 0), .ref (u2.1 1), .int 0, .int 0])), (q3, .inr (9, [.ref (u4.1 0), .ref (u4.1 1), .int 0, .int 0])), (q5, .inr (9, [.ref (u6.1 0), .ref (u6.1 1), .int 0, .int 0])), (q7, .inr (9, [.ref (u8.1 0), .ref (u8.1 1), .int 0, .int 0])), (q9, .inr (0, [.null, .null, .null, .null, .null]))] := hD
  refine W.widen (k := 13) (n := 601) (Nat.le_of_ble_eq_true rfl) (Nat.le_of_ble_eq_true rfl) ?_
  refine lv_dup hx hb dX4_init_52 rfl ?_
  refine cl_v (wc := [(q9, .inr (0, [.null, .null, .null, .null, .null]))]) (wr := [(a0, .inr (3, [.ref q1, .ref q3, .ref q5, .ref q7, .null, .null, .int 0, .int 0])), (q1, .inr (9, [.ref (u2.1 0), .ref (u2.1 1), .int 0, .int 0])), (q3, .inr (9, [.ref (u4.1 0), .ref (u4.1 1), .int 0, .int 0])), (q5, .inr (9, [.ref (u6.1 0), .ref (u6.1 1), .int 0, .int 0])), (q7, .inr (9, [.ref (u8.1 0), .ref (u8.1 1), .int 0, .int 0]))]) [5] [0, 1, 2, 3, 4] rfl rfl (by decide) (by decide) hK hP hD hS hA (va_runIN (As := []) (rest := [.ref q9, .ref a0]) ⟨hx, hb, hml, hown, noTs⟩ (c_X0_init l dC dI H.size q9) ⟨cnE 0 (wd_285 hE) (wd_123 hE) (wd_283 hE) rfl rfl (by decide +kernel) ⟨Nat.le_of_ble_eq_true rfl, Nat.le_of_ble_eq_true rfl⟩, rfl, (wd_284 hE)⟩ ⟨PcE.blind, (pre_E (av := [.ref q9]) (wc := [(q9, .inr (0, [.null, .null, .null, .null, .null]))]) (tysc := []) [5] [] rfl (by decide) rfl rfl hK hP hD hE)⟩ rfl rfl hl.1 rfl (lv_room (Nat.le_of_ble_eq_true rfl)) dX4_init_53 ⟨Nat.le_of_ble_eq_true rfl, Nat.le_of_ble_eq_true rfl⟩) (fun u10 H locs hw10 hK hP hD hS => ?_)
  have hK : va_K (dC, dI) vwCl [] s := hK
  have hP : va_P (dC, dI) vwCl [(a0, .inr (3, [.ref q1, .ref q3, .ref q5, .ref q7, .null, .null, .int 0, .int 0])), (q1, .inr (9, [.ref (u2.1 0), .ref (u2.1 1), .int 0, .int 0])), (q3, .inr (9, [.ref (u4.1 0), .ref (u4.1 1), .int 0, .int 0])), (q5, .inr (9, [.ref (u6.1 0), .ref (u6.1 1), .int 0, .int 0])), (q7, .inr (9, [.ref (u8.1 0), .ref (u8.1 1), .int 0, .int 0])), (q9, .inr (0, [.ref (u10.1 0), .ref (u10.1 1), .ref (u10.1 2), .ref (u10.1 3), .ref (u10.1 3)]))] H := hP
  have hD : va_D A [(a0, .inr (3, [.ref q1, .ref q3, .ref q5, .ref q7, .null, .null, .int 0, .int 0])), (q1, .inr (9, [.ref (u2.1 0), .ref (u2.1 1), .int 0, .int 0])), (q3, .inr (9, [.ref (u4.1 0), .ref (u4.1 1), .int 0, .int 0])), (q5, .inr (9, [.ref (u6.1 0), .ref (u6.1 1), .int 0, .int 0])), (q7, .inr (9, [.ref (u8.1 0), .ref (u8.1 1), .int 0, .int 0])), (q9, .inr (0, [.ref (u10.1 0), .ref (u10.1 1), .ref (u10.1 2), .ref (u10.1 3), .ref (u10.1 3)]))] := hD
  refine W.widen (k := 19) (n := 822) (Nat.le_of_ble_eq_true rfl) (Nat.le_of_ble_eq_true rfl) ?_
  refine va_putF (D := (dC, dI)) (ci := 3) (v := .ref q9) (ty := .object "GluedWords$Carrier") (C := RX4) (T := TX4) (N := 8) hx hb (ly_X4 hE) (fun _ h9 => h9) tyX4 tyX4_ok nmX4 hown hK hP hD hS 0 rfl rfl 4 (by decide) (wd_309 hE) (fun _ h9 => h9) rfl hin rfl (by decide +kernel) rfl rfl (Nat.le_of_ble_eq_true rfl) dX4_init_56 (fun H locs hP hD hS => ?_)
  have hP : va_P (dC, dI) vwCl [(a0, .inr (3, [.ref q1, .ref q3, .ref q5, .ref q7, .ref q9, .null, .int 0, .int 0])), (q1, .inr (9, [.ref (u2.1 0), .ref (u2.1 1), .int 0, .int 0])), (q3, .inr (9, [.ref (u4.1 0), .ref (u4.1 1), .int 0, .int 0])), (q5, .inr (9, [.ref (u6.1 0), .ref (u6.1 1), .int 0, .int 0])), (q7, .inr (9, [.ref (u8.1 0), .ref (u8.1 1), .int 0, .int 0])), (q9, .inr (0, [.ref (u10.1 0), .ref (u10.1 1), .ref (u10.1 2), .ref (u10.1 3), .ref (u10.1 3)]))] H := hP
  have hD : va_D A [(a0, .inr (3, [.ref q1, .ref q3, .ref q5, .ref q7, .ref q9, .null, .int 0, .int 0])), (q1, .inr (9, [.ref (u2.1 0), .ref (u2.1 1), .int 0, .int 0])), (q3, .inr (9, [.ref (u4.1 0), .ref (u4.1 1), .int 0, .int 0])), (q5, .inr (9, [.ref (u6.1 0), .ref (u6.1 1), .int 0, .int 0])), (q7, .inr (9, [.ref (u8.1 0), .ref (u8.1 1), .int 0, .int 0])), (q9, .inr (0, [.ref (u10.1 0), .ref (u10.1 1), .ref (u10.1 2), .ref (u10.1 3), .ref (u10.1 3)]))] := hD
  refine lv_aload_n hx hb dX4_init_59 rfl (lv_at hl 0 rfl) ?_
  refine lv_bipush (v := 6) hx hb dX4_init_60 (by decide) ?_
  refine va_newa (atype := .int) (ty := .int) (N' := 6) (a0 := (6, .inl (fun _ => 0))) hx hb (wd_153 hE) rfl hK hP hD hS hA (fun _ => rfl) (by decide) (by decide) (Nat.le_of_ble_eq_true rfl) (Nat.le_of_ble_eq_true rfl) (Nat.le_of_ble_eq_true rfl) dX4_init_62 (fun q11 k11 H hK hP hD hS => ?_)
  have hK : va_K (dC, dI) vwCl [(k11, .int)] s := hK
  have hP : va_P (dC, dI) vwCl [(a0, .inr (3, [.ref q1, .ref q3, .ref q5, .ref q7, .ref q9, .null, .int 0, .int 0])), (q1, .inr (9, [.ref (u2.1 0), .ref (u2.1 1), .int 0, .int 0])), (q3, .inr (9, [.ref (u4.1 0), .ref (u4.1 1), .int 0, .int 0])), (q5, .inr (9, [.ref (u6.1 0), .ref (u6.1 1), .int 0, .int 0])), (q7, .inr (9, [.ref (u8.1 0), .ref (u8.1 1), .int 0, .int 0])), (q9, .inr (0, [.ref (u10.1 0), .ref (u10.1 1), .ref (u10.1 2), .ref (u10.1 3), .ref (u10.1 3)])), (q11, .inl (k11, 6, .inl (fun _ => 0)))] H := hP
  have hD : va_D A [(a0, .inr (3, [.ref q1, .ref q3, .ref q5, .ref q7, .ref q9, .null, .int 0, .int 0])), (q1, .inr (9, [.ref (u2.1 0), .ref (u2.1 1), .int 0, .int 0])), (q3, .inr (9, [.ref (u4.1 0), .ref (u4.1 1), .int 0, .int 0])), (q5, .inr (9, [.ref (u6.1 0), .ref (u6.1 1), .int 0, .int 0])), (q7, .inr (9, [.ref (u8.1 0), .ref (u8.1 1), .int 0, .int 0])), (q9, .inr (0, [.ref (u10.1 0), .ref (u10.1 1), .ref (u10.1 2), .ref (u10.1 3), .ref (u10.1 3)])), (q11, .inl (k11, 6, .inl (fun _ => 0)))] := hD
  refine W.widen (k := 20) (n := 828) (Nat.le_of_ble_eq_true rfl) (Nat.le_of_ble_eq_true rfl) ?_
  refine va_putF (D := (dC, dI)) (ci := 3) (v := .ref q11) (ty := .array .int) (C := RX4) (T := TX4) (N := 8) hx hb (ly_X4 hE) (fun _ h9 => h9) tyX4 tyX4_ok nmX4 hown hK hP hD hS 0 rfl rfl 5 (by decide) (wd_310 hE) (fun _ h9 => h9) rfl hin rfl (by decide +kernel) rfl rfl (Nat.le_of_ble_eq_true rfl) dX4_init_64 (fun H locs hP hD hS => ?_)
  have hP : va_P (dC, dI) vwCl [(a0, .inr (3, [.ref q1, .ref q3, .ref q5, .ref q7, .ref q9, .ref q11, .int 0, .int 0])), (q1, .inr (9, [.ref (u2.1 0), .ref (u2.1 1), .int 0, .int 0])), (q3, .inr (9, [.ref (u4.1 0), .ref (u4.1 1), .int 0, .int 0])), (q5, .inr (9, [.ref (u6.1 0), .ref (u6.1 1), .int 0, .int 0])), (q7, .inr (9, [.ref (u8.1 0), .ref (u8.1 1), .int 0, .int 0])), (q9, .inr (0, [.ref (u10.1 0), .ref (u10.1 1), .ref (u10.1 2), .ref (u10.1 3), .ref (u10.1 3)])), (q11, .inl (k11, 6, .inl (fun _ => 0)))] H := hP
  have hD : va_D A [(a0, .inr (3, [.ref q1, .ref q3, .ref q5, .ref q7, .ref q9, .ref q11, .int 0, .int 0])), (q1, .inr (9, [.ref (u2.1 0), .ref (u2.1 1), .int 0, .int 0])), (q3, .inr (9, [.ref (u4.1 0), .ref (u4.1 1), .int 0, .int 0])), (q5, .inr (9, [.ref (u6.1 0), .ref (u6.1 1), .int 0, .int 0])), (q7, .inr (9, [.ref (u8.1 0), .ref (u8.1 1), .int 0, .int 0])), (q9, .inr (0, [.ref (u10.1 0), .ref (u10.1 1), .ref (u10.1 2), .ref (u10.1 3), .ref (u10.1 3)])), (q11, .inl (k11, 6, .inl (fun _ => 0)))] := hD
  refine lv_aload_n hx hb dX4_init_67 rfl (lv_at hl 0 rfl) ?_
  refine lv_iconst (v := 0) hx hb dX4_init_68 (by decide) ?_
  refine va_put (D := (dC, dI)) (ci := 3) (v := .int 0) (ty := .int) (C := RX4) (T := TX4) (N := 8) hx hb (ly_X4 hE) (fun _ h9 => h9) tyX4 tyX4_ok nmX4 hown hK hP hD hS 0 rfl rfl 6 (by decide) (wd_311 hE) (fun _ h9 => h9) rfl (by decide +kernel) rfl rfl (Nat.le_of_ble_eq_true rfl) dX4_init_69 (fun H locs hP hD hS => ?_)
  have hP : va_P (dC, dI) vwCl [(a0, .inr (3, [.ref q1, .ref q3, .ref q5, .ref q7, .ref q9, .ref q11, .int 0, .int 0])), (q1, .inr (9, [.ref (u2.1 0), .ref (u2.1 1), .int 0, .int 0])), (q3, .inr (9, [.ref (u4.1 0), .ref (u4.1 1), .int 0, .int 0])), (q5, .inr (9, [.ref (u6.1 0), .ref (u6.1 1), .int 0, .int 0])), (q7, .inr (9, [.ref (u8.1 0), .ref (u8.1 1), .int 0, .int 0])), (q9, .inr (0, [.ref (u10.1 0), .ref (u10.1 1), .ref (u10.1 2), .ref (u10.1 3), .ref (u10.1 3)])), (q11, .inl (k11, 6, .inl (fun _ => 0)))] H := hP
  have hD : va_D A [(a0, .inr (3, [.ref q1, .ref q3, .ref q5, .ref q7, .ref q9, .ref q11, .int 0, .int 0])), (q1, .inr (9, [.ref (u2.1 0), .ref (u2.1 1), .int 0, .int 0])), (q3, .inr (9, [.ref (u4.1 0), .ref (u4.1 1), .int 0, .int 0])), (q5, .inr (9, [.ref (u6.1 0), .ref (u6.1 1), .int 0, .int 0])), (q7, .inr (9, [.ref (u8.1 0), .ref (u8.1 1), .int 0, .int 0])), (q9, .inr (0, [.ref (u10.1 0), .ref (u10.1 1), .ref (u10.1 2), .ref (u10.1 3), .ref (u10.1 3)])), (q11, .inl (k11, 6, .inl (fun _ => 0)))] := hD
  refine lv_aload_n hx hb dX4_init_72 rfl (lv_at hl 0 rfl) ?_
  refine lv_iconst (v := 0) hx hb dX4_init_73 (by decide) ?_
  refine va_put (D := (dC, dI)) (ci := 3) (v := .int 0) (ty := .int) (C := RX4) (T := TX4) (N := 8) hx hb (ly_X4 hE) (fun _ h9 => h9) tyX4 tyX4_ok nmX4 hown hK hP hD hS 0 rfl rfl 7 (by decide) (wd_312 hE) (fun _ h9 => h9) rfl (by decide +kernel) rfl rfl (Nat.le_of_ble_eq_true rfl) dX4_init_74 (fun H locs hP hD hS => ?_)
  have hP : va_P (dC, dI) vwCl [(a0, .inr (3, [.ref q1, .ref q3, .ref q5, .ref q7, .ref q9, .ref q11, .int 0, .int 0])), (q1, .inr (9, [.ref (u2.1 0), .ref (u2.1 1), .int 0, .int 0])), (q3, .inr (9, [.ref (u4.1 0), .ref (u4.1 1), .int 0, .int 0])), (q5, .inr (9, [.ref (u6.1 0), .ref (u6.1 1), .int 0, .int 0])), (q7, .inr (9, [.ref (u8.1 0), .ref (u8.1 1), .int 0, .int 0])), (q9, .inr (0, [.ref (u10.1 0), .ref (u10.1 1), .ref (u10.1 2), .ref (u10.1 3), .ref (u10.1 3)])), (q11, .inl (k11, 6, .inl (fun _ => 0)))] H := hP
  have hD : va_D A [(a0, .inr (3, [.ref q1, .ref q3, .ref q5, .ref q7, .ref q9, .ref q11, .int 0, .int 0])), (q1, .inr (9, [.ref (u2.1 0), .ref (u2.1 1), .int 0, .int 0])), (q3, .inr (9, [.ref (u4.1 0), .ref (u4.1 1), .int 0, .int 0])), (q5, .inr (9, [.ref (u6.1 0), .ref (u6.1 1), .int 0, .int 0])), (q7, .inr (9, [.ref (u8.1 0), .ref (u8.1 1), .int 0, .int 0])), (q9, .inr (0, [.ref (u10.1 0), .ref (u10.1 1), .ref (u10.1 2), .ref (u10.1 3), .ref (u10.1 3)])), (q11, .inl (k11, 6, .inl (fun _ => 0)))] := hD
  have hP9 := hP.sub (ws' := [(a0, .inr (3, [.ref q1, .ref q3, .ref q5, .ref q7, .ref q9, .ref q11, .int 0, .int 0]))]) [0] rfl
  have hD9 := hD.sub (ws' := [(a0, .inr (3, [.ref q1, .ref q3, .ref q5, .ref q7, .ref q9, .ref q11, .int 0, .int 0]))]) [0] (by decide) rfl
  have hK9 := hK.sub (tys' := []) [] rfl
  refine W.widen (k := 20) (n := 828) (Nat.le_of_ble_eq_true rfl) (Nat.le_of_ble_eq_true rfl) ?_
  exact W.vret hx hb hr (fun t ht hW => ⟨⟨(fun i => [q1, q3, q5, q7, q9, q11].getD i 0, fun i => [].getD i 0), rfl, trivial, by rw [ht]; exact hP9, va_K.moved hW.alike hK9, hD9⟩, hS.F ht⟩) hS.2.2 dX4_init_77

set_option maxHeartbeats 4000000 in
set_option maxRecDepth 100000 in
theorem c_X6_init (l : Launch) (dC : Nat → ClassId) (dI : Nat → Nat → Nat) (sz : Nat)  (a0 : Nat)  : Met l yX6_init [.code yX6_init cX6_init 1 none] ({ frames := 1, cells := 1, slots := 6, locals := 40 }) (PcE [.ref a0] sz dC dI [] [(a0, .inr (5, [.null, .long 0, .long 0]))]) (va_Qv (fun (u : (Nat → Nat) × (Nat → ClassId)) => True) (Bw dC dI (va_A [(a0, .inr (5, [.null, .long 0, .long 0]))] sz) (fun (u : (Nat → Nat) × (Nat → ClassId)) => [(u.2 0, .int)]) (fun (u : (Nat → Nat) × (Nat → ClassId)) => [(a0, .inr (5, [.ref (u.1 0), .long 0, .long 1])), (u.1 0, .inl (u.2 0, 6, .inl (fun _ => 0)))])) (va_A [(a0, .inr (5, [.null, .long 0, .long 0]))] sz)) 1 6 (va_A [(a0, .inr (5, [.null, .long 0, .long 0]))] sz) := by
  refine Met.ofW (cc := cX6_init) (maxL := 1) (ret := none) (by decide) rfl ?_
  intro p e s m args below meth c s₁ B hml hv
  obtain ⟨rfl, hsz, hP, hK, hD0, hE⟩ := hv
  have hx := B.exec
  have hb := B.bytes
  have hr := B.returns
  have hown : s.vm.findClass RX6 = some m.cls := findClass_of_methodNamed B.named
  have hlocks := B.notSynchronized
  have hin : meth.name = "<init>" := (name_of_methodNamed B.named B.method).1
  subst hsz
  have hD := hD0.self (sz := s.heap.size)
  generalize hAe : va_A [(a0, .inr (5, [.null, .long 0, .long 0]))] s.heap.size = A at hD ⊢
  have hA : ∀ q : Nat, s.heap.size ≤ q → A q := fun q h => by rw [← hAe]; exact Or.inr h
  have hS : va_S A s.heap s.heap [] := va_S.rf
  have hl := lv_entry ([.ref a0]) (n := 1) (Nat.le_of_ble_eq_true rfl)
  rw [lg_entry_eq]
  generalize (lg_sl ([.ref a0]) ++ List.replicate (1 - (lg_sl ([.ref a0])).length) Slot.unset).toArray = ls at hl ⊢
  have hl : lv_has ls 1 [(0, .ref a0)] := hl
  refine lv_aload_n hx hb dX6_init_0 rfl (lv_at hl 0 rfl) ?_
  refine W.objInit hx hb hown (wd_337 hE) (wd_141 hE) (wd_142 hE) rfl (by rw [hml]; exact hl.1) rfl dX6_init_1 (Nat.le_of_ble_eq_true rfl) (Nat.le_of_ble_eq_true rfl) ?_
  refine W.eq (g2 := F0 m 4 ls []) rfl ?_
  refine lv_aload_n hx hb dX6_init_4 rfl (lv_at hl 0 rfl) ?_
  refine lv_bipush (v := 6) hx hb dX6_init_5 (by decide) ?_
  refine va_newa (atype := .int) (ty := .int) (N' := 6) (a0 := (6, .inl (fun _ => 0))) hx hb (wd_153 hE) rfl hK hP hD hS hA (fun _ => rfl) (by decide) (by decide) (Nat.le_of_ble_eq_true rfl) (Nat.le_of_ble_eq_true rfl) (Nat.le_of_ble_eq_true rfl) dX6_init_7 (fun q1 k1 H hK hP hD hS => ?_)
  have hK : va_K (dC, dI) vwCl [(k1, .int)] s := hK
  have hP : va_P (dC, dI) vwCl [(a0, .inr (5, [.null, .long 0, .long 0])), (q1, .inl (k1, 6, .inl (fun _ => 0)))] H := hP
  have hD : va_D A [(a0, .inr (5, [.null, .long 0, .long 0])), (q1, .inl (k1, 6, .inl (fun _ => 0)))] := hD
  refine W.widen (k := 1) (n := 6) (Nat.le_of_ble_eq_true rfl) (Nat.le_of_ble_eq_true rfl) ?_
  refine va_putF (D := (dC, dI)) (ci := 5) (v := .ref q1) (ty := .array .int) (C := RX6) (T := TX6) (N := 3) hx hb (ly_X6 hE) (fun _ h9 => h9) tyX6 tyX6_ok nmX6 hown hK hP hD hS 0 rfl rfl 0 (by decide) (wd_338 hE) (fun _ h9 => h9) rfl hin rfl (by decide +kernel) rfl rfl (Nat.le_of_ble_eq_true rfl) dX6_init_9 (fun H locs hP hD hS => ?_)
  have hP : va_P (dC, dI) vwCl [(a0, .inr (5, [.ref q1, .long 0, .long 0])), (q1, .inl (k1, 6, .inl (fun _ => 0)))] H := hP
  have hD : va_D A [(a0, .inr (5, [.ref q1, .long 0, .long 0])), (q1, .inl (k1, 6, .inl (fun _ => 0)))] := hD
  refine lv_aload_n hx hb dX6_init_12 rfl (lv_at hl 0 rfl) ?_
  refine lv_lconst (v := 0) hx hb dX6_init_13 (by decide) ?_
  refine va_put (D := (dC, dI)) (ci := 5) (v := .long 0) (ty := .long) (C := RX6) (T := TX6) (N := 3) hx hb (ly_X6 hE) (fun _ h9 => h9) tyX6 tyX6_ok nmX6 hown hK hP hD hS 0 rfl rfl 1 (by decide) (wd_339 hE) (fun _ h9 => h9) rfl (by decide +kernel) rfl rfl (Nat.le_of_ble_eq_true rfl) dX6_init_14 (fun H locs hP hD hS => ?_)
  have hP : va_P (dC, dI) vwCl [(a0, .inr (5, [.ref q1, .long 0, .long 0])), (q1, .inl (k1, 6, .inl (fun _ => 0)))] H := hP
  have hD : va_D A [(a0, .inr (5, [.ref q1, .long 0, .long 0])), (q1, .inl (k1, 6, .inl (fun _ => 0)))] := hD
  refine lv_aload_n hx hb dX6_init_17 rfl (lv_at hl 0 rfl) ?_
  refine lv_lconst (v := 1) hx hb dX6_init_18 (by decide) ?_
  refine va_put (D := (dC, dI)) (ci := 5) (v := .long 1) (ty := .long) (C := RX6) (T := TX6) (N := 3) hx hb (ly_X6 hE) (fun _ h9 => h9) tyX6 tyX6_ok nmX6 hown hK hP hD hS 0 rfl rfl 2 (by decide) (wd_340 hE) (fun _ h9 => h9) rfl (by decide +kernel) rfl rfl (Nat.le_of_ble_eq_true rfl) dX6_init_19 (fun H locs hP hD hS => ?_)
  have hP : va_P (dC, dI) vwCl [(a0, .inr (5, [.ref q1, .long 0, .long 1])), (q1, .inl (k1, 6, .inl (fun _ => 0)))] H := hP
  have hD : va_D A [(a0, .inr (5, [.ref q1, .long 0, .long 1])), (q1, .inl (k1, 6, .inl (fun _ => 0)))] := hD
  have hP9 := hP.sub (ws' := [(a0, .inr (5, [.ref q1, .long 0, .long 1])), (q1, .inl (k1, 6, .inl (fun _ => 0)))]) [0, 1] rfl
  have hD9 := hD.sub (ws' := [(a0, .inr (5, [.ref q1, .long 0, .long 1])), (q1, .inl (k1, 6, .inl (fun _ => 0)))]) [0, 1] (by decide) rfl
  have hK9 := hK.sub (tys' := [(k1, .int)]) [0] rfl
  refine W.widen (k := 1) (n := 6) (Nat.le_of_ble_eq_true rfl) (Nat.le_of_ble_eq_true rfl) ?_
  exact W.vret hx hb hr (fun t ht hW => ⟨⟨(fun i => [q1].getD i 0, fun i => [k1].getD i 0), rfl, trivial, by rw [ht]; exact hP9, va_K.moved hW.alike hK9, hD9⟩, hS.F ht⟩) hS.2.2 dX6_init_22

set_option maxHeartbeats 4000000 in
set_option maxRecDepth 100000 in
theorem c_X1_init (l : Launch) (dC : Nat → ClassId) (dI : Nat → Nat → Nat) (sz : Nat)  (a0 : Nat)  : Met l yX1_init [.code yX1_init cX1_init 1 none] ({ frames := 1, cells := 1, slots := 156, locals := 40 }) (PcE [.ref a0] sz dC dI [] [(a0, .inr (1, [.null]))]) (va_Qv (fun (u : (Nat → Nat) × (Nat → ClassId)) => True) (Bw dC dI (va_A [(a0, .inr (1, [.null]))] sz) (fun (u : (Nat → Nat) × (Nat → ClassId)) => []) (fun (u : (Nat → Nat) × (Nat → ClassId)) => [(a0, .inr (1, [.ref (u.1 0)]))])) (va_A [(a0, .inr (1, [.null]))] sz)) 1 156 (va_A [(a0, .inr (1, [.null]))] sz) := by
  refine Met.ofW (cc := cX1_init) (maxL := 1) (ret := none) (by decide) rfl ?_
  intro p e s m args below meth c s₁ B hml hv
  obtain ⟨rfl, hsz, hP, hK, hD0, hE⟩ := hv
  have hx := B.exec
  have hb := B.bytes
  have hr := B.returns
  have hown : s.vm.findClass RX1 = some m.cls := findClass_of_methodNamed B.named
  have hlocks := B.notSynchronized
  have hin : meth.name = "<init>" := (name_of_methodNamed B.named B.method).1
  subst hsz
  have hD := hD0.self (sz := s.heap.size)
  generalize hAe : va_A [(a0, .inr (1, [.null]))] s.heap.size = A at hD ⊢
  have hA : ∀ q : Nat, s.heap.size ≤ q → A q := fun q h => by rw [← hAe]; exact Or.inr h
  have hS : va_S A s.heap s.heap [] := va_S.rf
  have hl := lv_entry ([.ref a0]) (n := 1) (Nat.le_of_ble_eq_true rfl)
  rw [lg_entry_eq]
  generalize (lg_sl ([.ref a0]) ++ List.replicate (1 - (lg_sl ([.ref a0])).length) Slot.unset).toArray = ls at hl ⊢
  have hl : lv_has ls 1 [(0, .ref a0)] := hl
  refine lv_aload_n hx hb dX1_init_0 rfl (lv_at hl 0 rfl) ?_
  refine W.objInit hx hb hown (wd_353 hE) (wd_141 hE) (wd_142 hE) rfl (by rw [hml]; exact hl.1) rfl dX1_init_1 (Nat.le_of_ble_eq_true rfl) (Nat.le_of_ble_eq_true rfl) ?_
  refine W.eq (g2 := F0 m 4 ls []) rfl ?_
  refine lv_aload_n hx hb dX1_init_4 rfl (lv_at hl 0 rfl) ?_
  refine lv_sipush (v := 156) hx hb dX1_init_5 (by decide) ?_
  refine va_newa (atype := .long) (ty := .long) (N' := 156) (a0 := (156, .inr (.inl (fun _ => 0)))) hx hb (wd_358 hE) rfl hK hP hD hS hA (fun _ => rfl) (by decide) (by decide) (Nat.le_of_ble_eq_true rfl) (Nat.le_of_ble_eq_true rfl) (Nat.le_of_ble_eq_true rfl) dX1_init_8 (fun q1 k1 H hK hP hD hS => ?_)
  have hK : va_K (dC, dI) vwCl [(k1, .long)] s := hK
  have hP : va_P (dC, dI) vwCl [(a0, .inr (1, [.null])), (q1, .inl (k1, 156, .inr (.inl (fun _ => 0))))] H := hP
  have hD : va_D A [(a0, .inr (1, [.null])), (q1, .inl (k1, 156, .inr (.inl (fun _ => 0))))] := hD
  refine W.widen (k := 1) (n := 156) (Nat.le_of_ble_eq_true rfl) (Nat.le_of_ble_eq_true rfl) ?_
  refine va_putF (D := (dC, dI)) (ci := 1) (v := .ref q1) (ty := .array .long) (C := RX1) (T := TX1) (N := 1) hx hb (ly_X1 hE) (fun _ h9 => h9) tyX1 tyX1_ok nmX1 hown hK hP hD hS 0 rfl rfl 0 (by decide) (wd_354 hE) (fun _ h9 => h9) rfl hin rfl (by decide +kernel) rfl rfl (Nat.le_of_ble_eq_true rfl) dX1_init_10 (fun H locs hP hD hS => ?_)
  have hP : va_P (dC, dI) vwCl [(a0, .inr (1, [.ref q1])), (q1, .inl (k1, 156, .inr (.inl (fun _ => 0))))] H := hP
  have hD : va_D A [(a0, .inr (1, [.ref q1])), (q1, .inl (k1, 156, .inr (.inl (fun _ => 0))))] := hD
  have hP9 := hP.sub (ws' := [(a0, .inr (1, [.ref q1]))]) [0] rfl
  have hD9 := hD.sub (ws' := [(a0, .inr (1, [.ref q1]))]) [0] (by decide) rfl
  have hK9 := hK.sub (tys' := []) [] rfl
  refine W.widen (k := 1) (n := 156) (Nat.le_of_ble_eq_true rfl) (Nat.le_of_ble_eq_true rfl) ?_
  exact W.vret hx hb hr (fun t ht hW => ⟨⟨(fun i => [q1].getD i 0, fun i => [].getD i 0), rfl, trivial, by rw [ht]; exact hP9, va_K.moved hW.alike hK9, hD9⟩, hS.F ht⟩) hS.2.2 dX1_init_13

set_option maxHeartbeats 4000000 in
set_option maxRecDepth 100000 in
theorem c_X9_cut (l : Launch) (dC : Nat → ClassId) (dI : Nat → Nat → Nat) (sz : Nat)  (a0 a1 a2 a3 a4 a5 : Nat) (k0 : ClassId)  : Met l yX9_cut [.code yX9_cut cX9_cut 6 none] ({ frames := 1, cells := 0, slots := 0, locals := 40 }) (PcE [.ref a0, .ref a1, .int 0] sz dC dI [(k0, .byte)] [(a1, .inl (k0, 700, .inl (fun _ => 0))), (a0, .inr (8, [.ref a2, .ref a3, .ref a4, .int 0, .ref a5, .int 0]))]) (va_Qv (fun (u : Unit) => True) (Bw dC dI (va_A [(a1, .inl (k0, 700, .inl (fun _ => 0))), (a0, .inr (8, [.ref a2, .ref a3, .ref a4, .int 0, .ref a5, .int 0]))] sz) (fun (u : Unit) => []) (fun (u : Unit) => [(a1, .inl (k0, 700, .inl (fun _ => 0))), (a0, .inr (8, [.ref a2, .ref a3, .ref a4, .int 0, .ref a1, .int 0]))])) (va_A [(a1, .inl (k0, 700, .inl (fun _ => 0))), (a0, .inr (8, [.ref a2, .ref a3, .ref a4, .int 0, .ref a5, .int 0]))] sz)) 0 0 (va_A [(a1, .inl (k0, 700, .inl (fun _ => 0))), (a0, .inr (8, [.ref a2, .ref a3, .ref a4, .int 0, .ref a5, .int 0]))] sz) := by
  refine Met.ofW (cc := cX9_cut) (maxL := 6) (ret := none) (by decide) rfl ?_
  intro p e s m args below meth c s₁ B hml hv
  obtain ⟨rfl, hsz, hP, hK, hD0, hE⟩ := hv
  have hx := B.exec
  have hb := B.bytes
  have hr := B.returns
  have hown : s.vm.findClass RX9 = some m.cls := findClass_of_methodNamed B.named
  have hlocks := B.notSynchronized
  subst hsz
  have hD := hD0.self (sz := s.heap.size)
  generalize hAe : va_A [(a1, .inl (k0, 700, .inl (fun _ => 0))), (a0, .inr (8, [.ref a2, .ref a3, .ref a4, .int 0, .ref a5, .int 0]))] s.heap.size = A at hD ⊢
  have hA : ∀ q : Nat, s.heap.size ≤ q → A q := fun q h => by rw [← hAe]; exact Or.inr h
  have hS : va_S A s.heap s.heap [] := va_S.rf
  have hl := lv_entry ([.ref a0, .ref a1, .int 0]) (n := 6) (Nat.le_of_ble_eq_true rfl)
  rw [lg_entry_eq]
  generalize (lg_sl ([.ref a0, .ref a1, .int 0]) ++ List.replicate (6 - (lg_sl ([.ref a0, .ref a1, .int 0])).length) Slot.unset).toArray = ls at hl ⊢
  have hl : lv_has ls 6 [(0, .ref a0), (1, .ref a1), (2, .int 0)] := hl
  refine lv_aload_n hx hb dX9_cut_0 rfl (lv_at hl 0 rfl) ?_
  refine lv_aload_n hx hb dX9_cut_1 rfl (lv_at hl 1 rfl) ?_
  refine va_put (D := (dC, dI)) (ci := 8) (v := .ref a1) (ty := .array .byte) (C := RX9) (T := TX9) (N := 6) hx hb (ly_X9 hE) (fun _ h9 => h9) tyX9 tyX9_ok nmX9 hown hK hP hD hS 1 rfl rfl 4 (by decide) (wd_190 hE) (fun _ h9 => h9) rfl (by decide +kernel) rfl rfl (Nat.le_of_ble_eq_true rfl) dX9_cut_2 (fun H locs hP hD hS => ?_)
  have hP : va_P (dC, dI) vwCl [(a1, .inl (k0, 700, .inl (fun _ => 0))), (a0, .inr (8, [.ref a2, .ref a3, .ref a4, .int 0, .ref a1, .int 0]))] H := hP
  have hD : va_D A [(a1, .inl (k0, 700, .inl (fun _ => 0))), (a0, .inr (8, [.ref a2, .ref a3, .ref a4, .int 0, .ref a1, .int 0]))] := hD
  refine lv_aload_n hx hb dX9_cut_5 rfl (lv_at hl 0 rfl) ?_
  refine lv_iload_n hx hb dX9_cut_6 rfl (lv_at hl 2 rfl) ?_
  refine lv_aload_n hx hb dX9_cut_7 rfl (lv_at hl 1 rfl) ?_
  refine va_alen (v := 700) hx hb hK hP 0 0 rfl rfl rfl dX9_cut_8 ?_
  refine va_mmin hx hb (by rw [hml]; exact hl.1.symm) hown (wd_452 hE) (wd_453 hE) (wd_128 hE) (wd_454 hE) (Nat.le_of_ble_eq_true rfl) (Nat.le_of_ble_eq_true rfl) (Nat.le_of_ble_eq_true rfl) (Nat.le_of_ble_eq_true rfl) dX9_cut_9 ?_
  refine W.eq (g2 := F0 m 12 ls [.int 0, .ref a0]) rfl ?_
  refine va_put (D := (dC, dI)) (ci := 8) (v := .int 0) (ty := .int) (C := RX9) (T := TX9) (N := 6) hx hb (ly_X9 hE) (fun _ h9 => h9) tyX9 tyX9_ok nmX9 hown hK hP hD hS 1 rfl rfl 5 (by decide) (wd_191 hE) (fun _ h9 => h9) rfl (by decide +kernel) rfl rfl (Nat.le_of_ble_eq_true rfl) dX9_cut_12 (fun H locs hP hD hS => ?_)
  have hP : va_P (dC, dI) vwCl [(a1, .inl (k0, 700, .inl (fun _ => 0))), (a0, .inr (8, [.ref a2, .ref a3, .ref a4, .int 0, .ref a1, .int 0]))] H := hP
  have hD : va_D A [(a1, .inl (k0, 700, .inl (fun _ => 0))), (a0, .inr (8, [.ref a2, .ref a3, .ref a4, .int 0, .ref a1, .int 0]))] := hD
  refine lv_aload_n hx hb dX9_cut_15 rfl (lv_at hl 0 rfl) ?_
  refine lv_iconst (v := 0) hx hb dX9_cut_16 (by decide) ?_
  refine va_put (D := (dC, dI)) (ci := 8) (v := .int 0) (ty := .int) (C := RX9) (T := TX9) (N := 6) hx hb (ly_X9 hE) (fun _ h9 => h9) tyX9 tyX9_ok nmX9 hown hK hP hD hS 1 rfl rfl 3 (by decide) (wd_189 hE) (fun _ h9 => h9) rfl (by decide +kernel) rfl rfl (Nat.le_of_ble_eq_true rfl) dX9_cut_17 (fun H locs hP hD hS => ?_)
  have hP : va_P (dC, dI) vwCl [(a1, .inl (k0, 700, .inl (fun _ => 0))), (a0, .inr (8, [.ref a2, .ref a3, .ref a4, .int 0, .ref a1, .int 0]))] H := hP
  have hD : va_D A [(a1, .inl (k0, 700, .inl (fun _ => 0))), (a0, .inr (8, [.ref a2, .ref a3, .ref a4, .int 0, .ref a1, .int 0]))] := hD
  refine lv_iconst (v := 0) hx hb dX9_cut_20 (by decide) ?_
  refine lv_istore_n (lv' := [(3, .int 0), (0, .ref a0), (1, .ref a1), (2, .int 0)]) hx hb dX9_cut_21 rfl hl (by decide) rfl (fun ls hl => ?_)
  refine lv_iload_n hx hb dX9_cut_22 rfl (lv_at hl 0 rfl) ?_
  refine lv_aload_n hx hb dX9_cut_23 rfl (lv_at hl 1 rfl) ?_
  refine va_get (D := (dC, dI)) (ci := 8) (v := .int 0) (C := RX9) (T := TX9) (N := 6) hx hb (ly_X9 hE) (fun _ h9 => h9) hown hK hP 1 rfl rfl 5 (by decide) (wd_191 hE) (fun _ h9 => h9) rfl dX9_cut_24 ?_
  refine lv_icmp_ge (tgt := 77) hx hb dX9_cut_27 (by decide) (fun c1 => ?_) (fun c1 => absurd c1 (by decide))
  have hP9 := hP.sub (ws' := [(a1, .inl (k0, 700, .inl (fun _ => 0))), (a0, .inr (8, [.ref a2, .ref a3, .ref a4, .int 0, .ref a1, .int 0]))]) [0, 1] rfl
  have hD9 := hD.sub (ws' := [(a1, .inl (k0, 700, .inl (fun _ => 0))), (a0, .inr (8, [.ref a2, .ref a3, .ref a4, .int 0, .ref a1, .int 0]))]) [0, 1] (by decide) rfl
  have hK9 := hK.sub (tys' := []) [] rfl
  refine W.widen (k := 0) (n := 0) (Nat.le_of_ble_eq_true rfl) (Nat.le_of_ble_eq_true rfl) ?_
  exact W.vret hx hb hr (fun t ht hW => ⟨⟨(), rfl, trivial, by rw [ht]; exact hP9, va_K.moved hW.alike hK9, hD9⟩, hS.F ht⟩) hS.2.2 dX9_cut_77

set_option maxHeartbeats 4000000 in
set_option maxRecDepth 100000 in
theorem c_X9_kindAt (l : Launch) (dC : Nat → ClassId) (dI : Nat → Nat → Nat) (sz : Nat)  (a0 a1 a2 a3 a4 : Nat)  : Met l yX9_kindAt [.code yX9_kindAt cX9_kindAt 2 (some .int)] ({ frames := 0, cells := 0, slots := 0, locals := 0 }) (PcE [.ref a0, .int 0] sz dC dI [] [(a0, .inr (8, [.ref a1, .ref a2, .ref a3, .int 0, .ref a4, .int 0]))]) (va_Qi (fun (r : Int32) (u : Unit) => r = 0) (Bw dC dI (va_A [(a0, .inr (8, [.ref a1, .ref a2, .ref a3, .int 0, .ref a4, .int 0]))] sz) (fun (u : Unit) => []) (fun (u : Unit) => [(a0, .inr (8, [.ref a1, .ref a2, .ref a3, .int 0, .ref a4, .int 0]))])) (va_A [(a0, .inr (8, [.ref a1, .ref a2, .ref a3, .int 0, .ref a4, .int 0]))] sz)) 0 0 (va_A [(a0, .inr (8, [.ref a1, .ref a2, .ref a3, .int 0, .ref a4, .int 0]))] sz) := by
  refine Met.ofW (cc := cX9_kindAt) (maxL := 2) (ret := (some .int)) (by decide) rfl ?_
  intro p e s m args below meth c s₁ B hml hv
  obtain ⟨rfl, hsz, hP, hK, hD0, hE⟩ := hv
  have hx := B.exec
  have hb := B.bytes
  have hr := B.returns
  have hown : s.vm.findClass RX9 = some m.cls := findClass_of_methodNamed B.named
  have hlocks := B.notSynchronized
  subst hsz
  have hD := hD0.self (sz := s.heap.size)
  generalize hAe : va_A [(a0, .inr (8, [.ref a1, .ref a2, .ref a3, .int 0, .ref a4, .int 0]))] s.heap.size = A at hD ⊢
  have hA : ∀ q : Nat, s.heap.size ≤ q → A q := fun q h => by rw [← hAe]; exact Or.inr h
  have hS : va_S A s.heap s.heap [] := va_S.rf
  have hl := lv_entry ([.ref a0, .int 0]) (n := 2) (Nat.le_of_ble_eq_true rfl)
  rw [lg_entry_eq]
  generalize (lg_sl ([.ref a0, .int 0]) ++ List.replicate (2 - (lg_sl ([.ref a0, .int 0])).length) Slot.unset).toArray = ls at hl ⊢
  have hl : lv_has ls 2 [(0, .ref a0), (1, .int 0)] := hl
  refine lv_iload_n hx hb dX9_kindAt_0 rfl (lv_at hl 1 rfl) ?_
  refine lv_if_lt (tgt := 21) hx hb dX9_kindAt_1 (by decide) (fun c1 => absurd c1 (by decide)) (fun c1 => ?_)
  refine lv_iload_n hx hb dX9_kindAt_4 rfl (lv_at hl 1 rfl) ?_
  refine lv_aload_n hx hb dX9_kindAt_5 rfl (lv_at hl 0 rfl) ?_
  refine va_get (D := (dC, dI)) (ci := 8) (v := .int 0) (C := RX9) (T := TX9) (N := 6) hx hb (ly_X9 hE) (fun _ h9 => h9) hown hK hP 0 rfl rfl 3 (by decide) (wd_189 hE) (fun _ h9 => h9) rfl dX9_kindAt_6 ?_
  refine lv_icmp_ge (tgt := 21) hx hb dX9_kindAt_9 (by decide) (fun c2 => ?_) (fun c2 => absurd c2 (by decide))
  refine lv_iconst (v := 0) hx hb dX9_kindAt_21 (by decide) ?_
  refine lv_goto (tgt := 31) hx hb dX9_kindAt_22 (by decide) ?_
  have hP9 := hP.sub (ws' := [(a0, .inr (8, [.ref a1, .ref a2, .ref a3, .int 0, .ref a4, .int 0]))]) [0] rfl
  have hD9 := hD.sub (ws' := [(a0, .inr (8, [.ref a1, .ref a2, .ref a3, .int 0, .ref a4, .int 0]))]) [0] (by decide) rfl
  have hK9 := hK.sub (tys' := []) [] rfl
  refine W.widen (k := 0) (n := 0) (Nat.le_of_ble_eq_true rfl) (Nat.le_of_ble_eq_true rfl) ?_
  exact W.iret (v := 0) hx hb hr (fun t ht hW => ⟨⟨0, (), rfl, rfl, by rw [ht]; exact hP9, va_K.moved hW.alike hK9, hD9⟩, hS.F ht⟩) hS.2.2 dX9_kindAt_31

set_option maxHeartbeats 4000000 in
set_option maxRecDepth 100000 in
theorem c_X6_setLeast (l : Launch) (dC : Nat → ClassId) (dI : Nat → Nat → Nat) (sz : Nat)  (a0 a1 : Nat) (k0 : ClassId)  : Met l yX6_setLeast [.code yX6_setLeast cX6_setLeast 3 none] ({ frames := 0, cells := 0, slots := 0, locals := 0 }) (PcE [.ref a0, .int 0, .int 0] sz dC dI [(k0, .int)] [(a0, .inr (5, [.ref a1, .long 0, .long 1])), (a1, .inl (k0, 6, .inl (fun _ => 0)))]) (va_Qv (fun (u : Unit) => True) (Bw dC dI (va_A [(a0, .inr (5, [.ref a1, .long 0, .long 1])), (a1, .inl (k0, 6, .inl (fun _ => 0)))] sz) (fun (u : Unit) => []) (fun (u : Unit) => [(a0, .inr (5, [.ref a1, .long 0, .long 1])), (a1, .inl (k0, 6, .inl (fun _ => 0)))])) (va_A [(a0, .inr (5, [.ref a1, .long 0, .long 1])), (a1, .inl (k0, 6, .inl (fun _ => 0)))] sz)) 0 0 (va_A [(a0, .inr (5, [.ref a1, .long 0, .long 1])), (a1, .inl (k0, 6, .inl (fun _ => 0)))] sz) := by
  refine Met.ofW (cc := cX6_setLeast) (maxL := 3) (ret := none) (by decide) rfl ?_
  intro p e s m args below meth c s₁ B hml hv
  obtain ⟨rfl, hsz, hP, hK, hD0, hE⟩ := hv
  have hx := B.exec
  have hb := B.bytes
  have hr := B.returns
  have hown : s.vm.findClass RX6 = some m.cls := findClass_of_methodNamed B.named
  have hlocks := B.notSynchronized
  subst hsz
  have hD := hD0.self (sz := s.heap.size)
  generalize hAe : va_A [(a0, .inr (5, [.ref a1, .long 0, .long 1])), (a1, .inl (k0, 6, .inl (fun _ => 0)))] s.heap.size = A at hD ⊢
  have hA : ∀ q : Nat, s.heap.size ≤ q → A q := fun q h => by rw [← hAe]; exact Or.inr h
  have hS : va_S A s.heap s.heap [] := va_S.rf
  have hl := lv_entry ([.ref a0, .int 0, .int 0]) (n := 3) (Nat.le_of_ble_eq_true rfl)
  rw [lg_entry_eq]
  generalize (lg_sl ([.ref a0, .int 0, .int 0]) ++ List.replicate (3 - (lg_sl ([.ref a0, .int 0, .int 0])).length) Slot.unset).toArray = ls at hl ⊢
  have hl : lv_has ls 3 [(0, .ref a0), (1, .int 0), (2, .int 0)] := hl
  refine lv_iload_n hx hb dX6_setLeast_0 rfl (lv_at hl 1 rfl) ?_
  refine lv_if_lt (tgt := 20) hx hb dX6_setLeast_1 (by decide) (fun c1 => absurd c1 (by decide)) (fun c1 => ?_)
  refine lv_iload_n hx hb dX6_setLeast_4 rfl (lv_at hl 1 rfl) ?_
  refine lv_aload_n hx hb dX6_setLeast_5 rfl (lv_at hl 0 rfl) ?_
  refine va_get (D := (dC, dI)) (ci := 5) (v := .ref a1) (C := RX6) (T := TX6) (N := 3) hx hb (ly_X6 hE) (fun _ h9 => h9) hown hK hP 0 rfl rfl 0 (by decide) (wd_338 hE) (fun _ h9 => h9) rfl dX6_setLeast_6 ?_
  refine va_alen (v := 6) hx hb hK hP 1 0 rfl rfl rfl dX6_setLeast_9 ?_
  refine lv_icmp_ge (tgt := 20) hx hb dX6_setLeast_10 (by decide) (fun c2 => absurd c2 (by decide)) (fun c2 => ?_)
  refine lv_aload_n hx hb dX6_setLeast_13 rfl (lv_at hl 0 rfl) ?_
  refine va_get (D := (dC, dI)) (ci := 5) (v := .ref a1) (C := RX6) (T := TX6) (N := 3) hx hb (ly_X6 hE) (fun _ h9 => h9) hown hK hP 0 rfl rfl 0 (by decide) (wd_338 hE) (fun _ h9 => h9) rfl dX6_setLeast_14 ?_
  refine lv_iload_n hx hb dX6_setLeast_17 rfl (lv_at hl 1 rfl) ?_
  refine lv_iload_n hx hb dX6_setLeast_18 rfl (lv_at hl 2 rfl) ?_
  refine va_iast hx hb hK hP hD hS 1 0 rfl rfl (by unfold vp_in; decide) dX6_setLeast_19 (fun H locs hP hD hS => ?_)
  rw [zz_upd] at hP hD
  have hP : va_P (dC, dI) vwCl [(a0, .inr (5, [.ref a1, .long 0, .long 1])), (a1, .inl (k0, 6, .inl (fun _ => 0)))] H := hP
  have hD : va_D A [(a0, .inr (5, [.ref a1, .long 0, .long 1])), (a1, .inl (k0, 6, .inl (fun _ => 0)))] := hD
  have hP9 := hP.sub (ws' := [(a0, .inr (5, [.ref a1, .long 0, .long 1])), (a1, .inl (k0, 6, .inl (fun _ => 0)))]) [0, 1] rfl
  have hD9 := hD.sub (ws' := [(a0, .inr (5, [.ref a1, .long 0, .long 1])), (a1, .inl (k0, 6, .inl (fun _ => 0)))]) [0, 1] (by decide) rfl
  have hK9 := hK.sub (tys' := []) [] rfl
  refine W.widen (k := 0) (n := 0) (Nat.le_of_ble_eq_true rfl) (Nat.le_of_ble_eq_true rfl) ?_
  exact W.vret hx hb hr (fun t ht hW => ⟨⟨(), rfl, trivial, by rw [ht]; exact hP9, va_K.moved hW.alike hK9, hD9⟩, hS.F ht⟩) hS.2.2 dX6_setLeast_20

set_option maxHeartbeats 4000000 in
set_option maxRecDepth 100000 in
theorem c_X6_setLeast_2 (l : Launch) (dC : Nat → ClassId) (dI : Nat → Nat → Nat) (sz : Nat)  (a0 a1 : Nat) (k0 : ClassId)  : Met l yX6_setLeast [.code yX6_setLeast cX6_setLeast 3 none] ({ frames := 0, cells := 0, slots := 0, locals := 0 }) (PcE [.ref a0, .int 1, .int 1] sz dC dI [(k0, .int)] [(a0, .inr (5, [.ref a1, .long 0, .long 1])), (a1, .inl (k0, 6, .inl (fun _ => 0)))]) (va_Qv (fun (u : Unit) => True) (Bw dC dI (va_A [(a0, .inr (5, [.ref a1, .long 0, .long 1])), (a1, .inl (k0, 6, .inl (fun _ => 0)))] sz) (fun (u : Unit) => []) (fun (u : Unit) => [(a0, .inr (5, [.ref a1, .long 0, .long 1])), (a1, .inl (k0, 6, .inl (upd (fun _ => 0) 1 1)))])) (va_A [(a0, .inr (5, [.ref a1, .long 0, .long 1])), (a1, .inl (k0, 6, .inl (fun _ => 0)))] sz)) 0 0 (va_A [(a0, .inr (5, [.ref a1, .long 0, .long 1])), (a1, .inl (k0, 6, .inl (fun _ => 0)))] sz) := by
  refine Met.ofW (cc := cX6_setLeast) (maxL := 3) (ret := none) (by decide) rfl ?_
  intro p e s m args below meth c s₁ B hml hv
  obtain ⟨rfl, hsz, hP, hK, hD0, hE⟩ := hv
  have hx := B.exec
  have hb := B.bytes
  have hr := B.returns
  have hown : s.vm.findClass RX6 = some m.cls := findClass_of_methodNamed B.named
  have hlocks := B.notSynchronized
  subst hsz
  have hD := hD0.self (sz := s.heap.size)
  generalize hAe : va_A [(a0, .inr (5, [.ref a1, .long 0, .long 1])), (a1, .inl (k0, 6, .inl (fun _ => 0)))] s.heap.size = A at hD ⊢
  have hA : ∀ q : Nat, s.heap.size ≤ q → A q := fun q h => by rw [← hAe]; exact Or.inr h
  have hS : va_S A s.heap s.heap [] := va_S.rf
  have hl := lv_entry ([.ref a0, .int 1, .int 1]) (n := 3) (Nat.le_of_ble_eq_true rfl)
  rw [lg_entry_eq]
  generalize (lg_sl ([.ref a0, .int 1, .int 1]) ++ List.replicate (3 - (lg_sl ([.ref a0, .int 1, .int 1])).length) Slot.unset).toArray = ls at hl ⊢
  have hl : lv_has ls 3 [(0, .ref a0), (1, .int 1), (2, .int 1)] := hl
  refine lv_iload_n hx hb dX6_setLeast_0 rfl (lv_at hl 1 rfl) ?_
  refine lv_if_lt (tgt := 20) hx hb dX6_setLeast_1 (by decide) (fun c1 => absurd c1 (by decide)) (fun c1 => ?_)
  refine lv_iload_n hx hb dX6_setLeast_4 rfl (lv_at hl 1 rfl) ?_
  refine lv_aload_n hx hb dX6_setLeast_5 rfl (lv_at hl 0 rfl) ?_
  refine va_get (D := (dC, dI)) (ci := 5) (v := .ref a1) (C := RX6) (T := TX6) (N := 3) hx hb (ly_X6 hE) (fun _ h9 => h9) hown hK hP 0 rfl rfl 0 (by decide) (wd_338 hE) (fun _ h9 => h9) rfl dX6_setLeast_6 ?_
  refine va_alen (v := 6) hx hb hK hP 1 0 rfl rfl rfl dX6_setLeast_9 ?_
  refine lv_icmp_ge (tgt := 20) hx hb dX6_setLeast_10 (by decide) (fun c2 => absurd c2 (by decide)) (fun c2 => ?_)
  refine lv_aload_n hx hb dX6_setLeast_13 rfl (lv_at hl 0 rfl) ?_
  refine va_get (D := (dC, dI)) (ci := 5) (v := .ref a1) (C := RX6) (T := TX6) (N := 3) hx hb (ly_X6 hE) (fun _ h9 => h9) hown hK hP 0 rfl rfl 0 (by decide) (wd_338 hE) (fun _ h9 => h9) rfl dX6_setLeast_14 ?_
  refine lv_iload_n hx hb dX6_setLeast_17 rfl (lv_at hl 1 rfl) ?_
  refine lv_iload_n hx hb dX6_setLeast_18 rfl (lv_at hl 2 rfl) ?_
  refine va_iast hx hb hK hP hD hS 1 0 rfl rfl (by unfold vp_in; decide) dX6_setLeast_19 (fun H locs hP hD hS => ?_)
  have hP : va_P (dC, dI) vwCl [(a0, .inr (5, [.ref a1, .long 0, .long 1])), (a1, .inl (k0, 6, .inl (upd (fun _ => 0) 1 1)))] H := hP
  have hD : va_D A [(a0, .inr (5, [.ref a1, .long 0, .long 1])), (a1, .inl (k0, 6, .inl (upd (fun _ => 0) 1 1)))] := hD
  have hP9 := hP.sub (ws' := [(a0, .inr (5, [.ref a1, .long 0, .long 1])), (a1, .inl (k0, 6, .inl (upd (fun _ => 0) 1 1)))]) [0, 1] rfl
  have hD9 := hD.sub (ws' := [(a0, .inr (5, [.ref a1, .long 0, .long 1])), (a1, .inl (k0, 6, .inl (upd (fun _ => 0) 1 1)))]) [0, 1] (by decide) rfl
  have hK9 := hK.sub (tys' := []) [] rfl
  refine W.widen (k := 0) (n := 0) (Nat.le_of_ble_eq_true rfl) (Nat.le_of_ble_eq_true rfl) ?_
  exact W.vret hx hb hr (fun t ht hW => ⟨⟨(), rfl, trivial, by rw [ht]; exact hP9, va_K.moved hW.alike hK9, hD9⟩, hS.F ht⟩) hS.2.2 dX6_setLeast_20

set_option maxHeartbeats 4000000 in
set_option maxRecDepth 100000 in
theorem c_X6_setLeast_3 (l : Launch) (dC : Nat → ClassId) (dI : Nat → Nat → Nat) (sz : Nat)  (a0 a1 : Nat) (k0 : ClassId) (f0 : Nat → Int32)  : Met l yX6_setLeast [.code yX6_setLeast cX6_setLeast 3 none] ({ frames := 0, cells := 0, slots := 0, locals := 0 }) (PcE [.ref a0, .int 2, .int 2] sz dC dI [(k0, .int)] [(a0, .inr (5, [.ref a1, .long 0, .long 1])), (a1, .inl (k0, 6, .inl f0))]) (va_Qv (fun (u : Unit) => True) (Bw dC dI (va_A [(a0, .inr (5, [.ref a1, .long 0, .long 1])), (a1, .inl (k0, 6, .inl f0))] sz) (fun (u : Unit) => []) (fun (u : Unit) => [(a0, .inr (5, [.ref a1, .long 0, .long 1])), (a1, .inl (k0, 6, .inl (upd (f0) 2 2)))])) (va_A [(a0, .inr (5, [.ref a1, .long 0, .long 1])), (a1, .inl (k0, 6, .inl f0))] sz)) 0 0 (va_A [(a0, .inr (5, [.ref a1, .long 0, .long 1])), (a1, .inl (k0, 6, .inl f0))] sz) := by
  refine Met.ofW (cc := cX6_setLeast) (maxL := 3) (ret := none) (by decide) rfl ?_
  intro p e s m args below meth c s₁ B hml hv
  obtain ⟨rfl, hsz, hP, hK, hD0, hE⟩ := hv
  have hx := B.exec
  have hb := B.bytes
  have hr := B.returns
  have hown : s.vm.findClass RX6 = some m.cls := findClass_of_methodNamed B.named
  have hlocks := B.notSynchronized
  subst hsz
  have hD := hD0.self (sz := s.heap.size)
  generalize hAe : va_A [(a0, .inr (5, [.ref a1, .long 0, .long 1])), (a1, .inl (k0, 6, .inl f0))] s.heap.size = A at hD ⊢
  have hA : ∀ q : Nat, s.heap.size ≤ q → A q := fun q h => by rw [← hAe]; exact Or.inr h
  have hS : va_S A s.heap s.heap [] := va_S.rf
  have hl := lv_entry ([.ref a0, .int 2, .int 2]) (n := 3) (Nat.le_of_ble_eq_true rfl)
  rw [lg_entry_eq]
  generalize (lg_sl ([.ref a0, .int 2, .int 2]) ++ List.replicate (3 - (lg_sl ([.ref a0, .int 2, .int 2])).length) Slot.unset).toArray = ls at hl ⊢
  have hl : lv_has ls 3 [(0, .ref a0), (1, .int 2), (2, .int 2)] := hl
  refine lv_iload_n hx hb dX6_setLeast_0 rfl (lv_at hl 1 rfl) ?_
  refine lv_if_lt (tgt := 20) hx hb dX6_setLeast_1 (by decide) (fun c1 => absurd c1 (by decide)) (fun c1 => ?_)
  refine lv_iload_n hx hb dX6_setLeast_4 rfl (lv_at hl 1 rfl) ?_
  refine lv_aload_n hx hb dX6_setLeast_5 rfl (lv_at hl 0 rfl) ?_
  refine va_get (D := (dC, dI)) (ci := 5) (v := .ref a1) (C := RX6) (T := TX6) (N := 3) hx hb (ly_X6 hE) (fun _ h9 => h9) hown hK hP 0 rfl rfl 0 (by decide) (wd_338 hE) (fun _ h9 => h9) rfl dX6_setLeast_6 ?_
  refine va_alen (v := 6) hx hb hK hP 1 0 rfl rfl rfl dX6_setLeast_9 ?_
  refine lv_icmp_ge (tgt := 20) hx hb dX6_setLeast_10 (by decide) (fun c2 => absurd c2 (by decide)) (fun c2 => ?_)
  refine lv_aload_n hx hb dX6_setLeast_13 rfl (lv_at hl 0 rfl) ?_
  refine va_get (D := (dC, dI)) (ci := 5) (v := .ref a1) (C := RX6) (T := TX6) (N := 3) hx hb (ly_X6 hE) (fun _ h9 => h9) hown hK hP 0 rfl rfl 0 (by decide) (wd_338 hE) (fun _ h9 => h9) rfl dX6_setLeast_14 ?_
  refine lv_iload_n hx hb dX6_setLeast_17 rfl (lv_at hl 1 rfl) ?_
  refine lv_iload_n hx hb dX6_setLeast_18 rfl (lv_at hl 2 rfl) ?_
  refine va_iast hx hb hK hP hD hS 1 0 rfl rfl (by unfold vp_in; decide) dX6_setLeast_19 (fun H locs hP hD hS => ?_)
  have hP : va_P (dC, dI) vwCl [(a0, .inr (5, [.ref a1, .long 0, .long 1])), (a1, .inl (k0, 6, .inl (upd (f0) 2 2)))] H := hP
  have hD : va_D A [(a0, .inr (5, [.ref a1, .long 0, .long 1])), (a1, .inl (k0, 6, .inl (upd (f0) 2 2)))] := hD
  have hP9 := hP.sub (ws' := [(a0, .inr (5, [.ref a1, .long 0, .long 1])), (a1, .inl (k0, 6, .inl (upd (f0) 2 2)))]) [0, 1] rfl
  have hD9 := hD.sub (ws' := [(a0, .inr (5, [.ref a1, .long 0, .long 1])), (a1, .inl (k0, 6, .inl (upd (f0) 2 2)))]) [0, 1] (by decide) rfl
  have hK9 := hK.sub (tys' := []) [] rfl
  refine W.widen (k := 0) (n := 0) (Nat.le_of_ble_eq_true rfl) (Nat.le_of_ble_eq_true rfl) ?_
  exact W.vret hx hb hr (fun t ht hW => ⟨⟨(), rfl, trivial, by rw [ht]; exact hP9, va_K.moved hW.alike hK9, hD9⟩, hS.F ht⟩) hS.2.2 dX6_setLeast_20

set_option maxHeartbeats 4000000 in
set_option maxRecDepth 100000 in
theorem c_X6_setLeast_4 (l : Launch) (dC : Nat → ClassId) (dI : Nat → Nat → Nat) (sz : Nat)  (a0 a1 : Nat) (k0 : ClassId) (f0 : Nat → Int32)  : Met l yX6_setLeast [.code yX6_setLeast cX6_setLeast 3 none] ({ frames := 0, cells := 0, slots := 0, locals := 0 }) (PcE [.ref a0, .int 3, .int 3] sz dC dI [(k0, .int)] [(a0, .inr (5, [.ref a1, .long 0, .long 1])), (a1, .inl (k0, 6, .inl f0))]) (va_Qv (fun (u : Unit) => True) (Bw dC dI (va_A [(a0, .inr (5, [.ref a1, .long 0, .long 1])), (a1, .inl (k0, 6, .inl f0))] sz) (fun (u : Unit) => []) (fun (u : Unit) => [(a0, .inr (5, [.ref a1, .long 0, .long 1])), (a1, .inl (k0, 6, .inl (upd (f0) 3 3)))])) (va_A [(a0, .inr (5, [.ref a1, .long 0, .long 1])), (a1, .inl (k0, 6, .inl f0))] sz)) 0 0 (va_A [(a0, .inr (5, [.ref a1, .long 0, .long 1])), (a1, .inl (k0, 6, .inl f0))] sz) := by
  refine Met.ofW (cc := cX6_setLeast) (maxL := 3) (ret := none) (by decide) rfl ?_
  intro p e s m args below meth c s₁ B hml hv
  obtain ⟨rfl, hsz, hP, hK, hD0, hE⟩ := hv
  have hx := B.exec
  have hb := B.bytes
  have hr := B.returns
  have hown : s.vm.findClass RX6 = some m.cls := findClass_of_methodNamed B.named
  have hlocks := B.notSynchronized
  subst hsz
  have hD := hD0.self (sz := s.heap.size)
  generalize hAe : va_A [(a0, .inr (5, [.ref a1, .long 0, .long 1])), (a1, .inl (k0, 6, .inl f0))] s.heap.size = A at hD ⊢
  have hA : ∀ q : Nat, s.heap.size ≤ q → A q := fun q h => by rw [← hAe]; exact Or.inr h
  have hS : va_S A s.heap s.heap [] := va_S.rf
  have hl := lv_entry ([.ref a0, .int 3, .int 3]) (n := 3) (Nat.le_of_ble_eq_true rfl)
  rw [lg_entry_eq]
  generalize (lg_sl ([.ref a0, .int 3, .int 3]) ++ List.replicate (3 - (lg_sl ([.ref a0, .int 3, .int 3])).length) Slot.unset).toArray = ls at hl ⊢
  have hl : lv_has ls 3 [(0, .ref a0), (1, .int 3), (2, .int 3)] := hl
  refine lv_iload_n hx hb dX6_setLeast_0 rfl (lv_at hl 1 rfl) ?_
  refine lv_if_lt (tgt := 20) hx hb dX6_setLeast_1 (by decide) (fun c1 => absurd c1 (by decide)) (fun c1 => ?_)
  refine lv_iload_n hx hb dX6_setLeast_4 rfl (lv_at hl 1 rfl) ?_
  refine lv_aload_n hx hb dX6_setLeast_5 rfl (lv_at hl 0 rfl) ?_
  refine va_get (D := (dC, dI)) (ci := 5) (v := .ref a1) (C := RX6) (T := TX6) (N := 3) hx hb (ly_X6 hE) (fun _ h9 => h9) hown hK hP 0 rfl rfl 0 (by decide) (wd_338 hE) (fun _ h9 => h9) rfl dX6_setLeast_6 ?_
  refine va_alen (v := 6) hx hb hK hP 1 0 rfl rfl rfl dX6_setLeast_9 ?_
  refine lv_icmp_ge (tgt := 20) hx hb dX6_setLeast_10 (by decide) (fun c2 => absurd c2 (by decide)) (fun c2 => ?_)
  refine lv_aload_n hx hb dX6_setLeast_13 rfl (lv_at hl 0 rfl) ?_
  refine va_get (D := (dC, dI)) (ci := 5) (v := .ref a1) (C := RX6) (T := TX6) (N := 3) hx hb (ly_X6 hE) (fun _ h9 => h9) hown hK hP 0 rfl rfl 0 (by decide) (wd_338 hE) (fun _ h9 => h9) rfl dX6_setLeast_14 ?_
  refine lv_iload_n hx hb dX6_setLeast_17 rfl (lv_at hl 1 rfl) ?_
  refine lv_iload_n hx hb dX6_setLeast_18 rfl (lv_at hl 2 rfl) ?_
  refine va_iast hx hb hK hP hD hS 1 0 rfl rfl (by unfold vp_in; decide) dX6_setLeast_19 (fun H locs hP hD hS => ?_)
  have hP : va_P (dC, dI) vwCl [(a0, .inr (5, [.ref a1, .long 0, .long 1])), (a1, .inl (k0, 6, .inl (upd (f0) 3 3)))] H := hP
  have hD : va_D A [(a0, .inr (5, [.ref a1, .long 0, .long 1])), (a1, .inl (k0, 6, .inl (upd (f0) 3 3)))] := hD
  have hP9 := hP.sub (ws' := [(a0, .inr (5, [.ref a1, .long 0, .long 1])), (a1, .inl (k0, 6, .inl (upd (f0) 3 3)))]) [0, 1] rfl
  have hD9 := hD.sub (ws' := [(a0, .inr (5, [.ref a1, .long 0, .long 1])), (a1, .inl (k0, 6, .inl (upd (f0) 3 3)))]) [0, 1] (by decide) rfl
  have hK9 := hK.sub (tys' := []) [] rfl
  refine W.widen (k := 0) (n := 0) (Nat.le_of_ble_eq_true rfl) (Nat.le_of_ble_eq_true rfl) ?_
  exact W.vret hx hb hr (fun t ht hW => ⟨⟨(), rfl, trivial, by rw [ht]; exact hP9, va_K.moved hW.alike hK9, hD9⟩, hS.F ht⟩) hS.2.2 dX6_setLeast_20

set_option maxHeartbeats 4000000 in
set_option maxRecDepth 100000 in
theorem c_X6_setLeast_5 (l : Launch) (dC : Nat → ClassId) (dI : Nat → Nat → Nat) (sz : Nat)  (a0 a1 : Nat) (k0 : ClassId) (f0 : Nat → Int32)  : Met l yX6_setLeast [.code yX6_setLeast cX6_setLeast 3 none] ({ frames := 0, cells := 0, slots := 0, locals := 0 }) (PcE [.ref a0, .int 4, .int 4] sz dC dI [(k0, .int)] [(a0, .inr (5, [.ref a1, .long 0, .long 1])), (a1, .inl (k0, 6, .inl f0))]) (va_Qv (fun (u : Unit) => True) (Bw dC dI (va_A [(a0, .inr (5, [.ref a1, .long 0, .long 1])), (a1, .inl (k0, 6, .inl f0))] sz) (fun (u : Unit) => []) (fun (u : Unit) => [(a0, .inr (5, [.ref a1, .long 0, .long 1])), (a1, .inl (k0, 6, .inl (upd (f0) 4 4)))])) (va_A [(a0, .inr (5, [.ref a1, .long 0, .long 1])), (a1, .inl (k0, 6, .inl f0))] sz)) 0 0 (va_A [(a0, .inr (5, [.ref a1, .long 0, .long 1])), (a1, .inl (k0, 6, .inl f0))] sz) := by
  refine Met.ofW (cc := cX6_setLeast) (maxL := 3) (ret := none) (by decide) rfl ?_
  intro p e s m args below meth c s₁ B hml hv
  obtain ⟨rfl, hsz, hP, hK, hD0, hE⟩ := hv
  have hx := B.exec
  have hb := B.bytes
  have hr := B.returns
  have hown : s.vm.findClass RX6 = some m.cls := findClass_of_methodNamed B.named
  have hlocks := B.notSynchronized
  subst hsz
  have hD := hD0.self (sz := s.heap.size)
  generalize hAe : va_A [(a0, .inr (5, [.ref a1, .long 0, .long 1])), (a1, .inl (k0, 6, .inl f0))] s.heap.size = A at hD ⊢
  have hA : ∀ q : Nat, s.heap.size ≤ q → A q := fun q h => by rw [← hAe]; exact Or.inr h
  have hS : va_S A s.heap s.heap [] := va_S.rf
  have hl := lv_entry ([.ref a0, .int 4, .int 4]) (n := 3) (Nat.le_of_ble_eq_true rfl)
  rw [lg_entry_eq]
  generalize (lg_sl ([.ref a0, .int 4, .int 4]) ++ List.replicate (3 - (lg_sl ([.ref a0, .int 4, .int 4])).length) Slot.unset).toArray = ls at hl ⊢
  have hl : lv_has ls 3 [(0, .ref a0), (1, .int 4), (2, .int 4)] := hl
  refine lv_iload_n hx hb dX6_setLeast_0 rfl (lv_at hl 1 rfl) ?_
  refine lv_if_lt (tgt := 20) hx hb dX6_setLeast_1 (by decide) (fun c1 => absurd c1 (by decide)) (fun c1 => ?_)
  refine lv_iload_n hx hb dX6_setLeast_4 rfl (lv_at hl 1 rfl) ?_
  refine lv_aload_n hx hb dX6_setLeast_5 rfl (lv_at hl 0 rfl) ?_
  refine va_get (D := (dC, dI)) (ci := 5) (v := .ref a1) (C := RX6) (T := TX6) (N := 3) hx hb (ly_X6 hE) (fun _ h9 => h9) hown hK hP 0 rfl rfl 0 (by decide) (wd_338 hE) (fun _ h9 => h9) rfl dX6_setLeast_6 ?_
  refine va_alen (v := 6) hx hb hK hP 1 0 rfl rfl rfl dX6_setLeast_9 ?_
  refine lv_icmp_ge (tgt := 20) hx hb dX6_setLeast_10 (by decide) (fun c2 => absurd c2 (by decide)) (fun c2 => ?_)
  refine lv_aload_n hx hb dX6_setLeast_13 rfl (lv_at hl 0 rfl) ?_
  refine va_get (D := (dC, dI)) (ci := 5) (v := .ref a1) (C := RX6) (T := TX6) (N := 3) hx hb (ly_X6 hE) (fun _ h9 => h9) hown hK hP 0 rfl rfl 0 (by decide) (wd_338 hE) (fun _ h9 => h9) rfl dX6_setLeast_14 ?_
  refine lv_iload_n hx hb dX6_setLeast_17 rfl (lv_at hl 1 rfl) ?_
  refine lv_iload_n hx hb dX6_setLeast_18 rfl (lv_at hl 2 rfl) ?_
  refine va_iast hx hb hK hP hD hS 1 0 rfl rfl (by unfold vp_in; decide) dX6_setLeast_19 (fun H locs hP hD hS => ?_)
  have hP : va_P (dC, dI) vwCl [(a0, .inr (5, [.ref a1, .long 0, .long 1])), (a1, .inl (k0, 6, .inl (upd (f0) 4 4)))] H := hP
  have hD : va_D A [(a0, .inr (5, [.ref a1, .long 0, .long 1])), (a1, .inl (k0, 6, .inl (upd (f0) 4 4)))] := hD
  have hP9 := hP.sub (ws' := [(a0, .inr (5, [.ref a1, .long 0, .long 1])), (a1, .inl (k0, 6, .inl (upd (f0) 4 4)))]) [0, 1] rfl
  have hD9 := hD.sub (ws' := [(a0, .inr (5, [.ref a1, .long 0, .long 1])), (a1, .inl (k0, 6, .inl (upd (f0) 4 4)))]) [0, 1] (by decide) rfl
  have hK9 := hK.sub (tys' := []) [] rfl
  refine W.widen (k := 0) (n := 0) (Nat.le_of_ble_eq_true rfl) (Nat.le_of_ble_eq_true rfl) ?_
  exact W.vret hx hb hr (fun t ht hW => ⟨⟨(), rfl, trivial, by rw [ht]; exact hP9, va_K.moved hW.alike hK9, hD9⟩, hS.F ht⟩) hS.2.2 dX6_setLeast_20

set_option maxHeartbeats 4000000 in
set_option maxRecDepth 100000 in
theorem c_X6_setLeast_6 (l : Launch) (dC : Nat → ClassId) (dI : Nat → Nat → Nat) (sz : Nat)  (a0 a1 : Nat) (k0 : ClassId) (f0 : Nat → Int32)  : Met l yX6_setLeast [.code yX6_setLeast cX6_setLeast 3 none] ({ frames := 0, cells := 0, slots := 0, locals := 0 }) (PcE [.ref a0, .int 5, .int 5] sz dC dI [(k0, .int)] [(a0, .inr (5, [.ref a1, .long 0, .long 1])), (a1, .inl (k0, 6, .inl f0))]) (va_Qv (fun (u : Unit) => True) (Bw dC dI (va_A [(a0, .inr (5, [.ref a1, .long 0, .long 1])), (a1, .inl (k0, 6, .inl f0))] sz) (fun (u : Unit) => []) (fun (u : Unit) => [(a0, .inr (5, [.ref a1, .long 0, .long 1])), (a1, .inl (k0, 6, .inl (upd (f0) 5 5)))])) (va_A [(a0, .inr (5, [.ref a1, .long 0, .long 1])), (a1, .inl (k0, 6, .inl f0))] sz)) 0 0 (va_A [(a0, .inr (5, [.ref a1, .long 0, .long 1])), (a1, .inl (k0, 6, .inl f0))] sz) := by
  refine Met.ofW (cc := cX6_setLeast) (maxL := 3) (ret := none) (by decide) rfl ?_
  intro p e s m args below meth c s₁ B hml hv
  obtain ⟨rfl, hsz, hP, hK, hD0, hE⟩ := hv
  have hx := B.exec
  have hb := B.bytes
  have hr := B.returns
  have hown : s.vm.findClass RX6 = some m.cls := findClass_of_methodNamed B.named
  have hlocks := B.notSynchronized
  subst hsz
  have hD := hD0.self (sz := s.heap.size)
  generalize hAe : va_A [(a0, .inr (5, [.ref a1, .long 0, .long 1])), (a1, .inl (k0, 6, .inl f0))] s.heap.size = A at hD ⊢
  have hA : ∀ q : Nat, s.heap.size ≤ q → A q := fun q h => by rw [← hAe]; exact Or.inr h
  have hS : va_S A s.heap s.heap [] := va_S.rf
  have hl := lv_entry ([.ref a0, .int 5, .int 5]) (n := 3) (Nat.le_of_ble_eq_true rfl)
  rw [lg_entry_eq]
  generalize (lg_sl ([.ref a0, .int 5, .int 5]) ++ List.replicate (3 - (lg_sl ([.ref a0, .int 5, .int 5])).length) Slot.unset).toArray = ls at hl ⊢
  have hl : lv_has ls 3 [(0, .ref a0), (1, .int 5), (2, .int 5)] := hl
  refine lv_iload_n hx hb dX6_setLeast_0 rfl (lv_at hl 1 rfl) ?_
  refine lv_if_lt (tgt := 20) hx hb dX6_setLeast_1 (by decide) (fun c1 => absurd c1 (by decide)) (fun c1 => ?_)
  refine lv_iload_n hx hb dX6_setLeast_4 rfl (lv_at hl 1 rfl) ?_
  refine lv_aload_n hx hb dX6_setLeast_5 rfl (lv_at hl 0 rfl) ?_
  refine va_get (D := (dC, dI)) (ci := 5) (v := .ref a1) (C := RX6) (T := TX6) (N := 3) hx hb (ly_X6 hE) (fun _ h9 => h9) hown hK hP 0 rfl rfl 0 (by decide) (wd_338 hE) (fun _ h9 => h9) rfl dX6_setLeast_6 ?_
  refine va_alen (v := 6) hx hb hK hP 1 0 rfl rfl rfl dX6_setLeast_9 ?_
  refine lv_icmp_ge (tgt := 20) hx hb dX6_setLeast_10 (by decide) (fun c2 => absurd c2 (by decide)) (fun c2 => ?_)
  refine lv_aload_n hx hb dX6_setLeast_13 rfl (lv_at hl 0 rfl) ?_
  refine va_get (D := (dC, dI)) (ci := 5) (v := .ref a1) (C := RX6) (T := TX6) (N := 3) hx hb (ly_X6 hE) (fun _ h9 => h9) hown hK hP 0 rfl rfl 0 (by decide) (wd_338 hE) (fun _ h9 => h9) rfl dX6_setLeast_14 ?_
  refine lv_iload_n hx hb dX6_setLeast_17 rfl (lv_at hl 1 rfl) ?_
  refine lv_iload_n hx hb dX6_setLeast_18 rfl (lv_at hl 2 rfl) ?_
  refine va_iast hx hb hK hP hD hS 1 0 rfl rfl (by unfold vp_in; decide) dX6_setLeast_19 (fun H locs hP hD hS => ?_)
  have hP : va_P (dC, dI) vwCl [(a0, .inr (5, [.ref a1, .long 0, .long 1])), (a1, .inl (k0, 6, .inl (upd (f0) 5 5)))] H := hP
  have hD : va_D A [(a0, .inr (5, [.ref a1, .long 0, .long 1])), (a1, .inl (k0, 6, .inl (upd (f0) 5 5)))] := hD
  have hP9 := hP.sub (ws' := [(a0, .inr (5, [.ref a1, .long 0, .long 1])), (a1, .inl (k0, 6, .inl (upd (f0) 5 5)))]) [0, 1] rfl
  have hD9 := hD.sub (ws' := [(a0, .inr (5, [.ref a1, .long 0, .long 1])), (a1, .inl (k0, 6, .inl (upd (f0) 5 5)))]) [0, 1] (by decide) rfl
  have hK9 := hK.sub (tys' := []) [] rfl
  refine W.widen (k := 0) (n := 0) (Nat.le_of_ble_eq_true rfl) (Nat.le_of_ble_eq_true rfl) ?_
  exact W.vret hx hb hr (fun t ht hW => ⟨⟨(), rfl, trivial, by rw [ht]; exact hP9, va_K.moved hW.alike hK9, hD9⟩, hS.F ht⟩) hS.2.2 dX6_setLeast_20

set_option maxHeartbeats 4000000 in
set_option maxRecDepth 100000 in
theorem c_X6_join (l : Launch) (dC : Nat → ClassId) (dI : Nat → Nat → Nat) (sz : Nat)  (a0 a1 a2 a3 : Nat) (k0 k1 : ClassId)  : Met l yX6_join [.code yX6_join cX6_join 5 none] ({ frames := 1, cells := 0, slots := 0, locals := 40 }) (PcE [.ref a0, .ref a1] sz dC dI [(k0, .int), (k1, .int)] [(a0, .inr (5, [.ref a2, .long 0, .long 1])), (a2, .inl (k0, 6, .inl (fun _ => 0))), (a1, .inr (6, [.ref a3])), (a3, .inl (k1, 543, .inl (fun _ => 0)))]) (va_Qv (fun (u : Unit) => True) (Bw dC dI (va_A [(a0, .inr (5, [.ref a2, .long 0, .long 1])), (a2, .inl (k0, 6, .inl (fun _ => 0))), (a1, .inr (6, [.ref a3])), (a3, .inl (k1, 543, .inl (fun _ => 0)))] sz) (fun (u : Unit) => []) (fun (u : Unit) => [(a0, .inr (5, [.ref a2, .long 0, .long 1])), (a2, .inl (k0, 6, .inl (upd ((upd ((upd ((upd ((upd (fun _ => 0) 1 1)) 2 2)) 3 3)) 4 4)) 5 5))), (a1, .inr (6, [.ref a3])), (a3, .inl (k1, 543, .inl (fun _ => 0)))])) (va_A [(a0, .inr (5, [.ref a2, .long 0, .long 1])), (a2, .inl (k0, 6, .inl (fun _ => 0))), (a1, .inr (6, [.ref a3])), (a3, .inl (k1, 543, .inl (fun _ => 0)))] sz)) 0 0 (va_A [(a0, .inr (5, [.ref a2, .long 0, .long 1])), (a2, .inl (k0, 6, .inl (fun _ => 0))), (a1, .inr (6, [.ref a3])), (a3, .inl (k1, 543, .inl (fun _ => 0)))] sz) := by
  refine Met.ofW (cc := cX6_join) (maxL := 5) (ret := none) (by decide) rfl ?_
  intro p e s m args below meth c s₁ B hml hv
  obtain ⟨rfl, hsz, hP, hK, hD0, hE⟩ := hv
  have hx := B.exec
  have hb := B.bytes
  have hr := B.returns
  have hown : s.vm.findClass RX6 = some m.cls := findClass_of_methodNamed B.named
  have hlocks := B.notSynchronized
  subst hsz
  have hD := hD0.self (sz := s.heap.size)
  generalize hAe : va_A [(a0, .inr (5, [.ref a2, .long 0, .long 1])), (a2, .inl (k0, 6, .inl (fun _ => 0))), (a1, .inr (6, [.ref a3])), (a3, .inl (k1, 543, .inl (fun _ => 0)))] s.heap.size = A at hD ⊢
  have hA : ∀ q : Nat, s.heap.size ≤ q → A q := fun q h => by rw [← hAe]; exact Or.inr h
  have hS : va_S A s.heap s.heap [] := va_S.rf
  have hl := lv_entry ([.ref a0, .ref a1]) (n := 5) (Nat.le_of_ble_eq_true rfl)
  rw [lg_entry_eq]
  generalize (lg_sl ([.ref a0, .ref a1]) ++ List.replicate (5 - (lg_sl ([.ref a0, .ref a1])).length) Slot.unset).toArray = ls at hl ⊢
  have hl : lv_has ls 5 [(0, .ref a0), (1, .ref a1)] := hl
  refine lv_iconst (v := 0) hx hb dX6_join_0 (by decide) ?_
  refine lv_istore_n (lv' := [(2, .int 0), (0, .ref a0), (1, .ref a1)]) hx hb dX6_join_1 rfl hl (by decide) rfl (fun ls hl => ?_)
  refine lv_iload_n hx hb dX6_join_2 rfl (lv_at hl 0 rfl) ?_
  refine lv_bipush (v := 6) hx hb dX6_join_3 (by decide) ?_
  refine lv_icmp_ge (tgt := 20) hx hb dX6_join_5 (by decide) (fun c1 => absurd c1 (by decide)) (fun c1 => ?_)
  refine lv_aload_n hx hb dX6_join_8 rfl (lv_at hl 1 rfl) ?_
  refine lv_iload_n hx hb dX6_join_9 rfl (lv_at hl 0 rfl) ?_
  refine lv_iload_n hx hb dX6_join_10 rfl (lv_at hl 0 rfl) ?_
  refine cl_v (wc := [(a0, .inr (5, [.ref a2, .long 0, .long 1])), (a2, .inl (k0, 6, .inl (fun _ => 0)))]) (wr := [(a1, .inr (6, [.ref a3])), (a3, .inl (k1, 543, .inl (fun _ => 0)))]) [0, 1] [2, 3] rfl rfl (by decide) (by decide) hK hP hD hS hA (va_runV (As := [.int 0, .int 0]) (rest := []) ⟨hx, hb, hml, hown, noTs⟩ (c_X6_setLeast l dC dI s.heap.size a0 a2 k0) ⟨cbE 2 (wd_778 hE) (wd_124 hE) (wd_775 hE) rfl rfl (by decide +kernel) ⟨Nat.le_of_ble_eq_true rfl, Nat.le_of_ble_eq_true rfl⟩, (wd_777 hE), (wd_25 hE)⟩ ⟨PcE.blind, va_recv hK hP (ci := 5) (q0 := 0) rfl rfl, (pre_E (av := [.ref a0, .int 0, .int 0]) (wc := [(a0, .inr (5, [.ref a2, .long 0, .long 1])), (a2, .inl (k0, 6, .inl (fun _ => 0)))]) (tysc := [(k0, .int)]) [0, 1] [0] rfl (by decide) rfl rfl hK hP hD hE)⟩ rfl rfl hl.1 rfl (lv_room (Nat.le_of_ble_eq_true rfl)) dX6_join_11 ⟨Nat.le_of_ble_eq_true rfl, Nat.le_of_ble_eq_true rfl⟩) (fun u2 H locs hw2 hK hP hD hS => ?_)
  have hK : va_K (dC, dI) vwCl [(k0, .int), (k1, .int)] s := hK
  have hP : va_P (dC, dI) vwCl [(a1, .inr (6, [.ref a3])), (a3, .inl (k1, 543, .inl (fun _ => 0))), (a0, .inr (5, [.ref a2, .long 0, .long 1])), (a2, .inl (k0, 6, .inl (fun _ => 0)))] H := hP
  have hD : va_D A [(a1, .inr (6, [.ref a3])), (a3, .inl (k1, 543, .inl (fun _ => 0))), (a0, .inr (5, [.ref a2, .long 0, .long 1])), (a2, .inl (k0, 6, .inl (fun _ => 0)))] := hD
  refine lv_iinc (v := 1) (lv' := [(2, .int 1), (0, .ref a0), (1, .ref a1)]) hx hb dX6_join_14 hl (k := 0) rfl (by decide) (by decide) rfl (fun ls hl => ?_)
  refine lv_goto (tgt := 2) hx hb dX6_join_17 (by decide) ?_
  refine lv_iload_n hx hb dX6_join_2 rfl (lv_at hl 0 rfl) ?_
  refine lv_bipush (v := 6) hx hb dX6_join_3 (by decide) ?_
  refine lv_icmp_ge (tgt := 20) hx hb dX6_join_5 (by decide) (fun c3 => absurd c3 (by decide)) (fun c3 => ?_)
  refine lv_aload_n hx hb dX6_join_8 rfl (lv_at hl 1 rfl) ?_
  refine lv_iload_n hx hb dX6_join_9 rfl (lv_at hl 0 rfl) ?_
  refine lv_iload_n hx hb dX6_join_10 rfl (lv_at hl 0 rfl) ?_
  refine cl_v (wc := [(a0, .inr (5, [.ref a2, .long 0, .long 1])), (a2, .inl (k0, 6, .inl (fun _ => 0)))]) (wr := [(a1, .inr (6, [.ref a3])), (a3, .inl (k1, 543, .inl (fun _ => 0)))]) [2, 3] [0, 1] rfl rfl (by decide) (by decide) hK hP hD hS hA (va_runV (As := [.int 1, .int 1]) (rest := []) ⟨hx, hb, hml, hown, noTs⟩ (c_X6_setLeast_2 l dC dI H.size a0 a2 k0) ⟨cbE 2 (wd_778 hE) (wd_124 hE) (wd_775 hE) rfl rfl (by decide +kernel) ⟨Nat.le_of_ble_eq_true rfl, Nat.le_of_ble_eq_true rfl⟩, (wd_777 hE), (wd_25 hE)⟩ ⟨PcE.blind, va_recv hK hP (ci := 5) (q0 := 2) rfl rfl, (pre_E (av := [.ref a0, .int 1, .int 1]) (wc := [(a0, .inr (5, [.ref a2, .long 0, .long 1])), (a2, .inl (k0, 6, .inl (fun _ => 0)))]) (tysc := [(k0, .int)]) [2, 3] [0] rfl (by decide) rfl rfl hK hP hD hE)⟩ rfl rfl hl.1 rfl (lv_room (Nat.le_of_ble_eq_true rfl)) dX6_join_11 ⟨Nat.le_of_ble_eq_true rfl, Nat.le_of_ble_eq_true rfl⟩) (fun u4 H locs hw4 hK hP hD hS => ?_)
  have hK : va_K (dC, dI) vwCl [(k0, .int), (k1, .int)] s := hK
  have hP : va_P (dC, dI) vwCl [(a1, .inr (6, [.ref a3])), (a3, .inl (k1, 543, .inl (fun _ => 0))), (a0, .inr (5, [.ref a2, .long 0, .long 1])), (a2, .inl (k0, 6, .inl (upd (fun _ => 0) 1 1)))] H := hP
  have hD : va_D A [(a1, .inr (6, [.ref a3])), (a3, .inl (k1, 543, .inl (fun _ => 0))), (a0, .inr (5, [.ref a2, .long 0, .long 1])), (a2, .inl (k0, 6, .inl (upd (fun _ => 0) 1 1)))] := hD
  refine lv_iinc (v := 2) (lv' := [(2, .int 2), (0, .ref a0), (1, .ref a1)]) hx hb dX6_join_14 hl (k := 0) rfl (by decide) (by decide) rfl (fun ls hl => ?_)
  refine lv_goto (tgt := 2) hx hb dX6_join_17 (by decide) ?_
  refine lv_iload_n hx hb dX6_join_2 rfl (lv_at hl 0 rfl) ?_
  refine lv_bipush (v := 6) hx hb dX6_join_3 (by decide) ?_
  refine lv_icmp_ge (tgt := 20) hx hb dX6_join_5 (by decide) (fun c5 => absurd c5 (by decide)) (fun c5 => ?_)
  refine lv_aload_n hx hb dX6_join_8 rfl (lv_at hl 1 rfl) ?_
  refine lv_iload_n hx hb dX6_join_9 rfl (lv_at hl 0 rfl) ?_
  refine lv_iload_n hx hb dX6_join_10 rfl (lv_at hl 0 rfl) ?_
  refine cl_v (wc := [(a0, .inr (5, [.ref a2, .long 0, .long 1])), (a2, .inl (k0, 6, .inl (upd (fun _ => 0) 1 1)))]) (wr := [(a1, .inr (6, [.ref a3])), (a3, .inl (k1, 543, .inl (fun _ => 0)))]) [2, 3] [0, 1] rfl rfl (by decide) (by decide) hK hP hD hS hA (va_runV (As := [.int 2, .int 2]) (rest := []) ⟨hx, hb, hml, hown, noTs⟩ (c_X6_setLeast_3 l dC dI H.size a0 a2 k0 (upd (fun _ => 0) 1 1)) ⟨cbE 2 (wd_778 hE) (wd_124 hE) (wd_775 hE) rfl rfl (by decide +kernel) ⟨Nat.le_of_ble_eq_true rfl, Nat.le_of_ble_eq_true rfl⟩, (wd_777 hE), (wd_25 hE)⟩ ⟨PcE.blind, va_recv hK hP (ci := 5) (q0 := 2) rfl rfl, (pre_E (av := [.ref a0, .int 2, .int 2]) (wc := [(a0, .inr (5, [.ref a2, .long 0, .long 1])), (a2, .inl (k0, 6, .inl (upd (fun _ => 0) 1 1)))]) (tysc := [(k0, .int)]) [2, 3] [0] rfl (by decide) rfl rfl hK hP hD hE)⟩ rfl rfl hl.1 rfl (lv_room (Nat.le_of_ble_eq_true rfl)) dX6_join_11 ⟨Nat.le_of_ble_eq_true rfl, Nat.le_of_ble_eq_true rfl⟩) (fun u6 H locs hw6 hK hP hD hS => ?_)
  have hK : va_K (dC, dI) vwCl [(k0, .int), (k1, .int)] s := hK
  have hP : va_P (dC, dI) vwCl [(a1, .inr (6, [.ref a3])), (a3, .inl (k1, 543, .inl (fun _ => 0))), (a0, .inr (5, [.ref a2, .long 0, .long 1])), (a2, .inl (k0, 6, .inl (upd ((upd (fun _ => 0) 1 1)) 2 2)))] H := hP
  have hD : va_D A [(a1, .inr (6, [.ref a3])), (a3, .inl (k1, 543, .inl (fun _ => 0))), (a0, .inr (5, [.ref a2, .long 0, .long 1])), (a2, .inl (k0, 6, .inl (upd ((upd (fun _ => 0) 1 1)) 2 2)))] := hD
  refine lv_iinc (v := 3) (lv' := [(2, .int 3), (0, .ref a0), (1, .ref a1)]) hx hb dX6_join_14 hl (k := 0) rfl (by decide) (by decide) rfl (fun ls hl => ?_)
  refine lv_goto (tgt := 2) hx hb dX6_join_17 (by decide) ?_
  refine lv_iload_n hx hb dX6_join_2 rfl (lv_at hl 0 rfl) ?_
  refine lv_bipush (v := 6) hx hb dX6_join_3 (by decide) ?_
  refine lv_icmp_ge (tgt := 20) hx hb dX6_join_5 (by decide) (fun c7 => absurd c7 (by decide)) (fun c7 => ?_)
  refine lv_aload_n hx hb dX6_join_8 rfl (lv_at hl 1 rfl) ?_
  refine lv_iload_n hx hb dX6_join_9 rfl (lv_at hl 0 rfl) ?_
  refine lv_iload_n hx hb dX6_join_10 rfl (lv_at hl 0 rfl) ?_
  refine cl_v (wc := [(a0, .inr (5, [.ref a2, .long 0, .long 1])), (a2, .inl (k0, 6, .inl (upd ((upd (fun _ => 0) 1 1)) 2 2)))]) (wr := [(a1, .inr (6, [.ref a3])), (a3, .inl (k1, 543, .inl (fun _ => 0)))]) [2, 3] [0, 1] rfl rfl (by decide) (by decide) hK hP hD hS hA (va_runV (As := [.int 3, .int 3]) (rest := []) ⟨hx, hb, hml, hown, noTs⟩ (c_X6_setLeast_4 l dC dI H.size a0 a2 k0 (upd ((upd (fun _ => 0) 1 1)) 2 2)) ⟨cbE 2 (wd_778 hE) (wd_124 hE) (wd_775 hE) rfl rfl (by decide +kernel) ⟨Nat.le_of_ble_eq_true rfl, Nat.le_of_ble_eq_true rfl⟩, (wd_777 hE), (wd_25 hE)⟩ ⟨PcE.blind, va_recv hK hP (ci := 5) (q0 := 2) rfl rfl, (pre_E (av := [.ref a0, .int 3, .int 3]) (wc := [(a0, .inr (5, [.ref a2, .long 0, .long 1])), (a2, .inl (k0, 6, .inl (upd ((upd (fun _ => 0) 1 1)) 2 2)))]) (tysc := [(k0, .int)]) [2, 3] [0] rfl (by decide) rfl rfl hK hP hD hE)⟩ rfl rfl hl.1 rfl (lv_room (Nat.le_of_ble_eq_true rfl)) dX6_join_11 ⟨Nat.le_of_ble_eq_true rfl, Nat.le_of_ble_eq_true rfl⟩) (fun u8 H locs hw8 hK hP hD hS => ?_)
  have hK : va_K (dC, dI) vwCl [(k0, .int), (k1, .int)] s := hK
  have hP : va_P (dC, dI) vwCl [(a1, .inr (6, [.ref a3])), (a3, .inl (k1, 543, .inl (fun _ => 0))), (a0, .inr (5, [.ref a2, .long 0, .long 1])), (a2, .inl (k0, 6, .inl (upd ((upd ((upd (fun _ => 0) 1 1)) 2 2)) 3 3)))] H := hP
  have hD : va_D A [(a1, .inr (6, [.ref a3])), (a3, .inl (k1, 543, .inl (fun _ => 0))), (a0, .inr (5, [.ref a2, .long 0, .long 1])), (a2, .inl (k0, 6, .inl (upd ((upd ((upd (fun _ => 0) 1 1)) 2 2)) 3 3)))] := hD
  refine lv_iinc (v := 4) (lv' := [(2, .int 4), (0, .ref a0), (1, .ref a1)]) hx hb dX6_join_14 hl (k := 0) rfl (by decide) (by decide) rfl (fun ls hl => ?_)
  refine lv_goto (tgt := 2) hx hb dX6_join_17 (by decide) ?_
  refine lv_iload_n hx hb dX6_join_2 rfl (lv_at hl 0 rfl) ?_
  refine lv_bipush (v := 6) hx hb dX6_join_3 (by decide) ?_
  refine lv_icmp_ge (tgt := 20) hx hb dX6_join_5 (by decide) (fun c9 => absurd c9 (by decide)) (fun c9 => ?_)
  refine lv_aload_n hx hb dX6_join_8 rfl (lv_at hl 1 rfl) ?_
  refine lv_iload_n hx hb dX6_join_9 rfl (lv_at hl 0 rfl) ?_
  refine lv_iload_n hx hb dX6_join_10 rfl (lv_at hl 0 rfl) ?_
  refine cl_v (wc := [(a0, .inr (5, [.ref a2, .long 0, .long 1])), (a2, .inl (k0, 6, .inl (upd ((upd ((upd (fun _ => 0) 1 1)) 2 2)) 3 3)))]) (wr := [(a1, .inr (6, [.ref a3])), (a3, .inl (k1, 543, .inl (fun _ => 0)))]) [2, 3] [0, 1] rfl rfl (by decide) (by decide) hK hP hD hS hA (va_runV (As := [.int 4, .int 4]) (rest := []) ⟨hx, hb, hml, hown, noTs⟩ (c_X6_setLeast_5 l dC dI H.size a0 a2 k0 (upd ((upd ((upd (fun _ => 0) 1 1)) 2 2)) 3 3)) ⟨cbE 2 (wd_778 hE) (wd_124 hE) (wd_775 hE) rfl rfl (by decide +kernel) ⟨Nat.le_of_ble_eq_true rfl, Nat.le_of_ble_eq_true rfl⟩, (wd_777 hE), (wd_25 hE)⟩ ⟨PcE.blind, va_recv hK hP (ci := 5) (q0 := 2) rfl rfl, (pre_E (av := [.ref a0, .int 4, .int 4]) (wc := [(a0, .inr (5, [.ref a2, .long 0, .long 1])), (a2, .inl (k0, 6, .inl (upd ((upd ((upd (fun _ => 0) 1 1)) 2 2)) 3 3)))]) (tysc := [(k0, .int)]) [2, 3] [0] rfl (by decide) rfl rfl hK hP hD hE)⟩ rfl rfl hl.1 rfl (lv_room (Nat.le_of_ble_eq_true rfl)) dX6_join_11 ⟨Nat.le_of_ble_eq_true rfl, Nat.le_of_ble_eq_true rfl⟩) (fun u10 H locs hw10 hK hP hD hS => ?_)
  have hK : va_K (dC, dI) vwCl [(k0, .int), (k1, .int)] s := hK
  have hP : va_P (dC, dI) vwCl [(a1, .inr (6, [.ref a3])), (a3, .inl (k1, 543, .inl (fun _ => 0))), (a0, .inr (5, [.ref a2, .long 0, .long 1])), (a2, .inl (k0, 6, .inl (upd ((upd ((upd ((upd (fun _ => 0) 1 1)) 2 2)) 3 3)) 4 4)))] H := hP
  have hD : va_D A [(a1, .inr (6, [.ref a3])), (a3, .inl (k1, 543, .inl (fun _ => 0))), (a0, .inr (5, [.ref a2, .long 0, .long 1])), (a2, .inl (k0, 6, .inl (upd ((upd ((upd ((upd (fun _ => 0) 1 1)) 2 2)) 3 3)) 4 4)))] := hD
  refine lv_iinc (v := 5) (lv' := [(2, .int 5), (0, .ref a0), (1, .ref a1)]) hx hb dX6_join_14 hl (k := 0) rfl (by decide) (by decide) rfl (fun ls hl => ?_)
  refine lv_goto (tgt := 2) hx hb dX6_join_17 (by decide) ?_
  refine lv_iload_n hx hb dX6_join_2 rfl (lv_at hl 0 rfl) ?_
  refine lv_bipush (v := 6) hx hb dX6_join_3 (by decide) ?_
  refine lv_icmp_ge (tgt := 20) hx hb dX6_join_5 (by decide) (fun c11 => absurd c11 (by decide)) (fun c11 => ?_)
  refine lv_aload_n hx hb dX6_join_8 rfl (lv_at hl 1 rfl) ?_
  refine lv_iload_n hx hb dX6_join_9 rfl (lv_at hl 0 rfl) ?_
  refine lv_iload_n hx hb dX6_join_10 rfl (lv_at hl 0 rfl) ?_
  refine cl_v (wc := [(a0, .inr (5, [.ref a2, .long 0, .long 1])), (a2, .inl (k0, 6, .inl (upd ((upd ((upd ((upd (fun _ => 0) 1 1)) 2 2)) 3 3)) 4 4)))]) (wr := [(a1, .inr (6, [.ref a3])), (a3, .inl (k1, 543, .inl (fun _ => 0)))]) [2, 3] [0, 1] rfl rfl (by decide) (by decide) hK hP hD hS hA (va_runV (As := [.int 5, .int 5]) (rest := []) ⟨hx, hb, hml, hown, noTs⟩ (c_X6_setLeast_6 l dC dI H.size a0 a2 k0 (upd ((upd ((upd ((upd (fun _ => 0) 1 1)) 2 2)) 3 3)) 4 4)) ⟨cbE 2 (wd_778 hE) (wd_124 hE) (wd_775 hE) rfl rfl (by decide +kernel) ⟨Nat.le_of_ble_eq_true rfl, Nat.le_of_ble_eq_true rfl⟩, (wd_777 hE), (wd_25 hE)⟩ ⟨PcE.blind, va_recv hK hP (ci := 5) (q0 := 2) rfl rfl, (pre_E (av := [.ref a0, .int 5, .int 5]) (wc := [(a0, .inr (5, [.ref a2, .long 0, .long 1])), (a2, .inl (k0, 6, .inl (upd ((upd ((upd ((upd (fun _ => 0) 1 1)) 2 2)) 3 3)) 4 4)))]) (tysc := [(k0, .int)]) [2, 3] [0] rfl (by decide) rfl rfl hK hP hD hE)⟩ rfl rfl hl.1 rfl (lv_room (Nat.le_of_ble_eq_true rfl)) dX6_join_11 ⟨Nat.le_of_ble_eq_true rfl, Nat.le_of_ble_eq_true rfl⟩) (fun u12 H locs hw12 hK hP hD hS => ?_)
  have hK : va_K (dC, dI) vwCl [(k0, .int), (k1, .int)] s := hK
  have hP : va_P (dC, dI) vwCl [(a1, .inr (6, [.ref a3])), (a3, .inl (k1, 543, .inl (fun _ => 0))), (a0, .inr (5, [.ref a2, .long 0, .long 1])), (a2, .inl (k0, 6, .inl (upd ((upd ((upd ((upd ((upd (fun _ => 0) 1 1)) 2 2)) 3 3)) 4 4)) 5 5)))] H := hP
  have hD : va_D A [(a1, .inr (6, [.ref a3])), (a3, .inl (k1, 543, .inl (fun _ => 0))), (a0, .inr (5, [.ref a2, .long 0, .long 1])), (a2, .inl (k0, 6, .inl (upd ((upd ((upd ((upd ((upd (fun _ => 0) 1 1)) 2 2)) 3 3)) 4 4)) 5 5)))] := hD
  refine lv_iinc (v := 6) (lv' := [(2, .int 6), (0, .ref a0), (1, .ref a1)]) hx hb dX6_join_14 hl (k := 0) rfl (by decide) (by decide) rfl (fun ls hl => ?_)
  refine lv_goto (tgt := 2) hx hb dX6_join_17 (by decide) ?_
  refine lv_iload_n hx hb dX6_join_2 rfl (lv_at hl 0 rfl) ?_
  refine lv_bipush (v := 6) hx hb dX6_join_3 (by decide) ?_
  refine lv_icmp_ge (tgt := 20) hx hb dX6_join_5 (by decide) (fun c13 => ?_) (fun c13 => absurd c13 (by decide))
  refine lv_iconst (v := 1) hx hb dX6_join_20 (by decide) ?_
  refine lv_istore_n (lv' := [(2, .int 1), (0, .ref a0), (1, .ref a1)]) hx hb dX6_join_21 rfl hl (by decide) rfl (fun ls hl => ?_)
  refine lv_iload_n hx hb dX6_join_22 rfl (lv_at hl 0 rfl) ?_
  refine lv_aload_n hx hb dX6_join_23 rfl (lv_at hl 2 rfl) ?_
  refine cl_i (wc := [(a1, .inr (6, [.ref a3])), (a3, .inl (k1, 543, .inl (fun _ => 0)))]) (wr := [(a0, .inr (5, [.ref a2, .long 0, .long 1])), (a2, .inl (k0, 6, .inl (upd ((upd ((upd ((upd ((upd (fun _ => 0) 1 1)) 2 2)) 3 3)) 4 4)) 5 5)))]) [0, 1] [2, 3] rfl rfl (by decide) (by decide) hK hP hD hS hA (va_runV (As := []) (rest := [.int 1]) ⟨hx, hb, hml, hown, noTs⟩ (c_X7_vertices l dC dI H.size a1 a3 k1) ⟨cbE 0 (wd_557 hE) (wd_116 hE) (wd_779 hE) rfl rfl (by decide +kernel) ⟨Nat.le_of_ble_eq_true rfl, Nat.le_of_ble_eq_true rfl⟩, (wd_555 hE), (wd_556 hE)⟩ ⟨PcE.blind, va_recv hK hP (ci := 6) (q0 := 0) rfl rfl, (pre_E (av := [.ref a1]) (wc := [(a1, .inr (6, [.ref a3])), (a3, .inl (k1, 543, .inl (fun _ => 0)))]) (tysc := [(k1, .int)]) [0, 1] [1] rfl (by decide) rfl rfl hK hP hD hE)⟩ rfl rfl hl.1 rfl (lv_room (Nat.le_of_ble_eq_true rfl)) dX6_join_24 ⟨Nat.le_of_ble_eq_true rfl, Nat.le_of_ble_eq_true rfl⟩) (fun r14 u14 H locs hw14 hK hP hD hS => ?_)
  have hK : va_K (dC, dI) vwCl [(k0, .int), (k1, .int)] s := hK
  have hP : va_P (dC, dI) vwCl [(a0, .inr (5, [.ref a2, .long 0, .long 1])), (a2, .inl (k0, 6, .inl (upd ((upd ((upd ((upd ((upd (fun _ => 0) 1 1)) 2 2)) 3 3)) 4 4)) 5 5))), (a1, .inr (6, [.ref a3])), (a3, .inl (k1, 543, .inl (fun _ => 0)))] H := hP
  have hD : va_D A [(a0, .inr (5, [.ref a2, .long 0, .long 1])), (a2, .inl (k0, 6, .inl (upd ((upd ((upd ((upd ((upd (fun _ => 0) 1 1)) 2 2)) 3 3)) 4 4)) 5 5))), (a1, .inr (6, [.ref a3])), (a3, .inl (k1, 543, .inl (fun _ => 0)))] := hD
  subst hw14
  refine W.eq (g2 := F0 m 27 ls [.int 0, .int 1]) rfl ?_
  refine lv_icmp_ge (tgt := 83) hx hb dX6_join_27 (by decide) (fun c15 => ?_) (fun c15 => absurd c15 (by decide))
  have hP9 := hP.sub (ws' := [(a0, .inr (5, [.ref a2, .long 0, .long 1])), (a2, .inl (k0, 6, .inl (upd ((upd ((upd ((upd ((upd (fun _ => 0) 1 1)) 2 2)) 3 3)) 4 4)) 5 5))), (a1, .inr (6, [.ref a3])), (a3, .inl (k1, 543, .inl (fun _ => 0)))]) [0, 1, 2, 3] rfl
  have hD9 := hD.sub (ws' := [(a0, .inr (5, [.ref a2, .long 0, .long 1])), (a2, .inl (k0, 6, .inl (upd ((upd ((upd ((upd ((upd (fun _ => 0) 1 1)) 2 2)) 3 3)) 4 4)) 5 5))), (a1, .inr (6, [.ref a3])), (a3, .inl (k1, 543, .inl (fun _ => 0)))]) [0, 1, 2, 3] (by decide) rfl
  have hK9 := hK.sub (tys' := []) [] rfl
  refine W.widen (k := 0) (n := 0) (Nat.le_of_ble_eq_true rfl) (Nat.le_of_ble_eq_true rfl) ?_
  exact W.vret hx hb hr (fun t ht hW => ⟨⟨(), rfl, trivial, by rw [ht]; exact hP9, va_K.moved hW.alike hK9, hD9⟩, hS.F ht⟩) hS.2.2 dX6_join_83

set_option maxHeartbeats 4000000 in
set_option maxRecDepth 100000 in
theorem c_X6_parts (l : Launch) (dC : Nat → ClassId) (dI : Nat → Nat → Nat) (sz : Nat)  (a0 a1 a2 a3 : Nat) (k0 k1 : ClassId)  : Met l yX6_parts [.code yX6_parts cX6_parts 4 (some .int)] ({ frames := 2, cells := 0, slots := 0, locals := 80 }) (PcE [.ref a0, .ref a1] sz dC dI [(k0, .int), (k1, .int)] [(a0, .inr (5, [.ref a2, .long 0, .long 1])), (a2, .inl (k0, 6, .inl (fun _ => 0))), (a1, .inr (6, [.ref a3])), (a3, .inl (k1, 543, .inl (fun _ => 0)))]) (va_Qi (fun (r : Int32) (u : Unit) => r = 0) (Bw dC dI (va_A [(a0, .inr (5, [.ref a2, .long 0, .long 1])), (a2, .inl (k0, 6, .inl (fun _ => 0))), (a1, .inr (6, [.ref a3])), (a3, .inl (k1, 543, .inl (fun _ => 0)))] sz) (fun (u : Unit) => []) (fun (u : Unit) => [(a0, .inr (5, [.ref a2, .long 0, .long 1])), (a2, .inl (k0, 6, .inl (upd ((upd ((upd ((upd ((upd (fun _ => 0) 1 1)) 2 2)) 3 3)) 4 4)) 5 5))), (a1, .inr (6, [.ref a3])), (a3, .inl (k1, 543, .inl (fun _ => 0)))])) (va_A [(a0, .inr (5, [.ref a2, .long 0, .long 1])), (a2, .inl (k0, 6, .inl (fun _ => 0))), (a1, .inr (6, [.ref a3])), (a3, .inl (k1, 543, .inl (fun _ => 0)))] sz)) 0 0 (va_A [(a0, .inr (5, [.ref a2, .long 0, .long 1])), (a2, .inl (k0, 6, .inl (fun _ => 0))), (a1, .inr (6, [.ref a3])), (a3, .inl (k1, 543, .inl (fun _ => 0)))] sz) := by
  refine Met.ofW (cc := cX6_parts) (maxL := 4) (ret := (some .int)) (by decide) rfl ?_
  intro p e s m args below meth c s₁ B hml hv
  obtain ⟨rfl, hsz, hP, hK, hD0, hE⟩ := hv
  have hx := B.exec
  have hb := B.bytes
  have hr := B.returns
  have hown : s.vm.findClass RX6 = some m.cls := findClass_of_methodNamed B.named
  have hlocks := B.notSynchronized
  subst hsz
  have hD := hD0.self (sz := s.heap.size)
  generalize hAe : va_A [(a0, .inr (5, [.ref a2, .long 0, .long 1])), (a2, .inl (k0, 6, .inl (fun _ => 0))), (a1, .inr (6, [.ref a3])), (a3, .inl (k1, 543, .inl (fun _ => 0)))] s.heap.size = A at hD ⊢
  have hA : ∀ q : Nat, s.heap.size ≤ q → A q := fun q h => by rw [← hAe]; exact Or.inr h
  have hS : va_S A s.heap s.heap [] := va_S.rf
  have hl := lv_entry ([.ref a0, .ref a1]) (n := 4) (Nat.le_of_ble_eq_true rfl)
  rw [lg_entry_eq]
  generalize (lg_sl ([.ref a0, .ref a1]) ++ List.replicate (4 - (lg_sl ([.ref a0, .ref a1])).length) Slot.unset).toArray = ls at hl ⊢
  have hl : lv_has ls 4 [(0, .ref a0), (1, .ref a1)] := hl
  refine lv_aload_n hx hb dX6_parts_0 rfl (lv_at hl 0 rfl) ?_
  refine lv_aload_n hx hb dX6_parts_1 rfl (lv_at hl 1 rfl) ?_
  refine cl_v (wc := [(a0, .inr (5, [.ref a2, .long 0, .long 1])), (a2, .inl (k0, 6, .inl (fun _ => 0))), (a1, .inr (6, [.ref a3])), (a3, .inl (k1, 543, .inl (fun _ => 0)))]) (wr := []) [0, 1, 2, 3] [] rfl rfl (by decide) (by decide) hK hP hD hS hA (va_runV (As := [.ref a1]) (rest := []) ⟨hx, hb, hml, hown, noTs⟩ (c_X6_join l dC dI s.heap.size a0 a1 a2 a3 k0 k1) ⟨cbE 1 (wd_774 hE) (wd_124 hE) (wd_771 hE) rfl rfl (by decide +kernel) ⟨Nat.le_of_ble_eq_true rfl, Nat.le_of_ble_eq_true rfl⟩, (wd_773 hE), (wd_24 hE)⟩ ⟨PcE.blind, va_recv hK hP (ci := 5) (q0 := 0) rfl rfl, (pre_E (av := [.ref a0, .ref a1]) (wc := [(a0, .inr (5, [.ref a2, .long 0, .long 1])), (a2, .inl (k0, 6, .inl (fun _ => 0))), (a1, .inr (6, [.ref a3])), (a3, .inl (k1, 543, .inl (fun _ => 0)))]) (tysc := [(k0, .int), (k1, .int)]) [0, 1, 2, 3] [0, 1] rfl (by decide) rfl rfl hK hP hD hE)⟩ rfl rfl hl.1 rfl (lv_room (Nat.le_of_ble_eq_true rfl)) dX6_parts_2 ⟨Nat.le_of_ble_eq_true rfl, Nat.le_of_ble_eq_true rfl⟩) (fun u1 H locs hw1 hK hP hD hS => ?_)
  have hK : va_K (dC, dI) vwCl [(k0, .int), (k1, .int)] s := hK
  have hP : va_P (dC, dI) vwCl [(a0, .inr (5, [.ref a2, .long 0, .long 1])), (a2, .inl (k0, 6, .inl (upd ((upd ((upd ((upd ((upd (fun _ => 0) 1 1)) 2 2)) 3 3)) 4 4)) 5 5))), (a1, .inr (6, [.ref a3])), (a3, .inl (k1, 543, .inl (fun _ => 0)))] H := hP
  have hD : va_D A [(a0, .inr (5, [.ref a2, .long 0, .long 1])), (a2, .inl (k0, 6, .inl (upd ((upd ((upd ((upd ((upd (fun _ => 0) 1 1)) 2 2)) 3 3)) 4 4)) 5 5))), (a1, .inr (6, [.ref a3])), (a3, .inl (k1, 543, .inl (fun _ => 0)))] := hD
  refine lv_iconst (v := 0) hx hb dX6_parts_5 (by decide) ?_
  refine lv_istore_n (lv' := [(2, .int 0), (0, .ref a0), (1, .ref a1)]) hx hb dX6_parts_6 rfl hl (by decide) rfl (fun ls hl => ?_)
  refine lv_iconst (v := 0) hx hb dX6_parts_7 (by decide) ?_
  refine lv_istore_n (lv' := [(3, .int 0), (2, .int 0), (0, .ref a0), (1, .ref a1)]) hx hb dX6_parts_8 rfl hl (by decide) rfl (fun ls hl => ?_)
  refine lv_iload_n hx hb dX6_parts_9 rfl (lv_at hl 0 rfl) ?_
  refine lv_aload_n hx hb dX6_parts_10 rfl (lv_at hl 3 rfl) ?_
  refine cl_i (wc := [(a1, .inr (6, [.ref a3])), (a3, .inl (k1, 543, .inl (fun _ => 0)))]) (wr := [(a0, .inr (5, [.ref a2, .long 0, .long 1])), (a2, .inl (k0, 6, .inl (upd ((upd ((upd ((upd ((upd (fun _ => 0) 1 1)) 2 2)) 3 3)) 4 4)) 5 5)))]) [2, 3] [0, 1] rfl rfl (by decide) (by decide) hK hP hD hS hA (va_runV (As := []) (rest := [.int 0]) ⟨hx, hb, hml, hown, noTs⟩ (c_X7_vertices l dC dI H.size a1 a3 k1) ⟨cbE 0 (wd_557 hE) (wd_116 hE) (wd_779 hE) rfl rfl (by decide +kernel) ⟨Nat.le_of_ble_eq_true rfl, Nat.le_of_ble_eq_true rfl⟩, (wd_555 hE), (wd_556 hE)⟩ ⟨PcE.blind, va_recv hK hP (ci := 6) (q0 := 2) rfl rfl, (pre_E (av := [.ref a1]) (wc := [(a1, .inr (6, [.ref a3])), (a3, .inl (k1, 543, .inl (fun _ => 0)))]) (tysc := [(k1, .int)]) [2, 3] [1] rfl (by decide) rfl rfl hK hP hD hE)⟩ rfl rfl hl.1 rfl (lv_room (Nat.le_of_ble_eq_true rfl)) dX6_parts_11 ⟨Nat.le_of_ble_eq_true rfl, Nat.le_of_ble_eq_true rfl⟩) (fun r2 u2 H locs hw2 hK hP hD hS => ?_)
  have hK : va_K (dC, dI) vwCl [(k0, .int), (k1, .int)] s := hK
  have hP : va_P (dC, dI) vwCl [(a0, .inr (5, [.ref a2, .long 0, .long 1])), (a2, .inl (k0, 6, .inl (upd ((upd ((upd ((upd ((upd (fun _ => 0) 1 1)) 2 2)) 3 3)) 4 4)) 5 5))), (a1, .inr (6, [.ref a3])), (a3, .inl (k1, 543, .inl (fun _ => 0)))] H := hP
  have hD : va_D A [(a0, .inr (5, [.ref a2, .long 0, .long 1])), (a2, .inl (k0, 6, .inl (upd ((upd ((upd ((upd ((upd (fun _ => 0) 1 1)) 2 2)) 3 3)) 4 4)) 5 5))), (a1, .inr (6, [.ref a3])), (a3, .inl (k1, 543, .inl (fun _ => 0)))] := hD
  subst hw2
  refine W.eq (g2 := F0 m 14 ls [.int 0, .int 0]) rfl ?_
  refine lv_icmp_ge (tgt := 43) hx hb dX6_parts_14 (by decide) (fun c3 => ?_) (fun c3 => absurd c3 (by decide))
  refine lv_iload_n hx hb dX6_parts_43 rfl (lv_at hl 1 rfl) ?_
  have hP9 := hP.sub (ws' := [(a0, .inr (5, [.ref a2, .long 0, .long 1])), (a2, .inl (k0, 6, .inl (upd ((upd ((upd ((upd ((upd (fun _ => 0) 1 1)) 2 2)) 3 3)) 4 4)) 5 5))), (a1, .inr (6, [.ref a3])), (a3, .inl (k1, 543, .inl (fun _ => 0)))]) [0, 1, 2, 3] rfl
  have hD9 := hD.sub (ws' := [(a0, .inr (5, [.ref a2, .long 0, .long 1])), (a2, .inl (k0, 6, .inl (upd ((upd ((upd ((upd ((upd (fun _ => 0) 1 1)) 2 2)) 3 3)) 4 4)) 5 5))), (a1, .inr (6, [.ref a3])), (a3, .inl (k1, 543, .inl (fun _ => 0)))]) [0, 1, 2, 3] (by decide) rfl
  have hK9 := hK.sub (tys' := []) [] rfl
  refine W.widen (k := 0) (n := 0) (Nat.le_of_ble_eq_true rfl) (Nat.le_of_ble_eq_true rfl) ?_
  exact W.iret (v := 0) hx hb hr (fun t ht hW => ⟨⟨0, (), rfl, rfl, by rw [ht]; exact hP9, va_K.moved hW.alike hK9, hD9⟩, hS.F ht⟩) hS.2.2 dX6_parts_44

set_option maxHeartbeats 4000000 in
set_option maxRecDepth 100000 in
theorem c_X6_join_2 (l : Launch) (dC : Nat → ClassId) (dI : Nat → Nat → Nat) (sz : Nat)  (a0 a1 a2 a3 : Nat) (k0 k1 : ClassId)  : Met l yX6_join [.code yX6_join cX6_join 5 none] ({ frames := 1, cells := 0, slots := 0, locals := 40 }) (PcE [.ref a0, .ref a1] sz dC dI [(k0, .int), (k1, .int)] [(a1, .inr (6, [.ref a2])), (a2, .inl (k0, 543, .inl (fun _ => 0))), (a0, .inr (5, [.ref a3, .long 0, .long 1])), (a3, .inl (k1, 6, .inl (fun _ => 0)))]) (va_Qv (fun (u : Unit) => True) (Bw dC dI (va_A [(a1, .inr (6, [.ref a2])), (a2, .inl (k0, 543, .inl (fun _ => 0))), (a0, .inr (5, [.ref a3, .long 0, .long 1])), (a3, .inl (k1, 6, .inl (fun _ => 0)))] sz) (fun (u : Unit) => []) (fun (u : Unit) => [(a0, .inr (5, [.ref a3, .long 0, .long 1])), (a3, .inl (k1, 6, .inl (upd ((upd ((upd ((upd ((upd (fun _ => 0) 1 1)) 2 2)) 3 3)) 4 4)) 5 5))), (a1, .inr (6, [.ref a2])), (a2, .inl (k0, 543, .inl (fun _ => 0)))])) (va_A [(a1, .inr (6, [.ref a2])), (a2, .inl (k0, 543, .inl (fun _ => 0))), (a0, .inr (5, [.ref a3, .long 0, .long 1])), (a3, .inl (k1, 6, .inl (fun _ => 0)))] sz)) 0 0 (va_A [(a1, .inr (6, [.ref a2])), (a2, .inl (k0, 543, .inl (fun _ => 0))), (a0, .inr (5, [.ref a3, .long 0, .long 1])), (a3, .inl (k1, 6, .inl (fun _ => 0)))] sz) := by
  refine Met.ofW (cc := cX6_join) (maxL := 5) (ret := none) (by decide) rfl ?_
  intro p e s m args below meth c s₁ B hml hv
  obtain ⟨rfl, hsz, hP, hK, hD0, hE⟩ := hv
  have hx := B.exec
  have hb := B.bytes
  have hr := B.returns
  have hown : s.vm.findClass RX6 = some m.cls := findClass_of_methodNamed B.named
  have hlocks := B.notSynchronized
  subst hsz
  have hD := hD0.self (sz := s.heap.size)
  generalize hAe : va_A [(a1, .inr (6, [.ref a2])), (a2, .inl (k0, 543, .inl (fun _ => 0))), (a0, .inr (5, [.ref a3, .long 0, .long 1])), (a3, .inl (k1, 6, .inl (fun _ => 0)))] s.heap.size = A at hD ⊢
  have hA : ∀ q : Nat, s.heap.size ≤ q → A q := fun q h => by rw [← hAe]; exact Or.inr h
  have hS : va_S A s.heap s.heap [] := va_S.rf
  have hl := lv_entry ([.ref a0, .ref a1]) (n := 5) (Nat.le_of_ble_eq_true rfl)
  rw [lg_entry_eq]
  generalize (lg_sl ([.ref a0, .ref a1]) ++ List.replicate (5 - (lg_sl ([.ref a0, .ref a1])).length) Slot.unset).toArray = ls at hl ⊢
  have hl : lv_has ls 5 [(0, .ref a0), (1, .ref a1)] := hl
  refine lv_iconst (v := 0) hx hb dX6_join_0 (by decide) ?_
  refine lv_istore_n (lv' := [(2, .int 0), (0, .ref a0), (1, .ref a1)]) hx hb dX6_join_1 rfl hl (by decide) rfl (fun ls hl => ?_)
  refine lv_iload_n hx hb dX6_join_2 rfl (lv_at hl 0 rfl) ?_
  refine lv_bipush (v := 6) hx hb dX6_join_3 (by decide) ?_
  refine lv_icmp_ge (tgt := 20) hx hb dX6_join_5 (by decide) (fun c1 => absurd c1 (by decide)) (fun c1 => ?_)
  refine lv_aload_n hx hb dX6_join_8 rfl (lv_at hl 1 rfl) ?_
  refine lv_iload_n hx hb dX6_join_9 rfl (lv_at hl 0 rfl) ?_
  refine lv_iload_n hx hb dX6_join_10 rfl (lv_at hl 0 rfl) ?_
  refine cl_v (wc := [(a0, .inr (5, [.ref a3, .long 0, .long 1])), (a3, .inl (k1, 6, .inl (fun _ => 0)))]) (wr := [(a1, .inr (6, [.ref a2])), (a2, .inl (k0, 543, .inl (fun _ => 0)))]) [2, 3] [0, 1] rfl rfl (by decide) (by decide) hK hP hD hS hA (va_runV (As := [.int 0, .int 0]) (rest := []) ⟨hx, hb, hml, hown, noTs⟩ (c_X6_setLeast l dC dI s.heap.size a0 a3 k1) ⟨cbE 2 (wd_778 hE) (wd_124 hE) (wd_775 hE) rfl rfl (by decide +kernel) ⟨Nat.le_of_ble_eq_true rfl, Nat.le_of_ble_eq_true rfl⟩, (wd_777 hE), (wd_25 hE)⟩ ⟨PcE.blind, va_recv hK hP (ci := 5) (q0 := 2) rfl rfl, (pre_E (av := [.ref a0, .int 0, .int 0]) (wc := [(a0, .inr (5, [.ref a3, .long 0, .long 1])), (a3, .inl (k1, 6, .inl (fun _ => 0)))]) (tysc := [(k1, .int)]) [2, 3] [1] rfl (by decide) rfl rfl hK hP hD hE)⟩ rfl rfl hl.1 rfl (lv_room (Nat.le_of_ble_eq_true rfl)) dX6_join_11 ⟨Nat.le_of_ble_eq_true rfl, Nat.le_of_ble_eq_true rfl⟩) (fun u2 H locs hw2 hK hP hD hS => ?_)
  have hK : va_K (dC, dI) vwCl [(k0, .int), (k1, .int)] s := hK
  have hP : va_P (dC, dI) vwCl [(a1, .inr (6, [.ref a2])), (a2, .inl (k0, 543, .inl (fun _ => 0))), (a0, .inr (5, [.ref a3, .long 0, .long 1])), (a3, .inl (k1, 6, .inl (fun _ => 0)))] H := hP
  have hD : va_D A [(a1, .inr (6, [.ref a2])), (a2, .inl (k0, 543, .inl (fun _ => 0))), (a0, .inr (5, [.ref a3, .long 0, .long 1])), (a3, .inl (k1, 6, .inl (fun _ => 0)))] := hD
  refine lv_iinc (v := 1) (lv' := [(2, .int 1), (0, .ref a0), (1, .ref a1)]) hx hb dX6_join_14 hl (k := 0) rfl (by decide) (by decide) rfl (fun ls hl => ?_)
  refine lv_goto (tgt := 2) hx hb dX6_join_17 (by decide) ?_
  refine lv_iload_n hx hb dX6_join_2 rfl (lv_at hl 0 rfl) ?_
  refine lv_bipush (v := 6) hx hb dX6_join_3 (by decide) ?_
  refine lv_icmp_ge (tgt := 20) hx hb dX6_join_5 (by decide) (fun c3 => absurd c3 (by decide)) (fun c3 => ?_)
  refine lv_aload_n hx hb dX6_join_8 rfl (lv_at hl 1 rfl) ?_
  refine lv_iload_n hx hb dX6_join_9 rfl (lv_at hl 0 rfl) ?_
  refine lv_iload_n hx hb dX6_join_10 rfl (lv_at hl 0 rfl) ?_
  refine cl_v (wc := [(a0, .inr (5, [.ref a3, .long 0, .long 1])), (a3, .inl (k1, 6, .inl (fun _ => 0)))]) (wr := [(a1, .inr (6, [.ref a2])), (a2, .inl (k0, 543, .inl (fun _ => 0)))]) [2, 3] [0, 1] rfl rfl (by decide) (by decide) hK hP hD hS hA (va_runV (As := [.int 1, .int 1]) (rest := []) ⟨hx, hb, hml, hown, noTs⟩ (c_X6_setLeast_2 l dC dI H.size a0 a3 k1) ⟨cbE 2 (wd_778 hE) (wd_124 hE) (wd_775 hE) rfl rfl (by decide +kernel) ⟨Nat.le_of_ble_eq_true rfl, Nat.le_of_ble_eq_true rfl⟩, (wd_777 hE), (wd_25 hE)⟩ ⟨PcE.blind, va_recv hK hP (ci := 5) (q0 := 2) rfl rfl, (pre_E (av := [.ref a0, .int 1, .int 1]) (wc := [(a0, .inr (5, [.ref a3, .long 0, .long 1])), (a3, .inl (k1, 6, .inl (fun _ => 0)))]) (tysc := [(k1, .int)]) [2, 3] [1] rfl (by decide) rfl rfl hK hP hD hE)⟩ rfl rfl hl.1 rfl (lv_room (Nat.le_of_ble_eq_true rfl)) dX6_join_11 ⟨Nat.le_of_ble_eq_true rfl, Nat.le_of_ble_eq_true rfl⟩) (fun u4 H locs hw4 hK hP hD hS => ?_)
  have hK : va_K (dC, dI) vwCl [(k0, .int), (k1, .int)] s := hK
  have hP : va_P (dC, dI) vwCl [(a1, .inr (6, [.ref a2])), (a2, .inl (k0, 543, .inl (fun _ => 0))), (a0, .inr (5, [.ref a3, .long 0, .long 1])), (a3, .inl (k1, 6, .inl (upd (fun _ => 0) 1 1)))] H := hP
  have hD : va_D A [(a1, .inr (6, [.ref a2])), (a2, .inl (k0, 543, .inl (fun _ => 0))), (a0, .inr (5, [.ref a3, .long 0, .long 1])), (a3, .inl (k1, 6, .inl (upd (fun _ => 0) 1 1)))] := hD
  refine lv_iinc (v := 2) (lv' := [(2, .int 2), (0, .ref a0), (1, .ref a1)]) hx hb dX6_join_14 hl (k := 0) rfl (by decide) (by decide) rfl (fun ls hl => ?_)
  refine lv_goto (tgt := 2) hx hb dX6_join_17 (by decide) ?_
  refine lv_iload_n hx hb dX6_join_2 rfl (lv_at hl 0 rfl) ?_
  refine lv_bipush (v := 6) hx hb dX6_join_3 (by decide) ?_
  refine lv_icmp_ge (tgt := 20) hx hb dX6_join_5 (by decide) (fun c5 => absurd c5 (by decide)) (fun c5 => ?_)
  refine lv_aload_n hx hb dX6_join_8 rfl (lv_at hl 1 rfl) ?_
  refine lv_iload_n hx hb dX6_join_9 rfl (lv_at hl 0 rfl) ?_
  refine lv_iload_n hx hb dX6_join_10 rfl (lv_at hl 0 rfl) ?_
  refine cl_v (wc := [(a0, .inr (5, [.ref a3, .long 0, .long 1])), (a3, .inl (k1, 6, .inl (upd (fun _ => 0) 1 1)))]) (wr := [(a1, .inr (6, [.ref a2])), (a2, .inl (k0, 543, .inl (fun _ => 0)))]) [2, 3] [0, 1] rfl rfl (by decide) (by decide) hK hP hD hS hA (va_runV (As := [.int 2, .int 2]) (rest := []) ⟨hx, hb, hml, hown, noTs⟩ (c_X6_setLeast_3 l dC dI H.size a0 a3 k1 (upd (fun _ => 0) 1 1)) ⟨cbE 2 (wd_778 hE) (wd_124 hE) (wd_775 hE) rfl rfl (by decide +kernel) ⟨Nat.le_of_ble_eq_true rfl, Nat.le_of_ble_eq_true rfl⟩, (wd_777 hE), (wd_25 hE)⟩ ⟨PcE.blind, va_recv hK hP (ci := 5) (q0 := 2) rfl rfl, (pre_E (av := [.ref a0, .int 2, .int 2]) (wc := [(a0, .inr (5, [.ref a3, .long 0, .long 1])), (a3, .inl (k1, 6, .inl (upd (fun _ => 0) 1 1)))]) (tysc := [(k1, .int)]) [2, 3] [1] rfl (by decide) rfl rfl hK hP hD hE)⟩ rfl rfl hl.1 rfl (lv_room (Nat.le_of_ble_eq_true rfl)) dX6_join_11 ⟨Nat.le_of_ble_eq_true rfl, Nat.le_of_ble_eq_true rfl⟩) (fun u6 H locs hw6 hK hP hD hS => ?_)
  have hK : va_K (dC, dI) vwCl [(k0, .int), (k1, .int)] s := hK
  have hP : va_P (dC, dI) vwCl [(a1, .inr (6, [.ref a2])), (a2, .inl (k0, 543, .inl (fun _ => 0))), (a0, .inr (5, [.ref a3, .long 0, .long 1])), (a3, .inl (k1, 6, .inl (upd ((upd (fun _ => 0) 1 1)) 2 2)))] H := hP
  have hD : va_D A [(a1, .inr (6, [.ref a2])), (a2, .inl (k0, 543, .inl (fun _ => 0))), (a0, .inr (5, [.ref a3, .long 0, .long 1])), (a3, .inl (k1, 6, .inl (upd ((upd (fun _ => 0) 1 1)) 2 2)))] := hD
  refine lv_iinc (v := 3) (lv' := [(2, .int 3), (0, .ref a0), (1, .ref a1)]) hx hb dX6_join_14 hl (k := 0) rfl (by decide) (by decide) rfl (fun ls hl => ?_)
  refine lv_goto (tgt := 2) hx hb dX6_join_17 (by decide) ?_
  refine lv_iload_n hx hb dX6_join_2 rfl (lv_at hl 0 rfl) ?_
  refine lv_bipush (v := 6) hx hb dX6_join_3 (by decide) ?_
  refine lv_icmp_ge (tgt := 20) hx hb dX6_join_5 (by decide) (fun c7 => absurd c7 (by decide)) (fun c7 => ?_)
  refine lv_aload_n hx hb dX6_join_8 rfl (lv_at hl 1 rfl) ?_
  refine lv_iload_n hx hb dX6_join_9 rfl (lv_at hl 0 rfl) ?_
  refine lv_iload_n hx hb dX6_join_10 rfl (lv_at hl 0 rfl) ?_
  refine cl_v (wc := [(a0, .inr (5, [.ref a3, .long 0, .long 1])), (a3, .inl (k1, 6, .inl (upd ((upd (fun _ => 0) 1 1)) 2 2)))]) (wr := [(a1, .inr (6, [.ref a2])), (a2, .inl (k0, 543, .inl (fun _ => 0)))]) [2, 3] [0, 1] rfl rfl (by decide) (by decide) hK hP hD hS hA (va_runV (As := [.int 3, .int 3]) (rest := []) ⟨hx, hb, hml, hown, noTs⟩ (c_X6_setLeast_4 l dC dI H.size a0 a3 k1 (upd ((upd (fun _ => 0) 1 1)) 2 2)) ⟨cbE 2 (wd_778 hE) (wd_124 hE) (wd_775 hE) rfl rfl (by decide +kernel) ⟨Nat.le_of_ble_eq_true rfl, Nat.le_of_ble_eq_true rfl⟩, (wd_777 hE), (wd_25 hE)⟩ ⟨PcE.blind, va_recv hK hP (ci := 5) (q0 := 2) rfl rfl, (pre_E (av := [.ref a0, .int 3, .int 3]) (wc := [(a0, .inr (5, [.ref a3, .long 0, .long 1])), (a3, .inl (k1, 6, .inl (upd ((upd (fun _ => 0) 1 1)) 2 2)))]) (tysc := [(k1, .int)]) [2, 3] [1] rfl (by decide) rfl rfl hK hP hD hE)⟩ rfl rfl hl.1 rfl (lv_room (Nat.le_of_ble_eq_true rfl)) dX6_join_11 ⟨Nat.le_of_ble_eq_true rfl, Nat.le_of_ble_eq_true rfl⟩) (fun u8 H locs hw8 hK hP hD hS => ?_)
  have hK : va_K (dC, dI) vwCl [(k0, .int), (k1, .int)] s := hK
  have hP : va_P (dC, dI) vwCl [(a1, .inr (6, [.ref a2])), (a2, .inl (k0, 543, .inl (fun _ => 0))), (a0, .inr (5, [.ref a3, .long 0, .long 1])), (a3, .inl (k1, 6, .inl (upd ((upd ((upd (fun _ => 0) 1 1)) 2 2)) 3 3)))] H := hP
  have hD : va_D A [(a1, .inr (6, [.ref a2])), (a2, .inl (k0, 543, .inl (fun _ => 0))), (a0, .inr (5, [.ref a3, .long 0, .long 1])), (a3, .inl (k1, 6, .inl (upd ((upd ((upd (fun _ => 0) 1 1)) 2 2)) 3 3)))] := hD
  refine lv_iinc (v := 4) (lv' := [(2, .int 4), (0, .ref a0), (1, .ref a1)]) hx hb dX6_join_14 hl (k := 0) rfl (by decide) (by decide) rfl (fun ls hl => ?_)
  refine lv_goto (tgt := 2) hx hb dX6_join_17 (by decide) ?_
  refine lv_iload_n hx hb dX6_join_2 rfl (lv_at hl 0 rfl) ?_
  refine lv_bipush (v := 6) hx hb dX6_join_3 (by decide) ?_
  refine lv_icmp_ge (tgt := 20) hx hb dX6_join_5 (by decide) (fun c9 => absurd c9 (by decide)) (fun c9 => ?_)
  refine lv_aload_n hx hb dX6_join_8 rfl (lv_at hl 1 rfl) ?_
  refine lv_iload_n hx hb dX6_join_9 rfl (lv_at hl 0 rfl) ?_
  refine lv_iload_n hx hb dX6_join_10 rfl (lv_at hl 0 rfl) ?_
  refine cl_v (wc := [(a0, .inr (5, [.ref a3, .long 0, .long 1])), (a3, .inl (k1, 6, .inl (upd ((upd ((upd (fun _ => 0) 1 1)) 2 2)) 3 3)))]) (wr := [(a1, .inr (6, [.ref a2])), (a2, .inl (k0, 543, .inl (fun _ => 0)))]) [2, 3] [0, 1] rfl rfl (by decide) (by decide) hK hP hD hS hA (va_runV (As := [.int 4, .int 4]) (rest := []) ⟨hx, hb, hml, hown, noTs⟩ (c_X6_setLeast_5 l dC dI H.size a0 a3 k1 (upd ((upd ((upd (fun _ => 0) 1 1)) 2 2)) 3 3)) ⟨cbE 2 (wd_778 hE) (wd_124 hE) (wd_775 hE) rfl rfl (by decide +kernel) ⟨Nat.le_of_ble_eq_true rfl, Nat.le_of_ble_eq_true rfl⟩, (wd_777 hE), (wd_25 hE)⟩ ⟨PcE.blind, va_recv hK hP (ci := 5) (q0 := 2) rfl rfl, (pre_E (av := [.ref a0, .int 4, .int 4]) (wc := [(a0, .inr (5, [.ref a3, .long 0, .long 1])), (a3, .inl (k1, 6, .inl (upd ((upd ((upd (fun _ => 0) 1 1)) 2 2)) 3 3)))]) (tysc := [(k1, .int)]) [2, 3] [1] rfl (by decide) rfl rfl hK hP hD hE)⟩ rfl rfl hl.1 rfl (lv_room (Nat.le_of_ble_eq_true rfl)) dX6_join_11 ⟨Nat.le_of_ble_eq_true rfl, Nat.le_of_ble_eq_true rfl⟩) (fun u10 H locs hw10 hK hP hD hS => ?_)
  have hK : va_K (dC, dI) vwCl [(k0, .int), (k1, .int)] s := hK
  have hP : va_P (dC, dI) vwCl [(a1, .inr (6, [.ref a2])), (a2, .inl (k0, 543, .inl (fun _ => 0))), (a0, .inr (5, [.ref a3, .long 0, .long 1])), (a3, .inl (k1, 6, .inl (upd ((upd ((upd ((upd (fun _ => 0) 1 1)) 2 2)) 3 3)) 4 4)))] H := hP
  have hD : va_D A [(a1, .inr (6, [.ref a2])), (a2, .inl (k0, 543, .inl (fun _ => 0))), (a0, .inr (5, [.ref a3, .long 0, .long 1])), (a3, .inl (k1, 6, .inl (upd ((upd ((upd ((upd (fun _ => 0) 1 1)) 2 2)) 3 3)) 4 4)))] := hD
  refine lv_iinc (v := 5) (lv' := [(2, .int 5), (0, .ref a0), (1, .ref a1)]) hx hb dX6_join_14 hl (k := 0) rfl (by decide) (by decide) rfl (fun ls hl => ?_)
  refine lv_goto (tgt := 2) hx hb dX6_join_17 (by decide) ?_
  refine lv_iload_n hx hb dX6_join_2 rfl (lv_at hl 0 rfl) ?_
  refine lv_bipush (v := 6) hx hb dX6_join_3 (by decide) ?_
  refine lv_icmp_ge (tgt := 20) hx hb dX6_join_5 (by decide) (fun c11 => absurd c11 (by decide)) (fun c11 => ?_)
  refine lv_aload_n hx hb dX6_join_8 rfl (lv_at hl 1 rfl) ?_
  refine lv_iload_n hx hb dX6_join_9 rfl (lv_at hl 0 rfl) ?_
  refine lv_iload_n hx hb dX6_join_10 rfl (lv_at hl 0 rfl) ?_
  refine cl_v (wc := [(a0, .inr (5, [.ref a3, .long 0, .long 1])), (a3, .inl (k1, 6, .inl (upd ((upd ((upd ((upd (fun _ => 0) 1 1)) 2 2)) 3 3)) 4 4)))]) (wr := [(a1, .inr (6, [.ref a2])), (a2, .inl (k0, 543, .inl (fun _ => 0)))]) [2, 3] [0, 1] rfl rfl (by decide) (by decide) hK hP hD hS hA (va_runV (As := [.int 5, .int 5]) (rest := []) ⟨hx, hb, hml, hown, noTs⟩ (c_X6_setLeast_6 l dC dI H.size a0 a3 k1 (upd ((upd ((upd ((upd (fun _ => 0) 1 1)) 2 2)) 3 3)) 4 4)) ⟨cbE 2 (wd_778 hE) (wd_124 hE) (wd_775 hE) rfl rfl (by decide +kernel) ⟨Nat.le_of_ble_eq_true rfl, Nat.le_of_ble_eq_true rfl⟩, (wd_777 hE), (wd_25 hE)⟩ ⟨PcE.blind, va_recv hK hP (ci := 5) (q0 := 2) rfl rfl, (pre_E (av := [.ref a0, .int 5, .int 5]) (wc := [(a0, .inr (5, [.ref a3, .long 0, .long 1])), (a3, .inl (k1, 6, .inl (upd ((upd ((upd ((upd (fun _ => 0) 1 1)) 2 2)) 3 3)) 4 4)))]) (tysc := [(k1, .int)]) [2, 3] [1] rfl (by decide) rfl rfl hK hP hD hE)⟩ rfl rfl hl.1 rfl (lv_room (Nat.le_of_ble_eq_true rfl)) dX6_join_11 ⟨Nat.le_of_ble_eq_true rfl, Nat.le_of_ble_eq_true rfl⟩) (fun u12 H locs hw12 hK hP hD hS => ?_)
  have hK : va_K (dC, dI) vwCl [(k0, .int), (k1, .int)] s := hK
  have hP : va_P (dC, dI) vwCl [(a1, .inr (6, [.ref a2])), (a2, .inl (k0, 543, .inl (fun _ => 0))), (a0, .inr (5, [.ref a3, .long 0, .long 1])), (a3, .inl (k1, 6, .inl (upd ((upd ((upd ((upd ((upd (fun _ => 0) 1 1)) 2 2)) 3 3)) 4 4)) 5 5)))] H := hP
  have hD : va_D A [(a1, .inr (6, [.ref a2])), (a2, .inl (k0, 543, .inl (fun _ => 0))), (a0, .inr (5, [.ref a3, .long 0, .long 1])), (a3, .inl (k1, 6, .inl (upd ((upd ((upd ((upd ((upd (fun _ => 0) 1 1)) 2 2)) 3 3)) 4 4)) 5 5)))] := hD
  refine lv_iinc (v := 6) (lv' := [(2, .int 6), (0, .ref a0), (1, .ref a1)]) hx hb dX6_join_14 hl (k := 0) rfl (by decide) (by decide) rfl (fun ls hl => ?_)
  refine lv_goto (tgt := 2) hx hb dX6_join_17 (by decide) ?_
  refine lv_iload_n hx hb dX6_join_2 rfl (lv_at hl 0 rfl) ?_
  refine lv_bipush (v := 6) hx hb dX6_join_3 (by decide) ?_
  refine lv_icmp_ge (tgt := 20) hx hb dX6_join_5 (by decide) (fun c13 => ?_) (fun c13 => absurd c13 (by decide))
  refine lv_iconst (v := 1) hx hb dX6_join_20 (by decide) ?_
  refine lv_istore_n (lv' := [(2, .int 1), (0, .ref a0), (1, .ref a1)]) hx hb dX6_join_21 rfl hl (by decide) rfl (fun ls hl => ?_)
  refine lv_iload_n hx hb dX6_join_22 rfl (lv_at hl 0 rfl) ?_
  refine lv_aload_n hx hb dX6_join_23 rfl (lv_at hl 2 rfl) ?_
  refine cl_i (wc := [(a1, .inr (6, [.ref a2])), (a2, .inl (k0, 543, .inl (fun _ => 0)))]) (wr := [(a0, .inr (5, [.ref a3, .long 0, .long 1])), (a3, .inl (k1, 6, .inl (upd ((upd ((upd ((upd ((upd (fun _ => 0) 1 1)) 2 2)) 3 3)) 4 4)) 5 5)))]) [0, 1] [2, 3] rfl rfl (by decide) (by decide) hK hP hD hS hA (va_runV (As := []) (rest := [.int 1]) ⟨hx, hb, hml, hown, noTs⟩ (c_X7_vertices l dC dI H.size a1 a2 k0) ⟨cbE 0 (wd_557 hE) (wd_116 hE) (wd_779 hE) rfl rfl (by decide +kernel) ⟨Nat.le_of_ble_eq_true rfl, Nat.le_of_ble_eq_true rfl⟩, (wd_555 hE), (wd_556 hE)⟩ ⟨PcE.blind, va_recv hK hP (ci := 6) (q0 := 0) rfl rfl, (pre_E (av := [.ref a1]) (wc := [(a1, .inr (6, [.ref a2])), (a2, .inl (k0, 543, .inl (fun _ => 0)))]) (tysc := [(k0, .int)]) [0, 1] [0] rfl (by decide) rfl rfl hK hP hD hE)⟩ rfl rfl hl.1 rfl (lv_room (Nat.le_of_ble_eq_true rfl)) dX6_join_24 ⟨Nat.le_of_ble_eq_true rfl, Nat.le_of_ble_eq_true rfl⟩) (fun r14 u14 H locs hw14 hK hP hD hS => ?_)
  have hK : va_K (dC, dI) vwCl [(k0, .int), (k1, .int)] s := hK
  have hP : va_P (dC, dI) vwCl [(a0, .inr (5, [.ref a3, .long 0, .long 1])), (a3, .inl (k1, 6, .inl (upd ((upd ((upd ((upd ((upd (fun _ => 0) 1 1)) 2 2)) 3 3)) 4 4)) 5 5))), (a1, .inr (6, [.ref a2])), (a2, .inl (k0, 543, .inl (fun _ => 0)))] H := hP
  have hD : va_D A [(a0, .inr (5, [.ref a3, .long 0, .long 1])), (a3, .inl (k1, 6, .inl (upd ((upd ((upd ((upd ((upd (fun _ => 0) 1 1)) 2 2)) 3 3)) 4 4)) 5 5))), (a1, .inr (6, [.ref a2])), (a2, .inl (k0, 543, .inl (fun _ => 0)))] := hD
  subst hw14
  refine W.eq (g2 := F0 m 27 ls [.int 0, .int 1]) rfl ?_
  refine lv_icmp_ge (tgt := 83) hx hb dX6_join_27 (by decide) (fun c15 => ?_) (fun c15 => absurd c15 (by decide))
  have hP9 := hP.sub (ws' := [(a0, .inr (5, [.ref a3, .long 0, .long 1])), (a3, .inl (k1, 6, .inl (upd ((upd ((upd ((upd ((upd (fun _ => 0) 1 1)) 2 2)) 3 3)) 4 4)) 5 5))), (a1, .inr (6, [.ref a2])), (a2, .inl (k0, 543, .inl (fun _ => 0)))]) [0, 1, 2, 3] rfl
  have hD9 := hD.sub (ws' := [(a0, .inr (5, [.ref a3, .long 0, .long 1])), (a3, .inl (k1, 6, .inl (upd ((upd ((upd ((upd ((upd (fun _ => 0) 1 1)) 2 2)) 3 3)) 4 4)) 5 5))), (a1, .inr (6, [.ref a2])), (a2, .inl (k0, 543, .inl (fun _ => 0)))]) [0, 1, 2, 3] (by decide) rfl
  have hK9 := hK.sub (tys' := []) [] rfl
  refine W.widen (k := 0) (n := 0) (Nat.le_of_ble_eq_true rfl) (Nat.le_of_ble_eq_true rfl) ?_
  exact W.vret hx hb hr (fun t ht hW => ⟨⟨(), rfl, trivial, by rw [ht]; exact hP9, va_K.moved hW.alike hK9, hD9⟩, hS.F ht⟩) hS.2.2 dX6_join_83

set_option maxHeartbeats 4000000 in
set_option maxRecDepth 100000 in
theorem c_X6_parts_2 (l : Launch) (dC : Nat → ClassId) (dI : Nat → Nat → Nat) (sz : Nat)  (a0 a1 a2 a3 : Nat) (k0 k1 : ClassId)  : Met l yX6_parts [.code yX6_parts cX6_parts 4 (some .int)] ({ frames := 2, cells := 0, slots := 0, locals := 80 }) (PcE [.ref a0, .ref a1] sz dC dI [(k0, .int), (k1, .int)] [(a1, .inr (6, [.ref a2])), (a2, .inl (k0, 543, .inl (fun _ => 0))), (a0, .inr (5, [.ref a3, .long 0, .long 1])), (a3, .inl (k1, 6, .inl (fun _ => 0)))]) (va_Qi (fun (r : Int32) (u : Unit) => r = 0) (Bw dC dI (va_A [(a1, .inr (6, [.ref a2])), (a2, .inl (k0, 543, .inl (fun _ => 0))), (a0, .inr (5, [.ref a3, .long 0, .long 1])), (a3, .inl (k1, 6, .inl (fun _ => 0)))] sz) (fun (u : Unit) => []) (fun (u : Unit) => [(a0, .inr (5, [.ref a3, .long 0, .long 1])), (a3, .inl (k1, 6, .inl (upd ((upd ((upd ((upd ((upd (fun _ => 0) 1 1)) 2 2)) 3 3)) 4 4)) 5 5))), (a1, .inr (6, [.ref a2])), (a2, .inl (k0, 543, .inl (fun _ => 0)))])) (va_A [(a1, .inr (6, [.ref a2])), (a2, .inl (k0, 543, .inl (fun _ => 0))), (a0, .inr (5, [.ref a3, .long 0, .long 1])), (a3, .inl (k1, 6, .inl (fun _ => 0)))] sz)) 0 0 (va_A [(a1, .inr (6, [.ref a2])), (a2, .inl (k0, 543, .inl (fun _ => 0))), (a0, .inr (5, [.ref a3, .long 0, .long 1])), (a3, .inl (k1, 6, .inl (fun _ => 0)))] sz) := by
  refine Met.ofW (cc := cX6_parts) (maxL := 4) (ret := (some .int)) (by decide) rfl ?_
  intro p e s m args below meth c s₁ B hml hv
  obtain ⟨rfl, hsz, hP, hK, hD0, hE⟩ := hv
  have hx := B.exec
  have hb := B.bytes
  have hr := B.returns
  have hown : s.vm.findClass RX6 = some m.cls := findClass_of_methodNamed B.named
  have hlocks := B.notSynchronized
  subst hsz
  have hD := hD0.self (sz := s.heap.size)
  generalize hAe : va_A [(a1, .inr (6, [.ref a2])), (a2, .inl (k0, 543, .inl (fun _ => 0))), (a0, .inr (5, [.ref a3, .long 0, .long 1])), (a3, .inl (k1, 6, .inl (fun _ => 0)))] s.heap.size = A at hD ⊢
  have hA : ∀ q : Nat, s.heap.size ≤ q → A q := fun q h => by rw [← hAe]; exact Or.inr h
  have hS : va_S A s.heap s.heap [] := va_S.rf
  have hl := lv_entry ([.ref a0, .ref a1]) (n := 4) (Nat.le_of_ble_eq_true rfl)
  rw [lg_entry_eq]
  generalize (lg_sl ([.ref a0, .ref a1]) ++ List.replicate (4 - (lg_sl ([.ref a0, .ref a1])).length) Slot.unset).toArray = ls at hl ⊢
  have hl : lv_has ls 4 [(0, .ref a0), (1, .ref a1)] := hl
  refine lv_aload_n hx hb dX6_parts_0 rfl (lv_at hl 0 rfl) ?_
  refine lv_aload_n hx hb dX6_parts_1 rfl (lv_at hl 1 rfl) ?_
  refine cl_v (wc := [(a1, .inr (6, [.ref a2])), (a2, .inl (k0, 543, .inl (fun _ => 0))), (a0, .inr (5, [.ref a3, .long 0, .long 1])), (a3, .inl (k1, 6, .inl (fun _ => 0)))]) (wr := []) [0, 1, 2, 3] [] rfl rfl (by decide) (by decide) hK hP hD hS hA (va_runV (As := [.ref a1]) (rest := []) ⟨hx, hb, hml, hown, noTs⟩ (c_X6_join_2 l dC dI s.heap.size a0 a1 a2 a3 k0 k1) ⟨cbE 1 (wd_774 hE) (wd_124 hE) (wd_771 hE) rfl rfl (by decide +kernel) ⟨Nat.le_of_ble_eq_true rfl, Nat.le_of_ble_eq_true rfl⟩, (wd_773 hE), (wd_24 hE)⟩ ⟨PcE.blind, va_recv hK hP (ci := 5) (q0 := 2) rfl rfl, (pre_E (av := [.ref a0, .ref a1]) (wc := [(a1, .inr (6, [.ref a2])), (a2, .inl (k0, 543, .inl (fun _ => 0))), (a0, .inr (5, [.ref a3, .long 0, .long 1])), (a3, .inl (k1, 6, .inl (fun _ => 0)))]) (tysc := [(k0, .int), (k1, .int)]) [0, 1, 2, 3] [0, 1] rfl (by decide) rfl rfl hK hP hD hE)⟩ rfl rfl hl.1 rfl (lv_room (Nat.le_of_ble_eq_true rfl)) dX6_parts_2 ⟨Nat.le_of_ble_eq_true rfl, Nat.le_of_ble_eq_true rfl⟩) (fun u1 H locs hw1 hK hP hD hS => ?_)
  have hK : va_K (dC, dI) vwCl [(k0, .int), (k1, .int)] s := hK
  have hP : va_P (dC, dI) vwCl [(a0, .inr (5, [.ref a3, .long 0, .long 1])), (a3, .inl (k1, 6, .inl (upd ((upd ((upd ((upd ((upd (fun _ => 0) 1 1)) 2 2)) 3 3)) 4 4)) 5 5))), (a1, .inr (6, [.ref a2])), (a2, .inl (k0, 543, .inl (fun _ => 0)))] H := hP
  have hD : va_D A [(a0, .inr (5, [.ref a3, .long 0, .long 1])), (a3, .inl (k1, 6, .inl (upd ((upd ((upd ((upd ((upd (fun _ => 0) 1 1)) 2 2)) 3 3)) 4 4)) 5 5))), (a1, .inr (6, [.ref a2])), (a2, .inl (k0, 543, .inl (fun _ => 0)))] := hD
  refine lv_iconst (v := 0) hx hb dX6_parts_5 (by decide) ?_
  refine lv_istore_n (lv' := [(2, .int 0), (0, .ref a0), (1, .ref a1)]) hx hb dX6_parts_6 rfl hl (by decide) rfl (fun ls hl => ?_)
  refine lv_iconst (v := 0) hx hb dX6_parts_7 (by decide) ?_
  refine lv_istore_n (lv' := [(3, .int 0), (2, .int 0), (0, .ref a0), (1, .ref a1)]) hx hb dX6_parts_8 rfl hl (by decide) rfl (fun ls hl => ?_)
  refine lv_iload_n hx hb dX6_parts_9 rfl (lv_at hl 0 rfl) ?_
  refine lv_aload_n hx hb dX6_parts_10 rfl (lv_at hl 3 rfl) ?_
  refine cl_i (wc := [(a1, .inr (6, [.ref a2])), (a2, .inl (k0, 543, .inl (fun _ => 0)))]) (wr := [(a0, .inr (5, [.ref a3, .long 0, .long 1])), (a3, .inl (k1, 6, .inl (upd ((upd ((upd ((upd ((upd (fun _ => 0) 1 1)) 2 2)) 3 3)) 4 4)) 5 5)))]) [2, 3] [0, 1] rfl rfl (by decide) (by decide) hK hP hD hS hA (va_runV (As := []) (rest := [.int 0]) ⟨hx, hb, hml, hown, noTs⟩ (c_X7_vertices l dC dI H.size a1 a2 k0) ⟨cbE 0 (wd_557 hE) (wd_116 hE) (wd_779 hE) rfl rfl (by decide +kernel) ⟨Nat.le_of_ble_eq_true rfl, Nat.le_of_ble_eq_true rfl⟩, (wd_555 hE), (wd_556 hE)⟩ ⟨PcE.blind, va_recv hK hP (ci := 6) (q0 := 2) rfl rfl, (pre_E (av := [.ref a1]) (wc := [(a1, .inr (6, [.ref a2])), (a2, .inl (k0, 543, .inl (fun _ => 0)))]) (tysc := [(k0, .int)]) [2, 3] [0] rfl (by decide) rfl rfl hK hP hD hE)⟩ rfl rfl hl.1 rfl (lv_room (Nat.le_of_ble_eq_true rfl)) dX6_parts_11 ⟨Nat.le_of_ble_eq_true rfl, Nat.le_of_ble_eq_true rfl⟩) (fun r2 u2 H locs hw2 hK hP hD hS => ?_)
  have hK : va_K (dC, dI) vwCl [(k0, .int), (k1, .int)] s := hK
  have hP : va_P (dC, dI) vwCl [(a0, .inr (5, [.ref a3, .long 0, .long 1])), (a3, .inl (k1, 6, .inl (upd ((upd ((upd ((upd ((upd (fun _ => 0) 1 1)) 2 2)) 3 3)) 4 4)) 5 5))), (a1, .inr (6, [.ref a2])), (a2, .inl (k0, 543, .inl (fun _ => 0)))] H := hP
  have hD : va_D A [(a0, .inr (5, [.ref a3, .long 0, .long 1])), (a3, .inl (k1, 6, .inl (upd ((upd ((upd ((upd ((upd (fun _ => 0) 1 1)) 2 2)) 3 3)) 4 4)) 5 5))), (a1, .inr (6, [.ref a2])), (a2, .inl (k0, 543, .inl (fun _ => 0)))] := hD
  subst hw2
  refine W.eq (g2 := F0 m 14 ls [.int 0, .int 0]) rfl ?_
  refine lv_icmp_ge (tgt := 43) hx hb dX6_parts_14 (by decide) (fun c3 => ?_) (fun c3 => absurd c3 (by decide))
  refine lv_iload_n hx hb dX6_parts_43 rfl (lv_at hl 1 rfl) ?_
  have hP9 := hP.sub (ws' := [(a0, .inr (5, [.ref a3, .long 0, .long 1])), (a3, .inl (k1, 6, .inl (upd ((upd ((upd ((upd ((upd (fun _ => 0) 1 1)) 2 2)) 3 3)) 4 4)) 5 5))), (a1, .inr (6, [.ref a2])), (a2, .inl (k0, 543, .inl (fun _ => 0)))]) [0, 1, 2, 3] rfl
  have hD9 := hD.sub (ws' := [(a0, .inr (5, [.ref a3, .long 0, .long 1])), (a3, .inl (k1, 6, .inl (upd ((upd ((upd ((upd ((upd (fun _ => 0) 1 1)) 2 2)) 3 3)) 4 4)) 5 5))), (a1, .inr (6, [.ref a2])), (a2, .inl (k0, 543, .inl (fun _ => 0)))]) [0, 1, 2, 3] (by decide) rfl
  have hK9 := hK.sub (tys' := []) [] rfl
  refine W.widen (k := 0) (n := 0) (Nat.le_of_ble_eq_true rfl) (Nat.le_of_ble_eq_true rfl) ?_
  exact W.iret (v := 0) hx hb hr (fun t ht hW => ⟨⟨0, (), rfl, rfl, by rw [ht]; exact hP9, va_K.moved hW.alike hK9, hD9⟩, hS.F ht⟩) hS.2.2 dX6_parts_44

set_option maxHeartbeats 4000000 in
set_option maxRecDepth 100000 in
theorem c_X8_size (l : Launch) (dC : Nat → ClassId) (dI : Nat → Nat → Nat) (sz : Nat)  (a0 a1 : Nat)  : Met l yX8_size [.code yX8_size cX8_size 1 (some .int)] ({ frames := 0, cells := 0, slots := 0, locals := 0 }) (PcE [.ref a0] sz dC dI [] [(a0, .inr (7, [.ref a1, .int 0]))]) (va_Qi (fun (r : Int32) (u : Unit) => r = 0) (Bw dC dI (va_A [(a0, .inr (7, [.ref a1, .int 0]))] sz) (fun (u : Unit) => []) (fun (u : Unit) => [(a0, .inr (7, [.ref a1, .int 0]))])) (va_A [(a0, .inr (7, [.ref a1, .int 0]))] sz)) 0 0 (va_A [(a0, .inr (7, [.ref a1, .int 0]))] sz) := by
  refine Met.ofW (cc := cX8_size) (maxL := 1) (ret := (some .int)) (by decide) rfl ?_
  intro p e s m args below meth c s₁ B hml hv
  obtain ⟨rfl, hsz, hP, hK, hD0, hE⟩ := hv
  have hx := B.exec
  have hb := B.bytes
  have hr := B.returns
  have hown : s.vm.findClass RX8 = some m.cls := findClass_of_methodNamed B.named
  have hlocks := B.notSynchronized
  subst hsz
  have hD := hD0.self (sz := s.heap.size)
  generalize hAe : va_A [(a0, .inr (7, [.ref a1, .int 0]))] s.heap.size = A at hD ⊢
  have hA : ∀ q : Nat, s.heap.size ≤ q → A q := fun q h => by rw [← hAe]; exact Or.inr h
  have hS : va_S A s.heap s.heap [] := va_S.rf
  have hl := lv_entry ([.ref a0]) (n := 1) (Nat.le_of_ble_eq_true rfl)
  rw [lg_entry_eq]
  generalize (lg_sl ([.ref a0]) ++ List.replicate (1 - (lg_sl ([.ref a0])).length) Slot.unset).toArray = ls at hl ⊢
  have hl : lv_has ls 1 [(0, .ref a0)] := hl
  refine lv_aload_n hx hb dX8_size_0 rfl (lv_at hl 0 rfl) ?_
  refine va_get (D := (dC, dI)) (ci := 7) (v := .int 0) (C := RX8) (T := TX8) (N := 2) hx hb (ly_X8 hE) (fun _ h9 => h9) hown hK hP 0 rfl rfl 1 (by decide) (wd_265 hE) (fun _ h9 => h9) rfl dX8_size_1 ?_
  have hP9 := hP.sub (ws' := [(a0, .inr (7, [.ref a1, .int 0]))]) [0] rfl
  have hD9 := hD.sub (ws' := [(a0, .inr (7, [.ref a1, .int 0]))]) [0] (by decide) rfl
  have hK9 := hK.sub (tys' := []) [] rfl
  refine W.widen (k := 0) (n := 0) (Nat.le_of_ble_eq_true rfl) (Nat.le_of_ble_eq_true rfl) ?_
  exact W.iret (v := 0) hx hb hr (fun t ht hW => ⟨⟨0, (), rfl, rfl, by rw [ht]; exact hP9, va_K.moved hW.alike hK9, hD9⟩, hS.F ht⟩) hS.2.2 dX8_size_4

set_option maxHeartbeats 4000000 in
set_option maxRecDepth 100000 in
theorem c_X6_weigh (l : Launch) (dC : Nat → ClassId) (dI : Nat → Nat → Nat) (sz : Nat)  (a0 a1 a2 a3 : Nat) (k0 : ClassId)  : Met l yX6_weigh [.code yX6_weigh cX6_weigh 3 none] ({ frames := 1, cells := 0, slots := 0, locals := 40 }) (PcE [.ref a0, .ref a1] sz dC dI [(k0, .int)] [(a1, .inr (6, [.ref a2])), (a2, .inl (k0, 543, .inl (fun _ => 0))), (a0, .inr (5, [.ref a3, .long 0, .long 1]))]) (va_Qv (fun (u : Unit) => True) (Bw dC dI (va_A [(a1, .inr (6, [.ref a2])), (a2, .inl (k0, 543, .inl (fun _ => 0))), (a0, .inr (5, [.ref a3, .long 0, .long 1]))] sz) (fun (u : Unit) => []) (fun (u : Unit) => [(a0, .inr (5, [.ref a3, .long 0, .long 1])), (a1, .inr (6, [.ref a2])), (a2, .inl (k0, 543, .inl (fun _ => 0)))])) (va_A [(a1, .inr (6, [.ref a2])), (a2, .inl (k0, 543, .inl (fun _ => 0))), (a0, .inr (5, [.ref a3, .long 0, .long 1]))] sz)) 0 0 (va_A [(a1, .inr (6, [.ref a2])), (a2, .inl (k0, 543, .inl (fun _ => 0))), (a0, .inr (5, [.ref a3, .long 0, .long 1]))] sz) := by
  refine Met.ofW (cc := cX6_weigh) (maxL := 3) (ret := none) (by decide) rfl ?_
  intro p e s m args below meth c s₁ B hml hv
  obtain ⟨rfl, hsz, hP, hK, hD0, hE⟩ := hv
  have hx := B.exec
  have hb := B.bytes
  have hr := B.returns
  have hown : s.vm.findClass RX6 = some m.cls := findClass_of_methodNamed B.named
  have hlocks := B.notSynchronized
  subst hsz
  have hD := hD0.self (sz := s.heap.size)
  generalize hAe : va_A [(a1, .inr (6, [.ref a2])), (a2, .inl (k0, 543, .inl (fun _ => 0))), (a0, .inr (5, [.ref a3, .long 0, .long 1]))] s.heap.size = A at hD ⊢
  have hA : ∀ q : Nat, s.heap.size ≤ q → A q := fun q h => by rw [← hAe]; exact Or.inr h
  have hS : va_S A s.heap s.heap [] := va_S.rf
  have hl := lv_entry ([.ref a0, .ref a1]) (n := 3) (Nat.le_of_ble_eq_true rfl)
  rw [lg_entry_eq]
  generalize (lg_sl ([.ref a0, .ref a1]) ++ List.replicate (3 - (lg_sl ([.ref a0, .ref a1])).length) Slot.unset).toArray = ls at hl ⊢
  have hl : lv_has ls 3 [(0, .ref a0), (1, .ref a1)] := hl
  refine lv_aload_n hx hb dX6_weigh_0 rfl (lv_at hl 0 rfl) ?_
  refine lv_lconst (v := 0) hx hb dX6_weigh_1 (by decide) ?_
  refine va_put (D := (dC, dI)) (ci := 5) (v := .long 0) (ty := .long) (C := RX6) (T := TX6) (N := 3) hx hb (ly_X6 hE) (fun _ h9 => h9) tyX6 tyX6_ok nmX6 hown hK hP hD hS 2 rfl rfl 1 (by decide) (wd_339 hE) (fun _ h9 => h9) rfl (by decide +kernel) rfl rfl (Nat.le_of_ble_eq_true rfl) dX6_weigh_2 (fun H locs hP hD hS => ?_)
  have hP : va_P (dC, dI) vwCl [(a1, .inr (6, [.ref a2])), (a2, .inl (k0, 543, .inl (fun _ => 0))), (a0, .inr (5, [.ref a3, .long 0, .long 1]))] H := hP
  have hD : va_D A [(a1, .inr (6, [.ref a2])), (a2, .inl (k0, 543, .inl (fun _ => 0))), (a0, .inr (5, [.ref a3, .long 0, .long 1]))] := hD
  refine lv_aload_n hx hb dX6_weigh_5 rfl (lv_at hl 0 rfl) ?_
  refine lv_lconst (v := 1) hx hb dX6_weigh_6 (by decide) ?_
  refine va_put (D := (dC, dI)) (ci := 5) (v := .long 1) (ty := .long) (C := RX6) (T := TX6) (N := 3) hx hb (ly_X6 hE) (fun _ h9 => h9) tyX6 tyX6_ok nmX6 hown hK hP hD hS 2 rfl rfl 2 (by decide) (wd_340 hE) (fun _ h9 => h9) rfl (by decide +kernel) rfl rfl (Nat.le_of_ble_eq_true rfl) dX6_weigh_7 (fun H locs hP hD hS => ?_)
  have hP : va_P (dC, dI) vwCl [(a1, .inr (6, [.ref a2])), (a2, .inl (k0, 543, .inl (fun _ => 0))), (a0, .inr (5, [.ref a3, .long 0, .long 1]))] H := hP
  have hD : va_D A [(a1, .inr (6, [.ref a2])), (a2, .inl (k0, 543, .inl (fun _ => 0))), (a0, .inr (5, [.ref a3, .long 0, .long 1]))] := hD
  refine lv_iconst (v := 0) hx hb dX6_weigh_10 (by decide) ?_
  refine lv_istore_n (lv' := [(2, .int 0), (0, .ref a0), (1, .ref a1)]) hx hb dX6_weigh_11 rfl hl (by decide) rfl (fun ls hl => ?_)
  refine lv_iload_n hx hb dX6_weigh_12 rfl (lv_at hl 0 rfl) ?_
  refine lv_aload_n hx hb dX6_weigh_13 rfl (lv_at hl 2 rfl) ?_
  refine cl_i (wc := [(a1, .inr (6, [.ref a2])), (a2, .inl (k0, 543, .inl (fun _ => 0)))]) (wr := [(a0, .inr (5, [.ref a3, .long 0, .long 1]))]) [0, 1] [2] rfl rfl (by decide) (by decide) hK hP hD hS hA (va_runV (As := []) (rest := [.int 0]) ⟨hx, hb, hml, hown, noTs⟩ (c_X7_vertices l dC dI H.size a1 a2 k0) ⟨cbE 0 (wd_557 hE) (wd_116 hE) (wd_779 hE) rfl rfl (by decide +kernel) ⟨Nat.le_of_ble_eq_true rfl, Nat.le_of_ble_eq_true rfl⟩, (wd_555 hE), (wd_556 hE)⟩ ⟨PcE.blind, va_recv hK hP (ci := 6) (q0 := 0) rfl rfl, (pre_E (av := [.ref a1]) (wc := [(a1, .inr (6, [.ref a2])), (a2, .inl (k0, 543, .inl (fun _ => 0)))]) (tysc := [(k0, .int)]) [0, 1] [0] rfl (by decide) rfl rfl hK hP hD hE)⟩ rfl rfl hl.1 rfl (lv_room (Nat.le_of_ble_eq_true rfl)) dX6_weigh_14 ⟨Nat.le_of_ble_eq_true rfl, Nat.le_of_ble_eq_true rfl⟩) (fun r1 u1 H locs hw1 hK hP hD hS => ?_)
  have hK : va_K (dC, dI) vwCl [(k0, .int)] s := hK
  have hP : va_P (dC, dI) vwCl [(a0, .inr (5, [.ref a3, .long 0, .long 1])), (a1, .inr (6, [.ref a2])), (a2, .inl (k0, 543, .inl (fun _ => 0)))] H := hP
  have hD : va_D A [(a0, .inr (5, [.ref a3, .long 0, .long 1])), (a1, .inr (6, [.ref a2])), (a2, .inl (k0, 543, .inl (fun _ => 0)))] := hD
  subst hw1
  refine W.eq (g2 := F0 m 17 ls [.int 0, .int 0]) rfl ?_
  refine lv_icmp_ge (tgt := 37) hx hb dX6_weigh_17 (by decide) (fun c2 => ?_) (fun c2 => absurd c2 (by decide))
  refine lv_iconst (v := 0) hx hb dX6_weigh_37 (by decide) ?_
  refine lv_istore_n (lv' := [(2, .int 0), (0, .ref a0), (1, .ref a1)]) hx hb dX6_weigh_38 rfl hl (by decide) rfl (fun ls hl => ?_)
  refine lv_iload_n hx hb dX6_weigh_39 rfl (lv_at hl 0 rfl) ?_
  refine lv_aload_n hx hb dX6_weigh_40 rfl (lv_at hl 2 rfl) ?_
  refine cl_i (wc := [(a1, .inr (6, [.ref a2])), (a2, .inl (k0, 543, .inl (fun _ => 0)))]) (wr := [(a0, .inr (5, [.ref a3, .long 0, .long 1]))]) [1, 2] [0] rfl rfl (by decide) (by decide) hK hP hD hS hA (va_runV (As := []) (rest := [.int 0]) ⟨hx, hb, hml, hown, noTs⟩ (c_X7_edges l dC dI H.size a1 a2 k0) ⟨cbE 0 (wd_598 hE) (wd_116 hE) (wd_1200 hE) rfl rfl (by decide +kernel) ⟨Nat.le_of_ble_eq_true rfl, Nat.le_of_ble_eq_true rfl⟩, (wd_596 hE), (wd_597 hE)⟩ ⟨PcE.blind, va_recv hK hP (ci := 6) (q0 := 1) rfl rfl, (pre_E (av := [.ref a1]) (wc := [(a1, .inr (6, [.ref a2])), (a2, .inl (k0, 543, .inl (fun _ => 0)))]) (tysc := [(k0, .int)]) [1, 2] [0] rfl (by decide) rfl rfl hK hP hD hE)⟩ rfl rfl hl.1 rfl (lv_room (Nat.le_of_ble_eq_true rfl)) dX6_weigh_41 ⟨Nat.le_of_ble_eq_true rfl, Nat.le_of_ble_eq_true rfl⟩) (fun r3 u3 H locs hw3 hK hP hD hS => ?_)
  have hK : va_K (dC, dI) vwCl [(k0, .int)] s := hK
  have hP : va_P (dC, dI) vwCl [(a0, .inr (5, [.ref a3, .long 0, .long 1])), (a1, .inr (6, [.ref a2])), (a2, .inl (k0, 543, .inl (fun _ => 0)))] H := hP
  have hD : va_D A [(a0, .inr (5, [.ref a3, .long 0, .long 1])), (a1, .inr (6, [.ref a2])), (a2, .inl (k0, 543, .inl (fun _ => 0)))] := hD
  subst hw3
  refine W.eq (g2 := F0 m 44 ls [.int 0, .int 0]) rfl ?_
  refine lv_icmp_ge (tgt := 66) hx hb dX6_weigh_44 (by decide) (fun c4 => ?_) (fun c4 => absurd c4 (by decide))
  have hP9 := hP.sub (ws' := [(a0, .inr (5, [.ref a3, .long 0, .long 1])), (a1, .inr (6, [.ref a2])), (a2, .inl (k0, 543, .inl (fun _ => 0)))]) [0, 1, 2] rfl
  have hD9 := hD.sub (ws' := [(a0, .inr (5, [.ref a3, .long 0, .long 1])), (a1, .inr (6, [.ref a2])), (a2, .inl (k0, 543, .inl (fun _ => 0)))]) [0, 1, 2] (by decide) rfl
  have hK9 := hK.sub (tys' := []) [] rfl
  refine W.widen (k := 0) (n := 0) (Nat.le_of_ble_eq_true rfl) (Nat.le_of_ble_eq_true rfl) ?_
  exact W.vret hx hb hr (fun t ht hW => ⟨⟨(), rfl, trivial, by rw [ht]; exact hP9, va_K.moved hW.alike hK9, hD9⟩, hS.F ht⟩) hS.2.2 dX6_weigh_66

set_option maxHeartbeats 4000000 in
set_option maxRecDepth 100000 in
theorem c_X6_below (l : Launch) (dC : Nat → ClassId) (dI : Nat → Nat → Nat) (sz : Nat)  (a0 a1 : Nat)  : Met l yX6_below [.code yX6_below cX6_below 1 (some .long)] ({ frames := 0, cells := 0, slots := 0, locals := 0 }) (PcE [.ref a0] sz dC dI [] [(a0, .inr (5, [.ref a1, .long 0, .long 1]))]) (va_Ql (fun (r : Int64) (u : Unit) => r = 1) (Bw dC dI (va_A [(a0, .inr (5, [.ref a1, .long 0, .long 1]))] sz) (fun (u : Unit) => []) (fun (u : Unit) => [(a0, .inr (5, [.ref a1, .long 0, .long 1]))])) (va_A [(a0, .inr (5, [.ref a1, .long 0, .long 1]))] sz)) 0 0 (va_A [(a0, .inr (5, [.ref a1, .long 0, .long 1]))] sz) := by
  refine Met.ofW (cc := cX6_below) (maxL := 1) (ret := (some .long)) (by decide) rfl ?_
  intro p e s m args below meth c s₁ B hml hv
  obtain ⟨rfl, hsz, hP, hK, hD0, hE⟩ := hv
  have hx := B.exec
  have hb := B.bytes
  have hr := B.returns
  have hown : s.vm.findClass RX6 = some m.cls := findClass_of_methodNamed B.named
  have hlocks := B.notSynchronized
  subst hsz
  have hD := hD0.self (sz := s.heap.size)
  generalize hAe : va_A [(a0, .inr (5, [.ref a1, .long 0, .long 1]))] s.heap.size = A at hD ⊢
  have hA : ∀ q : Nat, s.heap.size ≤ q → A q := fun q h => by rw [← hAe]; exact Or.inr h
  have hS : va_S A s.heap s.heap [] := va_S.rf
  have hl := lv_entry ([.ref a0]) (n := 1) (Nat.le_of_ble_eq_true rfl)
  rw [lg_entry_eq]
  generalize (lg_sl ([.ref a0]) ++ List.replicate (1 - (lg_sl ([.ref a0])).length) Slot.unset).toArray = ls at hl ⊢
  have hl : lv_has ls 1 [(0, .ref a0)] := hl
  refine lv_aload_n hx hb dX6_below_0 rfl (lv_at hl 0 rfl) ?_
  refine va_get (D := (dC, dI)) (ci := 5) (v := .long 1) (C := RX6) (T := TX6) (N := 3) hx hb (ly_X6 hE) (fun _ h9 => h9) hown hK hP 0 rfl rfl 2 (by decide) (wd_340 hE) (fun _ h9 => h9) rfl dX6_below_1 ?_
  have hP9 := hP.sub (ws' := [(a0, .inr (5, [.ref a1, .long 0, .long 1]))]) [0] rfl
  have hD9 := hD.sub (ws' := [(a0, .inr (5, [.ref a1, .long 0, .long 1]))]) [0] (by decide) rfl
  have hK9 := hK.sub (tys' := []) [] rfl
  refine W.widen (k := 0) (n := 0) (Nat.le_of_ble_eq_true rfl) (Nat.le_of_ble_eq_true rfl) ?_
  exact W.lret (v := 1) hx hb hr (fun t ht hW => ⟨⟨1, (), rfl, rfl, by rw [ht]; exact hP9, va_K.moved hW.alike hK9, hD9⟩, hS.F ht⟩) hS.2.2 dX6_below_4

set_option maxHeartbeats 4000000 in
set_option maxRecDepth 100000 in
theorem c_X6_above (l : Launch) (dC : Nat → ClassId) (dI : Nat → Nat → Nat) (sz : Nat)  (a0 a1 : Nat)  : Met l yX6_above [.code yX6_above cX6_above 1 (some .long)] ({ frames := 0, cells := 0, slots := 0, locals := 0 }) (PcE [.ref a0] sz dC dI [] [(a0, .inr (5, [.ref a1, .long 0, .long 1]))]) (va_Ql (fun (r : Int64) (u : Unit) => r = 0) (Bw dC dI (va_A [(a0, .inr (5, [.ref a1, .long 0, .long 1]))] sz) (fun (u : Unit) => []) (fun (u : Unit) => [(a0, .inr (5, [.ref a1, .long 0, .long 1]))])) (va_A [(a0, .inr (5, [.ref a1, .long 0, .long 1]))] sz)) 0 0 (va_A [(a0, .inr (5, [.ref a1, .long 0, .long 1]))] sz) := by
  refine Met.ofW (cc := cX6_above) (maxL := 1) (ret := (some .long)) (by decide) rfl ?_
  intro p e s m args below meth c s₁ B hml hv
  obtain ⟨rfl, hsz, hP, hK, hD0, hE⟩ := hv
  have hx := B.exec
  have hb := B.bytes
  have hr := B.returns
  have hown : s.vm.findClass RX6 = some m.cls := findClass_of_methodNamed B.named
  have hlocks := B.notSynchronized
  subst hsz
  have hD := hD0.self (sz := s.heap.size)
  generalize hAe : va_A [(a0, .inr (5, [.ref a1, .long 0, .long 1]))] s.heap.size = A at hD ⊢
  have hA : ∀ q : Nat, s.heap.size ≤ q → A q := fun q h => by rw [← hAe]; exact Or.inr h
  have hS : va_S A s.heap s.heap [] := va_S.rf
  have hl := lv_entry ([.ref a0]) (n := 1) (Nat.le_of_ble_eq_true rfl)
  rw [lg_entry_eq]
  generalize (lg_sl ([.ref a0]) ++ List.replicate (1 - (lg_sl ([.ref a0])).length) Slot.unset).toArray = ls at hl ⊢
  have hl : lv_has ls 1 [(0, .ref a0)] := hl
  refine lv_aload_n hx hb dX6_above_0 rfl (lv_at hl 0 rfl) ?_
  refine va_get (D := (dC, dI)) (ci := 5) (v := .long 0) (C := RX6) (T := TX6) (N := 3) hx hb (ly_X6 hE) (fun _ h9 => h9) hown hK hP 0 rfl rfl 1 (by decide) (wd_339 hE) (fun _ h9 => h9) rfl dX6_above_1 ?_
  have hP9 := hP.sub (ws' := [(a0, .inr (5, [.ref a1, .long 0, .long 1]))]) [0] rfl
  have hD9 := hD.sub (ws' := [(a0, .inr (5, [.ref a1, .long 0, .long 1]))]) [0] (by decide) rfl
  have hK9 := hK.sub (tys' := []) [] rfl
  refine W.widen (k := 0) (n := 0) (Nat.le_of_ble_eq_true rfl) (Nat.le_of_ble_eq_true rfl) ?_
  exact W.lret (v := 0) hx hb hr (fun t ht hW => ⟨⟨0, (), rfl, rfl, by rw [ht]; exact hP9, va_K.moved hW.alike hK9, hD9⟩, hS.F ht⟩) hS.2.2 dX6_above_4
