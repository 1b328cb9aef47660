set_option maxHeartbeats 4000000 in
set_option maxRecDepth 100000 in
theorem c_X9_init (l : Launch) (dC : Nat → ClassId) (dI : Nat → Nat → Nat) (sz : Nat)  (a0 : Nat)  : Met l yX9_init [.code yX9_init cX9_init 1 none] ({ frames := 1, cells := 4, slots := 2103, locals := 40 }) (PcE [.ref a0] sz dC dI [] [(a0, .inr (8, [.null, .null, .null, .int 0, .null, .int 0]))]) (va_Qv (fun (u : (Nat → Nat) × (Nat → ClassId)) => True) (Bw dC dI (va_A [(a0, .inr (8, [.null, .null, .null, .int 0, .null, .int 0]))] sz) (fun (u : (Nat → Nat) × (Nat → ClassId)) => []) (fun (u : (Nat → Nat) × (Nat → ClassId)) => [(a0, .inr (8, [.ref (u.1 0), .ref (u.1 1), .ref (u.1 2), .int 0, .ref (u.1 3), .int 0]))])) (va_A [(a0, .inr (8, [.null, .null, .null, .int 0, .null, .int 0]))] sz)) 4 2103 (va_A [(a0, .inr (8, [.null, .null, .null, .int 0, .null, .int 0]))] sz) := by
  refine Met.ofW (cc := cX9_init) (maxL := 1) (ret := none) (by decide) rfl ?_
  intro p e s m args below meth c s₁ B hml hv
  obtain ⟨rfl, hsz, hP, hK, hD0, hE⟩ := hv
  have hx := B.exec
  have hb := B.bytes
  have hr := B.returns
  have hown : s.vm.findClass RX9 = some m.cls := findClass_of_methodNamed B.named
  have hlocks := B.notSynchronized
  have hin : meth.name = "<init>" := (name_of_methodNamed B.named B.method).1
  subst hsz
  have hD := hD0.self (sz := s.heap.size)
  generalize hAe : va_A [(a0, .inr (8, [.null, .null, .null, .int 0, .null, .int 0]))] s.heap.size = A at hD ⊢
  have hA : ∀ q : Nat, s.heap.size ≤ q → A q := fun q h => by rw [← hAe]; exact Or.inr h
  have hS : va_S A s.heap s.heap [] := va_S.rf
  have hl := lv_entry ([.ref a0]) (n := 1) (Nat.le_of_ble_eq_true rfl)
  rw [lg_entry_eq]
  generalize (lg_sl ([.ref a0]) ++ List.replicate (1 - (lg_sl ([.ref a0])).length) Slot.unset).toArray = ls at hl ⊢
  have hl : lv_has ls 1 [(0, .ref a0)] := hl
  refine lv_aload_n hx hb dX9_init_0 rfl (lv_at hl 0 rfl) ?_
  refine W.objInit hx hb hown (wd_185 hE) (wd_141 hE) (wd_142 hE) rfl (by rw [hml]; exact hl.1) rfl dX9_init_1 (Nat.le_of_ble_eq_true rfl) (Nat.le_of_ble_eq_true rfl) ?_
  refine W.eq (g2 := F0 m 4 ls []) rfl ?_
  refine lv_aload_n hx hb dX9_init_4 rfl (lv_at hl 0 rfl) ?_
  refine lv_sipush (v := 701) hx hb dX9_init_5 (by decide) ?_
  refine va_newa (atype := .int) (ty := .int) (N' := 701) (a0 := (701, .inl (fun _ => 0))) hx hb (wd_153 hE) rfl hK hP hD hS hA (fun _ => rfl) (by decide) (by decide) (Nat.le_of_ble_eq_true rfl) (Nat.le_of_ble_eq_true rfl) (Nat.le_of_ble_eq_true rfl) dX9_init_8 (fun q1 k1 H hK hP hD hS => ?_)
  have hK : va_K (dC, dI) vwCl [(k1, .int)] s := hK
  have hP : va_P (dC, dI) vwCl [(a0, .inr (8, [.null, .null, .null, .int 0, .null, .int 0])), (q1, .inl (k1, 701, .inl (fun _ => 0)))] H := hP
  have hD : va_D A [(a0, .inr (8, [.null, .null, .null, .int 0, .null, .int 0])), (q1, .inl (k1, 701, .inl (fun _ => 0)))] := hD
  refine W.widen (k := 1) (n := 701) (Nat.le_of_ble_eq_true rfl) (Nat.le_of_ble_eq_true rfl) ?_
  refine va_putF (D := (dC, dI)) (ci := 8) (v := .ref q1) (ty := .array .int) (C := RX9) (T := TX9) (N := 6) hx hb (ly_X9 hE) (fun _ h9 => h9) tyX9 tyX9_ok nmX9 hown hK hP hD hS 0 rfl rfl 0 (by decide) (wd_186 hE) (fun _ h9 => h9) rfl hin rfl (by decide +kernel) rfl rfl (Nat.le_of_ble_eq_true rfl) dX9_init_10 (fun H locs hP hD hS => ?_)
  have hP : va_P (dC, dI) vwCl [(a0, .inr (8, [.ref q1, .null, .null, .int 0, .null, .int 0])), (q1, .inl (k1, 701, .inl (fun _ => 0)))] H := hP
  have hD : va_D A [(a0, .inr (8, [.ref q1, .null, .null, .int 0, .null, .int 0])), (q1, .inl (k1, 701, .inl (fun _ => 0)))] := hD
  refine lv_aload_n hx hb dX9_init_13 rfl (lv_at hl 0 rfl) ?_
  refine lv_sipush (v := 701) hx hb dX9_init_14 (by decide) ?_
  refine va_newa (atype := .int) (ty := .int) (N' := 701) (a0 := (701, .inl (fun _ => 0))) hx hb (wd_153 hE) rfl hK hP hD hS hA (fun _ => rfl) (by decide) (by decide) (Nat.le_of_ble_eq_true rfl) (Nat.le_of_ble_eq_true rfl) (Nat.le_of_ble_eq_true rfl) dX9_init_17 (fun q2 k2 H hK hP hD hS => ?_)
  have hK : va_K (dC, dI) vwCl [(k1, .int), (k2, .int)] s := hK
  have hP : va_P (dC, dI) vwCl [(a0, .inr (8, [.ref q1, .null, .null, .int 0, .null, .int 0])), (q1, .inl (k1, 701, .inl (fun _ => 0))), (q2, .inl (k2, 701, .inl (fun _ => 0)))] H := hP
  have hD : va_D A [(a0, .inr (8, [.ref q1, .null, .null, .int 0, .null, .int 0])), (q1, .inl (k1, 701, .inl (fun _ => 0))), (q2, .inl (k2, 701, .inl (fun _ => 0)))] := hD
  refine W.widen (k := 2) (n := 1402) (Nat.le_of_ble_eq_true rfl) (Nat.le_of_ble_eq_true rfl) ?_
  refine va_putF (D := (dC, dI)) (ci := 8) (v := .ref q2) (ty := .array .int) (C := RX9) (T := TX9) (N := 6) hx hb (ly_X9 hE) (fun _ h9 => h9) tyX9 tyX9_ok nmX9 hown hK hP hD hS 0 rfl rfl 1 (by decide) (wd_187 hE) (fun _ h9 => h9) rfl hin rfl (by decide +kernel) rfl rfl (Nat.le_of_ble_eq_true rfl) dX9_init_19 (fun H locs hP hD hS => ?_)
  have hP : va_P (dC, dI) vwCl [(a0, .inr (8, [.ref q1, .ref q2, .null, .int 0, .null, .int 0])), (q1, .inl (k1, 701, .inl (fun _ => 0))), (q2, .inl (k2, 701, .inl (fun _ => 0)))] H := hP
  have hD : va_D A [(a0, .inr (8, [.ref q1, .ref q2, .null, .int 0, .null, .int 0])), (q1, .inl (k1, 701, .inl (fun _ => 0))), (q2, .inl (k2, 701, .inl (fun _ => 0)))] := hD
  refine lv_aload_n hx hb dX9_init_22 rfl (lv_at hl 0 rfl) ?_
  refine lv_sipush (v := 701) hx hb dX9_init_23 (by decide) ?_
  refine va_newa (atype := .int) (ty := .int) (N' := 701) (a0 := (701, .inl (fun _ => 0))) hx hb (wd_153 hE) rfl hK hP hD hS hA (fun _ => rfl) (by decide) (by decide) (Nat.le_of_ble_eq_true rfl) (Nat.le_of_ble_eq_true rfl) (Nat.le_of_ble_eq_true rfl) dX9_init_26 (fun q3 k3 H hK hP hD hS => ?_)
  have hK : va_K (dC, dI) vwCl [(k1, .int), (k2, .int), (k3, .int)] s := hK
  have hP : va_P (dC, dI) vwCl [(a0, .inr (8, [.ref q1, .ref q2, .null, .int 0, .null, .int 0])), (q1, .inl (k1, 701, .inl (fun _ => 0))), (q2, .inl (k2, 701, .inl (fun _ => 0))), (q3, .inl (k3, 701, .inl (fun _ => 0)))] H := hP
  have hD : va_D A [(a0, .inr (8, [.ref q1, .ref q2, .null, .int 0, .null, .int 0])), (q1, .inl (k1, 701, .inl (fun _ => 0))), (q2, .inl (k2, 701, .inl (fun _ => 0))), (q3, .inl (k3, 701, .inl (fun _ => 0)))] := hD
  refine W.widen (k := 3) (n := 2103) (Nat.le_of_ble_eq_true rfl) (Nat.le_of_ble_eq_true rfl) ?_
  refine va_putF (D := (dC, dI)) (ci := 8) (v := .ref q3) (ty := .array .int) (C := RX9) (T := TX9) (N := 6) hx hb (ly_X9 hE) (fun _ h9 => h9) tyX9 tyX9_ok nmX9 hown hK hP hD hS 0 rfl rfl 2 (by decide) (wd_188 hE) (fun _ h9 => h9) rfl hin rfl (by decide +kernel) rfl rfl (Nat.le_of_ble_eq_true rfl) dX9_init_28 (fun H locs hP hD hS => ?_)
  have hP : va_P (dC, dI) vwCl [(a0, .inr (8, [.ref q1, .ref q2, .ref q3, .int 0, .null, .int 0])), (q1, .inl (k1, 701, .inl (fun _ => 0))), (q2, .inl (k2, 701, .inl (fun _ => 0))), (q3, .inl (k3, 701, .inl (fun _ => 0)))] H := hP
  have hD : va_D A [(a0, .inr (8, [.ref q1, .ref q2, .ref q3, .int 0, .null, .int 0])), (q1, .inl (k1, 701, .inl (fun _ => 0))), (q2, .inl (k2, 701, .inl (fun _ => 0))), (q3, .inl (k3, 701, .inl (fun _ => 0)))] := hD
  refine lv_aload_n hx hb dX9_init_31 rfl (lv_at hl 0 rfl) ?_
  refine lv_iconst (v := 0) hx hb dX9_init_32 (by decide) ?_
  refine va_put (D := (dC, dI)) (ci := 8) (v := .int 0) (ty := .int) (C := RX9) (T := TX9) (N := 6) hx hb (ly_X9 hE) (fun _ h9 => h9) tyX9 tyX9_ok nmX9 hown hK hP hD hS 0 rfl rfl 3 (by decide) (wd_189 hE) (fun _ h9 => h9) rfl (by decide +kernel) rfl rfl (Nat.le_of_ble_eq_true rfl) dX9_init_33 (fun H locs hP hD hS => ?_)
  have hP : va_P (dC, dI) vwCl [(a0, .inr (8, [.ref q1, .ref q2, .ref q3, .int 0, .null, .int 0])), (q1, .inl (k1, 701, .inl (fun _ => 0))), (q2, .inl (k2, 701, .inl (fun _ => 0))), (q3, .inl (k3, 701, .inl (fun _ => 0)))] H := hP
  have hD : va_D A [(a0, .inr (8, [.ref q1, .ref q2, .ref q3, .int 0, .null, .int 0])), (q1, .inl (k1, 701, .inl (fun _ => 0))), (q2, .inl (k2, 701, .inl (fun _ => 0))), (q3, .inl (k3, 701, .inl (fun _ => 0)))] := hD
  refine lv_aload_n hx hb dX9_init_36 rfl (lv_at hl 0 rfl) ?_
  refine lv_iconst (v := 0) hx hb dX9_init_37 (by decide) ?_
  refine va_newa (atype := .byte) (ty := .byte) (N' := 0) (a0 := (0, .inl (fun _ => 0))) hx hb (wd_205 hE) rfl hK hP hD hS hA (fun _ => rfl) (by decide) (by decide) (Nat.le_of_ble_eq_true rfl) (Nat.le_of_ble_eq_true rfl) (Nat.le_of_ble_eq_true rfl) dX9_init_38 (fun q4 k4 H hK hP hD hS => ?_)
  have hK : va_K (dC, dI) vwCl [(k1, .int), (k2, .int), (k3, .int), (k4, .byte)] s := hK
  have hP : va_P (dC, dI) vwCl [(a0, .inr (8, [.ref q1, .ref q2, .ref q3, .int 0, .null, .int 0])), (q1, .inl (k1, 701, .inl (fun _ => 0))), (q2, .inl (k2, 701, .inl (fun _ => 0))), (q3, .inl (k3, 701, .inl (fun _ => 0))), (q4, .inl (k4, 0, .inl (fun _ => 0)))] H := hP
  have hD : va_D A [(a0, .inr (8, [.ref q1, .ref q2, .ref q3, .int 0, .null, .int 0])), (q1, .inl (k1, 701, .inl (fun _ => 0))), (q2, .inl (k2, 701, .inl (fun _ => 0))), (q3, .inl (k3, 701, .inl (fun _ => 0))), (q4, .inl (k4, 0, .inl (fun _ => 0)))] := hD
  refine W.widen (k := 4) (n := 2103) (Nat.le_of_ble_eq_true rfl) (Nat.le_of_ble_eq_true rfl) ?_
  refine va_put (D := (dC, dI)) (ci := 8) (v := .ref q4) (ty := .array .byte) (C := RX9) (T := TX9) (N := 6) hx hb (ly_X9 hE) (fun _ h9 => h9) tyX9 tyX9_ok nmX9 hown hK hP hD hS 0 rfl rfl 4 (by decide) (wd_190 hE) (fun _ h9 => h9) rfl (by decide +kernel) rfl rfl (Nat.le_of_ble_eq_true rfl) dX9_init_40 (fun H locs hP hD hS => ?_)
  have hP : va_P (dC, dI) vwCl [(a0, .inr (8, [.ref q1, .ref q2, .ref q3, .int 0, .ref q4, .int 0])), (q1, .inl (k1, 701, .inl (fun _ => 0))), (q2, .inl (k2, 701, .inl (fun _ => 0))), (q3, .inl (k3, 701, .inl (fun _ => 0))), (q4, .inl (k4, 0, .inl (fun _ => 0)))] H := hP
  have hD : va_D A [(a0, .inr (8, [.ref q1, .ref q2, .ref q3, .int 0, .ref q4, .int 0])), (q1, .inl (k1, 701, .inl (fun _ => 0))), (q2, .inl (k2, 701, .inl (fun _ => 0))), (q3, .inl (k3, 701, .inl (fun _ => 0))), (q4, .inl (k4, 0, .inl (fun _ => 0)))] := hD
  refine lv_aload_n hx hb dX9_init_43 rfl (lv_at hl 0 rfl) ?_
  refine lv_iconst (v := 0) hx hb dX9_init_44 (by decide) ?_
  refine va_put (D := (dC, dI)) (ci := 8) (v := .int 0) (ty := .int) (C := RX9) (T := TX9) (N := 6) hx hb (ly_X9 hE) (fun _ h9 => h9) tyX9 tyX9_ok nmX9 hown hK hP hD hS 0 rfl rfl 5 (by decide) (wd_191 hE) (fun _ h9 => h9) rfl (by decide +kernel) rfl rfl (Nat.le_of_ble_eq_true rfl) dX9_init_45 (fun H locs hP hD hS => ?_)
  have hP : va_P (dC, dI) vwCl [(a0, .inr (8, [.ref q1, .ref q2, .ref q3, .int 0, .ref q4, .int 0])), (q1, .inl (k1, 701, .inl (fun _ => 0))), (q2, .inl (k2, 701, .inl (fun _ => 0))), (q3, .inl (k3, 701, .inl (fun _ => 0))), (q4, .inl (k4, 0, .inl (fun _ => 0)))] H := hP
  have hD : va_D A [(a0, .inr (8, [.ref q1, .ref q2, .ref q3, .int 0, .ref q4, .int 0])), (q1, .inl (k1, 701, .inl (fun _ => 0))), (q2, .inl (k2, 701, .inl (fun _ => 0))), (q3, .inl (k3, 701, .inl (fun _ => 0))), (q4, .inl (k4, 0, .inl (fun _ => 0)))] := hD
  have hP9 := hP.sub (ws' := [(a0, .inr (8, [.ref q1, .ref q2, .ref q3, .int 0, .ref q4, .int 0]))]) [0] rfl
  have hD9 := hD.sub (ws' := [(a0, .inr (8, [.ref q1, .ref q2, .ref q3, .int 0, .ref q4, .int 0]))]) [0] (by decide) rfl
  have hK9 := hK.sub (tys' := []) [] rfl
  refine W.widen (k := 4) (n := 2103) (Nat.le_of_ble_eq_true rfl) (Nat.le_of_ble_eq_true rfl) ?_
  exact W.vret hx hb hr (fun t ht hW => ⟨⟨(fun i => [q1, q2, q3, q4].getD i 0, fun i => [].getD i 0), rfl, trivial, by rw [ht]; exact hP9, va_K.moved hW.alike hK9, hD9⟩, hS.F ht⟩) hS.2.2 dX9_init_48

set_option maxHeartbeats 4000000 in
set_option maxRecDepth 100000 in
theorem c_X8_init (l : Launch) (dC : Nat → ClassId) (dI : Nat → Nat → Nat) (sz : Nat)  (a0 : Nat)  : Met l yX8_init [.code yX8_init cX8_init 1 none] ({ frames := 1, cells := 1, slots := 178, locals := 40 }) (PcE [.ref a0] sz dC dI [] [(a0, .inr (7, [.null, .int 0]))]) (va_Qv (fun (u : (Nat → Nat) × (Nat → ClassId)) => True) (Bw dC dI (va_A [(a0, .inr (7, [.null, .int 0]))] sz) (fun (u : (Nat → Nat) × (Nat → ClassId)) => []) (fun (u : (Nat → Nat) × (Nat → ClassId)) => [(a0, .inr (7, [.ref (u.1 0), .int 0]))])) (va_A [(a0, .inr (7, [.null, .int 0]))] sz)) 1 178 (va_A [(a0, .inr (7, [.null, .int 0]))] sz) := by
  refine Met.ofW (cc := cX8_init) (maxL := 1) (ret := none) (by decide) rfl ?_
  intro p e s m args below meth c s₁ B hml hv
  obtain ⟨rfl, hsz, hP, hK, hD0, hE⟩ := hv
  have hx := B.exec
  have hb := B.bytes
  have hr := B.returns
  have hown : s.vm.findClass RX8 = some m.cls := findClass_of_methodNamed B.named
  have hlocks := B.notSynchronized
  have hin : meth.name = "<init>" := (name_of_methodNamed B.named B.method).1
  subst hsz
  have hD := hD0.self (sz := s.heap.size)
  generalize hAe : va_A [(a0, .inr (7, [.null, .int 0]))] s.heap.size = A at hD ⊢
  have hA : ∀ q : Nat, s.heap.size ≤ q → A q := fun q h => by rw [← hAe]; exact Or.inr h
  have hS : va_S A s.heap s.heap [] := va_S.rf
  have hl := lv_entry ([.ref a0]) (n := 1) (Nat.le_of_ble_eq_true rfl)
  rw [lg_entry_eq]
  generalize (lg_sl ([.ref a0]) ++ List.replicate (1 - (lg_sl ([.ref a0])).length) Slot.unset).toArray = ls at hl ⊢
  have hl : lv_has ls 1 [(0, .ref a0)] := hl
  refine lv_aload_n hx hb dX8_init_0 rfl (lv_at hl 0 rfl) ?_
  refine W.objInit hx hb hown (wd_263 hE) (wd_141 hE) (wd_142 hE) rfl (by rw [hml]; exact hl.1) rfl dX8_init_1 (Nat.le_of_ble_eq_true rfl) (Nat.le_of_ble_eq_true rfl) ?_
  refine W.eq (g2 := F0 m 4 ls []) rfl ?_
  refine lv_aload_n hx hb dX8_init_4 rfl (lv_at hl 0 rfl) ?_
  refine lv_sipush (v := 178) hx hb dX8_init_5 (by decide) ?_
  refine va_newa (atype := .byte) (ty := .byte) (N' := 178) (a0 := (178, .inl (fun _ => 0))) hx hb (wd_205 hE) rfl hK hP hD hS hA (fun _ => rfl) (by decide) (by decide) (Nat.le_of_ble_eq_true rfl) (Nat.le_of_ble_eq_true rfl) (Nat.le_of_ble_eq_true rfl) dX8_init_8 (fun q1 k1 H hK hP hD hS => ?_)
  have hK : va_K (dC, dI) vwCl [(k1, .byte)] s := hK
  have hP : va_P (dC, dI) vwCl [(a0, .inr (7, [.null, .int 0])), (q1, .inl (k1, 178, .inl (fun _ => 0)))] H := hP
  have hD : va_D A [(a0, .inr (7, [.null, .int 0])), (q1, .inl (k1, 178, .inl (fun _ => 0)))] := hD
  refine W.widen (k := 1) (n := 178) (Nat.le_of_ble_eq_true rfl) (Nat.le_of_ble_eq_true rfl) ?_
  refine va_putF (D := (dC, dI)) (ci := 7) (v := .ref q1) (ty := .array .byte) (C := RX8) (T := TX8) (N := 2) hx hb (ly_X8 hE) (fun _ h9 => h9) tyX8 tyX8_ok nmX8 hown hK hP hD hS 0 rfl rfl 0 (by decide) (wd_264 hE) (fun _ h9 => h9) rfl hin rfl (by decide +kernel) rfl rfl (Nat.le_of_ble_eq_true rfl) dX8_init_10 (fun H locs hP hD hS => ?_)
  have hP : va_P (dC, dI) vwCl [(a0, .inr (7, [.ref q1, .int 0])), (q1, .inl (k1, 178, .inl (fun _ => 0)))] H := hP
  have hD : va_D A [(a0, .inr (7, [.ref q1, .int 0])), (q1, .inl (k1, 178, .inl (fun _ => 0)))] := hD
  refine lv_aload_n hx hb dX8_init_13 rfl (lv_at hl 0 rfl) ?_
  refine lv_iconst (v := 0) hx hb dX8_init_14 (by decide) ?_
  refine va_put (D := (dC, dI)) (ci := 7) (v := .int 0) (ty := .int) (C := RX8) (T := TX8) (N := 2) hx hb (ly_X8 hE) (fun _ h9 => h9) tyX8 tyX8_ok nmX8 hown hK hP hD hS 0 rfl rfl 1 (by decide) (wd_265 hE) (fun _ h9 => h9) rfl (by decide +kernel) rfl rfl (Nat.le_of_ble_eq_true rfl) dX8_init_15 (fun H locs hP hD hS => ?_)
  have hP : va_P (dC, dI) vwCl [(a0, .inr (7, [.ref q1, .int 0])), (q1, .inl (k1, 178, .inl (fun _ => 0)))] H := hP
  have hD : va_D A [(a0, .inr (7, [.ref q1, .int 0])), (q1, .inl (k1, 178, .inl (fun _ => 0)))] := hD
  have hP9 := hP.sub (ws' := [(a0, .inr (7, [.ref q1, .int 0]))]) [0] rfl
  have hD9 := hD.sub (ws' := [(a0, .inr (7, [.ref q1, .int 0]))]) [0] (by decide) rfl
  have hK9 := hK.sub (tys' := []) [] rfl
  refine W.widen (k := 1) (n := 178) (Nat.le_of_ble_eq_true rfl) (Nat.le_of_ble_eq_true rfl) ?_
  exact W.vret hx hb hr (fun t ht hW => ⟨⟨(fun i => [q1].getD i 0, fun i => [].getD i 0), rfl, trivial, by rw [ht]; exact hP9, va_K.moved hW.alike hK9, hD9⟩, hS.F ht⟩) hS.2.2 dX8_init_18

set_option maxHeartbeats 4000000 in
set_option maxRecDepth 100000 in
theorem c_X0_init (l : Launch) (dC : Nat → ClassId) (dI : Nat → Nat → Nat) (sz : Nat)  (a0 : Nat)  : Met l yX0_init [.code yX0_init cX0_init 1 none] ({ frames := 2, cells := 6, slots := 221, locals := 80 }) (PcE [.ref a0] sz dC dI [] [(a0, .inr (0, [.null, .null, .null, .null, .null]))]) (va_Qv (fun (u : (Nat → Nat) × (Nat → ClassId)) => True) (Bw dC dI (va_A [(a0, .inr (0, [.null, .null, .null, .null, .null]))] sz) (fun (u : (Nat → Nat) × (Nat → ClassId)) => []) (fun (u : (Nat → Nat) × (Nat → ClassId)) => [(a0, .inr (0, [.ref (u.1 0), .ref (u.1 1), .ref (u.1 2), .ref (u.1 3), .ref (u.1 3)]))])) (va_A [(a0, .inr (0, [.null, .null, .null, .null, .null]))] sz)) 6 221 (va_A [(a0, .inr (0, [.null, .null, .null, .null, .null]))] sz) := by
  refine Met.ofW (cc := cX0_init) (maxL := 1) (ret := none) (by decide) rfl ?_
  intro p e s m args below meth c s₁ B hml hv
  obtain ⟨rfl, hsz, hP, hK, hD0, hE⟩ := hv
  have hx := B.exec
  have hb := B.bytes
  have hr := B.returns
  have hown : s.vm.findClass RX0 = some m.cls := findClass_of_methodNamed B.named
  have hlocks := B.notSynchronized
  have hin : meth.name = "<init>" := (name_of_methodNamed B.named B.method).1
  subst hsz
  have hD := hD0.self (sz := s.heap.size)
  generalize hAe : va_A [(a0, .inr (0, [.null, .null, .null, .null, .null]))] s.heap.size = A at hD ⊢
  have hA : ∀ q : Nat, s.heap.size ≤ q → A q := fun q h => by rw [← hAe]; exact Or.inr h
  have hS : va_S A s.heap s.heap [] := va_S.rf
  have hl := lv_entry ([.ref a0]) (n := 1) (Nat.le_of_ble_eq_true rfl)
  rw [lg_entry_eq]
  generalize (lg_sl ([.ref a0]) ++ List.replicate (1 - (lg_sl ([.ref a0])).length) Slot.unset).toArray = ls at hl ⊢
  have hl : lv_has ls 1 [(0, .ref a0)] := hl
  refine lv_aload_n hx hb dX0_init_0 rfl (lv_at hl 0 rfl) ?_
  refine W.objInit hx hb hown (wd_286 hE) (wd_141 hE) (wd_142 hE) rfl (by rw [hml]; exact hl.1) rfl dX0_init_1 (Nat.le_of_ble_eq_true rfl) (Nat.le_of_ble_eq_true rfl) ?_
  refine W.eq (g2 := F0 m 4 ls []) rfl ?_
  refine lv_aload_n hx hb dX0_init_4 rfl (lv_at hl 0 rfl) ?_
  refine lv_bipush (v := 24) hx hb dX0_init_5 (by decide) ?_
  refine va_newa (atype := .int) (ty := .int) (N' := 24) (a0 := (24, .inl (fun _ => 0))) hx hb (wd_153 hE) rfl hK hP hD hS hA (fun _ => rfl) (by decide) (by decide) (Nat.le_of_ble_eq_true rfl) (Nat.le_of_ble_eq_true rfl) (Nat.le_of_ble_eq_true rfl) dX0_init_7 (fun q1 k1 H hK hP hD hS => ?_)
  have hK : va_K (dC, dI) vwCl [(k1, .int)] s := hK
  have hP : va_P (dC, dI) vwCl [(a0, .inr (0, [.null, .null, .null, .null, .null])), (q1, .inl (k1, 24, .inl (fun _ => 0)))] H := hP
  have hD : va_D A [(a0, .inr (0, [.null, .null, .null, .null, .null])), (q1, .inl (k1, 24, .inl (fun _ => 0)))] := hD
  refine W.widen (k := 1) (n := 24) (Nat.le_of_ble_eq_true rfl) (Nat.le_of_ble_eq_true rfl) ?_
  refine va_putF (D := (dC, dI)) (ci := 0) (v := .ref q1) (ty := .array .int) (C := RX0) (T := TX0) (N := 5) hx hb (ly_X0 hE) (fun _ h9 => h9) tyX0 tyX0_ok nmX0 hown hK hP hD hS 0 rfl rfl 0 (by decide) (wd_289 hE) (fun _ h9 => h9) rfl hin rfl (by decide +kernel) rfl rfl (Nat.le_of_ble_eq_true rfl) dX0_init_9 (fun H locs hP hD hS => ?_)
  have hP : va_P (dC, dI) vwCl [(a0, .inr (0, [.ref q1, .null, .null, .null, .null])), (q1, .inl (k1, 24, .inl (fun _ => 0)))] H := hP
  have hD : va_D A [(a0, .inr (0, [.ref q1, .null, .null, .null, .null])), (q1, .inl (k1, 24, .inl (fun _ => 0)))] := hD
  refine lv_aload_n hx hb dX0_init_12 rfl (lv_at hl 0 rfl) ?_
  refine lv_bipush (v := 24) hx hb dX0_init_13 (by decide) ?_
  refine va_newa (atype := .int) (ty := .int) (N' := 24) (a0 := (24, .inl (fun _ => 0))) hx hb (wd_153 hE) rfl hK hP hD hS hA (fun _ => rfl) (by decide) (by decide) (Nat.le_of_ble_eq_true rfl) (Nat.le_of_ble_eq_true rfl) (Nat.le_of_ble_eq_true rfl) dX0_init_15 (fun q2 k2 H hK hP hD hS => ?_)
  have hK : va_K (dC, dI) vwCl [(k1, .int), (k2, .int)] s := hK
  have hP : va_P (dC, dI) vwCl [(a0, .inr (0, [.ref q1, .null, .null, .null, .null])), (q1, .inl (k1, 24, .inl (fun _ => 0))), (q2, .inl (k2, 24, .inl (fun _ => 0)))] H := hP
  have hD : va_D A [(a0, .inr (0, [.ref q1, .null, .null, .null, .null])), (q1, .inl (k1, 24, .inl (fun _ => 0))), (q2, .inl (k2, 24, .inl (fun _ => 0)))] := hD
  refine W.widen (k := 2) (n := 48) (Nat.le_of_ble_eq_true rfl) (Nat.le_of_ble_eq_true rfl) ?_
  refine va_putF (D := (dC, dI)) (ci := 0) (v := .ref q2) (ty := .array .int) (C := RX0) (T := TX0) (N := 5) hx hb (ly_X0 hE) (fun _ h9 => h9) tyX0 tyX0_ok nmX0 hown hK hP hD hS 0 rfl rfl 1 (by decide) (wd_290 hE) (fun _ h9 => h9) rfl hin rfl (by decide +kernel) rfl rfl (Nat.le_of_ble_eq_true rfl) dX0_init_17 (fun H locs hP hD hS => ?_)
  have hP : va_P (dC, dI) vwCl [(a0, .inr (0, [.ref q1, .ref q2, .null, .null, .null])), (q1, .inl (k1, 24, .inl (fun _ => 0))), (q2, .inl (k2, 24, .inl (fun _ => 0)))] H := hP
  have hD : va_D A [(a0, .inr (0, [.ref q1, .ref q2, .null, .null, .null])), (q1, .inl (k1, 24, .inl (fun _ => 0))), (q2, .inl (k2, 24, .inl (fun _ => 0)))] := hD
  refine lv_aload_n hx hb dX0_init_20 rfl (lv_at hl 0 rfl) ?_
  refine lv_bipush (v := 24) hx hb dX0_init_21 (by decide) ?_
  refine va_newa (atype := .int) (ty := .int) (N' := 24) (a0 := (24, .inl (fun _ => 0))) hx hb (wd_153 hE) rfl hK hP hD hS hA (fun _ => rfl) (by decide) (by decide) (Nat.le_of_ble_eq_true rfl) (Nat.le_of_ble_eq_true rfl) (Nat.le_of_ble_eq_true rfl) dX0_init_23 (fun q3 k3 H hK hP hD hS => ?_)
  have hK : va_K (dC, dI) vwCl [(k1, .int), (k2, .int), (k3, .int)] s := hK
  have hP : va_P (dC, dI) vwCl [(a0, .inr (0, [.ref q1, .ref q2, .null, .null, .null])), (q1, .inl (k1, 24, .inl (fun _ => 0))), (q2, .inl (k2, 24, .inl (fun _ => 0))), (q3, .inl (k3, 24, .inl (fun _ => 0)))] H := hP
  have hD : va_D A [(a0, .inr (0, [.ref q1, .ref q2, .null, .null, .null])), (q1, .inl (k1, 24, .inl (fun _ => 0))), (q2, .inl (k2, 24, .inl (fun _ => 0))), (q3, .inl (k3, 24, .inl (fun _ => 0)))] := hD
  refine W.widen (k := 3) (n := 72) (Nat.le_of_ble_eq_true rfl) (Nat.le_of_ble_eq_true rfl) ?_
  refine va_putF (D := (dC, dI)) (ci := 0) (v := .ref q3) (ty := .array .int) (C := RX0) (T := TX0) (N := 5) hx hb (ly_X0 hE) (fun _ h9 => h9) tyX0 tyX0_ok nmX0 hown hK hP hD hS 0 rfl rfl 2 (by decide) (wd_291 hE) (fun _ h9 => h9) rfl hin rfl (by decide +kernel) rfl rfl (Nat.le_of_ble_eq_true rfl) dX0_init_25 (fun H locs hP hD hS => ?_)
  have hP : va_P (dC, dI) vwCl [(a0, .inr (0, [.ref q1, .ref q2, .ref q3, .null, .null])), (q1, .inl (k1, 24, .inl (fun _ => 0))), (q2, .inl (k2, 24, .inl (fun _ => 0))), (q3, .inl (k3, 24, .inl (fun _ => 0)))] H := hP
  have hD : va_D A [(a0, .inr (0, [.ref q1, .ref q2, .ref q3, .null, .null])), (q1, .inl (k1, 24, .inl (fun _ => 0))), (q2, .inl (k2, 24, .inl (fun _ => 0))), (q3, .inl (k3, 24, .inl (fun _ => 0)))] := hD
  refine lv_aload_n hx hb dX0_init_28 rfl (lv_at hl 0 rfl) ?_
  refine va_new (ci := 9) (fs := [.null, .null, .int 0, .int 0]) (C := RX10) (T := TX10) (N := 4) hx hb (ly_X10 hE) (fun _ h9 => h9) tyX10 tyX10_ok hown (wd_287 hE) (wd_209 hE) (wd_120 hE) hK hP hD hS hA rfl (by decide +kernel) (Nat.le_of_ble_eq_true rfl) (Nat.le_of_ble_eq_true rfl) dX0_init_29 (fun q4 H hP hD hS => ?_)
  have hP : va_P (dC, dI) vwCl [(a0, .inr (0, [.ref q1, .ref q2, .ref q3, .null, .null])), (q1, .inl (k1, 24, .inl (fun _ => 0))), (q2, .inl (k2, 24, .inl (fun _ => 0))), (q3, .inl (k3, 24, .inl (fun _ => 0))), (q4, .inr (9, [.null, .null, .int 0, .int 0]))] H := hP
  have hD : va_D A [(a0, .inr (0, [.ref q1, .ref q2, .ref q3, .null, .null])), (q1, .inl (k1, 24, .inl (fun _ => 0))), (q2, .inl (k2, 24, .inl (fun _ => 0))), (q3, .inl (k3, 24, .inl (fun _ => 0))), (q4, .inr (9, [.null, .null, .int 0, .int 0]))] := hD
  refine W.widen (k := 4) (n := 76) (Nat.le_of_ble_eq_true rfl) (Nat.le_of_ble_eq_true rfl) ?_
  refine lv_dup hx hb dX0_init_32 rfl ?_
  refine cl_v (wc := [(q4, .inr (9, [.null, .null, .int 0, .int 0]))]) (wr := [(a0, .inr (0, [.ref q1, .ref q2, .ref q3, .null, .null])), (q1, .inl (k1, 24, .inl (fun _ => 0))), (q2, .inl (k2, 24, .inl (fun _ => 0))), (q3, .inl (k3, 24, .inl (fun _ => 0)))]) [4] [0, 1, 2, 3] rfl rfl (by decide) (by decide) hK hP hD hS hA (va_runIN (As := []) (rest := [.ref q4, .ref a0]) ⟨hx, hb, hml, hown, noTs⟩ (c_X10_init l dC dI H.size q4) ⟨cnE 0 (wd_212 hE) (wd_120 hE) (wd_288 hE) rfl rfl (by decide +kernel) ⟨Nat.le_of_ble_eq_true rfl, Nat.le_of_ble_eq_true rfl⟩, rfl, (wd_211 hE)⟩ ⟨PcE.blind, (pre_E (av := [.ref q4]) (wc := [(q4, .inr (9, [.null, .null, .int 0, .int 0]))]) (tysc := []) [4] [] rfl (by decide) rfl rfl hK hP hD hE)⟩ rfl rfl hl.1 rfl (lv_room (Nat.le_of_ble_eq_true rfl)) dX0_init_33 ⟨Nat.le_of_ble_eq_true rfl, Nat.le_of_ble_eq_true rfl⟩) (fun u5 H locs hw5 hK hP hD hS => ?_)
  have hK : va_K (dC, dI) vwCl [(k1, .int), (k2, .int), (k3, .int)] s := hK
  have hP : va_P (dC, dI) vwCl [(a0, .inr (0, [.ref q1, .ref q2, .ref q3, .null, .null])), (q1, .inl (k1, 24, .inl (fun _ => 0))), (q2, .inl (k2, 24, .inl (fun _ => 0))), (q3, .inl (k3, 24, .inl (fun _ => 0))), (q4, .inr (9, [.ref (u5.1 0), .ref (u5.1 1), .int 0, .int 0]))] H := hP
  have hD : va_D A [(a0, .inr (0, [.ref q1, .ref q2, .ref q3, .null, .null])), (q1, .inl (k1, 24, .inl (fun _ => 0))), (q2, .inl (k2, 24, .inl (fun _ => 0))), (q3, .inl (k3, 24, .inl (fun _ => 0))), (q4, .inr (9, [.ref (u5.1 0), .ref (u5.1 1), .int 0, .int 0]))] := hD
  refine W.widen (k := 6) (n := 221) (Nat.le_of_ble_eq_true rfl) (Nat.le_of_ble_eq_true rfl) ?_
  refine va_putF (D := (dC, dI)) (ci := 0) (v := .ref q4) (ty := .object "GluedWords$Walk") (C := RX0) (T := TX0) (N := 5) hx hb (ly_X0 hE) (fun _ h9 => h9) tyX0 tyX0_ok nmX0 hown hK hP hD hS 0 rfl rfl 3 (by decide) (wd_292 hE) (fun _ h9 => h9) rfl hin rfl (by decide +kernel) rfl rfl (Nat.le_of_ble_eq_true rfl) dX0_init_36 (fun H locs hP hD hS => ?_)
  have hP : va_P (dC, dI) vwCl [(a0, .inr (0, [.ref q1, .ref q2, .ref q3, .ref q4, .null])), (q1, .inl (k1, 24, .inl (fun _ => 0))), (q2, .inl (k2, 24, .inl (fun _ => 0))), (q3, .inl (k3, 24, .inl (fun _ => 0))), (q4, .inr (9, [.ref (u5.1 0), .ref (u5.1 1), .int 0, .int 0]))] H := hP
  have hD : va_D A [(a0, .inr (0, [.ref q1, .ref q2, .ref q3, .ref q4, .null])), (q1, .inl (k1, 24, .inl (fun _ => 0))), (q2, .inl (k2, 24, .inl (fun _ => 0))), (q3, .inl (k3, 24, .inl (fun _ => 0))), (q4, .inr (9, [.ref (u5.1 0), .ref (u5.1 1), .int 0, .int 0]))] := hD
  refine lv_aload_n hx hb dX0_init_39 rfl (lv_at hl 0 rfl) ?_
  refine lv_aload_n hx hb dX0_init_40 rfl (lv_at hl 0 rfl) ?_
  refine va_get (D := (dC, dI)) (ci := 0) (v := .ref q4) (C := RX0) (T := TX0) (N := 5) hx hb (ly_X0 hE) (fun _ h9 => h9) hown hK hP 0 rfl rfl 3 (by decide) (wd_292 hE) (fun _ h9 => h9) rfl dX0_init_41 ?_
  refine va_put (D := (dC, dI)) (ci := 0) (v := .ref q4) (ty := .object "GluedWords$Walk") (C := RX0) (T := TX0) (N := 5) hx hb (ly_X0 hE) (fun _ h9 => h9) tyX0 tyX0_ok nmX0 hown hK hP hD hS 0 rfl rfl 4 (by decide) (wd_293 hE) (fun _ h9 => h9) rfl (by decide +kernel) rfl rfl (Nat.le_of_ble_eq_true rfl) dX0_init_44 (fun H locs hP hD hS => ?_)
  have hP : va_P (dC, dI) vwCl [(a0, .inr (0, [.ref q1, .ref q2, .ref q3, .ref q4, .ref q4])), (q1, .inl (k1, 24, .inl (fun _ => 0))), (q2, .inl (k2, 24, .inl (fun _ => 0))), (q3, .inl (k3, 24, .inl (fun _ => 0))), (q4, .inr (9, [.ref (u5.1 0), .ref (u5.1 1), .int 0, .int 0]))] H := hP
  have hD : va_D A [(a0, .inr (0, [.ref q1, .ref q2, .ref q3, .ref q4, .ref q4])), (q1, .inl (k1, 24, .inl (fun _ => 0))), (q2, .inl (k2, 24, .inl (fun _ => 0))), (q3, .inl (k3, 24, .inl (fun _ => 0))), (q4, .inr (9, [.ref (u5.1 0), .ref (u5.1 1), .int 0, .int 0]))] := hD
  have hP9 := hP.sub (ws' := [(a0, .inr (0, [.ref q1, .ref q2, .ref q3, .ref q4, .ref q4]))]) [0] rfl
  have hD9 := hD.sub (ws' := [(a0, .inr (0, [.ref q1, .ref q2, .ref q3, .ref q4, .ref q4]))]) [0] (by decide) rfl
  have hK9 := hK.sub (tys' := []) [] rfl
  refine W.widen (k := 6) (n := 221) (Nat.le_of_ble_eq_true rfl) (Nat.le_of_ble_eq_true rfl) ?_
  exact W.vret hx hb hr (fun t ht hW => ⟨⟨(fun i => [q1, q2, q3, q4].getD i 0, fun i => [].getD i 0), rfl, trivial, by rw [ht]; exact hP9, va_K.moved hW.alike hK9, hD9⟩, hS.F ht⟩) hS.2.2 dX0_init_47

set_option maxHeartbeats 4000000 in
set_option maxRecDepth 100000 in
theorem c_X4_init (l : Launch) (dC : Nat → ClassId) (dI : Nat → Nat → Nat) (sz : Nat)  (a0 : Nat)  : Met l yX4_init [.code yX4_init cX4_init 1 none] ({ frames := 3, cells := 20, slots := 828, locals := 120 }) (PcE [.ref a0] sz dC dI [] [(a0, .inr (3, [.null, .null, .null, .null, .null, .null, .int 0, .int 0]))]) (va_Qv (fun (u : (Nat → Nat) × (Nat → ClassId)) => True) (Bw dC dI (va_A [(a0, .inr (3, [.null, .null, .null, .null, .null, .null, .int 0, .int 0]))] sz) (fun (u : (Nat → Nat) × (Nat → ClassId)) => []) (fun (u : (Nat → Nat) × (Nat → ClassId)) => [(a0, .inr (3, [.ref (u.1 0), .ref (u.1 1), .ref (u.1 2), .ref (u.1 3), .ref (u.1 4), .ref (u.1 5), .int 0, .int 0]))])) (va_A [(a0, .inr (3, [.null, .null, .null, .null, .null, .null, .int 0, .int 0]))] sz)) 20 828 (va_A [(a0, .inr (3, [.null, .null, .null, .null, .null, .null, .int 0, .int 0]))] sz) := by
  refine Met.ofW (cc := cX4_init) (maxL := 1) (ret := none) (by decide) rfl ?_
  intro p e s m args below meth c s₁ B hml hv
  obtain ⟨rfl, hsz, hP, hK, hD0, hE⟩ := hv
  have hx := B.exec
  have hb := B.bytes
  have hr := B.returns
  have hown : s.vm.findClass RX4 = some m.cls := findClass_of_methodNamed B.named
  have hlocks := B.notSynchronized
  have hin : meth.name = "<init>" := (name_of_methodNamed B.named B.method).1
  subst hsz
  have hD := hD0.self (sz := s.heap.size)
  generalize hAe : va_A [(a0, .inr (3, [.null, .null, .null, .null, .null, .null, .int 0, .int 0]))] s.heap.size = A at hD ⊢
  have hA : ∀ q : Nat, s.heap.size ≤ q → A q := fun q h => by rw [← hAe]; exact Or.inr h
  have hS : va_S A s.heap s.heap [] := va_S.rf
  have hl := lv_entry ([.ref a0]) (n := 1) (Nat.le_of_ble_eq_true rfl)
  rw [lg_entry_eq]
  generalize (lg_sl ([.ref a0]) ++ List.replicate (1 - (lg_sl ([.ref a0])).length) Slot.unset).toArray = ls at hl ⊢
  have hl : lv_has ls 1 [(0, .ref a0)] := hl
  refine lv_aload_n hx hb dX4_init_0 rfl (lv_at hl 0 rfl) ?_
  refine W.objInit hx hb hown (wd_278 hE) (wd_141 hE) (wd_142 hE) rfl (by rw [hml]; exact hl.1) rfl dX4_init_1 (Nat.le_of_ble_eq_true rfl) (Nat.le_of_ble_eq_true rfl) ?_
  refine W.eq (g2 := F0 m 4 ls []) rfl ?_
  refine lv_aload_n hx hb dX4_init_4 rfl (lv_at hl 0 rfl) ?_
  refine va_new (ci := 9) (fs := [.null, .null, .int 0, .int 0]) (C := RX10) (T := TX10) (N := 4) hx hb (ly_X10 hE) (fun _ h9 => h9) tyX10 tyX10_ok hown (wd_279 hE) (wd_209 hE) (wd_120 hE) hK hP hD hS hA rfl (by decide +kernel) (Nat.le_of_ble_eq_true rfl) (Nat.le_of_ble_eq_true rfl) dX4_init_5 (fun q1 H hP hD hS => ?_)
  have hP : va_P (dC, dI) vwCl [(a0, .inr (3, [.null, .null, .null, .null, .null, .null, .int 0, .int 0])), (q1, .inr (9, [.null, .null, .int 0, .int 0]))] H := hP
  have hD : va_D A [(a0, .inr (3, [.null, .null, .null, .null, .null, .null, .int 0, .int 0])), (q1, .inr (9, [.null, .null, .int 0, .int 0]))] := hD
  refine W.widen (k := 1) (n := 4) (Nat.le_of_ble_eq_true rfl) (Nat.le_of_ble_eq_true rfl) ?_
  refine lv_dup hx hb dX4_init_8 rfl ?_
  refine cl_v (wc := [(q1, .inr (9, [.null, .null, .int 0, .int 0]))]) (wr := [(a0, .inr (3, [.null, .null, .null, .null, .null, .null, .int 0, .int 0]))]) [1] [0] rfl rfl (by decide) (by decide) hK hP hD hS hA (va_runIN (As := []) (rest := [.ref q1, .ref a0]) ⟨hx, hb, hml, hown, noTs⟩ (c_X10_init l dC dI H.size q1) ⟨cnE 0 (wd_212 hE) (wd_120 hE) (wd_280 hE) rfl rfl (by decide +kernel) ⟨Nat.le_of_ble_eq_true rfl, Nat.le_of_ble_eq_true rfl⟩, rfl, (wd_211 hE)⟩ ⟨PcE.blind, (pre_E (av := [.ref q1]) (wc := [(q1, .inr (9, [.null, .null, .int 0, .int 0]))]) (tysc := []) [1] [] rfl (by decide) rfl rfl hK hP hD hE)⟩ rfl rfl hl.1 rfl (lv_room (Nat.le_of_ble_eq_true rfl)) dX4_init_9 ⟨Nat.le_of_ble_eq_true rfl, Nat.le_of_ble_eq_true rfl⟩) (fun u2 H locs hw2 hK hP hD hS => ?_)
  have hK : va_K (dC, dI) vwCl [] s := hK
  have hP : va_P (dC, dI) vwCl [(a0, .inr (3, [.null, .null, .null, .null, .null, .null, .int 0, .int 0])), (q1, .inr (9, [.ref (u2.1 0), .ref (u2.1 1), .int 0, .int 0]))] H := hP
  have hD : va_D A [(a0, .inr (3, [.null, .null, .null, .null, .null, .null, .int 0, .int 0])), (q1, .inr (9, [.ref (u2.1 0), .ref (u2.1 1), .int 0, .int 0]))] := hD
  refine W.widen (k := 3) (n := 149) (Nat.le_of_ble_eq_true rfl) (Nat.le_of_ble_eq_true rfl) ?_
  refine va_putF (D := (dC, dI)) (ci := 3) (v := .ref q1) (ty := .object "GluedWords$Walk") (C := RX4) (T := TX4) (N := 8) hx hb (ly_X4 hE) (fun _ h9 => h9) tyX4 tyX4_ok nmX4 hown hK hP hD hS 0 rfl rfl 0 (by decide) (wd_305 hE) (fun _ h9 => h9) rfl hin rfl (by decide +kernel) rfl rfl (Nat.le_of_ble_eq_true rfl) dX4_init_12 (fun H locs hP hD hS => ?_)
  have hP : va_P (dC, dI) vwCl [(a0, .inr (3, [.ref q1, .null, .null, .null, .null, .null, .int 0, .int 0])), (q1, .inr (9, [.ref (u2.1 0), .ref (u2.1 1), .int 0, .int 0]))] H := hP
  have hD : va_D A [(a0, .inr (3, [.ref q1, .null, .null, .null, .null, .null, .int 0, .int 0])), (q1, .inr (9, [.ref (u2.1 0), .ref (u2.1 1), .int 0, .int 0]))] := hD
  refine lv_aload_n hx hb dX4_init_15 rfl (lv_at hl 0 rfl) ?_
  refine va_new (ci := 9) (fs := [.null, .null, .int 0, .int 0]) (C := RX10) (T := TX10) (N := 4) hx hb (ly_X10 hE) (fun _ h9 => h9) tyX10 tyX10_ok hown (wd_279 hE) (wd_209 hE) (wd_120 hE) hK hP hD hS hA rfl (by decide +kernel) (Nat.le_of_ble_eq_true rfl) (Nat.le_of_ble_eq_true rfl) dX4_init_16 (fun q3 H hP hD hS => ?_)
  have hP : va_P (dC, dI) vwCl [(a0, .inr (3, [.ref q1, .null, .null, .null, .null, .null, .int 0, .int 0])), (q1, .inr (9, [.ref (u2.1 0), .ref (u2.1 1), .int 0, .int 0])), (q3, .inr (9, [.null, .null, .int 0, .int 0]))] H := hP
  have hD : va_D A [(a0, .inr (3, [.ref q1, .null, .null, .null, .null, .null, .int 0, .int 0])), (q1, .inr (9, [.ref (u2.1 0), .ref (u2.1 1), .int 0, .int 0])), (q3, .inr (9, [.null, .null, .int 0, .int 0]))] := hD
  refine W.widen (k := 4) (n := 153) (Nat.le_of_ble_eq_true rfl) (Nat.le_of_ble_eq_true rfl) ?_
  refine lv_dup hx hb dX4_init_19 rfl ?_
  refine cl_v (wc := [(q3, .inr (9, [.null, .null, .int 0, .int 0]))]) (wr := [(a0, .inr (3, [.ref q1, .null, .null, .null, .null, .null, .int 0, .int 0])), (q1, .inr (9, [.ref (u2.1 0), .ref (u2.1 1), .int 0, .int 0]))]) [2] [0, 1] rfl rfl (by decide) (by decide) hK hP hD hS hA (va_runIN (As := []) (rest := [.ref q3, .ref a0]) ⟨hx, hb, hml, hown, noTs⟩ (c_X10_init l dC dI H.size q3) ⟨cnE 0 (wd_212 hE) (wd_120 hE) (wd_280 hE) rfl rfl (by decide +kernel) ⟨Nat.le_of_ble_eq_true rfl, Nat.le_of_ble_eq_true rfl⟩, rfl, (wd_211 hE)⟩ ⟨PcE.blind, (pre_E (av := [.ref q3]) (wc := [(q3, .inr (9, [.null, .null, .int 0, .int 0]))]) (tysc := []) [2] [] rfl (by decide) rfl rfl hK hP hD hE)⟩ rfl rfl hl.1 rfl (lv_room (Nat.le_of_ble_eq_true rfl)) dX4_init_20 ⟨Nat.le_of_ble_eq_true rfl, Nat.le_of_ble_eq_true rfl⟩) (fun u4 H locs hw4 hK hP hD hS => ?_)
  have hK : va_K (dC, dI) vwCl [] s := hK
  have hP : va_P (dC, dI) vwCl [(a0, .inr (3, [.ref q1, .null, .null, .null, .null, .null, .int 0, .int 0])), (q1, .inr (9, [.ref (u2.1 0), .ref (u2.1 1), .int 0, .int 0])), (q3, .inr (9, [.ref (u4.1 0), .ref (u4.1 1), .int 0, .int 0]))] H := hP
  have hD : va_D A [(a0, .inr (3, [.ref q1, .null, .null, .null, .null, .null, .int 0, .int 0])), (q1, .inr (9, [.ref (u2.1 0), .ref (u2.1 1), .int 0, .int 0])), (q3, .inr (9, [.ref (u4.1 0), .ref (u4.1 1), .int 0, .int 0]))] := hD
  refine W.widen (k := 6) (n := 298) (Nat.le_of_ble_eq_true rfl) (Nat.le_of_ble_eq_true rfl) ?_
  refine va_putF (D := (dC, dI)) (ci := 3) (v := .ref q3) (ty := .object "GluedWords$Walk") (C := RX4) (T := TX4) (N := 8) hx hb (ly_X4 hE) (fun _ h9 => h9) tyX4 tyX4_ok nmX4 hown hK hP hD hS 0 rfl rfl 1 (by decide) (wd_306 hE) (fun _ h9 => h9) rfl hin rfl (by decide +kernel) rfl rfl (Nat.le_of_ble_eq_true rfl) dX4_init_23 (fun H locs hP hD hS => ?_)
  have hP : va_P (dC, dI) vwCl [(a0, .inr (3, [.ref q1, .ref q3, .null, .null, .null, .null, .int 0, .int 0])), (q1, .inr (9, [.ref (u2.1 0), .ref (u2.1 1), .int 0, .int 0])), (q3, .inr (9, [.ref (u4.1 0), .ref (u4.1 1), .int 0, .int 0]))] H := hP
  have hD : va_D A [(a0, .inr (3, [.ref q1, .ref q3, .null, .null, .null, .null, .int 0, .int 0])), (q1, .inr (9, [.ref (u2.1 0), .ref (u2.1 1), .int 0, .int 0])), (q3, .inr (9, [.ref (u4.1 0), .ref (u4.1 1), .int 0, .int 0]))] := hD
  refine lv_aload_n hx hb dX4_init_26 rfl (lv_at hl 0 rfl) ?_
  refine va_new (ci := 9) (fs := [.null, .null, .int 0, .int 0]) (C := RX10) (T := TX10) (N := 4) hx hb (ly_X10 hE) (fun _ h9 => h9) tyX10 tyX10_ok hown (wd_279 hE) (wd_209 hE) (wd_120 hE) hK hP hD hS hA rfl (by decide +kernel) (Nat.le_of_ble_eq_true rfl) (Nat.le_of_ble_eq_true rfl) dX4_init_27 (fun q5 H hP hD hS => ?_)
  have hP : va_P (dC, dI) vwCl [(a0, .inr (3, [.ref q1, .ref q3, .null, .null, .null, .null, .int 0, .int 0])), (q1, .inr (9, [.ref (u2.1 0), .ref (u2.1 1), .int 0, .int 0])), (q3, .inr (9, [.ref (u4.1 0), .ref (u4.1 1), .int 0, .int 0])), (q5, .inr (9, [.null, .null, .int 0, .int 0]))] H := hP
  have hD : va_D A [(a0, .inr (3, [.ref q1, .ref q3, .null, .null, .null, .null, .int 0, .int 0])), (q1, .inr (9, [.ref (u2.1 0), .ref (u2.1 1), .int 0, .int 0])), (q3, .inr (9, [.ref (u4.1 0), .ref (u4.1 1), .int 0, .int 0])), (q5, .inr (9, [.null, .null, .int 0, .int 0]))] := hD
  refine W.widen (k := 7) (n := 302) (Nat.le_of_ble_eq_true rfl) (Nat.le_of_ble_eq_true rfl) ?_
  refine lv_dup hx hb dX4_init_30 rfl ?_
  refine cl_v (wc := [(q5, .inr (9, [.null, .null, .int 0, .int 0]))]) (wr := [(a0, .inr (3, [.ref q1, .ref q3, .null, .null, .null, .null, .int 0, .int 0])), (q1, .inr (9, [.ref (u2.1 0), .ref (u2.1 1), .int 0, .int 0])), (q3, .inr (9, [.ref (u4.1 0), .ref (u4.1 1), .int 0, .int 0]))]) [3] [0, 1, 2] rfl rfl (by decide) (by decide) hK hP hD hS hA (va_runIN (As := []) (rest := [.ref q5, .ref a0]) ⟨hx, hb, hml, hown, noTs⟩ (c_X10_init l dC dI H.size q5) ⟨cnE 0 (wd_212 hE) (wd_120 hE) (wd_280 hE) rfl rfl (by decide +kernel) ⟨Nat.le_of_ble_eq_true rfl, Nat.le_of_ble_eq_true rfl⟩, rfl, (wd_211 hE)⟩ ⟨PcE.blind, (pre_E (av := [.ref q5]) (wc := [(q5, .inr (9, [.null, .null, .int 0, .int 0]))]) (tysc := []) [3] [] rfl (by decide) rfl rfl hK hP hD hE)⟩ rfl rfl hl.1 rfl (lv_room (Nat.le_of_ble_eq_true rfl)) dX4_init_31 ⟨Nat.le_of_ble_eq_true rfl, Nat.le_of_ble_eq_true rfl⟩) (fun u6 H locs hw6 hK hP hD hS => ?_)
  have hK : va_K (dC, dI) vwCl [] s := hK
  have hP : va_P (dC, dI) vwCl [(a0, .inr (3, [.ref q1, .ref q3, .null, .null, .null, .null, .int 0, .int 0])), (q1, .inr (9, [.ref (u2.1 0), .ref (u2.1 1), .int 0, .int 0])), (q3, .inr (9, [.ref (u4.1 0), .ref (u4.1 1), .int 0, .int 0])), (q5, .inr (9, [.ref (u6.1 0), .ref (u6.1 1), .int 0, .int 0]))] H := hP
  have hD : va_D A [(a0, .inr (3, [.ref q1, .ref q3, .null, .null, .null, .null, .int 0, .int 0])), (q1, .inr (9, [.ref (u2.1 0), .ref (u2.1 1), .int 0, .int 0])), (q3, .inr (9, [.ref (u4.1 0), .ref (u4.1 1), .int 0, .int 0])), (q5, .inr (9, [.ref (u6.1 0), .ref (u6.1 1), .int 0, .int 0]))] := hD
  refine W.widen (k := 9) (n := 447) (Nat.le_of_ble_eq_true rfl) (Nat.le_of_ble_eq_true rfl) ?_
  refine va_putF (D := (dC, dI)) (ci := 3) (v := .ref q5) (ty := .object "GluedWords$Walk") (C := RX4) (T := TX4) (N := 8) hx hb (ly_X4 hE) (fun _ h9 => h9) tyX4 tyX4_ok nmX4 hown hK hP hD hS 0 rfl rfl 2 (by decide) (wd_307 hE) (fun _ h9 => h9) rfl hin rfl (by decide +kernel) rfl rfl (Nat.le_of_ble_eq_true rfl) dX4_init_34 (fun H locs hP hD hS => ?_)
  have hP : va_P (dC, dI) vwCl [(a0, .inr (3, [.ref q1, .ref q3, .ref q5, .null, .null, .null, .int 0, .int 0])), (q1, .inr (9, [.ref (u2.1 0), .ref (u2.1 1), .int 0, .int 0])), (q3, .inr (9, [.ref (u4.1 0), .ref (u4.1 1), .int 0, .int 0])), (q5, .inr (9, [.ref (u6.1 0), .ref (u6.1 1), .int 0, .int 0]))] H := hP
  have hD : va_D A [(a0, .inr (3, [.ref q1, .ref q3, .ref q5, .null, .null, .null, .int 0, .int 0])), (q1, .inr (9, [.ref (u2.1 0), .ref (u2.1 1), .int 0, .int 0])), (q3, .inr (9, [.ref (u4.1 0), .ref (u4.1 1), .int 0, .int 0])), (q5, .inr (9, [.ref (u6.1 0), .ref (u6.1 1), .int 0, .int 0]))] := hD
  refine lv_aload_n hx hb dX4_init_37 rfl (lv_at hl 0 rfl) ?_
  refine va_new (ci := 9) (fs := [.null, .null, .int 0, .int 0]) (C := RX10) (T := TX10) (N := 4) hx hb (ly_X10 hE) (fun _ h9 => h9) tyX10 tyX10_ok hown (wd_279 hE) (wd_209 hE) (wd_120 hE) hK hP hD hS hA rfl (by decide +kernel) (Nat.le_of_ble_eq_true rfl) (Nat.le_of_ble_eq_true rfl) dX4_init_38 (fun q7 H hP hD hS => ?_)
  have hP : va_P (dC, dI) vwCl [(a0, .inr (3, [.ref q1, .ref q3, .ref q5, .null, .null, .null, .int 0, .int 0])), (q1, .inr (9, [.ref (u2.1 0), .ref (u2.1 1), .int 0, .int 0])), (q3, .inr (9, [.ref (u4.1 0), .ref (u4.1 1), .int 0, .int 0])), (q5, .inr (9, [.ref (u6.1 0), .ref (u6.1 1), .int 0, .int 0])), (q7, .inr (9, [.null, .null, .int 0, .int 0]))] H := hP
  have hD : va_D A [(a0, .inr (3, [.ref q1, .ref q3, .ref q5, .null, .null, .null, .int 0, .int 0])), (q1, .inr (9, [.ref (u2.1 0), .ref (u2.1 1), .int 0, .int 0])), (q3, .inr (9, [.ref (u4.1 0), .ref (u4.1 1), .int 0, .int 0])), (q5, .inr (9, [.ref (u6.1 0), .ref (u6.1 1), .int 0, .int 0])), (q7, .inr (9, [.null, .null, .int 0, .int 0]))] := hD
  refine W.widen (k := 10) (n := 451) (Nat.le_of_ble_eq_true rfl) (Nat.le_of_ble_eq_true rfl) ?_
  refine lv_dup hx hb dX4_init_41 rfl ?_
  refine cl_v (wc := [(q7, .inr (9, [.null, .null, .int 0, .int 0]))]) (wr := [(a0, .inr (3, [.ref q1, .ref q3, .ref q5, .null, .null, .null, .int 0, .int 0])), (q1, .inr (9, [.ref (u2.1 0), .ref (u2.1 1), .int 0, .int 0])), (q3, .inr (9, [.ref (u4.1 0), .ref (u4.1 1), .int 0, .int 0])), (q5, .inr (9, [.ref (u6.1 0), .ref (u6.1 1), .int 0, .int 0]))]) [4] [0, 1, 2, 3] rfl rfl (by decide) (by decide) hK hP hD hS hA (va_runIN (As := []) (rest := [.ref q7, .ref a0]) ⟨hx, hb, hml, hown, noTs⟩ (c_X10_init l dC dI H.size q7) ⟨cnE 0 (wd_212 hE) (wd_120 hE) (wd_280 hE) rfl rfl (by decide +kernel) ⟨Nat.le_of_ble_eq_true rfl, Nat.le_of_ble_eq_true rfl⟩, rfl, (wd_211 hE)⟩ ⟨PcE.blind, (pre_E (av := [.ref q7]) (wc := [(q7, .inr (9, [.null, .null, .int 0, .int 0]))]) (tysc := []) [4] [] rfl (by decide) rfl rfl hK hP hD hE)⟩ rfl rfl hl.1 rfl (lv_room (Nat.le_of_ble_eq_true rfl)) dX4_init_42 ⟨Nat.le_of_ble_eq_true rfl, Nat.le_of_ble_eq_true rfl⟩) (fun u8 H locs hw8 hK hP hD hS => ?_)
  have hK : va_K (dC, dI) vwCl [] s := hK
  have hP : va_P (dC, dI) vwCl [(a0, .inr (3, [.ref q1, .ref q3, .ref q5, .null, .null, .null, .int 0, .int 0])), (q1, .inr (9, [.ref (u2.1 0), .ref (u2.1 1), .int 0, .int 0])), (q3, .inr (9, [.ref (u4.1 0), .ref (u4.1 1), .int 0, .int 0])), (q5, .inr (9, [.ref (u6.1 0), .ref (u6.1 1), .int 0, .int 0])), (q7, .inr (9, [.ref (u8.1 0), .ref (u8.1 1), .int 0, .int 0]))] H := hP
  have hD : va_D A [(a0, .inr (3, [.ref q1, .ref q3, .ref q5, .null, .null, .null, .int 0, .int 0])), (q1, .inr (9, [.ref (u2.1 0), .ref (u2.1 1), .int 0, .int 0])), (q3, .inr (9, [.ref (u4.1 0), .ref (u4.1 1), .int 0, .int 0])), (q5, .inr (9, [.ref (u6.1 0), .ref (u6.1 1), .int 0, .int 0])), (q7, .inr (9, [.ref (u8.1 0), .ref (u8.1 1), .int 0, .int 0]))] := hD
  refine W.widen (k := 12) (n := 596) (Nat.le_of_ble_eq_true rfl) (Nat.le_of_ble_eq_true rfl) ?_
  refine va_putF (D := (dC, dI)) (ci := 3) (v := .ref q7) (ty := .object "GluedWords$Walk") (C := RX4) (T := TX4) (N := 8) hx hb (ly_X4 hE) (fun _ h9 => h9) tyX4 tyX4_ok nmX4 hown hK hP hD hS 0 rfl rfl 3 (by decide) (wd_308 hE) (fun _ h9 => h9) rfl hin rfl (by decide +kernel) rfl rfl (Nat.le_of_ble_eq_true rfl) dX4_init_45 (fun H locs hP hD hS => ?_)
  have hP : va_P (dC, dI) vwCl [(a0, .inr (3, [.ref q1, .ref q3, .ref q5, .ref q7, .null, .null, .int 0, .int 0])), (q1, .inr (9, [.ref (u2.1 0), .ref (u2.1 1), .int 0, .int 0])), (q3, .inr (9, [.ref (u4.1 0), .ref (u4.1 1), .int 0, .int 0])), (q5, .inr (9, [.ref (u6.1 0), .ref (u6.1 1), .int 0, .int 0])), (q7, .inr (9, [.ref (u8.1 0), .ref (u8.1 1), .int 0, .int 0]))] H := hP
  have hD : va_D A [(a0, .inr (3, [.ref q1, .ref q3, .ref q5, .ref q7, .null, .null, .int 0, .int 0])), (q1, .inr (9, [.ref (u2.1 0), .ref (u2.1 1), .int 0, .int 0])), (q3, .inr (9, [.ref (u4.1 0), .ref (u4.1 1), .int 0, .int 0])), (q5, .inr (9, [.ref (u6.1 0), .ref (u6.1 1), .int 0, .int 0])), (q7, .inr (9, [.ref (u8.1 0), .ref (u8.1 1), .int 0, .int 0]))] := hD
  refine lv_aload_n hx hb dX4_init_48 rfl (lv_at hl 0 rfl) ?_
  refine va_new (ci := 0) (fs := [.null, .null, .null, .null, .null]) (C := RX0) (T := TX0) (N := 5) hx hb (ly_X0 hE) (fun _ h9 => h9) tyX0 tyX0_ok hown (wd_281 hE) (wd_282 hE) (wd_123 hE) hK hP hD hS hA rfl (by decide +kernel) (Nat.le_of_ble_eq_true rfl) (Nat.le_of_ble_eq_true rfl) dX4_init_49 (fun q9 H hP hD hS => ?_)
  have hP : va_P (dC, dI) vwCl [(a0, .inr (3, [.ref q1, .ref q3, .ref q5, .ref q7, .null, .null, .int 0, .int 0])), (q1, .inr (9, [.ref (u2.1 0), .ref (u2.1 1), .int 0, .int 0])), (q3, .inr (9, [.ref (u4.1 0), .ref (u4.1 1), .int 0, .int 0])), (q5, .inr (9, [.ref (u6.1 0), .ref (u6.1 1), .int 0, .int 0])), (q7, .inr (9, [.ref (u8.1 0), .ref (u8.1 1), .int 0, .int 0])), (q9, .inr (0, [.null, .null, .null, .null, .null]))] H := hP
  have hD : va_D A [(a0, .inr (3, [.ref q1, .ref q3, .ref q5, .ref q7, .null, .null, .int 0, .int 0])), (q1, .inr (9, [.ref (u2.1 0), .ref (u2.1 1), .int 0, .int 0])), (q3, .inr (9, [.ref (u4.1 0), .ref (u4.1 1), .int 0, .int 0])), (q5, .inr (9, [.ref (u6.1 0), .ref (u6.1 1), .int 0, .int 0])), (q7, .inr (9, [.ref (u8.1 0), .ref (u8.1 1), .int 0, .int 0])), (q9, .inr (0, [.null, .null, .null, .null, .null]))] := hD
  refine W.widen (k := 13) (n := 601) (Nat.le_of_ble_eq_true rfl) (Nat.le_of_ble_eq_true rfl) ?_
  refine lv_dup hx hb dX4_init_52 rfl ?_
  refine cl_v (wc := [(q9, .inr (0, [.null, .null, .null, .null, .null]))]) (wr := [(a0, .inr (3, [.ref q1, .ref q3, .ref q5, .ref q7, .null, .null, .int 0, .int 0])), (q1, .inr (9, [.ref (u2.1 0), .ref (u2.1 1), .int 0, .int 0])), (q3, .inr (9, [.ref (u4.1 0), .ref (u4.1 1), .int 0, .int 0])), (q5, .inr (9, [.ref (u6.1 0), .ref (u6.1 1), .int 0, .int 0])), (q7, .inr (9, [.ref (u8.1 0), .ref (u8.1 1), .int 0, .int 0]))]) [5] [0, 1, 2, 3, 4] rfl rfl (by decide) (by decide) hK hP hD hS hA (va_runIN (As := []) (rest := [.ref q9, .ref a0]) ⟨hx, hb, hml, hown, noTs⟩ (c_X0_init l dC dI H.size q9) ⟨cnE 0 (wd_285 hE) (wd_123 hE) (wd_283 hE) rfl rfl (by decide +kernel) ⟨Nat.le_of_ble_eq_true rfl, Nat.le_of_ble_eq_true rfl⟩, rfl, (wd_284 hE)⟩ ⟨PcE.blind, (pre_E (av := [.ref q9]) (wc := [(q9, .inr (0, [.null, .null, .null, .null, .null]))]) (tysc := []) [5] [] rfl (by decide) rfl rfl hK hP hD hE)⟩ rfl rfl hl.1 rfl (lv_room (Nat.le_of_ble_eq_true rfl)) dX4_init_53 ⟨Nat.le_of_ble_eq_true rfl, Nat.le_of_ble_eq_true rfl⟩) (fun u10 H locs hw10 hK hP hD hS => ?_)
  have hK : va_K (dC, dI) vwCl [] s := hK
  have hP : va_P (dC, dI) vwCl [(a0, .inr (3, [.ref q1, .ref q3, .ref q5, .ref q7, .null, .null, .int 0, .int 0])), (q1, .inr (9, [.ref (u2.1 0), .ref (u2.1 1), .int 0, .int 0])), (q3, .inr (9, [.ref (u4.1 0), .ref (u4.1 1), .int 0, .int 0])), (q5, .inr (9, [.ref (u6.1 0), .ref (u6.1 1), .int 0, .int 0])), (q7, .inr (9, [.ref (u8.1 0), .ref (u8.1 1), .int 0, .int 0])), (q9, .inr (0, [.ref (u10.1 0), .ref (u10.1 1), .ref (u10.1 2), .ref (u10.1 3), .ref (u10.1 3)]))] H := hP
  have hD : va_D A [(a0, .inr (3, [.ref q1, .ref q3, .ref q5, .ref q7, .null, .null, .int 0, .int 0])), (q1, .inr (9, [.ref (u2.1 0), .ref (u2.1 1), .int 0, .int 0])), (q3, .inr (9, [.ref (u4.1 0), .ref (u4.1 1), .int 0, .int 0])), (q5, .inr (9, [.ref (u6.1 0), .ref (u6.1 1), .int 0, .int 0])), (q7, .inr (9, [.ref (u8.1 0), .ref (u8.1 1), .int 0, .int 0])), (q9, .inr (0, [.ref (u10.1 0), .ref (u10.1 1), .ref (u10.1 2), .ref (u10.1 3), .ref (u10.1 3)]))] := hD
  refine W.widen (k := 19) (n := 822) (Nat.le_of_ble_eq_true rfl) (Nat.le_of_ble_eq_true rfl) ?_
  refine va_putF (D := (dC, dI)) (ci := 3) (v := .ref q9) (ty := .object "GluedWords$Carrier") (C := RX4) (T := TX4) (N := 8) hx hb (ly_X4 hE) (fun _ h9 => h9) tyX4 tyX4_ok nmX4 hown hK hP hD hS 0 rfl rfl 4 (by decide) (wd_309 hE) (fun _ h9 => h9) rfl hin rfl (by decide +kernel) rfl rfl (Nat.le_of_ble_eq_true rfl) dX4_init_56 (fun H locs hP hD hS => ?_)
  have hP : va_P (dC, dI) vwCl [(a0, .inr (3, [.ref q1, .ref q3, .ref q5, .ref q7, .ref q9, .null, .int 0, .int 0])), (q1, .inr (9, [.ref (u2.1 0), .ref (u2.1 1), .int 0, .int 0])), (q3, .inr (9, [.ref (u4.1 0), .ref (u4.1 1), .int 0, .int 0])), (q5, .inr (9, [.ref (u6.1 0), .ref (u6.1 1), .int 0, .int 0])), (q7, .inr (9, [.ref (u8.1 0), .ref (u8.1 1), .int 0, .int 0])), (q9, .inr (0, [.ref (u10.1 0), .ref (u10.1 1), .ref (u10.1 2), .ref (u10.1 3), .ref (u10.1 3)]))] H := hP
  have hD : va_D A [(a0, .inr (3, [.ref q1, .ref q3, .ref q5, .ref q7, .ref q9, .null, .int 0, .int 0])), (q1, .inr (9, [.ref (u2.1 0), .ref (u2.1 1), .int 0, .int 0])), (q3, .inr (9, [.ref (u4.1 0), .ref (u4.1 1), .int 0, .int 0])), (q5, .inr (9, [.ref (u6.1 0), .ref (u6.1 1), .int 0, .int 0])), (q7, .inr (9, [.ref (u8.1 0), .ref (u8.1 1), .int 0, .int 0])), (q9, .inr (0, [.ref (u10.1 0), .ref (u10.1 1), .ref (u10.1 2), .ref (u10.1 3), .ref (u10.1 3)]))] := hD
  refine lv_aload_n hx hb dX4_init_59 rfl (lv_at hl 0 rfl) ?_
  refine lv_bipush (v := 6) hx hb dX4_init_60 (by decide) ?_
  refine va_newa (atype := .int) (ty := .int) (N' := 6) (a0 := (6, .inl (fun _ => 0))) hx hb (wd_153 hE) rfl hK hP hD hS hA (fun _ => rfl) (by decide) (by decide) (Nat.le_of_ble_eq_true rfl) (Nat.le_of_ble_eq_true rfl) (Nat.le_of_ble_eq_true rfl) dX4_init_62 (fun q11 k11 H hK hP hD hS => ?_)
  have hK : va_K (dC, dI) vwCl [(k11, .int)] s := hK
  have hP : va_P (dC, dI) vwCl [(a0, .inr (3, [.ref q1, .ref q3, .ref q5, .ref q7, .ref q9, .null, .int 0, .int 0])), (q1, .inr (9, [.ref (u2.1 0), .ref (u2.1 1), .int 0, .int 0])), (q3, .inr (9, [.ref (u4.1 0), .ref (u4.1 1), .int 0, .int 0])), (q5, .inr (9, [.ref (u6.1 0), .ref (u6.1 1), .int 0, .int 0])), (q7, .inr (9, [.ref (u8.1 0), .ref (u8.1 1), .int 0, .int 0])), (q9, .inr (0, [.ref (u10.1 0), .ref (u10.1 1), .ref (u10.1 2), .ref (u10.1 3), .ref (u10.1 3)])), (q11, .inl (k11, 6, .inl (fun _ => 0)))] H := hP
  have hD : va_D A [(a0, .inr (3, [.ref q1, .ref q3, .ref q5, .ref q7, .ref q9, .null, .int 0, .int 0])), (q1, .inr (9, [.ref (u2.1 0), .ref (u2.1 1), .int 0, .int 0])), (q3, .inr (9, [.ref (u4.1 0), .ref (u4.1 1), .int 0, .int 0])), (q5, .inr (9, [.ref (u6.1 0), .ref (u6.1 1), .int 0, .int 0])), (q7, .inr (9, [.ref (u8.1 0), .ref (u8.1 1), .int 0, .int 0])), (q9, .inr (0, [.ref (u10.1 0), .ref (u10.1 1), .ref (u10.1 2), .ref (u10.1 3), .ref (u10.1 3)])), (q11, .inl (k11, 6, .inl (fun _ => 0)))] := hD
  refine W.widen (k := 20) (n := 828) (Nat.le_of_ble_eq_true rfl) (Nat.le_of_ble_eq_true rfl) ?_
  refine va_putF (D := (dC, dI)) (ci := 3) (v := .ref q11) (ty := .array .int) (C := RX4) (T := TX4) (N := 8) hx hb (ly_X4 hE) (fun _ h9 => h9) tyX4 tyX4_ok nmX4 hown hK hP hD hS 0 rfl rfl 5 (by decide) (wd_310 hE) (fun _ h9 => h9) rfl hin rfl (by decide +kernel) rfl rfl (Nat.le_of_ble_eq_true rfl) dX4_init_64 (fun H locs hP hD hS => ?_)
  have hP : va_P (dC, dI) vwCl [(a0, .inr (3, [.ref q1, .ref q3, .ref q5, .ref q7, .ref q9, .ref q11, .int 0, .int 0])), (q1, .inr (9, [.ref (u2.1 0), .ref (u2.1 1), .int 0, .int 0])), (q3, .inr (9, [.ref (u4.1 0), .ref (u4.1 1), .int 0, .int 0])), (q5, .inr (9, [.ref (u6.1 0), .ref (u6.1 1), .int 0, .int 0])), (q7, .inr (9, [.ref (u8.1 0), .ref (u8.1 1), .int 0, .int 0])), (q9, .inr (0, [.ref (u10.1 0), .ref (u10.1 1), .ref (u10.1 2), .ref (u10.1 3), .ref (u10.1 3)])), (q11, .inl (k11, 6, .inl (fun _ => 0)))] H := hP
  have hD : va_D A [(a0, .inr (3, [.ref q1, .ref q3, .ref q5, .ref q7, .ref q9, .ref q11, .int 0, .int 0])), (q1, .inr (9, [.ref (u2.1 0), .ref (u2.1 1), .int 0, .int 0])), (q3, .inr (9, [.ref (u4.1 0), .ref (u4.1 1), .int 0, .int 0])), (q5, .inr (9, [.ref (u6.1 0), .ref (u6.1 1), .int 0, .int 0])), (q7, .inr (9, [.ref (u8.1 0), .ref (u8.1 1), .int 0, .int 0])), (q9, .inr (0, [.ref (u10.1 0), .ref (u10.1 1), .ref (u10.1 2), .ref (u10.1 3), .ref (u10.1 3)])), (q11, .inl (k11, 6, .inl (fun _ => 0)))] := hD
  refine lv_aload_n hx hb dX4_init_67 rfl (lv_at hl 0 rfl) ?_
  refine lv_iconst (v := 0) hx hb dX4_init_68 (by decide) ?_
  refine va_put (D := (dC, dI)) (ci := 3) (v := .int 0) (ty := .int) (C := RX4) (T := TX4) (N := 8) hx hb (ly_X4 hE) (fun _ h9 => h9) tyX4 tyX4_ok nmX4 hown hK hP hD hS 0 rfl rfl 6 (by decide) (wd_311 hE) (fun _ h9 => h9) rfl (by decide +kernel) rfl rfl (Nat.le_of_ble_eq_true rfl) dX4_init_69 (fun H locs hP hD hS => ?_)
  have hP : va_P (dC, dI) vwCl [(a0, .inr (3, [.ref q1, .ref q3, .ref q5, .ref q7, .ref q9, .ref q11, .int 0, .int 0])), (q1, .inr (9, [.ref (u2.1 0), .ref (u2.1 1), .int 0, .int 0])), (q3, .inr (9, [.ref (u4.1 0), .ref (u4.1 1), .int 0, .int 0])), (q5, .inr (9, [.ref (u6.1 0), .ref (u6.1 1), .int 0, .int 0])), (q7, .inr (9, [.ref (u8.1 0), .ref (u8.1 1), .int 0, .int 0])), (q9, .inr (0, [.ref (u10.1 0), .ref (u10.1 1), .ref (u10.1 2), .ref (u10.1 3), .ref (u10.1 3)])), (q11, .inl (k11, 6, .inl (fun _ => 0)))] H := hP
  have hD : va_D A [(a0, .inr (3, [.ref q1, .ref q3, .ref q5, .ref q7, .ref q9, .ref q11, .int 0, .int 0])), (q1, .inr (9, [.ref (u2.1 0), .ref (u2.1 1), .int 0, .int 0])), (q3, .inr (9, [.ref (u4.1 0), .ref (u4.1 1), .int 0, .int 0])), (q5, .inr (9, [.ref (u6.1 0), .ref (u6.1 1), .int 0, .int 0])), (q7, .inr (9, [.ref (u8.1 0), .ref (u8.1 1), .int 0, .int 0])), (q9, .inr (0, [.ref (u10.1 0), .ref (u10.1 1), .ref (u10.1 2), .ref (u10.1 3), .ref (u10.1 3)])), (q11, .inl (k11, 6, .inl (fun _ => 0)))] := hD
  refine lv_aload_n hx hb dX4_init_72 rfl (lv_at hl 0 rfl) ?_
  refine lv_iconst (v := 0) hx hb dX4_init_73 (by decide) ?_
  refine va_put (D := (dC, dI)) (ci := 3) (v := .int 0) (ty := .int) (C := RX4) (T := TX4) (N := 8) hx hb (ly_X4 hE) (fun _ h9 => h9) tyX4 tyX4_ok nmX4 hown hK hP hD hS 0 rfl rfl 7 (by decide) (wd_312 hE) (fun _ h9 => h9) rfl (by decide +kernel) rfl rfl (Nat.le_of_ble_eq_true rfl) dX4_init_74 (fun H locs hP hD hS => ?_)
  have hP : va_P (dC, dI) vwCl [(a0, .inr (3, [.ref q1, .ref q3, .ref q5, .ref q7, .ref q9, .ref q11, .int 0, .int 0])), (q1, .inr (9, [.ref (u2.1 0), .ref (u2.1 1), .int 0, .int 0])), (q3, .inr (9, [.ref (u4.1 0), .ref (u4.1 1), .int 0, .int 0])), (q5, .inr (9, [.ref (u6.1 0), .ref (u6.1 1), .int 0, .int 0])), (q7, .inr (9, [.ref (u8.1 0), .ref (u8.1 1), .int 0, .int 0])), (q9, .inr (0, [.ref (u10.1 0), .ref (u10.1 1), .ref (u10.1 2), .ref (u10.1 3), .ref (u10.1 3)])), (q11, .inl (k11, 6, .inl (fun _ => 0)))] H := hP
  have hD : va_D A [(a0, .inr (3, [.ref q1, .ref q3, .ref q5, .ref q7, .ref q9, .ref q11, .int 0, .int 0])), (q1, .inr (9, [.ref (u2.1 0), .ref (u2.1 1), .int 0, .int 0])), (q3, .inr (9, [.ref (u4.1 0), .ref (u4.1 1), .int 0, .int 0])), (q5, .inr (9, [.ref (u6.1 0), .ref (u6.1 1), .int 0, .int 0])), (q7, .inr (9, [.ref (u8.1 0), .ref (u8.1 1), .int 0, .int 0])), (q9, .inr (0, [.ref (u10.1 0), .ref (u10.1 1), .ref (u10.1 2), .ref (u10.1 3), .ref (u10.1 3)])), (q11, .inl (k11, 6, .inl (fun _ => 0)))] := hD
  have hP9 := hP.sub (ws' := [(a0, .inr (3, [.ref q1, .ref q3, .ref q5, .ref q7, .ref q9, .ref q11, .int 0, .int 0]))]) [0] rfl
  have hD9 := hD.sub (ws' := [(a0, .inr (3, [.ref q1, .ref q3, .ref q5, .ref q7, .ref q9, .ref q11, .int 0, .int 0]))]) [0] (by decide) rfl
  have hK9 := hK.sub (tys' := []) [] rfl
  refine W.widen (k := 20) (n := 828) (Nat.le_of_ble_eq_true rfl) (Nat.le_of_ble_eq_true rfl) ?_
  exact W.vret hx hb hr (fun t ht hW => ⟨⟨(fun i => [q1, q3, q5, q7, q9, q11].getD i 0, fun i => [].getD i 0), rfl, trivial, by rw [ht]; exact hP9, va_K.moved hW.alike hK9, hD9⟩, hS.F ht⟩) hS.2.2 dX4_init_77

set_option maxHeartbeats 4000000 in
set_option maxRecDepth 100000 in
theorem c_X6_init (l : Launch) (dC : Nat → ClassId) (dI : Nat → Nat → Nat) (sz : Nat)  (a0 : Nat)  : Met l yX6_init [.code yX6_init cX6_init 1 none] ({ frames := 1, cells := 1, slots := 6, locals := 40 }) (PcE [.ref a0] sz dC dI [] [(a0, .inr (5, [.null, .long 0, .long 0]))]) (va_Qv (fun (u : (Nat → Nat) × (Nat → ClassId)) => True) (Bw dC dI (va_A [(a0, .inr (5, [.null, .long 0, .long 0]))] sz) (fun (u : (Nat → Nat) × (Nat → ClassId)) => [(u.2 0, .int)]) (fun (u : (Nat → Nat) × (Nat → ClassId)) => [(a0, .inr (5, [.ref (u.1 0), .long 0, .long 1])), (u.1 0, .inl (u.2 0, 6, .inl (fun _ => 0)))])) (va_A [(a0, .inr (5, [.null, .long 0, .long 0]))] sz)) 1 6 (va_A [(a0, .inr (5, [.null, .long 0, .long 0]))] sz) := by
  refine Met.ofW (cc := cX6_init) (maxL := 1) (ret := none) (by decide) rfl ?_
  intro p e s m args below meth c s₁ B hml hv
  obtain ⟨rfl, hsz, hP, hK, hD0, hE⟩ := hv
  have hx := B.exec
  have hb := B.bytes
  have hr := B.returns
  have hown : s.vm.findClass RX6 = some m.cls := findClass_of_methodNamed B.named
  have hlocks := B.notSynchronized
  have hin : meth.name = "<init>" := (name_of_methodNamed B.named B.method).1
  subst hsz
  have hD := hD0.self (sz := s.heap.size)
  generalize hAe : va_A [(a0, .inr (5, [.null, .long 0, .long 0]))] s.heap.size = A at hD ⊢
  have hA : ∀ q : Nat, s.heap.size ≤ q → A q := fun q h => by rw [← hAe]; exact Or.inr h
  have hS : va_S A s.heap s.heap [] := va_S.rf
  have hl := lv_entry ([.ref a0]) (n := 1) (Nat.le_of_ble_eq_true rfl)
  rw [lg_entry_eq]
  generalize (lg_sl ([.ref a0]) ++ List.replicate (1 - (lg_sl ([.ref a0])).length) Slot.unset).toArray = ls at hl ⊢
  have hl : lv_has ls 1 [(0, .ref a0)] := hl
  refine lv_aload_n hx hb dX6_init_0 rfl (lv_at hl 0 rfl) ?_
  refine W.objInit hx hb hown (wd_337 hE) (wd_141 hE) (wd_142 hE) rfl (by rw [hml]; exact hl.1) rfl dX6_init_1 (Nat.le_of_ble_eq_true rfl) (Nat.le_of_ble_eq_true rfl) ?_
  refine W.eq (g2 := F0 m 4 ls []) rfl ?_
  refine lv_aload_n hx hb dX6_init_4 rfl (lv_at hl 0 rfl) ?_
  refine lv_bipush (v := 6) hx hb dX6_init_5 (by decide) ?_
  refine va_newa (atype := .int) (ty := .int) (N' := 6) (a0 := (6, .inl (fun _ => 0))) hx hb (wd_153 hE) rfl hK hP hD hS hA (fun _ => rfl) (by decide) (by decide) (Nat.le_of_ble_eq_true rfl) (Nat.le_of_ble_eq_true rfl) (Nat.le_of_ble_eq_true rfl) dX6_init_7 (fun q1 k1 H hK hP hD hS => ?_)
  have hK : va_K (dC, dI) vwCl [(k1, .int)] s := hK
  have hP : va_P (dC, dI) vwCl [(a0, .inr (5, [.null, .long 0, .long 0])), (q1, .inl (k1, 6, .inl (fun _ => 0)))] H := hP
  have hD : va_D A [(a0, .inr (5, [.null, .long 0, .long 0])), (q1, .inl (k1, 6, .inl (fun _ => 0)))] := hD
  refine W.widen (k := 1) (n := 6) (Nat.le_of_ble_eq_true rfl) (Nat.le_of_ble_eq_true rfl) ?_
  refine va_putF (D := (dC, dI)) (ci := 5) (v := .ref q1) (ty := .array .int) (C := RX6) (T := TX6) (N := 3) hx hb (ly_X6 hE) (fun _ h9 => h9) tyX6 tyX6_ok nmX6 hown hK hP hD hS 0 rfl rfl 0 (by decide) (wd_338 hE) (fun _ h9 => h9) rfl hin rfl (by decide +kernel) rfl rfl (Nat.le_of_ble_eq_true rfl) dX6_init_9 (fun H locs hP hD hS => ?_)
  have hP : va_P (dC, dI) vwCl [(a0, .inr (5, [.ref q1, .long 0, .long 0])), (q1, .inl (k1, 6, .inl (fun _ => 0)))] H := hP
  have hD : va_D A [(a0, .inr (5, [.ref q1, .long 0, .long 0])), (q1, .inl (k1, 6, .inl (fun _ => 0)))] := hD
  refine lv_aload_n hx hb dX6_init_12 rfl (lv_at hl 0 rfl) ?_
  refine lv_lconst (v := 0) hx hb dX6_init_13 (by decide) ?_
  refine va_put (D := (dC, dI)) (ci := 5) (v := .long 0) (ty := .long) (C := RX6) (T := TX6) (N := 3) hx hb (ly_X6 hE) (fun _ h9 => h9) tyX6 tyX6_ok nmX6 hown hK hP hD hS 0 rfl rfl 1 (by decide) (wd_339 hE) (fun _ h9 => h9) rfl (by decide +kernel) rfl rfl (Nat.le_of_ble_eq_true rfl) dX6_init_14 (fun H locs hP hD hS => ?_)
  have hP : va_P (dC, dI) vwCl [(a0, .inr (5, [.ref q1, .long 0, .long 0])), (q1, .inl (k1, 6, .inl (fun _ => 0)))] H := hP
  have hD : va_D A [(a0, .inr (5, [.ref q1, .long 0, .long 0])), (q1, .inl (k1, 6, .inl (fun _ => 0)))] := hD
  refine lv_aload_n hx hb dX6_init_17 rfl (lv_at hl 0 rfl) ?_
  refine lv_lconst (v := 1) hx hb dX6_init_18 (by decide) ?_
  refine va_put (D := (dC, dI)) (ci := 5) (v := .long 1) (ty := .long) (C := RX6) (T := TX6) (N := 3) hx hb (ly_X6 hE) (fun _ h9 => h9) tyX6 tyX6_ok nmX6 hown hK hP hD hS 0 rfl rfl 2 (by decide) (wd_340 hE) (fun _ h9 => h9) rfl (by decide +kernel) rfl rfl (Nat.le_of_ble_eq_true rfl) dX6_init_19 (fun H locs hP hD hS => ?_)
  have hP : va_P (dC, dI) vwCl [(a0, .inr (5, [.ref q1, .long 0, .long 1])), (q1, .inl (k1, 6, .inl (fun _ => 0)))] H := hP
  have hD : va_D A [(a0, .inr (5, [.ref q1, .long 0, .long 1])), (q1, .inl (k1, 6, .inl (fun _ => 0)))] := hD
  have hP9 := hP.sub (ws' := [(a0, .inr (5, [.ref q1, .long 0, .long 1])), (q1, .inl (k1, 6, .inl (fun _ => 0)))]) [0, 1] rfl
  have hD9 := hD.sub (ws' := [(a0, .inr (5, [.ref q1, .long 0, .long 1])), (q1, .inl (k1, 6, .inl (fun _ => 0)))]) [0, 1] (by decide) rfl
  have hK9 := hK.sub (tys' := [(k1, .int)]) [0] rfl
  refine W.widen (k := 1) (n := 6) (Nat.le_of_ble_eq_true rfl) (Nat.le_of_ble_eq_true rfl) ?_
  exact W.vret hx hb hr (fun t ht hW => ⟨⟨(fun i => [q1].getD i 0, fun i => [k1].getD i 0), rfl, trivial, by rw [ht]; exact hP9, va_K.moved hW.alike hK9, hD9⟩, hS.F ht⟩) hS.2.2 dX6_init_22

set_option maxHeartbeats 4000000 in
set_option maxRecDepth 100000 in
theorem c_X1_init (l : Launch) (dC : Nat → ClassId) (dI : Nat → Nat → Nat) (sz : Nat)  (a0 : Nat)  : Met l yX1_init [.code yX1_init cX1_init 1 none] ({ frames := 1, cells := 1, slots := 156, locals := 40 }) (PcE [.ref a0] sz dC dI [] [(a0, .inr (1, [.null]))]) (va_Qv (fun (u : (Nat → Nat) × (Nat → ClassId)) => True) (Bw dC dI (va_A [(a0, .inr (1, [.null]))] sz) (fun (u : (Nat → Nat) × (Nat → ClassId)) => []) (fun (u : (Nat → Nat) × (Nat → ClassId)) => [(a0, .inr (1, [.ref (u.1 0)]))])) (va_A [(a0, .inr (1, [.null]))] sz)) 1 156 (va_A [(a0, .inr (1, [.null]))] sz) := by
  refine Met.ofW (cc := cX1_init) (maxL := 1) (ret := none) (by decide) rfl ?_
  intro p e s m args below meth c s₁ B hml hv
  obtain ⟨rfl, hsz, hP, hK, hD0, hE⟩ := hv
  have hx := B.exec
  have hb := B.bytes
  have hr := B.returns
  have hown : s.vm.findClass RX1 = some m.cls := findClass_of_methodNamed B.named
  have hlocks := B.notSynchronized
  have hin : meth.name = "<init>" := (name_of_methodNamed B.named B.method).1
  subst hsz
  have hD := hD0.self (sz := s.heap.size)
  generalize hAe : va_A [(a0, .inr (1, [.null]))] s.heap.size = A at hD ⊢
  have hA : ∀ q : Nat, s.heap.size ≤ q → A q := fun q h => by rw [← hAe]; exact Or.inr h
  have hS : va_S A s.heap s.heap [] := va_S.rf
  have hl := lv_entry ([.ref a0]) (n := 1) (Nat.le_of_ble_eq_true rfl)
  rw [lg_entry_eq]
  generalize (lg_sl ([.ref a0]) ++ List.replicate (1 - (lg_sl ([.ref a0])).length) Slot.unset).toArray = ls at hl ⊢
  have hl : lv_has ls 1 [(0, .ref a0)] := hl
  refine lv_aload_n hx hb dX1_init_0 rfl (lv_at hl 0 rfl) ?_
  refine W.objInit hx hb hown (wd_353 hE) (wd_141 hE) (wd_142 hE) rfl (by rw [hml]; exact hl.1) rfl dX1_init_1 (Nat.le_of_ble_eq_true rfl) (Nat.le_of_ble_eq_true rfl) ?_
  refine W.eq (g2 := F0 m 4 ls []) rfl ?_
  refine lv_aload_n hx hb dX1_init_4 rfl (lv_at hl 0 rfl) ?_
  refine lv_sipush (v := 156) hx hb dX1_init_5 (by decide) ?_
  refine va_newa (atype := .long) (ty := .long) (N' := 156) (a0 := (156, .inr (.inl (fun _ => 0)))) hx hb (wd_358 hE) rfl hK hP hD hS hA (fun _ => rfl) (by decide) (by decide) (Nat.le_of_ble_eq_true rfl) (Nat.le_of_ble_eq_true rfl) (Nat.le_of_ble_eq_true rfl) dX1_init_8 (fun q1 k1 H hK hP hD hS => ?_)
  have hK : va_K (dC, dI) vwCl [(k1, .long)] s := hK
  have hP : va_P (dC, dI) vwCl [(a0, .inr (1, [.null])), (q1, .inl (k1, 156, .inr (.inl (fun _ => 0))))] H := hP
  have hD : va_D A [(a0, .inr (1, [.null])), (q1, .inl (k1, 156, .inr (.inl (fun _ => 0))))] := hD
  refine W.widen (k := 1) (n := 156) (Nat.le_of_ble_eq_true rfl) (Nat.le_of_ble_eq_true rfl) ?_
  refine va_putF (D := (dC, dI)) (ci := 1) (v := .ref q1) (ty := .array .long) (C := RX1) (T := TX1) (N := 1) hx hb (ly_X1 hE) (fun _ h9 => h9) tyX1 tyX1_ok nmX1 hown hK hP hD hS 0 rfl rfl 0 (by decide) (wd_354 hE) (fun _ h9 => h9) rfl hin rfl (by decide +kernel) rfl rfl (Nat.le_of_ble_eq_true rfl) dX1_init_10 (fun H locs hP hD hS => ?_)
  have hP : va_P (dC, dI) vwCl [(a0, .inr (1, [.ref q1])), (q1, .inl (k1, 156, .inr (.inl (fun _ => 0))))] H := hP
  have hD : va_D A [(a0, .inr (1, [.ref q1])), (q1, .inl (k1, 156, .inr (.inl (fun _ => 0))))] := hD
  have hP9 := hP.sub (ws' := [(a0, .inr (1, [.ref q1]))]) [0] rfl
  have hD9 := hD.sub (ws' := [(a0, .inr (1, [.ref q1]))]) [0] (by decide) rfl
  have hK9 := hK.sub (tys' := []) [] rfl
  refine W.widen (k := 1) (n := 156) (Nat.le_of_ble_eq_true rfl) (Nat.le_of_ble_eq_true rfl) ?_
  exact W.vret hx hb hr (fun t ht hW => ⟨⟨(fun i => [q1].getD i 0, fun i => [].getD i 0), rfl, trivial, by rw [ht]; exact hP9, va_K.moved hW.alike hK9, hD9⟩, hS.F ht⟩) hS.2.2 dX1_init_13
