set_option maxHeartbeats 4000000 in
set_option maxRecDepth 100000 in
theorem c_X7_init (l : Launch) (dC : Nat → ClassId) (dI : Nat → Nat → Nat) (sz : Nat)  (a0 : Nat)  : Met l yX7_init [.code yX7_init cX7_init 1 none] ({ frames := 1, cells := 1, slots := 543, locals := 40 }) (PcE [.ref a0] sz dC dI [] [(a0, .inr (6, [.null]))]) (va_Qv (fun (u : (Nat → Nat) × (Nat → ClassId)) => True) (Bw dC dI (va_A [(a0, .inr (6, [.null]))] sz) (fun (u : (Nat → Nat) × (Nat → ClassId)) => [(u.2 0, .int)]) (fun (u : (Nat → Nat) × (Nat → ClassId)) => [(a0, .inr (6, [.ref (u.1 0)])), (u.1 0, .inl (u.2 0, 543, .inl (fun _ => 0)))])) (va_A [(a0, .inr (6, [.null]))] sz)) 1 543 (va_A [(a0, .inr (6, [.null]))] sz) := by
  refine Met.ofW (cc := cX7_init) (maxL := 1) (ret := none) (by decide) rfl ?_
  intro p e s m args below meth c s₁ B hml hv
  obtain ⟨rfl, hsz, hP, hK, hD0, hE⟩ := hv
  have hx := B.exec
  have hb := B.bytes
  have hr := B.returns
  have hown : s.vm.findClass RX7 = some m.cls := findClass_of_methodNamed B.named
  have hlocks := B.notSynchronized
  have hin : meth.name = "<init>" := (name_of_methodNamed B.named B.method).1
  subst hsz
  have hD := hD0.self (sz := s.heap.size)
  generalize hAe : va_A [(a0, .inr (6, [.null]))] s.heap.size = A at hD ⊢
  have hA : ∀ q : Nat, s.heap.size ≤ q → A q := fun q h => by rw [← hAe]; exact Or.inr h
  have hS : va_S A s.heap s.heap [] := va_S.rf
  have hl := lv_entry ([.ref a0]) (n := 1) (Nat.le_of_ble_eq_true rfl)
  rw [lg_entry_eq]
  generalize (lg_sl ([.ref a0]) ++ List.replicate (1 - (lg_sl ([.ref a0])).length) Slot.unset).toArray = ls at hl ⊢
  have hl : lv_has ls 1 [(0, .ref a0)] := hl
  refine lv_aload_n hx hb dX7_init_0 rfl (lv_at hl 0 rfl) ?_
  refine W.objInit hx hb hown (wd_148 hE) (wd_141 hE) (wd_142 hE) rfl (by rw [hml]; exact hl.1) rfl dX7_init_1 (Nat.le_of_ble_eq_true rfl) (Nat.le_of_ble_eq_true rfl) ?_
  refine W.eq (g2 := F0 m 4 ls []) rfl ?_
  refine lv_aload_n hx hb dX7_init_4 rfl (lv_at hl 0 rfl) ?_
  refine lv_sipush (v := 543) hx hb dX7_init_5 (by decide) ?_
  refine va_newa (atype := .int) (ty := .int) (N' := 543) (a0 := (543, .inl (fun _ => 0))) hx hb (wd_153 hE) rfl hK hP hD hS hA (fun _ => rfl) (by decide) (by decide) (Nat.le_of_ble_eq_true rfl) (Nat.le_of_ble_eq_true rfl) (Nat.le_of_ble_eq_true rfl) dX7_init_8 (fun q1 k1 H hK hP hD hS => ?_)
  have hK : va_K (dC, dI) vwCl [(k1, .int)] s := hK
  have hP : va_P (dC, dI) vwCl [(a0, .inr (6, [.null])), (q1, .inl (k1, 543, .inl (fun _ => 0)))] H := hP
  have hD : va_D A [(a0, .inr (6, [.null])), (q1, .inl (k1, 543, .inl (fun _ => 0)))] := hD
  refine W.widen (k := 1) (n := 543) (Nat.le_of_ble_eq_true rfl) (Nat.le_of_ble_eq_true rfl) ?_
  refine va_putF (D := (dC, dI)) (ci := 6) (v := .ref q1) (ty := .array .int) (C := RX7) (T := TX7) (N := 1) hx hb (ly_X7 hE) (fun _ h9 => h9) tyX7 tyX7_ok nmX7 hown hK hP hD hS 0 rfl rfl 0 (by decide) (wd_149 hE) (fun _ h9 => h9) rfl hin rfl (by decide +kernel) rfl rfl (Nat.le_of_ble_eq_true rfl) dX7_init_10 (fun H locs hP hD hS => ?_)
  have hP : va_P (dC, dI) vwCl [(a0, .inr (6, [.ref q1])), (q1, .inl (k1, 543, .inl (fun _ => 0)))] H := hP
  have hD : va_D A [(a0, .inr (6, [.ref q1])), (q1, .inl (k1, 543, .inl (fun _ => 0)))] := hD
  have hP9 := hP.sub (ws' := [(a0, .inr (6, [.ref q1])), (q1, .inl (k1, 543, .inl (fun _ => 0)))]) [0, 1] rfl
  have hD9 := hD.sub (ws' := [(a0, .inr (6, [.ref q1])), (q1, .inl (k1, 543, .inl (fun _ => 0)))]) [0, 1] (by decide) rfl
  have hK9 := hK.sub (tys' := [(k1, .int)]) [0] rfl
  refine W.widen (k := 1) (n := 543) (Nat.le_of_ble_eq_true rfl) (Nat.le_of_ble_eq_true rfl) ?_
  exact W.vret hx hb hr (fun t ht hW => ⟨⟨(fun i => [q1].getD i 0, fun i => [k1].getD i 0), rfl, trivial, by rw [ht]; exact hP9, va_K.moved hW.alike hK9, hD9⟩, hS.F ht⟩) hS.2.2 dX7_init_13

set_option maxHeartbeats 4000000 in
set_option maxRecDepth 100000 in
theorem c_X10_init (l : Launch) (dC : Nat → ClassId) (dI : Nat → Nat → Nat) (sz : Nat)  (a0 : Nat)  : Met l yX10_init [.code yX10_init cX10_init 1 none] ({ frames := 1, cells := 2, slots := 145, locals := 40 }) (PcE [.ref a0] sz dC dI [] [(a0, .inr (9, [.null, .null, .int 0, .int 0]))]) (va_Qv (fun (u : (Nat → Nat) × (Nat → ClassId)) => True) (Bw dC dI (va_A [(a0, .inr (9, [.null, .null, .int 0, .int 0]))] sz) (fun (u : (Nat → Nat) × (Nat → ClassId)) => []) (fun (u : (Nat → Nat) × (Nat → ClassId)) => [(a0, .inr (9, [.ref (u.1 0), .ref (u.1 1), .int 0, .int 0]))])) (va_A [(a0, .inr (9, [.null, .null, .int 0, .int 0]))] sz)) 2 145 (va_A [(a0, .inr (9, [.null, .null, .int 0, .int 0]))] sz) := by
  refine Met.ofW (cc := cX10_init) (maxL := 1) (ret := none) (by decide) rfl ?_
  intro p e s m args below meth c s₁ B hml hv
  obtain ⟨rfl, hsz, hP, hK, hD0, hE⟩ := hv
  have hx := B.exec
  have hb := B.bytes
  have hr := B.returns
  have hown : s.vm.findClass RX10 = some m.cls := findClass_of_methodNamed B.named
  have hlocks := B.notSynchronized
  have hin : meth.name = "<init>" := (name_of_methodNamed B.named B.method).1
  subst hsz
  have hD := hD0.self (sz := s.heap.size)
  generalize hAe : va_A [(a0, .inr (9, [.null, .null, .int 0, .int 0]))] s.heap.size = A at hD ⊢
  have hA : ∀ q : Nat, s.heap.size ≤ q → A q := fun q h => by rw [← hAe]; exact Or.inr h
  have hS : va_S A s.heap s.heap [] := va_S.rf
  have hl := lv_entry ([.ref a0]) (n := 1) (Nat.le_of_ble_eq_true rfl)
  rw [lg_entry_eq]
  generalize (lg_sl ([.ref a0]) ++ List.replicate (1 - (lg_sl ([.ref a0])).length) Slot.unset).toArray = ls at hl ⊢
  have hl : lv_has ls 1 [(0, .ref a0)] := hl
  refine lv_aload_n hx hb dX10_init_0 rfl (lv_at hl 0 rfl) ?_
  refine W.objInit hx hb hown (wd_213 hE) (wd_141 hE) (wd_142 hE) rfl (by rw [hml]; exact hl.1) rfl dX10_init_1 (Nat.le_of_ble_eq_true rfl) (Nat.le_of_ble_eq_true rfl) ?_
  refine W.eq (g2 := F0 m 4 ls []) rfl ?_
  refine lv_aload_n hx hb dX10_init_4 rfl (lv_at hl 0 rfl) ?_
  refine lv_bipush (v := 73) hx hb dX10_init_5 (by decide) ?_
  refine va_newa (atype := .int) (ty := .int) (N' := 73) (a0 := (73, .inl (fun _ => 0))) hx hb (wd_153 hE) rfl hK hP hD hS hA (fun _ => rfl) (by decide) (by decide) (Nat.le_of_ble_eq_true rfl) (Nat.le_of_ble_eq_true rfl) (Nat.le_of_ble_eq_true rfl) dX10_init_7 (fun q1 k1 H hK hP hD hS => ?_)
  have hK : va_K (dC, dI) vwCl [(k1, .int)] s := hK
  have hP : va_P (dC, dI) vwCl [(a0, .inr (9, [.null, .null, .int 0, .int 0])), (q1, .inl (k1, 73, .inl (fun _ => 0)))] H := hP
  have hD : va_D A [(a0, .inr (9, [.null, .null, .int 0, .int 0])), (q1, .inl (k1, 73, .inl (fun _ => 0)))] := hD
  refine W.widen (k := 1) (n := 73) (Nat.le_of_ble_eq_true rfl) (Nat.le_of_ble_eq_true rfl) ?_
  refine va_putF (D := (dC, dI)) (ci := 9) (v := .ref q1) (ty := .array .int) (C := RX10) (T := TX10) (N := 4) hx hb (ly_X10 hE) (fun _ h9 => h9) tyX10 tyX10_ok nmX10 hown hK hP hD hS 0 rfl rfl 0 (by decide) (wd_214 hE) (fun _ h9 => h9) rfl hin rfl (by decide +kernel) rfl rfl (Nat.le_of_ble_eq_true rfl) dX10_init_9 (fun H locs hP hD hS => ?_)
  have hP : va_P (dC, dI) vwCl [(a0, .inr (9, [.ref q1, .null, .int 0, .int 0])), (q1, .inl (k1, 73, .inl (fun _ => 0)))] H := hP
  have hD : va_D A [(a0, .inr (9, [.ref q1, .null, .int 0, .int 0])), (q1, .inl (k1, 73, .inl (fun _ => 0)))] := hD
  refine lv_aload_n hx hb dX10_init_12 rfl (lv_at hl 0 rfl) ?_
  refine lv_bipush (v := 72) hx hb dX10_init_13 (by decide) ?_
  refine va_newa (atype := .int) (ty := .int) (N' := 72) (a0 := (72, .inl (fun _ => 0))) hx hb (wd_153 hE) rfl hK hP hD hS hA (fun _ => rfl) (by decide) (by decide) (Nat.le_of_ble_eq_true rfl) (Nat.le_of_ble_eq_true rfl) (Nat.le_of_ble_eq_true rfl) dX10_init_15 (fun q2 k2 H hK hP hD hS => ?_)
  have hK : va_K (dC, dI) vwCl [(k1, .int), (k2, .int)] s := hK
  have hP : va_P (dC, dI) vwCl [(a0, .inr (9, [.ref q1, .null, .int 0, .int 0])), (q1, .inl (k1, 73, .inl (fun _ => 0))), (q2, .inl (k2, 72, .inl (fun _ => 0)))] H := hP
  have hD : va_D A [(a0, .inr (9, [.ref q1, .null, .int 0, .int 0])), (q1, .inl (k1, 73, .inl (fun _ => 0))), (q2, .inl (k2, 72, .inl (fun _ => 0)))] := hD
  refine W.widen (k := 2) (n := 145) (Nat.le_of_ble_eq_true rfl) (Nat.le_of_ble_eq_true rfl) ?_
  refine va_putF (D := (dC, dI)) (ci := 9) (v := .ref q2) (ty := .array .int) (C := RX10) (T := TX10) (N := 4) hx hb (ly_X10 hE) (fun _ h9 => h9) tyX10 tyX10_ok nmX10 hown hK hP hD hS 0 rfl rfl 1 (by decide) (wd_215 hE) (fun _ h9 => h9) rfl hin rfl (by decide +kernel) rfl rfl (Nat.le_of_ble_eq_true rfl) dX10_init_17 (fun H locs hP hD hS => ?_)
  have hP : va_P (dC, dI) vwCl [(a0, .inr (9, [.ref q1, .ref q2, .int 0, .int 0])), (q1, .inl (k1, 73, .inl (fun _ => 0))), (q2, .inl (k2, 72, .inl (fun _ => 0)))] H := hP
  have hD : va_D A [(a0, .inr (9, [.ref q1, .ref q2, .int 0, .int 0])), (q1, .inl (k1, 73, .inl (fun _ => 0))), (q2, .inl (k2, 72, .inl (fun _ => 0)))] := hD
  refine lv_aload_n hx hb dX10_init_20 rfl (lv_at hl 0 rfl) ?_
  refine lv_iconst (v := 0) hx hb dX10_init_21 (by decide) ?_
  refine va_put (D := (dC, dI)) (ci := 9) (v := .int 0) (ty := .int) (C := RX10) (T := TX10) (N := 4) hx hb (ly_X10 hE) (fun _ h9 => h9) tyX10 tyX10_ok nmX10 hown hK hP hD hS 0 rfl rfl 2 (by decide) (wd_216 hE) (fun _ h9 => h9) rfl (by decide +kernel) rfl rfl (Nat.le_of_ble_eq_true rfl) dX10_init_22 (fun H locs hP hD hS => ?_)
  have hP : va_P (dC, dI) vwCl [(a0, .inr (9, [.ref q1, .ref q2, .int 0, .int 0])), (q1, .inl (k1, 73, .inl (fun _ => 0))), (q2, .inl (k2, 72, .inl (fun _ => 0)))] H := hP
  have hD : va_D A [(a0, .inr (9, [.ref q1, .ref q2, .int 0, .int 0])), (q1, .inl (k1, 73, .inl (fun _ => 0))), (q2, .inl (k2, 72, .inl (fun _ => 0)))] := hD
  refine lv_aload_n hx hb dX10_init_25 rfl (lv_at hl 0 rfl) ?_
  refine lv_iconst (v := 0) hx hb dX10_init_26 (by decide) ?_
  refine va_put (D := (dC, dI)) (ci := 9) (v := .int 0) (ty := .int) (C := RX10) (T := TX10) (N := 4) hx hb (ly_X10 hE) (fun _ h9 => h9) tyX10 tyX10_ok nmX10 hown hK hP hD hS 0 rfl rfl 3 (by decide) (wd_217 hE) (fun _ h9 => h9) rfl (by decide +kernel) rfl rfl (Nat.le_of_ble_eq_true rfl) dX10_init_27 (fun H locs hP hD hS => ?_)
  have hP : va_P (dC, dI) vwCl [(a0, .inr (9, [.ref q1, .ref q2, .int 0, .int 0])), (q1, .inl (k1, 73, .inl (fun _ => 0))), (q2, .inl (k2, 72, .inl (fun _ => 0)))] H := hP
  have hD : va_D A [(a0, .inr (9, [.ref q1, .ref q2, .int 0, .int 0])), (q1, .inl (k1, 73, .inl (fun _ => 0))), (q2, .inl (k2, 72, .inl (fun _ => 0)))] := hD
  have hP9 := hP.sub (ws' := [(a0, .inr (9, [.ref q1, .ref q2, .int 0, .int 0]))]) [0] rfl
  have hD9 := hD.sub (ws' := [(a0, .inr (9, [.ref q1, .ref q2, .int 0, .int 0]))]) [0] (by decide) rfl
  have hK9 := hK.sub (tys' := []) [] rfl
  refine W.widen (k := 2) (n := 145) (Nat.le_of_ble_eq_true rfl) (Nat.le_of_ble_eq_true rfl) ?_
  exact W.vret hx hb hr (fun t ht hW => ⟨⟨(fun i => [q1, q2].getD i 0, fun i => [].getD i 0), rfl, trivial, by rw [ht]; exact hP9, va_K.moved hW.alike hK9, hD9⟩, hS.F ht⟩) hS.2.2 dX10_init_30

set_option maxHeartbeats 4000000 in
set_option maxRecDepth 100000 in
theorem c_J7_fill_53178 (l : Launch) (dC : Nat → ClassId) (dI : Nat → Nat → Nat) (sz : Nat)  (a0 : Nat) (k0 : ClassId)  : Met l yJ7_fill_53178 [.code yJ7_fill_53178 cJ7_fill_53178 4 none] ({ frames := 0, cells := 0, slots := 0, locals := 0 }) (PcE [.ref a0, .int 0] sz dC dI [(k0, .int)] [(a0, .inl (k0, 543, .inl (fun _ => 0)))]) (va_Qv (fun (u : Unit) => True) (Bw dC dI (va_A [(a0, .inl (k0, 543, .inl (fun _ => 0)))] sz) (fun (u : Unit) => []) (fun (u : Unit) => [(a0, .inl (k0, 543, .inl (fun _ => 0)))])) (va_A [(a0, .inl (k0, 543, .inl (fun _ => 0)))] sz)) 0 0 (va_A [(a0, .inl (k0, 543, .inl (fun _ => 0)))] sz) := by
  refine Met.ofW (cc := cJ7_fill_53178) (maxL := 4) (ret := none) (by decide) rfl ?_
  intro p e s m args below meth c s₁ B hml hv
  obtain ⟨rfl, hsz, hP, hK, hD0, hE⟩ := hv
  have hx := B.exec
  have hb := B.bytes
  have hr := B.returns
  have hown : s.vm.findClass RJ7 = some m.cls := findClass_of_methodNamed B.named
  have hlocks := B.notSynchronized
  subst hsz
  have hD := hD0.self (sz := s.heap.size)
  generalize hAe : va_A [(a0, .inl (k0, 543, .inl (fun _ => 0)))] s.heap.size = A at hD ⊢
  have hA : ∀ q : Nat, s.heap.size ≤ q → A q := fun q h => by rw [← hAe]; exact Or.inr h
  have hS : va_S A s.heap s.heap [] := va_S.rf
  have hl := lv_entry ([.ref a0, .int 0]) (n := 4) (Nat.le_of_ble_eq_true rfl)
  rw [lg_entry_eq]
  generalize (lg_sl ([.ref a0, .int 0]) ++ List.replicate (4 - (lg_sl ([.ref a0, .int 0])).length) Slot.unset).toArray = ls at hl ⊢
  have hl : lv_has ls 4 [(0, .ref a0), (1, .int 0)] := hl
  refine lv_iconst (v := 0) hx hb dJ7_fill_53178_0 (by decide) ?_
  refine lv_istore_n (lv' := [(2, .int 0), (0, .ref a0), (1, .int 0)]) hx hb dJ7_fill_53178_1 rfl hl (by decide) rfl (fun ls hl => ?_)
  refine lv_aload_n hx hb dJ7_fill_53178_2 rfl (lv_at hl 1 rfl) ?_
  refine va_alen (v := 543) hx hb hK hP 0 0 rfl rfl rfl dJ7_fill_53178_3 ?_
  refine lv_istore_n (lv' := [(3, .int 543), (2, .int 0), (0, .ref a0), (1, .int 0)]) hx hb dJ7_fill_53178_4 rfl hl (by decide) rfl (fun ls hl => ?_)
  refine w_loop (pc := 5) (N := 543) (I := fun k H locs ls => va_P (dC, dI) vwCl [(a0, .inl (k0, 543, .inl (fun _ => 0)))] H ∧ va_D A [(a0, .inl (k0, 543, .inl (fun _ => 0)))] ∧ va_S A s.heap H locs ∧ lv_has ls 4 [(0, .ref a0), (1, .int 0), (2, .int (nI k)), (3, .int 543)]) (fun k H locs ls hk hI ih => ?_) 0 _ _ _ (Nat.zero_le _) ⟨hP, hD, hS, lv_sub hl [2, 3, 1, 0] rfl⟩
  obtain ⟨hP, hD, hS, hl⟩ := hI
  refine lv_iload_n hx hb dJ7_fill_53178_5 rfl (lv_at hl 2 rfl) ?_
  refine lv_iload_n hx hb dJ7_fill_53178_6 rfl (lv_at hl 3 rfl) ?_
  rcases Nat.lt_or_ge k 543 with hlt | hge
  · refine lv_icmp_ge (tgt := 20) hx hb dJ7_fill_53178_7 (by decide) (fun c1 => absurd c1 (nI_ge (b := 543) hlt (by decide))) (fun _ => ?_)
    refine lv_aload_n hx hb dJ7_fill_53178_10 rfl (lv_at hl 0 rfl) ?_
    refine lv_iload_n hx hb dJ7_fill_53178_11 rfl (lv_at hl 2 rfl) ?_
    refine lv_iload_n hx hb dJ7_fill_53178_12 rfl (lv_at hl 1 rfl) ?_
    refine va_iast hx hb hK hP hD hS 0 0 rfl rfl (vp_in_nI (by omega) (by omega)) dJ7_fill_53178_13 (fun H locs hP hD hS => ?_)
    rw [nI_clamp (show k < 2 ^ 31 by omega)] at hP hD
    rw [zz_upd] at hP hD
    have hP : va_P (dC, dI) vwCl [(a0, .inl (k0, 543, .inl (fun _ => 0)))] H := hP
    have hD : va_D A [(a0, .inl (k0, 543, .inl (fun _ => 0)))] := hD
    refine lv_iinc (v := nI (k + 1)) (lv' := [(2, .int (nI (k + 1))), (0, .ref a0), (1, .int 0), (3, .int 543)]) hx hb dJ7_fill_53178_14 hl (k := 2) rfl (nI_1 k) (by decide) rfl (fun ls hl => ?_)
    refine lv_goto (tgt := 5) hx hb dJ7_fill_53178_17 (by decide) ?_
    exact ih hlt _ _ _ ⟨hP, hD, hS, lv_sub hl [1, 2, 0, 3] rfl⟩
  · refine lv_icmp_ge (tgt := 20) hx hb dJ7_fill_53178_7 (by decide) (fun _ => ?_) (fun c1 => absurd (nI_le hge (by omega)) c1)
    have hP9 := hP.sub (ws' := [(a0, .inl (k0, 543, .inl (fun _ => 0)))]) [0] rfl
    have hD9 := hD.sub (ws' := [(a0, .inl (k0, 543, .inl (fun _ => 0)))]) [0] (by decide) rfl
    have hK9 := hK.sub (tys' := []) [] rfl
    refine W.widen (k := 0) (n := 0) (Nat.le_of_ble_eq_true rfl) (Nat.le_of_ble_eq_true rfl) ?_
    exact W.vret hx hb hr (fun t ht hW => ⟨⟨(), rfl, trivial, by rw [ht]; exact hP9, va_K.moved hW.alike hK9, hD9⟩, hS.F ht⟩) hS.2.2 dJ7_fill_53178_20

set_option maxHeartbeats 4000000 in
set_option maxRecDepth 100000 in
theorem c_X7_clear (l : Launch) (dC : Nat → ClassId) (dI : Nat → Nat → Nat) (sz : Nat)  (a0 a1 : Nat) (k0 : ClassId)  : Met l yX7_clear [.code yX7_clear cX7_clear 1 none] ({ frames := 1, cells := 0, slots := 0, locals := 40 }) (PcE [.ref a0] sz dC dI [(k0, .int)] [(a0, .inr (6, [.ref a1])), (a1, .inl (k0, 543, .inl (fun _ => 0)))]) (va_Qv (fun (u : Unit) => True) (Bw dC dI (va_A [(a0, .inr (6, [.ref a1])), (a1, .inl (k0, 543, .inl (fun _ => 0)))] sz) (fun (u : Unit) => []) (fun (u : Unit) => [(a0, .inr (6, [.ref a1])), (a1, .inl (k0, 543, .inl (fun _ => 0)))])) (va_A [(a0, .inr (6, [.ref a1])), (a1, .inl (k0, 543, .inl (fun _ => 0)))] sz)) 0 0 (va_A [(a0, .inr (6, [.ref a1])), (a1, .inl (k0, 543, .inl (fun _ => 0)))] sz) := by
  refine Met.ofW (cc := cX7_clear) (maxL := 1) (ret := none) (by decide) rfl ?_
  intro p e s m args below meth c s₁ B hml hv
  obtain ⟨rfl, hsz, hP, hK, hD0, hE⟩ := hv
  have hx := B.exec
  have hb := B.bytes
  have hr := B.returns
  have hown : s.vm.findClass RX7 = some m.cls := findClass_of_methodNamed B.named
  have hlocks := B.notSynchronized
  subst hsz
  have hD := hD0.self (sz := s.heap.size)
  generalize hAe : va_A [(a0, .inr (6, [.ref a1])), (a1, .inl (k0, 543, .inl (fun _ => 0)))] s.heap.size = A at hD ⊢
  have hA : ∀ q : Nat, s.heap.size ≤ q → A q := fun q h => by rw [← hAe]; exact Or.inr h
  have hS : va_S A s.heap s.heap [] := va_S.rf
  have hl := lv_entry ([.ref a0]) (n := 1) (Nat.le_of_ble_eq_true rfl)
  rw [lg_entry_eq]
  generalize (lg_sl ([.ref a0]) ++ List.replicate (1 - (lg_sl ([.ref a0])).length) Slot.unset).toArray = ls at hl ⊢
  have hl : lv_has ls 1 [(0, .ref a0)] := hl
  refine lv_aload_n hx hb dX7_clear_0 rfl (lv_at hl 0 rfl) ?_
  refine va_get (D := (dC, dI)) (ci := 6) (v := .ref a1) (C := RX7) (T := TX7) (N := 1) hx hb (ly_X7 hE) (fun _ h9 => h9) hown hK hP 0 rfl rfl 0 (by decide) (wd_149 hE) (fun _ h9 => h9) rfl dX7_clear_1 ?_
  refine lv_iconst (v := 0) hx hb dX7_clear_4 (by decide) ?_
  refine cl_v (wc := [(a1, .inl (k0, 543, .inl (fun _ => 0)))]) (wr := [(a0, .inr (6, [.ref a1]))]) [1] [0] rfl rfl (by decide) (by decide) hK hP hD hS hA (va_runS (As := [.ref a1, .int 0]) (rest := []) ⟨hx, hb, hml, hown, noTs⟩ (c_J7_fill_53178 l dC dI s.heap.size a1 k0) ⟨cbE 2 (wd_447 hE) (wd_127 hE) (wd_445 hE) rfl rfl (by decide +kernel) ⟨Nat.le_of_ble_eq_true rfl, Nat.le_of_ble_eq_true rfl⟩, (wd_446 hE)⟩ ⟨PcE.blind, (pre_E (av := [.ref a1, .int 0]) (wc := [(a1, .inl (k0, 543, .inl (fun _ => 0)))]) (tysc := [(k0, .int)]) [1] [0] rfl (by decide) rfl rfl hK hP hD hE)⟩ rfl rfl hl.1 rfl (lv_room (Nat.le_of_ble_eq_true rfl)) dX7_clear_5 ⟨Nat.le_of_ble_eq_true rfl, Nat.le_of_ble_eq_true rfl⟩) (fun u1 H locs hw1 hK hP hD hS => ?_)
  have hK : va_K (dC, dI) vwCl [(k0, .int)] s := hK
  have hP : va_P (dC, dI) vwCl [(a0, .inr (6, [.ref a1])), (a1, .inl (k0, 543, .inl (fun _ => 0)))] H := hP
  have hD : va_D A [(a0, .inr (6, [.ref a1])), (a1, .inl (k0, 543, .inl (fun _ => 0)))] := hD
  have hP9 := hP.sub (ws' := [(a0, .inr (6, [.ref a1])), (a1, .inl (k0, 543, .inl (fun _ => 0)))]) [0, 1] rfl
  have hD9 := hD.sub (ws' := [(a0, .inr (6, [.ref a1])), (a1, .inl (k0, 543, .inl (fun _ => 0)))]) [0, 1] (by decide) rfl
  have hK9 := hK.sub (tys' := []) [] rfl
  refine W.widen (k := 0) (n := 0) (Nat.le_of_ble_eq_true rfl) (Nat.le_of_ble_eq_true rfl) ?_
  exact W.vret hx hb hr (fun t ht hW => ⟨⟨(), rfl, trivial, by rw [ht]; exact hP9, va_K.moved hW.alike hK9, hD9⟩, hS.F ht⟩) hS.2.2 dX7_clear_8

set_option maxHeartbeats 4000000 in
set_option maxRecDepth 100000 in
theorem c_X11_rest (l : Launch) (dC : Nat → ClassId) (dI : Nat → Nat → Nat) (sz : Nat)   : Met l yX11_rest [.code yX11_rest cX11_rest 3 (some .int)] ({ frames := 0, cells := 0, slots := 0, locals := 0 }) (PcE [.int 0, .int 8] sz dC dI [] []) (va_Qi (fun (r : Int32) (u : Unit) => r = 0) (Bw dC dI (va_A [] sz) (fun (u : Unit) => []) (fun (u : Unit) => [])) (va_A [] sz)) 0 0 (va_A [] sz) := by
  refine Met.ofW (cc := cX11_rest) (maxL := 3) (ret := (some .int)) (by decide) rfl ?_
  intro p e s m args below meth c s₁ B hml hv
  obtain ⟨rfl, hsz, hP, hK, hD0, hE⟩ := hv
  have hx := B.exec
  have hb := B.bytes
  have hr := B.returns
  have hown : s.vm.findClass RX11 = some m.cls := findClass_of_methodNamed B.named
  have hlocks := B.notSynchronized
  subst hsz
  have hD := hD0.self (sz := s.heap.size)
  generalize hAe : va_A [] s.heap.size = A at hD ⊢
  have hA : ∀ q : Nat, s.heap.size ≤ q → A q := fun q h => by rw [← hAe]; exact Or.inr h
  have hS : va_S A s.heap s.heap [] := va_S.rf
  have hl := lv_entry ([.int 0, .int 8]) (n := 3) (Nat.le_of_ble_eq_true rfl)
  rw [lg_entry_eq]
  generalize (lg_sl ([.int 0, .int 8]) ++ List.replicate (3 - (lg_sl ([.int 0, .int 8])).length) Slot.unset).toArray = ls at hl ⊢
  have hl : lv_has ls 3 [(0, .int 0), (1, .int 8)] := hl
  refine lv_iload_n hx hb dX11_rest_0 rfl (lv_at hl 1 rfl) ?_
  refine lv_iconst (v := 1) hx hb dX11_rest_1 (by decide) ?_
  refine lv_icmp_ge (tgt := 7) hx hb dX11_rest_2 (by decide) (fun c1 => ?_) (fun c1 => absurd c1 (by decide))
  refine lv_iload_n hx hb dX11_rest_7 rfl (lv_at hl 0 rfl) ?_
  refine lv_iload_n hx hb dX11_rest_8 rfl (lv_at hl 1 rfl) ?_
  refine lv_irem hx hb dX11_rest_9 (by decide) ?_
  refine W.eq (g2 := F0 m 10 ls [.int 0]) rfl ?_
  refine lv_istore_n (lv' := [(2, .int 0), (0, .int 0), (1, .int 8)]) hx hb dX11_rest_10 rfl hl (by decide) rfl (fun ls hl => ?_)
  refine lv_iload_n hx hb dX11_rest_11 rfl (lv_at hl 0 rfl) ?_
  refine lv_if_ge (tgt := 21) hx hb dX11_rest_12 (by decide) (fun c2 => ?_) (fun c2 => absurd c2 (by decide))
  refine lv_iload_n hx hb dX11_rest_21 rfl (lv_at hl 0 rfl) ?_
  have hP9 := hP.sub (ws' := []) [] rfl
  have hD9 := hD.sub (ws' := []) [] (by decide) rfl
  have hK9 := hK.sub (tys' := []) [] rfl
  refine W.widen (k := 0) (n := 0) (Nat.le_of_ble_eq_true rfl) (Nat.le_of_ble_eq_true rfl) ?_
  exact W.iret (v := 0) hx hb hr (fun t ht hW => ⟨⟨0, (), rfl, rfl, by rw [ht]; exact hP9, va_K.moved hW.alike hK9, hD9⟩, hS.F ht⟩) hS.2.2 dX11_rest_22

set_option maxHeartbeats 4000000 in
set_option maxRecDepth 100000 in
theorem c_X7_copyFrom (l : Launch) (dC : Nat → ClassId) (dI : Nat → Nat → Nat) (sz : Nat)  (a0 a1 a2 a3 : Nat) (k0 k1 : ClassId)  : Met l yX7_copyFrom [.code yX7_copyFrom cX7_copyFrom 2 none] ({ frames := 1, cells := 0, slots := 0, locals := 40 }) (PcE [.ref a0, .ref a1] sz dC dI [(k0, .int), (k1, .int)] [(a1, .inr (6, [.ref a2])), (a2, .inl (k0, 543, .inl (fun _ => 0))), (a0, .inr (6, [.ref a3])), (a3, .inl (k1, 543, .inl (fun _ => 0)))]) (va_Qv (fun (u : Unit) => True) (Bw dC dI (va_A [(a1, .inr (6, [.ref a2])), (a2, .inl (k0, 543, .inl (fun _ => 0))), (a0, .inr (6, [.ref a3])), (a3, .inl (k1, 543, .inl (fun _ => 0)))] sz) (fun (u : Unit) => []) (fun (u : Unit) => [(a1, .inr (6, [.ref a2])), (a2, .inl (k0, 543, .inl (fun _ => 0))), (a0, .inr (6, [.ref a3])), (a3, .inl (k1, 543, .inl (fun _ => 0)))])) (va_A [(a1, .inr (6, [.ref a2])), (a2, .inl (k0, 543, .inl (fun _ => 0))), (a0, .inr (6, [.ref a3])), (a3, .inl (k1, 543, .inl (fun _ => 0)))] sz)) 0 0 (va_A [(a1, .inr (6, [.ref a2])), (a2, .inl (k0, 543, .inl (fun _ => 0))), (a0, .inr (6, [.ref a3])), (a3, .inl (k1, 543, .inl (fun _ => 0)))] sz) := by
  refine Met.ofW (cc := cX7_copyFrom) (maxL := 2) (ret := none) (by decide) rfl ?_
  intro p e s m args below meth c s₁ B hml hv
  obtain ⟨rfl, hsz, hP, hK, hD0, hE⟩ := hv
  have hx := B.exec
  have hb := B.bytes
  have hr := B.returns
  have hown : s.vm.findClass RX7 = some m.cls := findClass_of_methodNamed B.named
  have hlocks := B.notSynchronized
  subst hsz
  have hD := hD0.self (sz := s.heap.size)
  generalize hAe : va_A [(a1, .inr (6, [.ref a2])), (a2, .inl (k0, 543, .inl (fun _ => 0))), (a0, .inr (6, [.ref a3])), (a3, .inl (k1, 543, .inl (fun _ => 0)))] s.heap.size = A at hD ⊢
  have hA : ∀ q : Nat, s.heap.size ≤ q → A q := fun q h => by rw [← hAe]; exact Or.inr h
  have hS : va_S A s.heap s.heap [] := va_S.rf
  have hl := lv_entry ([.ref a0, .ref a1]) (n := 2) (Nat.le_of_ble_eq_true rfl)
  rw [lg_entry_eq]
  generalize (lg_sl ([.ref a0, .ref a1]) ++ List.replicate (2 - (lg_sl ([.ref a0, .ref a1])).length) Slot.unset).toArray = ls at hl ⊢
  have hl : lv_has ls 2 [(0, .ref a0), (1, .ref a1)] := hl
  refine lv_aload_n hx hb dX7_copyFrom_0 rfl (lv_at hl 1 rfl) ?_
  refine va_get (D := (dC, dI)) (ci := 6) (v := .ref a2) (C := RX7) (T := TX7) (N := 1) hx hb (ly_X7 hE) (fun _ h9 => h9) hown hK hP 0 rfl rfl 0 (by decide) (wd_149 hE) (fun _ h9 => h9) rfl dX7_copyFrom_1 ?_
  refine lv_iconst (v := 0) hx hb dX7_copyFrom_4 (by decide) ?_
  refine lv_aload_n hx hb dX7_copyFrom_5 rfl (lv_at hl 0 rfl) ?_
  refine va_get (D := (dC, dI)) (ci := 6) (v := .ref a3) (C := RX7) (T := TX7) (N := 1) hx hb (ly_X7 hE) (fun _ h9 => h9) hown hK hP 2 rfl rfl 0 (by decide) (wd_149 hE) (fun _ h9 => h9) rfl dX7_copyFrom_6 ?_
  refine lv_iconst (v := 0) hx hb dX7_copyFrom_9 (by decide) ?_
  refine lv_aload_n hx hb dX7_copyFrom_10 rfl (lv_at hl 1 rfl) ?_
  refine va_get (D := (dC, dI)) (ci := 6) (v := .ref a2) (C := RX7) (T := TX7) (N := 1) hx hb (ly_X7 hE) (fun _ h9 => h9) hown hK hP 0 rfl rfl 0 (by decide) (wd_149 hE) (fun _ h9 => h9) rfl dX7_copyFrom_11 ?_
  refine va_alen (v := 543) hx hb hK hP 1 0 rfl rfl rfl dX7_copyFrom_14 ?_
  refine lv_aload_n hx hb dX7_copyFrom_15 rfl (lv_at hl 0 rfl) ?_
  refine va_get (D := (dC, dI)) (ci := 6) (v := .ref a3) (C := RX7) (T := TX7) (N := 1) hx hb (ly_X7 hE) (fun _ h9 => h9) hown hK hP 2 rfl rfl 0 (by decide) (wd_149 hE) (fun _ h9 => h9) rfl dX7_copyFrom_16 ?_
  refine va_alen (v := 543) hx hb hK hP 3 1 rfl rfl rfl dX7_copyFrom_19 ?_
  refine va_mmin hx hb (by rw [hml]; exact hl.1.symm) hown (wd_735 hE) (wd_453 hE) (wd_128 hE) (wd_454 hE) (Nat.le_of_ble_eq_true rfl) (Nat.le_of_ble_eq_true rfl) (Nat.le_of_ble_eq_true rfl) (Nat.le_of_ble_eq_true rfl) dX7_copyFrom_20 ?_
  refine W.eq (g2 := F0 m 23 ls [.int 543, .int 0, .ref a3, .int 0, .ref a2]) rfl ?_
  refine va_copyi (ty := .int) hx hb (by rw [hml]; exact hl.1.symm) hown (wd_736 hE) (wd_738 hE) (wd_737 hE) (wd_133 hE) hK hP hD hS 1 3 0 1 rfl rfl rfl rfl rfl (by decide) (by decide) (by decide) (Nat.le_of_ble_eq_true rfl) (Nat.le_of_ble_eq_true rfl) (fun _ _ => rfl) (Nat.le_of_ble_eq_true rfl) (Nat.le_of_ble_eq_true rfl) dX7_copyFrom_23 (fun H locs hP hD hS => ?_)
  rw [zz_cpy] at hP hD
  have hP : va_P (dC, dI) vwCl [(a1, .inr (6, [.ref a2])), (a2, .inl (k0, 543, .inl (fun _ => 0))), (a0, .inr (6, [.ref a3])), (a3, .inl (k1, 543, .inl (fun _ => 0)))] H := hP
  have hD : va_D A [(a1, .inr (6, [.ref a2])), (a2, .inl (k0, 543, .inl (fun _ => 0))), (a0, .inr (6, [.ref a3])), (a3, .inl (k1, 543, .inl (fun _ => 0)))] := hD
  have hP9 := hP.sub (ws' := [(a1, .inr (6, [.ref a2])), (a2, .inl (k0, 543, .inl (fun _ => 0))), (a0, .inr (6, [.ref a3])), (a3, .inl (k1, 543, .inl (fun _ => 0)))]) [0, 1, 2, 3] rfl
  have hD9 := hD.sub (ws' := [(a1, .inr (6, [.ref a2])), (a2, .inl (k0, 543, .inl (fun _ => 0))), (a0, .inr (6, [.ref a3])), (a3, .inl (k1, 543, .inl (fun _ => 0)))]) [0, 1, 2, 3] (by decide) rfl
  have hK9 := hK.sub (tys' := []) [] rfl
  refine W.widen (k := 0) (n := 0) (Nat.le_of_ble_eq_true rfl) (Nat.le_of_ble_eq_true rfl) ?_
  exact W.vret hx hb hr (fun t ht hW => ⟨⟨(), rfl, trivial, by rw [ht]; exact hP9, va_K.moved hW.alike hK9, hD9⟩, hS.F ht⟩) hS.2.2 dX7_copyFrom_26

set_option maxHeartbeats 4000000 in
set_option maxRecDepth 100000 in
theorem c_X7_words (l : Launch) (dC : Nat → ClassId) (dI : Nat → Nat → Nat) (sz : Nat)  (a0 a1 : Nat) (k0 : ClassId)  : Met l yX7_words [.code yX7_words cX7_words 1 (some .int)] ({ frames := 0, cells := 0, slots := 0, locals := 0 }) (PcE [.ref a0] sz dC dI [(k0, .int)] [(a0, .inr (6, [.ref a1])), (a1, .inl (k0, 543, .inl (fun _ => 0)))]) (va_Qi (fun (r : Int32) (u : Unit) => r = 0) (Bw dC dI (va_A [(a0, .inr (6, [.ref a1])), (a1, .inl (k0, 543, .inl (fun _ => 0)))] sz) (fun (u : Unit) => []) (fun (u : Unit) => [(a0, .inr (6, [.ref a1])), (a1, .inl (k0, 543, .inl (fun _ => 0)))])) (va_A [(a0, .inr (6, [.ref a1])), (a1, .inl (k0, 543, .inl (fun _ => 0)))] sz)) 0 0 (va_A [(a0, .inr (6, [.ref a1])), (a1, .inl (k0, 543, .inl (fun _ => 0)))] sz) := by
  refine Met.ofW (cc := cX7_words) (maxL := 1) (ret := (some .int)) (by decide) rfl ?_
  intro p e s m args below meth c s₁ B hml hv
  obtain ⟨rfl, hsz, hP, hK, hD0, hE⟩ := hv
  have hx := B.exec
  have hb := B.bytes
  have hr := B.returns
  have hown : s.vm.findClass RX7 = some m.cls := findClass_of_methodNamed B.named
  have hlocks := B.notSynchronized
  subst hsz
  have hD := hD0.self (sz := s.heap.size)
  generalize hAe : va_A [(a0, .inr (6, [.ref a1])), (a1, .inl (k0, 543, .inl (fun _ => 0)))] s.heap.size = A at hD ⊢
  have hA : ∀ q : Nat, s.heap.size ≤ q → A q := fun q h => by rw [← hAe]; exact Or.inr h
  have hS : va_S A s.heap s.heap [] := va_S.rf
  have hl := lv_entry ([.ref a0]) (n := 1) (Nat.le_of_ble_eq_true rfl)
  rw [lg_entry_eq]
  generalize (lg_sl ([.ref a0]) ++ List.replicate (1 - (lg_sl ([.ref a0])).length) Slot.unset).toArray = ls at hl ⊢
  have hl : lv_has ls 1 [(0, .ref a0)] := hl
  refine lv_aload_n hx hb dX7_words_0 rfl (lv_at hl 0 rfl) ?_
  refine va_get (D := (dC, dI)) (ci := 6) (v := .ref a1) (C := RX7) (T := TX7) (N := 1) hx hb (ly_X7 hE) (fun _ h9 => h9) hown hK hP 0 rfl rfl 0 (by decide) (wd_149 hE) (fun _ h9 => h9) rfl dX7_words_1 ?_
  refine lv_iconst (v := 2) hx hb dX7_words_4 (by decide) ?_
  refine va_iald hx hb hK hP 1 0 rfl rfl (by unfold vp_in; decide) dX7_words_5 ?_
  refine W.eq (g2 := F0 m 6 ls [.int 0]) rfl ?_
  have hP9 := hP.sub (ws' := [(a0, .inr (6, [.ref a1])), (a1, .inl (k0, 543, .inl (fun _ => 0)))]) [0, 1] rfl
  have hD9 := hD.sub (ws' := [(a0, .inr (6, [.ref a1])), (a1, .inl (k0, 543, .inl (fun _ => 0)))]) [0, 1] (by decide) rfl
  have hK9 := hK.sub (tys' := []) [] rfl
  refine W.widen (k := 0) (n := 0) (Nat.le_of_ble_eq_true rfl) (Nat.le_of_ble_eq_true rfl) ?_
  exact W.iret (v := 0) hx hb hr (fun t ht hW => ⟨⟨0, (), rfl, rfl, by rw [ht]; exact hP9, va_K.moved hW.alike hK9, hD9⟩, hS.F ht⟩) hS.2.2 dX7_words_6

set_option maxHeartbeats 4000000 in
set_option maxRecDepth 100000 in
theorem c_X7_vertices (l : Launch) (dC : Nat → ClassId) (dI : Nat → Nat → Nat) (sz : Nat)  (a0 a1 : Nat) (k0 : ClassId)  : Met l yX7_vertices [.code yX7_vertices cX7_vertices 1 (some .int)] ({ frames := 0, cells := 0, slots := 0, locals := 0 }) (PcE [.ref a0] sz dC dI [(k0, .int)] [(a0, .inr (6, [.ref a1])), (a1, .inl (k0, 543, .inl (fun _ => 0)))]) (va_Qi (fun (r : Int32) (u : Unit) => r = 0) (Bw dC dI (va_A [(a0, .inr (6, [.ref a1])), (a1, .inl (k0, 543, .inl (fun _ => 0)))] sz) (fun (u : Unit) => []) (fun (u : Unit) => [(a0, .inr (6, [.ref a1])), (a1, .inl (k0, 543, .inl (fun _ => 0)))])) (va_A [(a0, .inr (6, [.ref a1])), (a1, .inl (k0, 543, .inl (fun _ => 0)))] sz)) 0 0 (va_A [(a0, .inr (6, [.ref a1])), (a1, .inl (k0, 543, .inl (fun _ => 0)))] sz) := by
  refine Met.ofW (cc := cX7_vertices) (maxL := 1) (ret := (some .int)) (by decide) rfl ?_
  intro p e s m args below meth c s₁ B hml hv
  obtain ⟨rfl, hsz, hP, hK, hD0, hE⟩ := hv
  have hx := B.exec
  have hb := B.bytes
  have hr := B.returns
  have hown : s.vm.findClass RX7 = some m.cls := findClass_of_methodNamed B.named
  have hlocks := B.notSynchronized
  subst hsz
  have hD := hD0.self (sz := s.heap.size)
  generalize hAe : va_A [(a0, .inr (6, [.ref a1])), (a1, .inl (k0, 543, .inl (fun _ => 0)))] s.heap.size = A at hD ⊢
  have hA : ∀ q : Nat, s.heap.size ≤ q → A q := fun q h => by rw [← hAe]; exact Or.inr h
  have hS : va_S A s.heap s.heap [] := va_S.rf
  have hl := lv_entry ([.ref a0]) (n := 1) (Nat.le_of_ble_eq_true rfl)
  rw [lg_entry_eq]
  generalize (lg_sl ([.ref a0]) ++ List.replicate (1 - (lg_sl ([.ref a0])).length) Slot.unset).toArray = ls at hl ⊢
  have hl : lv_has ls 1 [(0, .ref a0)] := hl
  refine lv_aload_n hx hb dX7_vertices_0 rfl (lv_at hl 0 rfl) ?_
  refine va_get (D := (dC, dI)) (ci := 6) (v := .ref a1) (C := RX7) (T := TX7) (N := 1) hx hb (ly_X7 hE) (fun _ h9 => h9) hown hK hP 0 rfl rfl 0 (by decide) (wd_149 hE) (fun _ h9 => h9) rfl dX7_vertices_1 ?_
  refine lv_iconst (v := 0) hx hb dX7_vertices_4 (by decide) ?_
  refine va_iald hx hb hK hP 1 0 rfl rfl (by unfold vp_in; decide) dX7_vertices_5 ?_
  refine W.eq (g2 := F0 m 6 ls [.int 0]) rfl ?_
  have hP9 := hP.sub (ws' := [(a0, .inr (6, [.ref a1])), (a1, .inl (k0, 543, .inl (fun _ => 0)))]) [0, 1] rfl
  have hD9 := hD.sub (ws' := [(a0, .inr (6, [.ref a1])), (a1, .inl (k0, 543, .inl (fun _ => 0)))]) [0, 1] (by decide) rfl
  have hK9 := hK.sub (tys' := []) [] rfl
  refine W.widen (k := 0) (n := 0) (Nat.le_of_ble_eq_true rfl) (Nat.le_of_ble_eq_true rfl) ?_
  exact W.iret (v := 0) hx hb hr (fun t ht hW => ⟨⟨0, (), rfl, rfl, by rw [ht]; exact hP9, va_K.moved hW.alike hK9, hD9⟩, hS.F ht⟩) hS.2.2 dX7_vertices_6

set_option maxHeartbeats 4000000 in
set_option maxRecDepth 100000 in
theorem c_X7_edges (l : Launch) (dC : Nat → ClassId) (dI : Nat → Nat → Nat) (sz : Nat)  (a0 a1 : Nat) (k0 : ClassId)  : Met l yX7_edges [.code yX7_edges cX7_edges 1 (some .int)] ({ frames := 0, cells := 0, slots := 0, locals := 0 }) (PcE [.ref a0] sz dC dI [(k0, .int)] [(a0, .inr (6, [.ref a1])), (a1, .inl (k0, 543, .inl (fun _ => 0)))]) (va_Qi (fun (r : Int32) (u : Unit) => r = 0) (Bw dC dI (va_A [(a0, .inr (6, [.ref a1])), (a1, .inl (k0, 543, .inl (fun _ => 0)))] sz) (fun (u : Unit) => []) (fun (u : Unit) => [(a0, .inr (6, [.ref a1])), (a1, .inl (k0, 543, .inl (fun _ => 0)))])) (va_A [(a0, .inr (6, [.ref a1])), (a1, .inl (k0, 543, .inl (fun _ => 0)))] sz)) 0 0 (va_A [(a0, .inr (6, [.ref a1])), (a1, .inl (k0, 543, .inl (fun _ => 0)))] sz) := by
  refine Met.ofW (cc := cX7_edges) (maxL := 1) (ret := (some .int)) (by decide) rfl ?_
  intro p e s m args below meth c s₁ B hml hv
  obtain ⟨rfl, hsz, hP, hK, hD0, hE⟩ := hv
  have hx := B.exec
  have hb := B.bytes
  have hr := B.returns
  have hown : s.vm.findClass RX7 = some m.cls := findClass_of_methodNamed B.named
  have hlocks := B.notSynchronized
  subst hsz
  have hD := hD0.self (sz := s.heap.size)
  generalize hAe : va_A [(a0, .inr (6, [.ref a1])), (a1, .inl (k0, 543, .inl (fun _ => 0)))] s.heap.size = A at hD ⊢
  have hA : ∀ q : Nat, s.heap.size ≤ q → A q := fun q h => by rw [← hAe]; exact Or.inr h
  have hS : va_S A s.heap s.heap [] := va_S.rf
  have hl := lv_entry ([.ref a0]) (n := 1) (Nat.le_of_ble_eq_true rfl)
  rw [lg_entry_eq]
  generalize (lg_sl ([.ref a0]) ++ List.replicate (1 - (lg_sl ([.ref a0])).length) Slot.unset).toArray = ls at hl ⊢
  have hl : lv_has ls 1 [(0, .ref a0)] := hl
  refine lv_aload_n hx hb dX7_edges_0 rfl (lv_at hl 0 rfl) ?_
  refine va_get (D := (dC, dI)) (ci := 6) (v := .ref a1) (C := RX7) (T := TX7) (N := 1) hx hb (ly_X7 hE) (fun _ h9 => h9) hown hK hP 0 rfl rfl 0 (by decide) (wd_149 hE) (fun _ h9 => h9) rfl dX7_edges_1 ?_
  refine lv_iconst (v := 1) hx hb dX7_edges_4 (by decide) ?_
  refine va_iald hx hb hK hP 1 0 rfl rfl (by unfold vp_in; decide) dX7_edges_5 ?_
  refine W.eq (g2 := F0 m 6 ls [.int 0]) rfl ?_
  have hP9 := hP.sub (ws' := [(a0, .inr (6, [.ref a1])), (a1, .inl (k0, 543, .inl (fun _ => 0)))]) [0, 1] rfl
  have hD9 := hD.sub (ws' := [(a0, .inr (6, [.ref a1])), (a1, .inl (k0, 543, .inl (fun _ => 0)))]) [0, 1] (by decide) rfl
  have hK9 := hK.sub (tys' := []) [] rfl
  refine W.widen (k := 0) (n := 0) (Nat.le_of_ble_eq_true rfl) (Nat.le_of_ble_eq_true rfl) ?_
  exact W.iret (v := 0) hx hb hr (fun t ht hW => ⟨⟨0, (), rfl, rfl, by rw [ht]; exact hP9, va_K.moved hW.alike hK9, hD9⟩, hS.F ht⟩) hS.2.2 dX7_edges_6

set_option maxHeartbeats 4000000 in
set_option maxRecDepth 100000 in
theorem c_X7_hasVertex (l : Launch) (dC : Nat → ClassId) (dI : Nat → Nat → Nat) (sz : Nat)  (a0 a1 : Nat) (k0 : ClassId) (v0 : Int32)  : Met l yX7_hasVertex [.code yX7_hasVertex cX7_hasVertex 2 (some .boolean)] ({ frames := 0, cells := 0, slots := 0, locals := 0 }) (PcE [.ref a0, .int v0] sz dC dI [(k0, .int)] [(a0, .inr (6, [.ref a1])), (a1, .inl (k0, 543, .inl (fun _ => 0)))]) (va_Qi (fun (r : Int32) (u : Unit) => r = 0) (Bw dC dI (va_A [(a0, .inr (6, [.ref a1])), (a1, .inl (k0, 543, .inl (fun _ => 0)))] sz) (fun (u : Unit) => []) (fun (u : Unit) => [(a0, .inr (6, [.ref a1])), (a1, .inl (k0, 543, .inl (fun _ => 0)))])) (va_A [(a0, .inr (6, [.ref a1])), (a1, .inl (k0, 543, .inl (fun _ => 0)))] sz)) 0 0 (va_A [(a0, .inr (6, [.ref a1])), (a1, .inl (k0, 543, .inl (fun _ => 0)))] sz) := by
  refine Met.ofW (cc := cX7_hasVertex) (maxL := 2) (ret := (some .boolean)) (by decide) rfl ?_
  intro p e s m args below meth c s₁ B hml hv
  obtain ⟨rfl, hsz, hP, hK, hD0, hE⟩ := hv
  have hx := B.exec
  have hb := B.bytes
  have hr := B.returns
  have hown : s.vm.findClass RX7 = some m.cls := findClass_of_methodNamed B.named
  have hlocks := B.notSynchronized
  subst hsz
  have hD := hD0.self (sz := s.heap.size)
  generalize hAe : va_A [(a0, .inr (6, [.ref a1])), (a1, .inl (k0, 543, .inl (fun _ => 0)))] s.heap.size = A at hD ⊢
  have hA : ∀ q : Nat, s.heap.size ≤ q → A q := fun q h => by rw [← hAe]; exact Or.inr h
  have hS : va_S A s.heap s.heap [] := va_S.rf
  have hl := lv_entry ([.ref a0, .int v0]) (n := 2) (Nat.le_of_ble_eq_true rfl)
  rw [lg_entry_eq]
  generalize (lg_sl ([.ref a0, .int v0]) ++ List.replicate (2 - (lg_sl ([.ref a0, .int v0])).length) Slot.unset).toArray = ls at hl ⊢
  have hl : lv_has ls 2 [(0, .ref a0), (1, .int v0)] := hl
  refine lv_iload_n hx hb dX7_hasVertex_0 rfl (lv_at hl 1 rfl) ?_
  refine lv_if_lt (tgt := 18) hx hb dX7_hasVertex_1 (by decide) (fun c1 => ?_) (fun c1 => ?_)
  · refine lv_iconst (v := 0) hx hb dX7_hasVertex_18 (by decide) ?_
    have hP9 := hP.sub (ws' := [(a0, .inr (6, [.ref a1])), (a1, .inl (k0, 543, .inl (fun _ => 0)))]) [0, 1] rfl
    have hD9 := hD.sub (ws' := [(a0, .inr (6, [.ref a1])), (a1, .inl (k0, 543, .inl (fun _ => 0)))]) [0, 1] (by decide) rfl
    have hK9 := hK.sub (tys' := []) [] rfl
    refine W.widen (k := 0) (n := 0) (Nat.le_of_ble_eq_true rfl) (Nat.le_of_ble_eq_true rfl) ?_
    exact W.zret (v := 0) hx hb hr rfl (fun t ht hW => ⟨⟨0, (), rfl, rfl, by rw [ht]; exact hP9, va_K.moved hW.alike hK9, hD9⟩, hS.F ht⟩) hS.2.2 dX7_hasVertex_19
  · refine lv_iload_n hx hb dX7_hasVertex_4 rfl (lv_at hl 1 rfl) ?_
    refine lv_aload_n hx hb dX7_hasVertex_5 rfl (lv_at hl 0 rfl) ?_
    refine va_get (D := (dC, dI)) (ci := 6) (v := .ref a1) (C := RX7) (T := TX7) (N := 1) hx hb (ly_X7 hE) (fun _ h9 => h9) hown hK hP 0 rfl rfl 0 (by decide) (wd_149 hE) (fun _ h9 => h9) rfl dX7_hasVertex_6 ?_
    refine lv_iconst (v := 0) hx hb dX7_hasVertex_9 (by decide) ?_
    refine va_iald hx hb hK hP 1 0 rfl rfl (by unfold vp_in; decide) dX7_hasVertex_10 ?_
    refine W.eq (g2 := F0 m 11 ls [.int 0, .int v0]) rfl ?_
    refine lv_icmp_ge (tgt := 18) hx hb dX7_hasVertex_11 (by decide) (fun c2 => ?_) (fun c2 => False.elim (by simp only [i_lt, i_le, i_eq, ti_m9, ti_m1, ti_0, ti_1, ti_2, ti_3, ti_4, ti_5, ti_6, ti_7, ti_9, ti_12, ti_20, ti_99, ti_700] at c1 c2; omega))
    refine lv_iconst (v := 0) hx hb dX7_hasVertex_18 (by decide) ?_
    have hP9 := hP.sub (ws' := [(a0, .inr (6, [.ref a1])), (a1, .inl (k0, 543, .inl (fun _ => 0)))]) [0, 1] rfl
    have hD9 := hD.sub (ws' := [(a0, .inr (6, [.ref a1])), (a1, .inl (k0, 543, .inl (fun _ => 0)))]) [0, 1] (by decide) rfl
    have hK9 := hK.sub (tys' := []) [] rfl
    refine W.widen (k := 0) (n := 0) (Nat.le_of_ble_eq_true rfl) (Nat.le_of_ble_eq_true rfl) ?_
    exact W.zret (v := 0) hx hb hr rfl (fun t ht hW => ⟨⟨0, (), rfl, rfl, by rw [ht]; exact hP9, va_K.moved hW.alike hK9, hD9⟩, hS.F ht⟩) hS.2.2 dX7_hasVertex_19

set_option maxHeartbeats 4000000 in
set_option maxRecDepth 100000 in
theorem c_X7_hasEdge (l : Launch) (dC : Nat → ClassId) (dI : Nat → Nat → Nat) (sz : Nat)  (a0 a1 : Nat) (k0 : ClassId) (v0 : Int32)  : Met l yX7_hasEdge [.code yX7_hasEdge cX7_hasEdge 2 (some .boolean)] ({ frames := 0, cells := 0, slots := 0, locals := 0 }) (PcE [.ref a0, .int v0] sz dC dI [(k0, .int)] [(a0, .inr (6, [.ref a1])), (a1, .inl (k0, 543, .inl (fun _ => 0)))]) (va_Qi (fun (r : Int32) (u : Unit) => r = 0) (Bw dC dI (va_A [(a0, .inr (6, [.ref a1])), (a1, .inl (k0, 543, .inl (fun _ => 0)))] sz) (fun (u : Unit) => []) (fun (u : Unit) => [(a0, .inr (6, [.ref a1])), (a1, .inl (k0, 543, .inl (fun _ => 0)))])) (va_A [(a0, .inr (6, [.ref a1])), (a1, .inl (k0, 543, .inl (fun _ => 0)))] sz)) 0 0 (va_A [(a0, .inr (6, [.ref a1])), (a1, .inl (k0, 543, .inl (fun _ => 0)))] sz) := by
  refine Met.ofW (cc := cX7_hasEdge) (maxL := 2) (ret := (some .boolean)) (by decide) rfl ?_
  intro p e s m args below meth c s₁ B hml hv
  obtain ⟨rfl, hsz, hP, hK, hD0, hE⟩ := hv
  have hx := B.exec
  have hb := B.bytes
  have hr := B.returns
  have hown : s.vm.findClass RX7 = some m.cls := findClass_of_methodNamed B.named
  have hlocks := B.notSynchronized
  subst hsz
  have hD := hD0.self (sz := s.heap.size)
  generalize hAe : va_A [(a0, .inr (6, [.ref a1])), (a1, .inl (k0, 543, .inl (fun _ => 0)))] s.heap.size = A at hD ⊢
  have hA : ∀ q : Nat, s.heap.size ≤ q → A q := fun q h => by rw [← hAe]; exact Or.inr h
  have hS : va_S A s.heap s.heap [] := va_S.rf
  have hl := lv_entry ([.ref a0, .int v0]) (n := 2) (Nat.le_of_ble_eq_true rfl)
  rw [lg_entry_eq]
  generalize (lg_sl ([.ref a0, .int v0]) ++ List.replicate (2 - (lg_sl ([.ref a0, .int v0])).length) Slot.unset).toArray = ls at hl ⊢
  have hl : lv_has ls 2 [(0, .ref a0), (1, .int v0)] := hl
  refine lv_iload_n hx hb dX7_hasEdge_0 rfl (lv_at hl 1 rfl) ?_
  refine lv_if_lt (tgt := 18) hx hb dX7_hasEdge_1 (by decide) (fun c1 => ?_) (fun c1 => ?_)
  · refine lv_iconst (v := 0) hx hb dX7_hasEdge_18 (by decide) ?_
    have hP9 := hP.sub (ws' := [(a0, .inr (6, [.ref a1])), (a1, .inl (k0, 543, .inl (fun _ => 0)))]) [0, 1] rfl
    have hD9 := hD.sub (ws' := [(a0, .inr (6, [.ref a1])), (a1, .inl (k0, 543, .inl (fun _ => 0)))]) [0, 1] (by decide) rfl
    have hK9 := hK.sub (tys' := []) [] rfl
    refine W.widen (k := 0) (n := 0) (Nat.le_of_ble_eq_true rfl) (Nat.le_of_ble_eq_true rfl) ?_
    exact W.zret (v := 0) hx hb hr rfl (fun t ht hW => ⟨⟨0, (), rfl, rfl, by rw [ht]; exact hP9, va_K.moved hW.alike hK9, hD9⟩, hS.F ht⟩) hS.2.2 dX7_hasEdge_19
  · refine lv_iload_n hx hb dX7_hasEdge_4 rfl (lv_at hl 1 rfl) ?_
    refine lv_aload_n hx hb dX7_hasEdge_5 rfl (lv_at hl 0 rfl) ?_
    refine va_get (D := (dC, dI)) (ci := 6) (v := .ref a1) (C := RX7) (T := TX7) (N := 1) hx hb (ly_X7 hE) (fun _ h9 => h9) hown hK hP 0 rfl rfl 0 (by decide) (wd_149 hE) (fun _ h9 => h9) rfl dX7_hasEdge_6 ?_
    refine lv_iconst (v := 1) hx hb dX7_hasEdge_9 (by decide) ?_
    refine va_iald hx hb hK hP 1 0 rfl rfl (by unfold vp_in; decide) dX7_hasEdge_10 ?_
    refine W.eq (g2 := F0 m 11 ls [.int 0, .int v0]) rfl ?_
    refine lv_icmp_ge (tgt := 18) hx hb dX7_hasEdge_11 (by decide) (fun c2 => ?_) (fun c2 => False.elim (by simp only [i_lt, i_le, i_eq, ti_m9, ti_m1, ti_0, ti_1, ti_2, ti_3, ti_4, ti_5, ti_6, ti_7, ti_9, ti_12, ti_20, ti_99, ti_700] at c1 c2; omega))
    refine lv_iconst (v := 0) hx hb dX7_hasEdge_18 (by decide) ?_
    have hP9 := hP.sub (ws' := [(a0, .inr (6, [.ref a1])), (a1, .inl (k0, 543, .inl (fun _ => 0)))]) [0, 1] rfl
    have hD9 := hD.sub (ws' := [(a0, .inr (6, [.ref a1])), (a1, .inl (k0, 543, .inl (fun _ => 0)))]) [0, 1] (by decide) rfl
    have hK9 := hK.sub (tys' := []) [] rfl
    refine W.widen (k := 0) (n := 0) (Nat.le_of_ble_eq_true rfl) (Nat.le_of_ble_eq_true rfl) ?_
    exact W.zret (v := 0) hx hb hr rfl (fun t ht hW => ⟨⟨0, (), rfl, rfl, by rw [ht]; exact hP9, va_K.moved hW.alike hK9, hD9⟩, hS.F ht⟩) hS.2.2 dX7_hasEdge_19

set_option maxHeartbeats 4000000 in
set_option maxRecDepth 100000 in
theorem c_X7_hasWord (l : Launch) (dC : Nat → ClassId) (dI : Nat → Nat → Nat) (sz : Nat)  (a0 a1 : Nat) (k0 : ClassId) (v0 : Int32)  : Met l yX7_hasWord [.code yX7_hasWord cX7_hasWord 2 (some .boolean)] ({ frames := 0, cells := 0, slots := 0, locals := 0 }) (PcE [.ref a0, .int v0] sz dC dI [(k0, .int)] [(a0, .inr (6, [.ref a1])), (a1, .inl (k0, 543, .inl (fun _ => 0)))]) (va_Qi (fun (r : Int32) (u : Unit) => r = 0) (Bw dC dI (va_A [(a0, .inr (6, [.ref a1])), (a1, .inl (k0, 543, .inl (fun _ => 0)))] sz) (fun (u : Unit) => []) (fun (u : Unit) => [(a0, .inr (6, [.ref a1])), (a1, .inl (k0, 543, .inl (fun _ => 0)))])) (va_A [(a0, .inr (6, [.ref a1])), (a1, .inl (k0, 543, .inl (fun _ => 0)))] sz)) 0 0 (va_A [(a0, .inr (6, [.ref a1])), (a1, .inl (k0, 543, .inl (fun _ => 0)))] sz) := by
  refine Met.ofW (cc := cX7_hasWord) (maxL := 2) (ret := (some .boolean)) (by decide) rfl ?_
  intro p e s m args below meth c s₁ B hml hv
  obtain ⟨rfl, hsz, hP, hK, hD0, hE⟩ := hv
  have hx := B.exec
  have hb := B.bytes
  have hr := B.returns
  have hown : s.vm.findClass RX7 = some m.cls := findClass_of_methodNamed B.named
  have hlocks := B.notSynchronized
  subst hsz
  have hD := hD0.self (sz := s.heap.size)
  generalize hAe : va_A [(a0, .inr (6, [.ref a1])), (a1, .inl (k0, 543, .inl (fun _ => 0)))] s.heap.size = A at hD ⊢
  have hA : ∀ q : Nat, s.heap.size ≤ q → A q := fun q h => by rw [← hAe]; exact Or.inr h
  have hS : va_S A s.heap s.heap [] := va_S.rf
  have hl := lv_entry ([.ref a0, .int v0]) (n := 2) (Nat.le_of_ble_eq_true rfl)
  rw [lg_entry_eq]
  generalize (lg_sl ([.ref a0, .int v0]) ++ List.replicate (2 - (lg_sl ([.ref a0, .int v0])).length) Slot.unset).toArray = ls at hl ⊢
  have hl : lv_has ls 2 [(0, .ref a0), (1, .int v0)] := hl
  refine lv_iload_n hx hb dX7_hasWord_0 rfl (lv_at hl 1 rfl) ?_
  refine lv_if_lt (tgt := 18) hx hb dX7_hasWord_1 (by decide) (fun c1 => ?_) (fun c1 => ?_)
  · refine lv_iconst (v := 0) hx hb dX7_hasWord_18 (by decide) ?_
    have hP9 := hP.sub (ws' := [(a0, .inr (6, [.ref a1])), (a1, .inl (k0, 543, .inl (fun _ => 0)))]) [0, 1] rfl
    have hD9 := hD.sub (ws' := [(a0, .inr (6, [.ref a1])), (a1, .inl (k0, 543, .inl (fun _ => 0)))]) [0, 1] (by decide) rfl
    have hK9 := hK.sub (tys' := []) [] rfl
    refine W.widen (k := 0) (n := 0) (Nat.le_of_ble_eq_true rfl) (Nat.le_of_ble_eq_true rfl) ?_
    exact W.zret (v := 0) hx hb hr rfl (fun t ht hW => ⟨⟨0, (), rfl, rfl, by rw [ht]; exact hP9, va_K.moved hW.alike hK9, hD9⟩, hS.F ht⟩) hS.2.2 dX7_hasWord_19
  · refine lv_iload_n hx hb dX7_hasWord_4 rfl (lv_at hl 1 rfl) ?_
    refine lv_aload_n hx hb dX7_hasWord_5 rfl (lv_at hl 0 rfl) ?_
    refine va_get (D := (dC, dI)) (ci := 6) (v := .ref a1) (C := RX7) (T := TX7) (N := 1) hx hb (ly_X7 hE) (fun _ h9 => h9) hown hK hP 0 rfl rfl 0 (by decide) (wd_149 hE) (fun _ h9 => h9) rfl dX7_hasWord_6 ?_
    refine lv_iconst (v := 2) hx hb dX7_hasWord_9 (by decide) ?_
    refine va_iald hx hb hK hP 1 0 rfl rfl (by unfold vp_in; decide) dX7_hasWord_10 ?_
    refine W.eq (g2 := F0 m 11 ls [.int 0, .int v0]) rfl ?_
    refine lv_icmp_ge (tgt := 18) hx hb dX7_hasWord_11 (by decide) (fun c2 => ?_) (fun c2 => False.elim (by simp only [i_lt, i_le, i_eq, ti_m9, ti_m1, ti_0, ti_1, ti_2, ti_3, ti_4, ti_5, ti_6, ti_7, ti_9, ti_12, ti_20, ti_99, ti_700] at c1 c2; omega))
    refine lv_iconst (v := 0) hx hb dX7_hasWord_18 (by decide) ?_
    have hP9 := hP.sub (ws' := [(a0, .inr (6, [.ref a1])), (a1, .inl (k0, 543, .inl (fun _ => 0)))]) [0, 1] rfl
    have hD9 := hD.sub (ws' := [(a0, .inr (6, [.ref a1])), (a1, .inl (k0, 543, .inl (fun _ => 0)))]) [0, 1] (by decide) rfl
    have hK9 := hK.sub (tys' := []) [] rfl
    refine W.widen (k := 0) (n := 0) (Nat.le_of_ble_eq_true rfl) (Nat.le_of_ble_eq_true rfl) ?_
    exact W.zret (v := 0) hx hb hr rfl (fun t ht hW => ⟨⟨0, (), rfl, rfl, by rw [ht]; exact hP9, va_K.moved hW.alike hK9, hD9⟩, hS.F ht⟩) hS.2.2 dX7_hasWord_19

set_option maxHeartbeats 4000000 in
set_option maxRecDepth 100000 in
theorem c_X7_readWord (l : Launch) (dC : Nat → ClassId) (dI : Nat → Nat → Nat) (sz : Nat)  (a0 a1 a2 : Nat) (k0 : ClassId) (v0 : Int32)  : Met l yX7_readWord [.code yX7_readWord cX7_readWord 6 (some .boolean)] ({ frames := 1, cells := 0, slots := 0, locals := 40 }) (PcE [.ref a0, .int v0, .ref a1] sz dC dI [(k0, .int)] [(a0, .inr (6, [.ref a2])), (a2, .inl (k0, 543, .inl (fun _ => 0)))]) (va_Qi (fun (r : Int32) (u : Unit) => r = 0) (Bw dC dI (va_A [(a0, .inr (6, [.ref a2])), (a2, .inl (k0, 543, .inl (fun _ => 0)))] sz) (fun (u : Unit) => []) (fun (u : Unit) => [(a0, .inr (6, [.ref a2])), (a2, .inl (k0, 543, .inl (fun _ => 0)))])) (va_A [(a0, .inr (6, [.ref a2])), (a2, .inl (k0, 543, .inl (fun _ => 0)))] sz)) 0 0 (va_A [(a0, .inr (6, [.ref a2])), (a2, .inl (k0, 543, .inl (fun _ => 0)))] sz) := by
  refine Met.ofW (cc := cX7_readWord) (maxL := 6) (ret := (some .boolean)) (by decide) rfl ?_
  intro p e s m args below meth c s₁ B hml hv
  obtain ⟨rfl, hsz, hP, hK, hD0, hE⟩ := hv
  have hx := B.exec
  have hb := B.bytes
  have hr := B.returns
  have hown : s.vm.findClass RX7 = some m.cls := findClass_of_methodNamed B.named
  have hlocks := B.notSynchronized
  subst hsz
  have hD := hD0.self (sz := s.heap.size)
  generalize hAe : va_A [(a0, .inr (6, [.ref a2])), (a2, .inl (k0, 543, .inl (fun _ => 0)))] s.heap.size = A at hD ⊢
  have hA : ∀ q : Nat, s.heap.size ≤ q → A q := fun q h => by rw [← hAe]; exact Or.inr h
  have hS : va_S A s.heap s.heap [] := va_S.rf
  have hl := lv_entry ([.ref a0, .int v0, .ref a1]) (n := 6) (Nat.le_of_ble_eq_true rfl)
  rw [lg_entry_eq]
  generalize (lg_sl ([.ref a0, .int v0, .ref a1]) ++ List.replicate (6 - (lg_sl ([.ref a0, .int v0, .ref a1])).length) Slot.unset).toArray = ls at hl ⊢
  have hl : lv_has ls 6 [(0, .ref a0), (1, .int v0), (2, .ref a1)] := hl
  refine lv_aload_n hx hb dX7_readWord_0 rfl (lv_at hl 0 rfl) ?_
  refine lv_iload_n hx hb dX7_readWord_1 rfl (lv_at hl 1 rfl) ?_
  refine cl_i (wc := [(a0, .inr (6, [.ref a2])), (a2, .inl (k0, 543, .inl (fun _ => 0)))]) (wr := []) [0, 1] [] rfl rfl (by decide) (by decide) hK hP hD hS hA (va_runV (As := [.int v0]) (rest := []) ⟨hx, hb, hml, hown, noTs⟩ (c_X7_hasWord l dC dI s.heap.size a0 a2 k0 v0) ⟨cbE 1 (wd_708 hE) (wd_116 hE) (wd_705 hE) rfl rfl (by decide +kernel) ⟨Nat.le_of_ble_eq_true rfl, Nat.le_of_ble_eq_true rfl⟩, (wd_706 hE), (wd_707 hE)⟩ ⟨PcE.blind, va_recv hK hP (ci := 6) (q0 := 0) rfl rfl, (pre_E (av := [.ref a0, .int v0]) (wc := [(a0, .inr (6, [.ref a2])), (a2, .inl (k0, 543, .inl (fun _ => 0)))]) (tysc := [(k0, .int)]) [0, 1] [0] rfl (by decide) rfl rfl hK hP hD hE)⟩ rfl rfl hl.1 rfl (lv_room (Nat.le_of_ble_eq_true rfl)) dX7_readWord_2 ⟨Nat.le_of_ble_eq_true rfl, Nat.le_of_ble_eq_true rfl⟩) (fun r1 u1 H locs hw1 hK hP hD hS => ?_)
  have hK : va_K (dC, dI) vwCl [(k0, .int)] s := hK
  have hP : va_P (dC, dI) vwCl [(a0, .inr (6, [.ref a2])), (a2, .inl (k0, 543, .inl (fun _ => 0)))] H := hP
  have hD : va_D A [(a0, .inr (6, [.ref a2])), (a2, .inl (k0, 543, .inl (fun _ => 0)))] := hD
  subst hw1
  refine W.eq (g2 := F0 m 5 ls [.int 0]) rfl ?_
  refine lv_if_ne (tgt := 10) hx hb dX7_readWord_5 (by decide) (fun c2 => absurd c2 (by decide)) (fun c2 => ?_)
  refine lv_iconst (v := 0) hx hb dX7_readWord_8 (by decide) ?_
  have hP9 := hP.sub (ws' := [(a0, .inr (6, [.ref a2])), (a2, .inl (k0, 543, .inl (fun _ => 0)))]) [0, 1] rfl
  have hD9 := hD.sub (ws' := [(a0, .inr (6, [.ref a2])), (a2, .inl (k0, 543, .inl (fun _ => 0)))]) [0, 1] (by decide) rfl
  have hK9 := hK.sub (tys' := []) [] rfl
  refine W.widen (k := 0) (n := 0) (Nat.le_of_ble_eq_true rfl) (Nat.le_of_ble_eq_true rfl) ?_
  exact W.zret (v := 0) hx hb hr rfl (fun t ht hW => ⟨⟨0, (), rfl, rfl, by rw [ht]; exact hP9, va_K.moved hW.alike hK9, hD9⟩, hS.F ht⟩) hS.2.2 dX7_readWord_9

set_option maxHeartbeats 4000000 in
set_option maxRecDepth 100000 in
theorem c_X11_rest_2 (l : Launch) (dC : Nat → ClassId) (dI : Nat → Nat → Nat) (sz : Nat)   : Met l yX11_rest [.code yX11_rest cX11_rest 3 (some .int)] ({ frames := 0, cells := 0, slots := 0, locals := 0 }) (PcE [.int (-1), .int 8] sz dC dI [] []) (va_Qi (fun (r : Int32) (u : Unit) => r = 7) (Bw dC dI (va_A [] sz) (fun (u : Unit) => []) (fun (u : Unit) => [])) (va_A [] sz)) 0 0 (va_A [] sz) := by
  refine Met.ofW (cc := cX11_rest) (maxL := 3) (ret := (some .int)) (by decide) rfl ?_
  intro p e s m args below meth c s₁ B hml hv
  obtain ⟨rfl, hsz, hP, hK, hD0, hE⟩ := hv
  have hx := B.exec
  have hb := B.bytes
  have hr := B.returns
  have hown : s.vm.findClass RX11 = some m.cls := findClass_of_methodNamed B.named
  have hlocks := B.notSynchronized
  subst hsz
  have hD := hD0.self (sz := s.heap.size)
  generalize hAe : va_A [] s.heap.size = A at hD ⊢
  have hA : ∀ q : Nat, s.heap.size ≤ q → A q := fun q h => by rw [← hAe]; exact Or.inr h
  have hS : va_S A s.heap s.heap [] := va_S.rf
  have hl := lv_entry ([.int (-1), .int 8]) (n := 3) (Nat.le_of_ble_eq_true rfl)
  rw [lg_entry_eq]
  generalize (lg_sl ([.int (-1), .int 8]) ++ List.replicate (3 - (lg_sl ([.int (-1), .int 8])).length) Slot.unset).toArray = ls at hl ⊢
  have hl : lv_has ls 3 [(0, .int (-1)), (1, .int 8)] := hl
  refine lv_iload_n hx hb dX11_rest_0 rfl (lv_at hl 1 rfl) ?_
  refine lv_iconst (v := 1) hx hb dX11_rest_1 (by decide) ?_
  refine lv_icmp_ge (tgt := 7) hx hb dX11_rest_2 (by decide) (fun c1 => ?_) (fun c1 => absurd c1 (by decide))
  refine lv_iload_n hx hb dX11_rest_7 rfl (lv_at hl 0 rfl) ?_
  refine lv_iload_n hx hb dX11_rest_8 rfl (lv_at hl 1 rfl) ?_
  refine lv_irem hx hb dX11_rest_9 (by decide) ?_
  refine W.eq (g2 := F0 m 10 ls [.int (-1)]) rfl ?_
  refine lv_istore_n (lv' := [(2, .int (-1)), (0, .int (-1)), (1, .int 8)]) hx hb dX11_rest_10 rfl hl (by decide) rfl (fun ls hl => ?_)
  refine lv_iload_n hx hb dX11_rest_11 rfl (lv_at hl 0 rfl) ?_
  refine lv_if_ge (tgt := 21) hx hb dX11_rest_12 (by decide) (fun c2 => absurd c2 (by decide)) (fun c2 => ?_)
  refine lv_iload_n hx hb dX11_rest_15 rfl (lv_at hl 0 rfl) ?_
  refine lv_iload_n hx hb dX11_rest_16 rfl (lv_at hl 2 rfl) ?_
  refine lv_iadd hx hb dX11_rest_17 ?_
  refine W.eq (g2 := F0 m 18 ls [.int 7]) rfl ?_
  refine lv_goto (tgt := 22) hx hb dX11_rest_18 (by decide) ?_
  have hP9 := hP.sub (ws' := []) [] rfl
  have hD9 := hD.sub (ws' := []) [] (by decide) rfl
  have hK9 := hK.sub (tys' := []) [] rfl
  refine W.widen (k := 0) (n := 0) (Nat.le_of_ble_eq_true rfl) (Nat.le_of_ble_eq_true rfl) ?_
  exact W.iret (v := 7) hx hb hr (fun t ht hW => ⟨⟨7, (), rfl, rfl, by rw [ht]; exact hP9, va_K.moved hW.alike hK9, hD9⟩, hS.F ht⟩) hS.2.2 dX11_rest_22
