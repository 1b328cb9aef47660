set_option maxHeartbeats 4000000 in
set_option maxRecDepth 100000 in
theorem c_order (l : Launch) (dC : Nat → ClassId) (dI : Nat → Nat → Nat) (sz : Nat) (h0 : Nat) (g : Nat → Nat) (k0 : ClassId) (v : Int32)  : Met l yX11_order [.code yX11_order cX11_order 2 (some .int)] ({ frames := 1, cells := 0, slots := 0, locals := 40 }) (PcE [.ref h0, .int v] sz dC dI [(k0, .int)] [(h0, .inr (10, [.ref (g 0), .ref (g 1), .ref (g 2), .ref (g 3), .int 0, .int 0, .ref (g 6), .int 0, .ref (g 8), .ref (g 9), .ref (g 10), .ref (g 11), .ref (g 12), .ref (g 13), .ref (g 14), .ref (g 15), .ref (g 16), .ref (g 17), .ref (g 18)])), (g 0, .inr (6, [.ref (g 20)])), (g 20, .inl (k0, 543, .inl (fun _ => 0)))]) (va_Qi (fun (r : Int32) (u : Unit) => r = -1) (Bw dC dI (va_A [(h0, .inr (10, [.ref (g 0), .ref (g 1), .ref (g 2), .ref (g 3), .int 0, .int 0, .ref (g 6), .int 0, .ref (g 8), .ref (g 9), .ref (g 10), .ref (g 11), .ref (g 12), .ref (g 13), .ref (g 14), .ref (g 15), .ref (g 16), .ref (g 17), .ref (g 18)])), (g 0, .inr (6, [.ref (g 20)])), (g 20, .inl (k0, 543, .inl (fun _ => 0)))] sz) (fun (u : Unit) => []) (fun (u : Unit) => [])) (va_A [(h0, .inr (10, [.ref (g 0), .ref (g 1), .ref (g 2), .ref (g 3), .int 0, .int 0, .ref (g 6), .int 0, .ref (g 8), .ref (g 9), .ref (g 10), .ref (g 11), .ref (g 12), .ref (g 13), .ref (g 14), .ref (g 15), .ref (g 16), .ref (g 17), .ref (g 18)])), (g 0, .inr (6, [.ref (g 20)])), (g 20, .inl (k0, 543, .inl (fun _ => 0)))] sz)) 0 0 (va_A [(h0, .inr (10, [.ref (g 0), .ref (g 1), .ref (g 2), .ref (g 3), .int 0, .int 0, .ref (g 6), .int 0, .ref (g 8), .ref (g 9), .ref (g 10), .ref (g 11), .ref (g 12), .ref (g 13), .ref (g 14), .ref (g 15), .ref (g 16), .ref (g 17), .ref (g 18)])), (g 0, .inr (6, [.ref (g 20)])), (g 20, .inl (k0, 543, .inl (fun _ => 0)))] sz) := by
  refine Met.ofW (cc := cX11_order) (maxL := 2) (ret := (some .int)) (by decide) rfl ?_
  intro p e s m args below meth c s₁ B hml hv
  obtain ⟨rfl, hsz, hP, hK, hD0, hE⟩ := hv
  have hx := B.exec
  have hb := B.bytes
  have hr := B.returns
  have hown : s.vm.findClass RX11 = some m.cls := findClass_of_methodNamed B.named
  have hlocks := B.notSynchronized
  subst hsz
  have hD := hD0.self (sz := s.heap.size)
  generalize hAe : va_A [(h0, .inr (10, [.ref (g 0), .ref (g 1), .ref (g 2), .ref (g 3), .int 0, .int 0, .ref (g 6), .int 0, .ref (g 8), .ref (g 9), .ref (g 10), .ref (g 11), .ref (g 12), .ref (g 13), .ref (g 14), .ref (g 15), .ref (g 16), .ref (g 17), .ref (g 18)])), (g 0, .inr (6, [.ref (g 20)])), (g 20, .inl (k0, 543, .inl (fun _ => 0)))] s.heap.size = A at hD ⊢
  have hA : ∀ q : Nat, s.heap.size ≤ q → A q := fun q h => by rw [← hAe]; exact Or.inr h
  have hS : va_S A s.heap s.heap [] := va_S.rf
  have hl := lv_entry ([.ref h0, .int v]) (n := 2) (Nat.le_of_ble_eq_true rfl)
  rw [lg_entry_eq]
  generalize (lg_sl ([.ref h0, .int v]) ++ List.replicate (2 - (lg_sl ([.ref h0, .int v])).length) Slot.unset).toArray = ls at hl ⊢
  have hl : lv_has ls 2 [(0, .ref h0), (1, .int v)] := hl
  refine lv_aload_n hx hb dX11_order_0 rfl (lv_at hl 0 rfl) ?_
  refine va_get (D := (dC, dI)) (ci := 10) (v := .ref (g 0)) (C := RX11) (T := TX11) (N := 19) hx hb (ly_X11 hE) (fun _ h9 => h9) hown hK hP 0 rfl rfl 0 (by decide) (wd_359 hE) (fun _ h9 => h9) rfl dX11_order_1 ?_
  refine lv_iload_n hx hb dX11_order_4 rfl (lv_at hl 1 rfl) ?_
  refine cl_i (wc := [(g 0, .inr (6, [.ref (g 20)])), (g 20, .inl (k0, 543, .inl (fun _ => 0)))]) (wr := [(h0, .inr (10, [.ref (g 0), .ref (g 1), .ref (g 2), .ref (g 3), .int 0, .int 0, .ref (g 6), .int 0, .ref (g 8), .ref (g 9), .ref (g 10), .ref (g 11), .ref (g 12), .ref (g 13), .ref (g 14), .ref (g 15), .ref (g 16), .ref (g 17), .ref (g 18)]))]) [1, 2] [0] rfl rfl (by decide) (by decide) hK hP hD hS hA (va_runV (As := [.int v]) (rest := []) ⟨hx, hb, hml, hown, noTs⟩ (c_hasVertex l dC dI s.heap.size (g 0) (g 20) k0 v) ⟨cbE 1 (wd_606 hE) (wd_116 hE) (wd_796 hE) rfl rfl (by decide +kernel) ⟨Nat.le_of_ble_eq_true rfl, Nat.le_of_ble_eq_true rfl⟩, (wd_604 hE), (wd_605 hE)⟩ ⟨PcE.blind, va_recv hK hP (ci := 6) (q0 := 1) rfl rfl, (pre_E (av := [.ref (g 0), .int v]) (wc := [(g 0, .inr (6, [.ref (g 20)])), (g 20, .inl (k0, 543, .inl (fun _ => 0)))]) (tysc := [(k0, .int)]) [1, 2] [0] rfl (by decide) rfl rfl hK hP hD hE)⟩ rfl rfl hl.1 rfl (lv_room (Nat.le_of_ble_eq_true rfl)) dX11_order_5 ⟨Nat.le_of_ble_eq_true rfl, Nat.le_of_ble_eq_true rfl⟩) (fun r1 u1 H locs hw1 hK hP hD hS => ?_)
  have hK : va_K (dC, dI) vwCl [(k0, .int)] s := hK
  have hP : va_P (dC, dI) vwCl [(h0, .inr (10, [.ref (g 0), .ref (g 1), .ref (g 2), .ref (g 3), .int 0, .int 0, .ref (g 6), .int 0, .ref (g 8), .ref (g 9), .ref (g 10), .ref (g 11), .ref (g 12), .ref (g 13), .ref (g 14), .ref (g 15), .ref (g 16), .ref (g 17), .ref (g 18)])), (g 0, .inr (6, [.ref (g 20)])), (g 20, .inl (k0, 543, .inl (fun _ => 0)))] H := hP
  have hD : va_D A [(h0, .inr (10, [.ref (g 0), .ref (g 1), .ref (g 2), .ref (g 3), .int 0, .int 0, .ref (g 6), .int 0, .ref (g 8), .ref (g 9), .ref (g 10), .ref (g 11), .ref (g 12), .ref (g 13), .ref (g 14), .ref (g 15), .ref (g 16), .ref (g 17), .ref (g 18)])), (g 0, .inr (6, [.ref (g 20)])), (g 20, .inl (k0, 543, .inl (fun _ => 0)))] := hD
  subst hw1
  refine W.eq (g2 := F0 m 8 ls [.int 0]) rfl ?_
  refine lv_if_eq (tgt := 26) hx hb dX11_order_8 (by decide) (fun c2 => ?_) (fun c2 => absurd c2 (by decide))
  refine lv_aload_n hx hb dX11_order_26 rfl (lv_at hl 0 rfl) ?_
  refine lv_iconst (v := 2) hx hb dX11_order_27 (by decide) ?_
  refine cl_i (wc := [(h0, .inr (10, [.ref (g 0), .ref (g 1), .ref (g 2), .ref (g 3), .int 0, .int 0, .ref (g 6), .int 0, .ref (g 8), .ref (g 9), .ref (g 10), .ref (g 11), .ref (g 12), .ref (g 13), .ref (g 14), .ref (g 15), .ref (g 16), .ref (g 17), .ref (g 18)]))]) (wr := [(g 0, .inr (6, [.ref (g 20)])), (g 20, .inl (k0, 543, .inl (fun _ => 0)))]) [0] [1, 2] rfl rfl (by decide) (by decide) hK hP hD hS hA (va_runV (As := [.int 2]) (rest := []) ⟨hx, hb, hml, hown, noTs⟩ (c_fail l dC dI H.size h0 g 2) ⟨cbE 1 (wd_436 hE) (wd_115 hE) (wd_433 hE) rfl rfl (by decide +kernel) ⟨Nat.le_of_ble_eq_true rfl, Nat.le_of_ble_eq_true rfl⟩, (wd_435 hE), (wd_1 hE)⟩ ⟨PcE.blind, va_recv hK hP (ci := 10) (q0 := 0) rfl rfl, (pre_E (av := [.ref h0, .int 2]) (wc := [(h0, .inr (10, [.ref (g 0), .ref (g 1), .ref (g 2), .ref (g 3), .int 0, .int 0, .ref (g 6), .int 0, .ref (g 8), .ref (g 9), .ref (g 10), .ref (g 11), .ref (g 12), .ref (g 13), .ref (g 14), .ref (g 15), .ref (g 16), .ref (g 17), .ref (g 18)]))]) (tysc := []) [0] [] rfl (by decide) rfl rfl hK hP hD hE)⟩ rfl rfl hl.1 rfl (lv_room (Nat.le_of_ble_eq_true rfl)) dX11_order_28 ⟨Nat.le_of_ble_eq_true rfl, Nat.le_of_ble_eq_true rfl⟩) (fun r3 u3 H locs hw3 hK hP hD hS => ?_)
  have hK : va_K (dC, dI) vwCl [(k0, .int)] s := hK
  have hP : va_P (dC, dI) vwCl [(g 0, .inr (6, [.ref (g 20)])), (g 20, .inl (k0, 543, .inl (fun _ => 0)))] H := hP
  have hD : va_D A [(g 0, .inr (6, [.ref (g 20)])), (g 20, .inl (k0, 543, .inl (fun _ => 0)))] := hD
  subst hw3
  refine W.eq (g2 := F0 m 31 ls [.int (-1)]) rfl ?_
  have hP9 := hP.sub (ws' := []) [] rfl
  have hD9 := hD.sub (ws' := []) [] (by decide) rfl
  have hK9 := hK.sub (tys' := []) [] rfl
  refine W.widen (k := 0) (n := 0) (Nat.le_of_ble_eq_true rfl) (Nat.le_of_ble_eq_true rfl) ?_
  exact W.iret (v := -1) hx hb hr (fun t ht hW => ⟨⟨-1, (), rfl, rfl, by rw [ht]; exact hP9, va_K.moved hW.alike hK9, hD9⟩, hS.F ht⟩) hS.2.2 dX11_order_31
